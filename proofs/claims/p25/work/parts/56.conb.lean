/-! Contracts at a place; contracts for the gaps alone; calls in runs told by hand. -/
section ZCONB
variable {al : Nat → Option Nat}
def z_jdg (D : z_Ws) : Bool := z_codes.all fun c => (z_wget D c).isNone
theorem z_Jok_g {D : z_Ws} (h : z_jdg D = true) : z_Jok z_Jg D := by
  intro al al' P P' h1 h2 h3 j2 a c hac hc hfa p hp x hx
  have hd := List.all_eq_true.mp h c (z_nin_ok hc)
  obtain ⟨d7, d8⟩ := z_wget_no hd
  have hac0 : al a = some c := by
    rcases h2 a _ hac with h | h
    · exact h
    · rw [d7] at h; cases h
  obtain ⟨q, q', k1, k2, k3, k4, k5⟩ := h3 a _ hac0 hfa
  cases k2.symm.trans hp
  have : p.2 = q.2 := List.ext_getElem? fun e => k5 e (d8 e)
  rw [this] at hx
  exact j2 a c hac0 hc hfa q k1 x hx
theorem z_gap_Jg {T : z_Tg} (h : ∀ c q, T.2.2.2.2.1 c = some q → z_nin c z_codes = true ∧ q = (1007, 2000)) (h7 : (T.2.2.2.2.2 777).isSome = false) : z_Gap T z_Jg := by
  refine ⟨fun {al P} hj a c q hac hq hfa p hp x hx => ?_, fun {al P} hj b c q hbc hq p hp x j hx => ?_, fun q => by rw [h7] at q; cases q⟩
  · obtain ⟨h1, h2⟩ := h c q hq
    subst h2
    exact hj a c hac h1 hfa p hp x hx
  · obtain ⟨h1, h2⟩ := h c q hq
    subst h2
    intro a d had hd hfa p' hp' y hy
    by_cases hba : b = a
    · subst hba
      rw [List.getElem?_set_self (List.getElem?_eq_some_iff.mp hp).1] at hp'
      cases hp'
      rcases List.mem_or_eq_of_mem_set hy with hy | hy
      · exact hj b d had hd hfa p hp y hy
      · cases hy
        exact hx
    · rw [List.getElem?_set_ne hba] at hp'
      exact hj a d had hd hfa p' hp' y hy
/-- from a place on: the run is there -/
theorem z_atp {G : z_Pg} {ns : Nat} {J : (Nat → Option Nat) → z_H → Prop} {W D : z_Ws} {T : z_Tg} {at_ : Nat → Nat → Bool} {Ds : List z_ce} {fu e B0 : Nat} {Ks : List z_Kc} {Xs : List z_Xe} {C : z_ce} {N : List Int} {P : z_H} {lb : Nat → Option Int} (hJ : z_Jok J D) (hD : z_wsub D W = true) (hgp : z_Gap T J) (hKs : ∀ K ∈ Ks, z_Kok G ns J N e K)
    (hlb : ∀ k l, 1 ≤ k → k < N.length → lb k = some l → l ≤ (N[k]?).getD 0) (hall : ∀ C' ∈ Ds, z_cok3 G W D T ns N.length Ks (z_QX lb N.length B0 W Xs) at_ [] Ds fu C' = true) (hC : C ∈ Ds)
    {N1 : List Int} {al1 : Nat → Option Nat} {f : z_Fr} {P1 : z_H} (hS : z_gs (z_strs G) N1 al1 C.2.1 f [] P1) (hf : z_fr ns al1) (hI : z_Iv J W N N.length al P B0 N1 al1 P1 C.2.1.2.2.2.2.2) : ∃ rv P' al' X, X ∈ Xs ∧ z_Runs G (C.1 + e) f.1 (z_fs f P1) rv P' ∧ J al' P' ∧ z_post N al P X rv P' al' := by
  have hw := hall C hC
  unfold z_cok3 at hw
  split at hw
  · rename_i us hus
    have := z_cut3 (Φ := fun d f rest P1 => ∃ rv P', z_RF G rest f d P1 rv P' ∧ ∃ al' X, X ∈ Xs ∧ J al' P' ∧ z_post N al P X rv P' al') (e := e) z_RF_clo5 hJ hD hgp hKs
      (fun {d f P1 r0 S t N1 al1} hn hq hS1 hf1 hI1 hr1 => by
        obtain ⟨X, h1, h2, h3⟩ := z_QX_ok hlb hq hS1 hf1 hI1 hr1
        exact ⟨r0, P1, z_RF_end hn, al1, X, h1, h2, h3⟩)
      (Es := []) (fun D hD => by cases hD)
      hall _ C hC hus (Nat.le_refl _) hS hf hI
    obtain ⟨rv, P', h1, al', X, h2, h3, h4⟩ := this
    exact ⟨rv, P', al', X, h2, h1, h3, h4⟩
  · cases hw
variable {G : z_Pg} {d x : Nat} {Ψ : z_S → Prop} {pc c n : Nat} {l : z_L} {st : List Value} {P : z_H} {ins : Instr}
/-- a call -/
theorem z_r_ca {y kd t : Nat} {as r : List Value} {rv : Option Value} {P1 : z_H} (hc : z_cod G x pc = some (ins, 3)) (hy : z_call G x ins = some (y, kd)) (hk : kd < 3) (ha : z_args G d y kd x st P c n = some (as, r)) (ht : pc + 3 = t) (hmc : z_mc G y = 0) (hms : z_ms G y = 0) (hr : z_Runs G (d - 1) y (0, lv_args 0 as, [], P, 0, 0) rv P1) (k : z_Rh G d x Ψ (t, l, rv.toList ++ r, P1, c, n)) : z_Rh G d x Ψ (pc, l, st, P, c, n) := by
  subst ht
  obtain ⟨q', k1, k2⟩ := k
  refine ⟨q', z_To_call (y := y) (as := as) (rst := r) (rv := rv) (P1 := P1) ?_ hr ?_, k2⟩
  · unfold z_next
    show (match z_cod G x pc with | none => none | some i => _) = _
    rw [hc]
    dsimp only
    rw [hy]
    dsimp only
    rw [if_pos hk]
    show (match z_args G d y kd x st P c n with | some ar => _ | none => none) = _
    rw [ha]
  · show z_To G d x (pc + 3, l, rv.toList ++ r, P1, c + z_mc G y, n + z_ms G y) q'
    rw [hmc, hms]
    exact k1
theorem z_argsv {y kd : Nat} {as r : List Value} (h1 : (st.take (z_na G y)).reverse = as) (h2 : st.drop (z_na G y) = r) (h3 : Nat.ble (z_na G y) st.length = true) (hd : 1 ≤ d) (h4 : z_cat r ≤ 8) (h5 : Nat.ble (z_nL G y) 45 = true) (h6 : z_cat as ≤ z_nL G y) (h7 : c + z_mc G y ≤ z_mc G x) (h8 : n + z_ms G y ≤ z_ms G x) (h9 : kd = 0 ∨ 1 ≤ z_na G y) (h10 : kd = 0 ∨ z_at? G P y kd as = true) : z_args G d y kd x st P c n = some (as, r) := by
  unfold z_args
  dsimp only
  rw [h1, h2, if_pos ⟨Nat.le_of_ble_eq_true h3, hd, h4, Nat.le_of_ble_eq_true h5, h6, h7, h8, h9, h10⟩]
theorem z_atv {y a t : Nat} {vs as : List Value} (hP : z_lk (z_strs G) P a = some (t, vs)) (ht : z_rcv G y = t) : z_at? G P y 1 (.ref a :: as) = true := by
  unfold z_at?
  dsimp only
  rw [if_pos rfl, hP]
  dsimp only
  rw [ht]
  exact beq_self_eq_true t
/-- the end of a run -/
theorem z_r_ret {r : Option Value} (hc : z_cod G x pc = some (ins, 1)) (h1 : z_call G x ins = none) (h2 : z_ret (z_rty G x) ins st = some r) : z_Runs G d x (pc, l, st, P, c, n) r P := by
  have : z_next G d x (pc, l, st, P, c, n) = some (.inl r) := by
    unfold z_next
    show (match z_cod G x pc with | none => none | some i => _) = _
    rw [hc]
    dsimp only
    rw [h1]
    show (match z_ret (z_rty G x) ins st with | some r => _ | none => _) = _
    rw [h2]
  exact z_Runs_ret this
/-- a run to a place of Ψ, from there to the end -/
theorem z_rh_runs {q : z_S} {R : Option Value → z_H → Prop} (h : z_Rh G d x Ψ q) (k : ∀ q1, Ψ q1 → ∃ r P', z_Runs G d x q1 r P' ∧ R r P') : ∃ r P', z_Runs G d x q r P' ∧ R r P' := by
  obtain ⟨q1, h1, h2⟩ := h
  obtain ⟨r, P', k1, k2⟩ := k q1 h2
  exact ⟨r, P', z_To_runs h1 k1, k2⟩
/-- numbers -/
theorem z_bm32 {a : Int} (h1 : -2147483648 ≤ a) (h2 : a < 2147483648) : a.bmod (2 ^ 32) = a := by
  unfold Int.bmod
  simp only [Nat.reducePow]
  omega
theorem z_bm64 {a : Int} (h1 : -9223372036854775808 ≤ a) (h2 : a < 9223372036854775808) : a.bmod (2 ^ 64) = a := by
  unfold Int.bmod
  simp only [Nat.reducePow]
  omega
theorem z_ad32 {a b : Int32} (h1 : -2147483648 ≤ a.toInt + b.toInt) (h2 : a.toInt + b.toInt < 2147483648) : (a + b).toInt = a.toInt + b.toInt := by
  rw [Int32.toInt_add]
  exact z_bm32 h1 h2
theorem z_sb32 {a b : Int32} (h1 : -2147483648 ≤ a.toInt - b.toInt) (h2 : a.toInt - b.toInt < 2147483648) : (a - b).toInt = a.toInt - b.toInt := by
  rw [Int32.toInt_sub]
  exact z_bm32 h1 h2
theorem z_ml32 {a b : Int32} {k : Int} (hk : a.toInt = k) (h1 : -2147483648 ≤ k * b.toInt) (h2 : k * b.toInt < 2147483648) : (a * b).toInt = k * b.toInt := by
  rw [Int32.toInt_mul, hk]
  exact z_bm32 h1 h2
theorem z_ad64 {a b : Int64} (h1 : -9223372036854775808 ≤ a.toInt + b.toInt) (h2 : a.toInt + b.toInt < 9223372036854775808) : (a + b).toInt = a.toInt + b.toInt := by
  rw [Int64.toInt_add]
  exact z_bm64 h1 h2
theorem z_tmd32 {a b : Int32} : (a - a / b * b).toInt = a.toInt.tmod b.toInt := by
  have h : a - a / b * b = a % b := by
    apply Int32.toInt_inj.mp
    rw [Int32.toInt_sub, Int32.toInt_mul, Int32.toInt_div, Int32.toInt_mod]
    have e : a.toInt.tmod b.toInt = a.toInt - a.toInt.tdiv b.toInt * b.toInt := by
      have := Int.tmod_add_mul_tdiv a.toInt b.toInt
      have := Int.mul_comm b.toInt (a.toInt.tdiv b.toInt)
      omega
    have h1 : (a.toInt.tmod b.toInt).bmod (2 ^ 32) = a.toInt.tmod b.toInt := by
      rw [← Int32.toInt_mod]
      have u1 := Int32.le_toInt (a % b)
      have u2 := Int32.toInt_lt (a % b)
      exact z_bm32 (by omega) (by omega)
    rw [← h1, e]
    simp
  rw [h, Int32.toInt_mod]
end ZCONB
