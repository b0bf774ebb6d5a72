/-! The walk with contracts: all roads, places of return, that it tells the truth. -/
section ZCU3
theorem z_suc3_dn {G : z_Pg} {ns : Nat} {J : (Nat → Option Nat) → z_H → Prop} {W D : z_Ws} {T : z_Tg} {w0 : List Int} {g : Nat} {al0 : Nat → Option Nat} {P0 : z_H} {B0 e : Nat} {Q : z_as_ → Option z_av → Bool} {Φ : Nat → z_Fr → List z_Fr → z_H → Prop} {Ks : List z_Kc} (hΦ : z_Clo5 G Φ) (hJ : z_Jok J D) (hD : z_wsub D W = true) (hgp : z_Gap T J) (hKs : ∀ K ∈ Ks, z_Kok G ns J w0 e K)
    (hEnd : ∀ {d : Nat} {f : z_Fr} {P : z_H} {r0 : Option Value} {S : z_as_} {t : Option z_av} {N : List Int} {al : Nat → Option Nat}, z_next G d f.1 (z_fs f P) = some (.inl r0) → Q S t = true → z_gs (z_strs G) N al S f [] P → z_fr ns al → z_Iv J W w0 g al0 P0 B0 N al P S.2.2.2.2.2 → z_go_ N al t r0 → Φ d f [] P)
    {d x pc : Nat} {S : z_as_} {N : List Int} {al : Nat → Option Nat} {f : z_Fr} {rest : List z_Fr} {P : z_H} {o : Option z_av ⊕ List (Nat × z_as_)} (hx : S.1.1 = x) (hpc : S.1.2.1 = pc) (h : z_suc3 G W D T ns g Ks d x pc S = some o) (hS : z_gs (z_strs G) N al S f rest P) (hf : z_fr ns al) (hI : z_Iv J W w0 g al0 P0 B0 N al P S.2.2.2.2.2)
    (hend : ∀ r, o = .inl r → Q S r = true) (hgo : ∀ Ss, o = .inr Ss → z_all3 G ns J W w0 g al0 P0 B0 (fun d => Φ (d + e)) N Ss) : Φ (d + e) f rest P := by
  obtain ⟨φ1, φ2, φ3, φ4⟩ := id hΦ
  obtain ⟨⟨a1, a2, a3, a4, a5, a6⟩, b1, b2, b3, b4, b5⟩ := id hS
  have hsm : ∀ {X : List Int} {P' : z_H} {B' : Nat}, z_same D al P P' → P'.length = P.length → B' = S.2.2.2.2.2 → z_Iv J W w0 g al0 P0 B0 (N ++ X) al P' B' := fun h1 h2 h3 => z_Iv_st hJ hD hI (fun _ _ k => k) (fun _ _ k => Or.inl k) h1 (by rw [h2, h3]; exact Nat.le_refl _)
  have hsm0 : ∀ {P' : z_H} {B' : Nat}, z_same D al P P' → P'.length = P.length → B' = S.2.2.2.2.2 → z_Iv J W w0 g al0 P0 B0 N al P' B' := fun h1 h2 h3 => by
    have := hsm (X := []) h1 h2 h3
    rwa [List.append_nil] at this
  have hst : ∀ {i : Instr × Nat} {q : z_S}, z_cod G x pc = some i → z_call G x i.1 = none → z_isr i.1 = false → z_step G f.1 i.1 i.2 f.2.1 f.2.2.1 f.2.2.2.1 P f.2.2.2.2.1 f.2.2.2.2.2 = some q → z_next G (d + e) f.1 (z_fs f P) = some (.inr (.inl q)) := by
    intro i q hi hno hnr hq
    unfold z_next
    show (match z_cod G f.1 f.2.1 with | none => none | some i => _) = _
    rw [← a1, ← a2, hx, hpc, hi]
    dsimp only
    rw [hno]
    show (match z_ret (z_rty G x) i.1 f.2.2.2.1 with | some r => _ | none => _) = _
    rw [z_isr_no hnr]
    rw [← a1, hx] at hq
    show (match z_step G x i.1 i.2 f.2.1 f.2.2.1 f.2.2.2.1 P f.2.2.2.2.1 f.2.2.2.2.2 with | some q' => _ | none => none) = _
    rw [hq]
  unfold z_suc3 at h
  split at h
  · cases h
  rename_i i hi
  split at h
  · rename_i Ss hSs
    cases h
    obtain ⟨S', h1, ⟨X, h2⟩, h3⟩ := z_pre_ok hSs hS
    exact hgo _ rfl (d, S') (List.mem_map.mpr ⟨S', h1, rfl⟩) ⟨X, rfl⟩ h2 hf (by show z_Iv J W w0 g al0 P0 B0 _ al P S'.2.2.2.2.2; rw [h3]; exact z_Iv_N hI)
  split at h
  · rename_i yk hyk
    split at h
    · rename_i hlt
      split at h
      · rename_i S' hS'
        obtain ⟨hd, as, r, g1, g2⟩ := z_aargs_ok hS' hS
        have hB : S'.2.2.2.2.2 = S.2.2.2.2.2 := by
          unfold z_aargs at hS'
          split at hS'
          · cases hS'; rfl
          · cases hS'
        have hnx : z_next G (d + e) f.1 (z_fs f P) = some (.inr (.inr (yk.1, as, r))) := by
          refine z_next_up ?_
          unfold z_next
          show (match z_cod G f.1 f.2.1 with | none => none | some i => _) = _
          rw [← a1, ← a2, hx, hpc, hi]
          dsimp only
          rw [hyk]
          dsimp only
          rw [if_pos hlt]
          show (match z_args G d yk.1 yk.2 x f.2.2.2.1 P f.2.2.2.2.1 f.2.2.2.2.2 with | some ar => _ | none => none) = _
          rw [← a1, hx] at g1
          rw [g1]
        split at h
        · rename_i Rs hRs
          cases h
          obtain ⟨K, hK, hu⟩ := z_kany_mem hRs
          exact z_kuse_ok hΦ (hKs K hK) hu hd hnx g2 hf (by rw [hB]; exact hI) (hgo _ rfl)
        · cases h
          have hk := hgo _ rfl (d - 1, S') (List.mem_singleton_self _) ⟨[], by simp⟩ g2 hf (by show z_Iv J W w0 g al0 P0 B0 N al P S'.2.2.2.2.2; rw [hB]; exact hI)
          have hk : Φ (d - 1 + e) _ _ P := hk
          refine φ2 (by omega) hnx ?_
          rw [show d + e - 1 = d - 1 + e by omega]
          exact hk
      · cases h
    · rename_i hlt
      split at h
      · rename_i S' hS'
        cases h
        obtain ⟨q, g1, g2, g3, g4, g5⟩ := z_aprim3_ok hS' hS
        have hnx : z_next G (d + e) f.1 (z_fs f P) = some (.inr (.inl q)) := by
          refine z_next_up ?_
          unfold z_next
          show (match z_cod G f.1 f.2.1 with | none => none | some i => _) = _
          rw [← a1, ← a2, hx, hpc, hi]
          dsimp only
          rw [hyk]
          dsimp only
          rw [if_neg hlt]
          show (match z_prim yk.2 d f.2.1 f.2.2.1 f.2.2.2.1 P f.2.2.2.2.1 f.2.2.2.2.2 with | some q' => _ | none => none) = _
          rw [g1]
        exact φ1 hnx (hgo _ rfl (d, S') (List.mem_singleton_self _) ⟨[], by simp⟩ g2 hf (hsm0 g3 g4 g5))
      · cases h
  rename_i hno
  split at h
  · rename_i hisr
    split at h
    · rename_i r hr
      obtain ⟨v, g1, g2⟩ := z_ret3_ok hr a4
      have hn : z_next G (d + e) f.1 (z_fs f P) = some (.inl v) := by
        unfold z_next
        show (match z_cod G f.1 f.2.1 with | none => none | some i => _) = _
        rw [← a1, ← a2, hx, hpc, hi]
        dsimp only
        rw [hno]
        show (match z_ret (z_rty G x) i.1 f.2.2.2.1 with | some r => _ | none => _) = _
        rw [g1]
      split at h
      · rename_i hrest
        cases h
        rw [hrest] at b1
        match rest, b1, hS with
        | [], _, hS => exact hEnd hn (hend r rfl) hS hf hI g2
      · rename_i g0 grest hrest
        cases h
        rw [hrest] at b1
        match rest, b1 with
        | fr :: rest, ⟨c1, c2⟩ =>
          obtain ⟨e1, e2, e3, e4, e5, e6⟩ := c1
          rw [← hx, a1] at hgo
          have hS2 : z_gs (z_strs G) N al (z_afb G g0 r f.1, grest, S.2.2) (z_fb G fr v f.1) rest P := ⟨⟨e1, congrArg (· + 3) e2, e3, (z_go_l g2).app e4, congrArg (· + z_mc G f.1) e5, congrArg (· + z_ms G f.1) e6⟩, c2, b2, b3, b4, b5⟩
          have hk := hgo _ rfl (d + 1, (z_afb G g0 r f.1, grest, S.2.2)) (List.mem_singleton_self _) ⟨[], by simp⟩ hS2 hf hI
          have hk : Φ (d + 1 + e) _ _ P := hk
          refine φ3 hn ?_
          rw [show d + e + 1 = d + 1 + e by omega]
          exact hk
    · cases h
  rename_i hisr
  have hisr : z_isr i.1 = false := by simpa using hisr
  split at h
  · rename_i Ss hSs
    cases h
    split at hSs
    · rename_i hl1
      obtain ⟨hins, c, off, n, u, st, st2, t, k1, k2, k3, S', k4, k5, k6⟩ := z_lz_ok hSs hS
      have hq1 : z_step G f.1 i.1 i.2 f.2.1 f.2.2.1 f.2.2.2.1 P f.2.2.2.2.1 f.2.2.2.2.2 = some (f.2.1 + 1, f.2.2.1, .int u :: st, P, f.2.2.2.2.1, f.2.2.2.2.2) := by
        unfold z_step
        rw [hins, k2, hl1]
      have hn1 := hst hi hno hisr hq1
      refine φ1 hn1 ?_
      have hi2 : z_cod G f.1 (f.2.1 + 1) = some (.ifCond c off, n) := by rw [← a1, ← a2, hx, hpc]; exact k1
      have hn2 : z_next G (d + e) f.1 (z_fs (f.1, f.2.1 + 1, f.2.2.1, .int u :: st, f.2.2.2.2.1, f.2.2.2.2.2) P) = some (.inr (.inl (t, f.2.2.1, st2, P, f.2.2.2.2.1, f.2.2.2.2.2))) := by
        unfold z_next
        show (match z_cod G f.1 (f.2.1 + 1) with | none => none | some i => _) = _
        rw [hi2]
        show (match z_step G f.1 (.ifCond c off) n (f.2.1 + 1) f.2.2.1 (.int u :: st) P f.2.2.2.2.1 f.2.2.2.2.2 with | some q' => _ | none => none) = _
        have : z_step G f.1 (.ifCond c off) n (f.2.1 + 1) f.2.2.1 (.int u :: st) P f.2.2.2.2.1 f.2.2.2.2.2 = some (t, f.2.2.1, st2, P, f.2.2.2.2.1, f.2.2.2.2.2) := by
          unfold z_step
          rw [z_no0 (ins := .ifCond c off) (show (2 : Nat) ≠ 0 by decide), z_no1 (ins := .ifCond c off) (show (2 : Nat) ≠ 1 by decide), k3]
        rw [this]
      exact φ1 (f := (f.1, f.2.1 + 1, f.2.2.1, .int u :: st, f.2.2.2.2.1, f.2.2.2.2.2)) hn2 (hgo _ rfl (d, S') (List.mem_map.mpr ⟨S', k4, rfl⟩) ⟨[], by simp⟩ k5 hf (by show z_Iv J W w0 g al0 P0 B0 N al P S'.2.2.2.2.2; rw [k6]; exact hI))
    · cases hSs
  split at h
  · rename_i S' hS'
    cases h
    split at hS'
    · rename_i hl3
      obtain ⟨q, k1, al', k2, k3, k4, k5, k6, k7⟩ := z_nws_ok (ns := ns) hS' hS hf
      rw [← hl3] at k1
      refine φ1 (hst hi hno hisr k1) (hgo _ rfl (d, S') (List.mem_singleton_self _) (N := N) ⟨[], by simp⟩ k4 (fun j hj => k2 _ _ (hf j hj)) ?_)
      have := z_Iv_st (X := []) hJ hD hI k2 k3 k5 (B' := S'.2.2.2.2.2) (by rw [k6, k7]; omega)
      rwa [List.append_nil] at this
    · cases hS'
  split at h
  · rename_i Ss hSs
    cases h
    split at hSs
    · rename_i hins
      obtain ⟨q, k1, S', k2, X, k3, k4, k5⟩ := z_ild_ok (G := G) hgp hSs hS hI.2.2.2.2.2.1
      rw [← hins] at k1
      exact φ1 (hst hi hno hisr k1) (hgo _ rfl (d, S') (List.mem_map.mpr ⟨S', k2, rfl⟩) ⟨X, rfl⟩ k3 hf (hsm (by rw [k4]; exact z_same_rf b2) (by rw [k4]) k5))
    · cases hSs
  split at h
  · rename_i Ss hSs
    cases h
    split at hSs
    · rename_i hins
      obtain ⟨q, k1, S', k2, X, k3, k4, k5, k6, k7⟩ := z_gst_ok (G := G) hgp hSs hS hf hI.2.2.2.2.2.1
      rw [← hins] at k1
      obtain ⟨i1, i2, i3, i4, i5, i6, i7⟩ := id hI
      refine φ1 (hst hi hno hisr k1) (hgo _ rfl (d, S') (List.mem_map.mpr ⟨S', k2, rfl⟩) ⟨X, rfl⟩ k3 hf ⟨by rw [List.length_append]; omega, fun k h1 h2 => ?_, i3, i4, z_same_tr i5 (z_same_al i3 k4), k7, by rw [k5, k6]; exact i7⟩)
      rw [List.getElem?_append_left (by omega)]
      exact i2 k h1 h2
    · cases hSs
  split at h
  · rename_i Ss hSs
    cases h
    obtain ⟨q, k1, S', k2, X, k3, k4, k5, k6⟩ := z_astp3_ok hSs hS hf
    exact φ1 (hst hi hno hisr k1) (hgo _ rfl (d, S') (List.mem_map.mpr ⟨S', k2, rfl⟩) ⟨X, rfl⟩ k3 hf (hsm k4 k5 k6))
  · cases h
/-- the first identities stay themselves -/
def z_ghb : Nat → z_bd
  | 0 => []
  | 1 => []
  | n + 2 => (n + 1, n + 1, 0) :: z_ghb (n + 1)
theorem z_ghb_get {bd : z_bd} : ∀ {g k : Nat}, 1 ≤ k → k < g → z_bget (z_ghb g ++ bd) k = some (k, 0)
  | 0, k, _, h => by omega
  | 1, k, h1, h2 => by omega
  | n + 2, k, h1, h2 => by
    show (bif Nat.beq (n + 1) k then some (n + 1, 0) else z_bget (z_ghb (n + 1) ++ bd) k) = some (k, 0)
    cases hb : Nat.beq (n + 1) k with
    | true => rw [Nat.eq_of_beq_eq_true hb]; rfl
    | false =>
      have hne : n + 1 ≠ k := fun q => by rw [q, Nat.beq_refl] at hb; cases hb
      exact z_ghb_get h1 (by omega)
/-- intervals of bound places; none of those of old -/
def z_ivg (g : Nat) (iv : Nat → Option (Int × Int)) (k : Nat) : Option (Int × Int) := bif Nat.ble g k then iv k else none
theorem z_ghb_no {bd : z_bd} : ∀ {g k : Nat}, g ≤ k → 1 ≤ k → z_bget (z_ghb g ++ bd) k = z_bget bd k
  | 0, k, _, _ => rfl
  | 1, k, _, _ => rfl
  | n + 2, k, h, h1 => by
    show (bif Nat.beq (n + 1) k then some (n + 1, 0) else z_bget (z_ghb (n + 1) ++ bd) k) = z_bget bd k
    cases hb : Nat.beq (n + 1) k with
    | true =>
      have := Nat.eq_of_beq_eq_true hb
      omega
    | false => exact z_ghb_no (by omega) h1
theorem z_ivg_ok {N : List Int} {bd : z_bd} {g : Nat} {iv : Nat → Option (Int × Int)} (h : z_ivo N bd iv) (h0 : iv 0 = none) : z_ivo N (z_ghb g ++ bd) (z_ivg g iv) := by
  intro k q hk
  unfold z_ivg at hk
  cases hb : Nat.ble g k with
  | false => rw [hb] at hk; cases hk
  | true =>
    rw [hb] at hk
    have hk : iv k = some q := hk
    have h1 : 1 ≤ k := by
      cases k with
      | zero => rw [h0] at hk; cases hk
      | succ k => omega
    rw [z_bval_o, z_ghb_no (Nat.le_of_ble_eq_true hb) h1, ← z_bval_o]
    exact h k q hk
def z_iv0 (iv : Nat → Option (Int × Int)) : Nat → Option (Int × Int)
  | 0 => none
  | k + 1 => iv (k + 1)
theorem z_iv0_ok {N : List Int} {bd : z_bd} {iv : Nat → Option (Int × Int)} (h : z_ivo N bd iv) : z_ivo N bd (z_iv0 iv) := by
  intro k q hk
  cases k with
  | zero => cases hk
  | succ k => exact h _ _ hk
def z_ar3 (ns g d : Nat) (S : z_as_) (D : z_ce) : Bool := Nat.beq S.1.2.1 D.2.1.1.2.1 && (Nat.beq d D.1 && (Nat.ble g D.2.1.2.2.2.1 && (Nat.beq S.2.2.1.length D.2.1.2.2.1.length && z_sle3 (z_ghb g ++ z_bind S D.2.2.1) (z_ivg g (z_iv0 (z_ivk S D.2.2.1))) ns S D.2.1)))
def z_arr3 (ns g : Nat) (us : List (Nat × Nat × Int)) (d : Nat) (S : z_as_) (D : z_ce) : Bool := z_ar3 ns g d S D && match z_mts3 D D.2.2.2 with
  | some ws => z_mlt3 S.2.2.2.2.1 (z_ghb g ++ z_bind S D.2.2.1) D.2.1.2.2.2.1 us ws
  | none => false
def z_fsuc3 (G : z_Pg) (W D : z_Ws) (T : z_Tg) (ns g : Nat) (Ks : List z_Kc) (d : Nat) (S : z_as_) : Option (Option z_av ⊕ List (Nat × z_as_)) := z_frc S.1.1 fun x => z_frc S.1.2.1 fun pc => z_suc3 G W D T ns g Ks d x pc S
theorem z_fsuc3_eq (G : z_Pg) (W D : z_Ws) (T : z_Tg) (ns g : Nat) (Ks : List z_Kc) (d : Nat) (S : z_as_) : z_fsuc3 G W D T ns g Ks d S = z_suc3 G W D T ns g Ks d S.1.1 S.1.2.1 S := by
  unfold z_fsuc3
  rw [z_frc_eq, z_frc_eq]
/-- all locals named, and the places that the method wants named -/
def z_nmh : List (Nat × Nat) → z_as_ → z_as_
  | [], S => S
  | q :: r, S => bif z_hr S q.1 then (match z_nmc S q.1 q.2 with
    | some S' => z_nmh r S'
    | none => z_nmh r S) else z_nmh r S
theorem z_nmh_ok {strs : z_Ss} {al : Nat → Option Nat} : ∀ {l : List (Nat × Nat)} {S : z_as_} {N : List Int} {f : z_Fr} {rest : List z_Fr} {P : z_H}, z_gs strs N al S f rest P → (∃ X, z_gs strs (N ++ X) al (z_nmh l S) f rest P) ∧ (z_nmh l S).2.2.2.2.2 = S.2.2.2.2.2
  | [], S, N, f, rest, P, h => ⟨⟨[], by rw [List.append_nil]; exact h⟩, rfl⟩
  | q :: r, S, N, f, rest, P, h => by
    unfold z_nmh
    cases hb : z_hr S q.1 with
    | false => exact z_nmh_ok h
    | true =>
      obtain ⟨a, ha⟩ := z_hr_ok hb h
      cases hn : z_nmc S q.1 q.2 with
      | none => exact z_nmh_ok h
      | some S' =>
        obtain ⟨⟨v, h1⟩, h2⟩ := z_nmc_ok hn ha h
        obtain ⟨⟨X, h3⟩, h4⟩ := z_nmh_ok (l := r) h1
        exact ⟨⟨[v] ++ X, by rw [← List.append_assoc]; exact h3⟩, h4.trans h2⟩
def z_nmx (T : z_Tg) (S : z_as_) : z_as_ := z_nmh (T.2.2.2.1 S.1.1) (z_nma (S.1.2.2.1.map fun q => q.1) S)
theorem z_nmx_ok {strs : z_Ss} {al : Nat → Option Nat} {T : z_Tg} {S : z_as_} {N : List Int} {f : z_Fr} {rest : List z_Fr} {P : z_H} (h : z_gs strs N al S f rest P) : (∃ X, z_gs strs (N ++ X) al (z_nmx T S) f rest P) ∧ (z_nmx T S).2.2.2.2.2 = S.2.2.2.2.2 := by
  obtain ⟨⟨X, h1⟩, h2⟩ := z_nma_ok (is := S.1.2.2.1.map fun q => q.1) h
  obtain ⟨⟨Y, h3⟩, h4⟩ := z_nmh_ok (l := T.2.2.2.1 S.1.1) h1
  exact ⟨⟨X ++ Y, by rw [← List.append_assoc]; exact h3⟩, h4.trans h2⟩
def z_cwk3 (G : z_Pg) (W D : z_Ws) (T : z_Tg) (ns g : Nat) (Ks : List z_Kc) (Q : z_as_ → Option z_av → Bool) (at_ : Nat → Nat → Bool) (Es Ds : List z_ce) (us : List (Nat × Nat × Int)) : Nat → List (Nat × z_as_) → Bool
  | _, [] => true
  | 0, _ :: _ => false
  | f + 1, x :: L => match z_fat at_ x.2 with
    | true => match Es.any (z_ar3 ns g x.1 (z_nmx T x.2)) || Ds.any (z_arr3 ns g us x.1 (z_nmx T x.2)) with
      | true => z_cwk3 G W D T ns g Ks Q at_ Es Ds us f L
      | false => match z_fsuc3 G W D T ns g Ks x.1 (z_nmx T x.2) with
        | none => false
        | some (.inl r) => match Q (z_nmx T x.2) r with
          | true => z_cwk3 G W D T ns g Ks Q at_ Es Ds us f L
          | false => false
        | some (.inr Ss) => z_cwk3 G W D T ns g Ks Q at_ Es Ds us f (Ss ++ L)
    | false => match z_fsuc3 G W D T ns g Ks x.1 x.2 with
      | none => false
      | some (.inl r) => match Q x.2 r with
        | true => z_cwk3 G W D T ns g Ks Q at_ Es Ds us f L
        | false => false
      | some (.inr Ss) => z_cwk3 G W D T ns g Ks Q at_ Es Ds us f (Ss ++ L)
def z_cok3 (G : z_Pg) (W D : z_Ws) (T : z_Tg) (ns g : Nat) (Ks : List z_Kc) (Q : z_as_ → Option z_av → Bool) (at_ : Nat → Nat → Bool) (Es Ds : List z_ce) (fu : Nat) (C : z_ce) : Bool := match z_mts3 C C.2.2.2 with
  | some us => z_cwk3 G W D T ns g Ks Q at_ Es Ds us fu [(C.1, C.2.1)]
  | none => false
theorem z_sle_B {bd : z_bd} {ns : Nat} {s t : z_as_} (h : z_sle bd ns s t = true) : s.2.2.2.2.2 ≤ t.2.2.2.2.2 := by
  unfold z_sle at h
  simp only [Bool.and_eq_true] at h
  exact Nat.le_of_ble_eq_true h.2.2.2.2.2
theorem z_sle3_B {bd : z_bd} {iv : Nat → Option (Int × Int)} {ns : Nat} {s t : z_as_} (h : z_sle3 bd iv ns s t = true) : s.2.2.2.2.2 ≤ t.2.2.2.2.2 := by
  unfold z_sle3 at h
  rw [Bool.and_eq_true] at h
  exact z_sle_B (t := z_nof t) h.1
/-- a state at a place: it is one of the place's -/
theorem z_ar3_ok {G : z_Pg} {ns : Nat} {J : (Nat → Option Nat) → z_H → Prop} {W : z_Ws} {w0 : List Int} {g : Nat} {al0 : Nat → Option Nat} {P0 : z_H} {B0 d : Nat} {S : z_as_} {D : z_ce} {N : List Int} {al : Nat → Option Nat} {f : z_Fr} {rest : List z_Fr} {P : z_H} (h : z_ar3 ns g d S D = true) (hS : z_gs (z_strs G) N al S f rest P) (hf : z_fr ns al) (hI : z_Iv J W w0 g al0 P0 B0 N al P S.2.2.2.2.2) :
    d = D.1 ∧ z_gs (z_strs G) (z_bN N (z_ghb g ++ z_bind S D.2.2.1) D.2.1.2.2.2.1) al D.2.1 f rest P ∧ z_Iv J W w0 g al0 P0 B0 (z_bN N (z_ghb g ++ z_bind S D.2.2.1) D.2.1.2.2.2.1) al P D.2.1.2.2.2.2.2 := by
  unfold z_ar3 at h
  simp only [Bool.and_eq_true] at h
  obtain ⟨-, h1, h2, h3, h4⟩ := h
  obtain ⟨k1, k2⟩ := z_sle3_ok (z_ivg_ok (z_iv0_ok (z_ivk_ok hS)) rfl) h4 hS hf
  have h2 := Nat.le_of_ble_eq_true h2
  rw [z_alc_id hS.2.2.1 (Nat.eq_of_beq_eq_true h3)] at k1
  obtain ⟨i1, i2, i3, i4, i5, i6, i7⟩ := hI
  have hB := z_sle3_B h4
  refine ⟨Nat.eq_of_beq_eq_true h1, k1, by simp [z_bN]; exact h2, fun k q1 q2 => ?_, i3, i4, i5, i6, by omega⟩
  rw [z_bN_get (by omega), ← i2 k q1 q2]
  have hlt : k < N.length := by omega
  unfold z_bval
  rw [z_ghb_get q1 q2]
  match k, q1 with
  | k + 1, _ =>
    show some ((N[k + 1]?).getD 0 + 0) = N[k + 1]?
    rw [List.getElem?_eq_getElem hlt]
    simp
theorem z_cut3 {G : z_Pg} {ns : Nat} {J : (Nat → Option Nat) → z_H → Prop} {W D : z_Ws} {T : z_Tg} {w0 : List Int} {g : Nat} {al0 : Nat → Option Nat} {P0 : z_H} {B0 e : Nat} {Q : z_as_ → Option z_av → Bool} {at_ : Nat → Nat → Bool} {Es Ds : List z_ce} {fu : Nat} {Φ : Nat → z_Fr → List z_Fr → z_H → Prop} {Ks : List z_Kc} (hΦ : z_Clo5 G Φ) (hJ : z_Jok J D) (hD : z_wsub D W = true) (hgp : z_Gap T J) (hKs : ∀ K ∈ Ks, z_Kok G ns J w0 e K)
    (hEnd : ∀ {d : Nat} {f : z_Fr} {P : z_H} {r0 : Option Value} {S : z_as_} {t : Option z_av} {N : List Int} {al : Nat → Option Nat}, z_next G d f.1 (z_fs f P) = some (.inl r0) → Q S t = true → z_gs (z_strs G) N al S f [] P → z_fr ns al → z_Iv J W w0 g al0 P0 B0 N al P S.2.2.2.2.2 → z_go_ N al t r0 → Φ d f [] P)
    (hEs : ∀ D ∈ Es, ∀ {N : List Int} {al : Nat → Option Nat} {f : z_Fr} {rest : List z_Fr} {P : z_H}, z_gs (z_strs G) N al D.2.1 f rest P → z_fr ns al → z_Iv J W w0 g al0 P0 B0 N al P D.2.1.2.2.2.2.2 → Φ (D.1 + e) f rest P)
    (hall : ∀ C ∈ Ds, z_cok3 G W D T ns g Ks Q at_ Es Ds fu C = true) :
    ∀ (M : Nat) (C : z_ce), C ∈ Ds → ∀ {us : List (Nat × Nat × Int)} {N : List Int} {al : Nat → Option Nat} {f : z_Fr} {rest : List z_Fr} {P : z_H}, z_mts3 C C.2.2.2 = some us → z_num N us ≤ M → z_gs (z_strs G) N al C.2.1 f rest P → z_fr ns al → z_Iv J W w0 g al0 P0 B0 N al P C.2.1.2.2.2.2.2 → Φ (C.1 + e) f rest P := by
  intro M
  induction M using Nat.strongRecOn with
  | ind M IH =>
    intro C hC us N0 al00 f0 rest0 P00 hus hM hS0 hf0 hI0
    have hms := z_mts3_ok hS0 hus
    have hb : ∀ u ∈ us, 0 ≤ z_tv N0 u ∧ z_tv N0 u < (z_mB : Int) := fun u hu => (hms u hu).1
    have hk : ∀ u ∈ us, u.1 ≤ 2 := fun u hu => (hms u hu).2.2
    have hw := hall C hC
    unfold z_cok3 at hw
    rw [hus] at hw
    dsimp only at hw
    have key : ∀ (fl : Nat) (L : List (Nat × z_as_)), z_cwk3 G W D T ns g Ks Q at_ Es Ds us fl L = true → z_all3 G ns J W w0 g al0 P0 B0 (fun d => Φ (d + e)) N0 L := by
      intro fl
      induction fl with
      | zero =>
        intro L h x hx
        cases L with
        | nil => cases hx
        | cons y L => cases h
      | succ fl ih =>
        intro L h x hx N al f rest P hN hS hf hI
        cases L with
        | nil => cases hx
        | cons y L =>
          have step : ∀ (S : z_as_) (d : Nat), (match z_fsuc3 G W D T ns g Ks d S with | none => false | some (.inl r) => (match Q S r with | true => z_cwk3 G W D T ns g Ks Q at_ Es Ds us fl L | false => false) | some (.inr Ss) => z_cwk3 G W D T ns g Ks Q at_ Es Ds us fl (Ss ++ L)) = true →
              (z_all3 G ns J W w0 g al0 P0 B0 (fun d => Φ (d + e)) N0 L) ∧ ∀ {N al f rest P}, (∃ X, N = N0 ++ X) → z_gs (z_strs G) N al S f rest P → z_fr ns al → z_Iv J W w0 g al0 P0 B0 N al P S.2.2.2.2.2 → Φ (d + e) f rest P := by
            intro S d h
            rw [z_fsuc3_eq] at h
            split at h
            · cases h
            · rename_i r hr
              split at h
              · rename_i hq
                refine ⟨ih L h, fun hN hS hf hI => z_suc3_dn hΦ hJ hD hgp hKs hEnd rfl rfl hr hS hf hI (fun r' e' => by cases e'; exact hq) (fun Ss e' => by cases e')⟩
              · cases h
            · rename_i Ss hr
              have hih := ih (Ss ++ L) h
              refine ⟨fun x hx => hih x (List.mem_append.mpr (Or.inr hx)), fun hN hS hf hI => z_suc3_dn hΦ hJ hD hgp hKs hEnd rfl rfl hr hS hf hI (fun r' e' => by cases e') (fun Ss' e' x' hx' => ?_)⟩
              intro N1 al1 f1 rest1 P1 hN1 hS1 hf1 hI1
              cases e'
              obtain ⟨X, rfl⟩ := hN
              obtain ⟨Y, rfl⟩ := hN1
              exact hih x' (List.mem_append.mpr (Or.inl hx')) ⟨X ++ Y, List.append_assoc _ _ _⟩ hS1 hf1 hI1
          unfold z_cwk3 at h
          split at h
          · rename_i hat
            have top : ∀ {N al f rest P}, (∃ X, N = N0 ++ X) → z_gs (z_strs G) N al y.2 f rest P → z_fr ns al → z_Iv J W w0 g al0 P0 B0 N al P y.2.2.2.2.2.2 → (∀ {N al f rest P}, (∃ X, N = N0 ++ X) → z_gs (z_strs G) N al (z_nmx T y.2) f rest P → z_fr ns al → z_Iv J W w0 g al0 P0 B0 N al P (z_nmx T y.2).2.2.2.2.2 → Φ (y.1 + e) f rest P) → Φ (y.1 + e) f rest P := by
              intro N al f rest P hN hS hf hI hk
              obtain ⟨⟨Y, hS'⟩, hB'⟩ := z_nmx_ok (T := T) hS
              obtain ⟨X, rfl⟩ := hN
              refine hk ⟨X ++ Y, List.append_assoc _ _ _⟩ hS' hf ?_
              rw [hB']
              exact z_Iv_N hI
            split at h
            · rename_i hhit
              rcases List.mem_cons.mp hx with rfl | hx
              · refine top hN hS hf hI fun {N al f rest P} hN hS hf hI => ?_
                rw [Bool.or_eq_true] at hhit
                rcases hhit with hhit | hhit
                · obtain ⟨D, hD, harr⟩ := List.any_eq_true.mp hhit
                  obtain ⟨k1, k2, k3⟩ := z_ar3_ok harr hS hf hI
                  rw [k1]
                  exact hEs D hD k2 hf k3
                · obtain ⟨D, hD, harr⟩ := List.any_eq_true.mp hhit
                  unfold z_arr3 at harr
                  rw [Bool.and_eq_true] at harr
                  obtain ⟨h1, h3⟩ := harr
                  obtain ⟨k1, k2, k3⟩ := z_ar3_ok h1 hS hf hI
                  split at h3
                  · rename_i ws hws
                    have hbD := fun u hu => (z_mts3_ok k2 hws u hu).1
                    obtain ⟨X, rfl⟩ := hN
                    have hkn := fun u hu => (hms u hu).2.1
                    have hbN : ∀ u ∈ us, 0 ≤ z_tv (N0 ++ X) u ∧ z_tv (N0 ++ X) u < (z_mB : Int) := fun u hu => by
                      rw [z_tv_more (hkn u hu)]
                      exact hb u hu
                    have hlt := z_mlt3_ok hS.2.2.2.2.1 hk hbN hbD h3
                    have heq : z_num (N0 ++ X) us = z_num N0 us := z_num_more hkn
                    have := IH (z_num (z_bN (N0 ++ X) (z_ghb g ++ z_bind (z_nmx T x.2) D.2.2.1) D.2.1.2.2.2.1) ws) (by omega) D hD hws (Nat.le_refl _) k2 hf k3
                    rw [k1]
                    exact this
                  · cases h3
              · exact ih L h x hx hN hS hf hI
            · obtain ⟨k1, k2⟩ := step _ _ h
              rcases List.mem_cons.mp hx with rfl | hx
              · exact top hN hS hf hI fun hN hS hf hI => k2 hN hS hf hI
              · exact k1 x hx hN hS hf hI
          · obtain ⟨k1, k2⟩ := step _ _ h
            rcases List.mem_cons.mp hx with rfl | hx
            · exact k2 hN hS hf hI
            · exact k1 x hx hN hS hf hI
    exact key fu _ hw _ (List.mem_singleton_self _) ⟨[], by simp⟩ hS0 hf0 hI0
end ZCU3
