/-! A walk with places of return: a road may end in a state that is walked by itself, if a measure has fallen. -/
section ZCWK
variable {strs : z_Ss} {N : List Int} {al : Nat → Option Nat}
/-- where a number stands: (0, f, i) the local i of the frame f; (1, c, e) the place e of the cell c -/
abbrev z_pc : Type := Nat × Nat × Nat
def z_avt : z_av → Option z_tk
  | .inl t => some t
  | .inr (.inl t) => some t
  | _ => none
def z_plc (S : z_as_) (p : z_pc) : Option z_tk := bif Nat.beq p.1 0 then (match (S.1 :: S.2.1)[p.2.1]? with
    | some F => match z_aget F.2.2.1 p.2.2 with
      | some v => z_avt v
      | none => none
    | none => none)
  else match S.2.2.1[p.2.1]? with
    | some A => match A.2.2.1 with
      | none => match A.2.2.2[p.2.2]? with
        | some v => z_avt v
        | none => none
      | some _ => none
    | none => none
/-- a place of return: depth, state, where its identities stand, the measure: (0, n, _): n; (1, k, c): how far the identity k is below c; (2, k, c): above c -/
abbrev z_ce : Type := Nat × z_as_ × List (Nat × z_pc) × List (Nat × Nat × Int)
def z_ptk (T : z_as_) : List (Nat × z_pc) → Nat → Option z_tk
  | [], _ => none
  | q :: r, k => bif Nat.beq q.1 k && Nat.beq q.2.1 0 then z_plc T q.2 else z_ptk T r k
def z_mB : Nat := 1099511627776
/-- a term's bounds: kind, identity, bound -/
def z_mt (C : z_ce) (q : Nat × Nat × Int) : Option (Nat × Nat × Int) := match q.1 with
  | 0 => if q.2.1 < z_mB then some (0, 0, (q.2.1 : Int)) else none
  | 1 => match z_ptk C.2.1 C.2.2.1 q.2.1 with
    | some t => if t.1 = q.2.1 ∧ q.2.1 ≠ 0 ∧ t.2.1 = 0 ∧ t.2.2.1 = 0 ∧ z_hi t ≤ q.2.2 ∧ q.2.2 - z_lo t < (z_mB : Int) then some (1, q.2.1, q.2.2) else none
    | none => none
  | _ => match z_ptk C.2.1 C.2.2.1 q.2.1 with
    | some t => if t.1 = q.2.1 ∧ q.2.1 ≠ 0 ∧ t.2.1 = 0 ∧ t.2.2.1 = 0 ∧ q.2.2 ≤ z_lo t ∧ z_hi t - q.2.2 < (z_mB : Int) then some (2, q.2.1, q.2.2) else none
    | none => none
def z_tv (N : List Int) (q : Nat × Nat × Int) : Int := match q.1 with
  | 0 => q.2.2
  | 1 => q.2.2 - (N[q.2.1]?).getD 0
  | _ => (N[q.2.1]?).getD 0 - q.2.2
/-- a place of a state: the number that stands there -/
theorem z_avt_ok {a : z_av} {t : z_tk} {v : Value} (h : z_avt a = some t) (k : z_gv N al a v) : ∃ x : Int, z_gi N t x := by
  match a, h, k with
  | .inl _, h, ⟨x, _, k⟩ => cases h; exact ⟨_, k⟩
  | .inr (.inl _), h, ⟨x, _, k⟩ => cases h; exact ⟨_, k⟩
theorem z_plc_ok {S : z_as_} {p : z_pc} {t : z_tk} {f : z_Fr} {rest : List z_Fr} {P : z_H} (h0 : p.1 = 0) (h : z_plc S p = some t) (hS : z_gs strs N al S f rest P) : ∃ x : Int, z_gi N t x := by
  obtain ⟨k1, k2, k3, -⟩ := hS
  unfold z_plc at h
  rw [h0] at h
  have h : (match (S.1 :: S.2.1)[p.2.1]? with | some F => (match z_aget F.2.2.1 p.2.2 with | some v => z_avt v | none => none) | none => none) = some t := h
  split at h
  · rename_i F hF
    split at h
    · rename_i v hv
      have hall : z_all2 (z_gf_ N al) (S.1 :: S.2.1) (f :: rest) := ⟨k1, k2⟩
      obtain ⟨fr, -, g⟩ := hall.get hF
      obtain ⟨w, -, g2⟩ := g.2.2.1 _ _ hv
      exact z_avt_ok h g2
    · cases h
  · cases h
theorem z_ptk_ok {S : z_as_} {t : z_tk} {f : z_Fr} {rest : List z_Fr} {P : z_H} (hS : z_gs strs N al S f rest P) : ∀ {l : List (Nat × z_pc)} {k : Nat}, z_ptk S l k = some t → ∃ x : Int, z_gi N t x
  | [], _, h => by cases h
  | q :: r, k, h => by
    unfold z_ptk at h
    cases hb : (Nat.beq q.1 k && Nat.beq q.2.1 0) with
    | true =>
      rw [hb] at h
      rw [Bool.and_eq_true] at hb
      exact z_plc_ok (Nat.eq_of_beq_eq_true hb.2) h hS
    | false =>
      rw [hb] at h
      exact z_ptk_ok hS h
/-- a term's value lies between 0 and the bound -/
theorem z_mt_ok {C : z_ce} {q : Nat × Nat × Int} {u : Nat × Nat × Int} {f : z_Fr} {rest : List z_Fr} {P : z_H} (h : z_mt C q = some u) (hS : z_gs strs N al C.2.1 f rest P) : 0 ≤ z_tv N u ∧ z_tv N u < (z_mB : Int) := by
  unfold z_mt at h
  split at h
  · split at h
    · rename_i hq
      cases h
      show 0 ≤ (q.2.1 : Int) ∧ (q.2.1 : Int) < _
      omega
    · cases h
  · split at h
    · rename_i t ht
      split at h
      · rename_i hc
        cases h
        obtain ⟨x, h1, h2, h3⟩ := z_ptk_ok hS ht
        obtain ⟨c1, c2, c3, c4, c5, c6⟩ := hc
        rcases h3 with h3 | ⟨w, e1, e2, e3⟩
        · omega
        · rw [c1] at e1
          have : w = x := by omega
          show 0 ≤ q.2.2 - (N[q.2.1]?).getD 0 ∧ q.2.2 - (N[q.2.1]?).getD 0 < _
          rw [e1]
          show 0 ≤ q.2.2 - w ∧ q.2.2 - w < _
          omega
      · cases h
    · cases h
  · split at h
    · rename_i t ht
      split at h
      · rename_i hc
        cases h
        obtain ⟨x, h1, h2, h3⟩ := z_ptk_ok hS ht
        obtain ⟨c1, c2, c3, c4, c5, c6⟩ := hc
        rcases h3 with h3 | ⟨w, e1, e2, e3⟩
        · omega
        · rw [c1] at e1
          have : w = x := by omega
          show 0 ≤ (N[q.2.1]?).getD 0 - q.2.2 ∧ (N[q.2.1]?).getD 0 - q.2.2 < _
          rw [e1]
          show 0 ≤ w - q.2.2 ∧ w - q.2.2 < _
          omega
      · cases h
    · cases h
/-- all terms of a measure -/
def z_mts (C : z_ce) : List (Nat × Nat × Int) → Option (List (Nat × Nat × Int))
  | [] => some []
  | q :: r => match z_mt C q, z_mts C r with
    | some u, some us => some (u :: us)
    | _, _ => none
def z_num (N : List Int) : List (Nat × Nat × Int) → Nat
  | [] => 0
  | u :: r => (z_tv N u).toNat * z_mB ^ r.length + z_num N r
theorem z_num_lt {us : List (Nat × Nat × Int)} (h : ∀ u ∈ us, 0 ≤ z_tv N u ∧ z_tv N u < (z_mB : Int)) : z_num N us < z_mB ^ us.length := by
  induction us with
  | nil => show 0 < 1; omega
  | cons u r ih =>
    have h1 := ih fun w hw => h w (List.mem_cons_of_mem _ hw)
    have h2 := h u List.mem_cons_self
    have h3 : (z_tv N u).toNat + 1 ≤ z_mB := by omega
    have h4 := Nat.mul_le_mul_right (z_mB ^ r.length) h3
    show (z_tv N u).toNat * z_mB ^ r.length + z_num N r < z_mB ^ (r.length + 1)
    rw [Nat.pow_succ, Nat.mul_comm (z_mB ^ r.length) z_mB]
    rw [Nat.add_mul, Nat.one_mul] at h4
    omega
theorem z_mts_ok {C : z_ce} {f : z_Fr} {rest : List z_Fr} {P : z_H} (hS : z_gs strs N al C.2.1 f rest P) : ∀ {l : List (Nat × Nat × Int)} {us : List (Nat × Nat × Int)}, z_mts C l = some us → ∀ u ∈ us, 0 ≤ z_tv N u ∧ z_tv N u < (z_mB : Int)
  | [], us, h, u, hu => by cases h; cases hu
  | q :: r, us, h, u, hu => by
    unfold z_mts at h
    split at h
    · rename_i a as h1 h2
      cases h
      rcases List.mem_cons.mp hu with rfl | hu
      · exact z_mt_ok h1 hS
      · exact z_mts_ok hS h2 u hu
    · cases h
/-- the new term, by what its identity is in the old state: 0 less, 1 equal, 2 unknown -/
def z_tc2 (bd : z_bd) (n : Nat) (u w : Nat × Nat × Int) : Nat := bif Nat.beq u.1 0 then (bif Nat.beq w.1 0 then (bif z_ile u.2.2 w.2.2 then (bif z_ile w.2.2 u.2.2 then 1 else 2) else 0) else 2)
  else match z_bget bd w.2.1 with
  | some (j + 1, e) => bif Nat.beq (j + 1) u.2.1 && (Nat.beq u.1 w.1 && Nat.ble (w.2.1 + 1) n) then
      (bif Nat.beq u.1 1 then (bif z_ile u.2.2 (w.2.2 - e) then (bif z_ile (w.2.2 - e) u.2.2 then 1 else 2) else 0)
       else (bif z_ile (e - w.2.2) (-u.2.2) then (bif z_ile (-u.2.2) (e - w.2.2) then 1 else 0) else 2)) else 2
  | _ => 2
theorem z_ile_t {a b : Int} (h : z_ile a b = true) : a ≤ b := of_decide_eq_true h
theorem z_ile_f {a b : Int} (h : z_ile a b = false) : b < a := by
  have : ¬ a ≤ b := of_decide_eq_false h
  omega
theorem z_tc2_ok {bd : z_bd} {n : Nat} {u w : Nat × Nat × Int} (hu : u.1 ≤ 2) : (z_tc2 bd n u w = 0 → z_tv (z_bN N bd n) w < z_tv N u) ∧ (z_tc2 bd n u w = 1 → z_tv (z_bN N bd n) w = z_tv N u) := by
  obtain ⟨u1, u2, u3⟩ := u
  obtain ⟨w1, w2, w3⟩ := w
  unfold z_tc2
  dsimp only
  cases h1 : Nat.beq u1 0 with
  | true =>
    have h1 := Nat.eq_of_beq_eq_true h1
    subst h1
    cases h2 : Nat.beq w1 0 with
    | true =>
      have h2 := Nat.eq_of_beq_eq_true h2
      subst h2
      show ((bif z_ile u3 w3 then (bif z_ile w3 u3 then 1 else 2) else 0) = 0 → w3 < u3) ∧ ((bif z_ile u3 w3 then (bif z_ile w3 u3 then 1 else 2) else 0) = 1 → w3 = u3)
      cases h3 : z_ile u3 w3 with
      | true =>
        have := z_ile_t h3
        cases h4 : z_ile w3 u3 with
        | true =>
          have := z_ile_t h4
          exact ⟨fun h => (by cases h), fun _ => by omega⟩
        | false => exact ⟨fun h => (by cases h), fun h => (by cases h)⟩
      | false =>
        have := z_ile_f h3
        exact ⟨fun _ => this, fun h => (by cases h)⟩
    | false => exact ⟨fun h => (by cases h), fun h => (by cases h)⟩
  | false =>
    have h1n : u1 ≠ 0 := fun q => by subst q; cases h1
    cases hb : z_bget bd w2 with
    | none => exact ⟨fun h => (by cases h), fun h => (by cases h)⟩
    | some p =>
      obtain ⟨j, e⟩ := p
      cases j with
      | zero => exact ⟨fun h => (by cases h), fun h => (by cases h)⟩
      | succ j =>
        cases hc : (Nat.beq (j + 1) u2 && (Nat.beq u1 w1 && Nat.ble (w2 + 1) n)) with
        | false => dsimp only; rw [hc]; exact ⟨fun h => (by cases h), fun h => (by cases h)⟩
        | true =>
          dsimp only
          rw [hc]
          simp only [Bool.and_eq_true] at hc
          obtain ⟨c1, c2, c3⟩ := hc
          have c1 := Nat.eq_of_beq_eq_true c1
          have c2 := Nat.eq_of_beq_eq_true c2
          have c3 := Nat.le_of_ble_eq_true c3
          subst c1
          subst c2
          have hv : ((z_bN N bd n)[w2]?).getD 0 = (N[j + 1]?).getD 0 + e := by
            rw [z_bN_get c3]
            show z_bval N bd w2 = _
            unfold z_bval
            rw [hb]
          match u1, hu, h1n with
          | 1, _, _ =>
            show ((bif z_ile u3 (w3 - e) then (bif z_ile (w3 - e) u3 then 1 else 2) else 0) = 0 → w3 - ((z_bN N bd n)[w2]?).getD 0 < u3 - (N[j + 1]?).getD 0) ∧ ((bif z_ile u3 (w3 - e) then (bif z_ile (w3 - e) u3 then 1 else 2) else 0) = 1 → w3 - ((z_bN N bd n)[w2]?).getD 0 = u3 - (N[j + 1]?).getD 0)
            rw [hv]
            cases h3 : z_ile u3 (w3 - e) with
            | true =>
              have := z_ile_t h3
              cases h4 : z_ile (w3 - e) u3 with
              | true =>
                have := z_ile_t h4
                exact ⟨fun h => (by cases h), fun _ => by omega⟩
              | false => exact ⟨fun h => (by cases h), fun h => (by cases h)⟩
            | false =>
              have := z_ile_f h3
              exact ⟨fun _ => by omega, fun h => (by cases h)⟩
          | 2, _, _ =>
            show ((bif z_ile (e - w3) (-u3) then (bif z_ile (-u3) (e - w3) then 1 else 0) else 2) = 0 → ((z_bN N bd n)[w2]?).getD 0 - w3 < (N[j + 1]?).getD 0 - u3) ∧ ((bif z_ile (e - w3) (-u3) then (bif z_ile (-u3) (e - w3) then 1 else 0) else 2) = 1 → ((z_bN N bd n)[w2]?).getD 0 - w3 = (N[j + 1]?).getD 0 - u3)
            rw [hv]
            cases h3 : z_ile (e - w3) (-u3) with
            | true =>
              have := z_ile_t h3
              cases h4 : z_ile (-u3) (e - w3) with
              | true =>
                have := z_ile_t h4
                exact ⟨fun h => (by cases h), fun _ => by omega⟩
              | false =>
                have := z_ile_f h4
                exact ⟨fun _ => by omega, fun h => (by cases h)⟩
            | false => exact ⟨fun h => (by cases h), fun h => (by cases h)⟩
          | 0, _, h => exact absurd rfl h
          | k + 3, h, _ => omega
def z_mlt (bd : z_bd) (n : Nat) : List (Nat × Nat × Int) → List (Nat × Nat × Int) → Bool
  | u :: us, w :: ws => match z_tc2 bd n u w with
    | 0 => Nat.beq us.length ws.length
    | 1 => z_mlt bd n us ws
    | _ => false
  | _, _ => false
theorem z_mlt_len {bd : z_bd} {n : Nat} : ∀ {us ws : List (Nat × Nat × Int)}, z_mlt bd n us ws = true → us.length = ws.length
  | [], _, h => by cases h
  | _ :: _, [], h => by cases h
  | u :: us, w :: ws, h => by
    unfold z_mlt at h
    split at h
    · show us.length + 1 = ws.length + 1
      rw [Nat.eq_of_beq_eq_true h]
    · show us.length + 1 = ws.length + 1
      rw [z_mlt_len h]
    · cases h
theorem z_mlt_ok {bd : z_bd} {n : Nat} : ∀ {us ws : List (Nat × Nat × Int)}, (∀ u ∈ us, u.1 ≤ 2) → (∀ u ∈ us, 0 ≤ z_tv N u ∧ z_tv N u < (z_mB : Int)) → (∀ w ∈ ws, 0 ≤ z_tv (z_bN N bd n) w ∧ z_tv (z_bN N bd n) w < (z_mB : Int)) → z_mlt bd n us ws = true → z_num (z_bN N bd n) ws < z_num N us
  | [], _, _, _, _, h => by cases h
  | _ :: _, [], _, _, _, h => by cases h
  | u :: us, w :: ws, h0, h1, h2, h => by
    have hlen : us.length = ws.length := by
      have := z_mlt_len h
      simpa using this
    unfold z_mlt at h
    obtain ⟨k0, k1⟩ := z_tc2_ok (N := N) (bd := bd) (n := n) (u := u) (w := w) (h0 u List.mem_cons_self)
    have hu := h1 u List.mem_cons_self
    have hw := h2 w List.mem_cons_self
    show (z_tv (z_bN N bd n) w).toNat * z_mB ^ ws.length + z_num (z_bN N bd n) ws < (z_tv N u).toNat * z_mB ^ us.length + z_num N us
    rw [hlen]
    split at h
    · rename_i e
      have hlt := k0 e
      have h5 := z_num_lt (N := z_bN N bd n) (us := ws) fun x hx => h2 x (List.mem_cons_of_mem _ hx)
      have h6 : (z_tv (z_bN N bd n) w).toNat + 1 ≤ (z_tv N u).toNat := by omega
      have h7 := Nat.mul_le_mul_right (z_mB ^ ws.length) h6
      rw [Nat.add_mul, Nat.one_mul] at h7
      omega
    · rename_i e
      have heq := k1 e
      rw [heq]
      have := z_mlt_ok (fun x hx => h0 x (List.mem_cons_of_mem _ hx)) (fun x hx => h1 x (List.mem_cons_of_mem _ hx)) (fun x hx => h2 x (List.mem_cons_of_mem _ hx)) h
      omega
    · cases h
theorem z_mt_known {C : z_ce} {q : Nat × Nat × Int} {u : Nat × Nat × Int} {f : z_Fr} {rest : List z_Fr} {P : z_H} (h : z_mt C q = some u) (hS : z_gs strs N al C.2.1 f rest P) : u.1 = 0 ∨ ∃ w, N[u.2.1]? = some w := by
  unfold z_mt at h
  split at h
  · split at h
    · cases h
      exact Or.inl rfl
    · cases h
  all_goals
    split at h
    · rename_i t ht
      split at h
      · rename_i hc
        cases h
        obtain ⟨x, h1, h2, h3⟩ := z_ptk_ok hS ht
        obtain ⟨c1, c2, c3, c4, c5, c6⟩ := hc
        rcases h3 with h3 | ⟨w, e1, e2, e3⟩
        · omega
        · rw [c1] at e1
          exact Or.inr ⟨w, e1⟩
      · cases h
    · cases h
theorem z_mts_known {C : z_ce} {f : z_Fr} {rest : List z_Fr} {P : z_H} (hS : z_gs strs N al C.2.1 f rest P) : ∀ {l : List (Nat × Nat × Int)} {us : List (Nat × Nat × Int)}, z_mts C l = some us → ∀ u ∈ us, u.1 = 0 ∨ ∃ w, N[u.2.1]? = some w
  | [], us, h, u, hu => by cases h; cases hu
  | q :: r, us, h, u, hu => by
    unfold z_mts at h
    split at h
    · rename_i a as h1 h2
      cases h
      rcases List.mem_cons.mp hu with rfl | hu
      · exact z_mt_known h1 hS
      · exact z_mts_known hS h2 u hu
    · cases h
theorem z_tv_more {u : Nat × Nat × Int} {X : List Int} (h : u.1 = 0 ∨ ∃ w, N[u.2.1]? = some w) : z_tv (N ++ X) u = z_tv N u := by
  obtain ⟨u1, u2, u3⟩ := u
  rcases h with h | ⟨w, h⟩
  · have h : u1 = 0 := h
    subst h
    rfl
  · have h : N[u2]? = some w := h
    have e : (N ++ X)[u2]? = N[u2]? := List.getElem?_append_left (List.getElem?_eq_some_iff.mp h).1
    unfold z_tv
    dsimp only
    rw [e]
theorem z_num_more {X : List Int} : ∀ {us : List (Nat × Nat × Int)}, (∀ u ∈ us, u.1 = 0 ∨ ∃ w, N[u.2.1]? = some w) → z_num (N ++ X) us = z_num N us
  | [], _ => rfl
  | u :: us, h => by
    show (z_tv (N ++ X) u).toNat * z_mB ^ us.length + z_num (N ++ X) us = (z_tv N u).toNat * z_mB ^ us.length + z_num N us
    rw [z_tv_more (h u List.mem_cons_self), z_num_more fun w hw => h w (List.mem_cons_of_mem _ hw)]
theorem z_mts_kind {C : z_ce} : ∀ {l : List (Nat × Nat × Int)} {us : List (Nat × Nat × Int)}, z_mts C l = some us → ∀ u ∈ us, u.1 ≤ 2
  | [], us, h, u, hu => by cases h; cases hu
  | q :: r, us, h, u, hu => by
    unfold z_mts at h
    split at h
    · rename_i a as h1 h2
      cases h
      rcases List.mem_cons.mp hu with rfl | hu
      · unfold z_mt at h1
        split at h1
        · split at h1 <;> cases h1 <;> exact Nat.le_of_ble_eq_true rfl
        · split at h1
          · split at h1 <;> cases h1 <;> exact Nat.le_of_ble_eq_true rfl
          · cases h1
        · split at h1
          · split at h1 <;> cases h1 <;> exact Nat.le_of_ble_eq_true rfl
          · cases h1
      · exact z_mts_kind h2 u hu
    · cases h
end ZCWK
