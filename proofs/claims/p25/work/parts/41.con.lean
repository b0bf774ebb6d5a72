/-! What a call is known to do: its start as a state, its ends as cells and places put anew. -/
section ZCON
/-- an end: the answer, the cells and places put anew, how many cells more -/
abbrev z_Pt : Type := List (Nat × (z_ac_ ⊕ List (Nat × z_av)))
abbrev z_Xe : Type := Option z_av × z_Pt × Nat
def z_xget : z_Pt → Nat → Option (z_ac_ ⊕ List (Nat × z_av))
  | [], _ => none
  | q :: r, c => bif Nat.beq q.1 c then some q.2 else z_xget r c
def z_xwo : z_ac_ ⊕ List (Nat × z_av) → Option (List Nat)
  | .inl _ => none
  | .inr ps => some (ps.map fun p => p.1)
def z_xW (X : z_Pt) : z_Ws := X.map fun q => (q.1, z_xwo q.2)
theorem z_xW_get : ∀ {X : z_Pt} {c : Nat}, z_wget (z_xW X) c = (z_xget X c).map z_xwo
  | [], _ => rfl
  | q :: r, c => by
    show (bif Nat.beq q.1 c then some (z_xwo q.2) else z_wget (z_xW r) c) = Option.map z_xwo (bif Nat.beq q.1 c then some q.2 else z_xget r c)
    cases Nat.beq q.1 c with
    | true => rfl
    | false => exact z_xW_get (X := r)
def z_post (N : List Int) (al : Nat → Option Nat) (P : z_H) (X : z_Xe) (rv : Option Value) (P' : z_H) (al' : Nat → Option Nat) : Prop :=
  (∀ a c, al a = some c → al' a = some c) ∧ (∀ a c, al' a = some c → al a = some c ∨ z_wall (z_xW X.2.1) c = true) ∧ z_same (z_xW X.2.1) al P P' ∧ z_go_ N al' X.1 rv ∧
  (∀ c A', z_xget X.2.1 c = some (.inl A') → ∀ a, al' a = some c → a < z_far ∧ (∃ q', P'[a]? = some q' ∧ z_gc N al' A' q') ∧ (A'.2.1.1 = true → ∀ b, al' b = some c → b = a)) ∧
  (∀ c ps, z_xget X.2.1 c = some (.inr ps) → ∀ a, al' a = some c → ∃ q', P'[a]? = some q' ∧ ∀ e v, (e, v) ∈ ps → ∃ w, q'.2[e]? = some w ∧ z_gv N al' v w) ∧
  P'.length ≤ P.length + X.2.2
/-- a call of y from the state E, at the depth dm or more -/
def z_con (G : z_Pg) (ns : Nat) (J : (Nat → Option Nat) → z_H → Prop) (dm y : Nat) (E : z_as_) (Xs : List z_Xe) : Prop :=
  ∀ {N : List Int} {al : Nat → Option Nat} {l : z_L} {P : z_H} {d : Nat}, dm ≤ d → z_gs (z_strs G) N al E (y, 0, l, [], 0, 0) [] P → z_fr ns al → J al P →
    ∃ rv P' al' X, X ∈ Xs ∧ z_Runs G d y (0, l, [], P, 0, 0) rv P' ∧ J al' P' ∧ z_post N al P X rv P' al'
/-- a token of the call's, as the caller's -/
def z_sub (bd : z_bd) (iv : Nat → Option (Int × Int)) (n : Nat) (t : z_tk) : z_tk := bif Nat.beq t.1 0 then t else match z_bget bd t.1 with
  | some (0, c) => (0, 0, 0, max (z_lo t) (c + t.2.1), min (z_hi t) (c + t.2.2.1))
  | some (j + 1, e) => bif Nat.ble (j + 2) n then (match iv t.1 with
      | some q => (j + 1, t.2.1 + e, t.2.2.1 + e, max (z_lo t) (q.1 + t.2.1), min (z_hi t) (q.2 + t.2.2.1))
      | none => (j + 1, t.2.1 + e, t.2.2.1 + e, z_lo t, z_hi t)) else (0, 0, 0, z_lo t, z_hi t)
  | none => (0, 0, 0, z_lo t, z_hi t)
def z_ivo (N : List Int) (bd : z_bd) (iv : Nat → Option (Int × Int)) : Prop := ∀ k q, iv k = some q → q.1 ≤ z_bval N bd k ∧ z_bval N bd k ≤ q.2
theorem z_sub_gi {bd : z_bd} {iv : Nat → Option (Int × Int)} {N : List Int} {m : Nat} {t : z_tk} {v : Int} (hiv : z_ivo N bd iv) (h : z_gi (z_bN N bd m) t v) : z_gi N (z_sub bd iv N.length t) v := by
  obtain ⟨h1, h2, h3⟩ := h
  unfold z_sub
  cases hb : Nat.beq t.1 0 with
  | true => exact ⟨h1, h2, Or.inl (Nat.eq_of_beq_eq_true hb)⟩
  | false =>
    have h0 : t.1 ≠ 0 := fun q => by rw [q] at hb; cases hb
    rcases h3 with h3 | ⟨w, e1, e2, e3⟩
    · exact absurd h3 h0
    · have hw : w = z_bval N bd t.1 := by
        have hk : t.1 < m := by
          have := (List.getElem?_eq_some_iff.mp e1).1
          simpa [z_bN] using this
        exact (Option.some.inj (e1.symm.trans (z_bN_get hk)))
      show z_gi N (match z_bget bd t.1 with | some (0, c) => _ | some (j + 1, e) => _ | none => _) v
      unfold z_bval at hw
      split
      · rename_i c hc
        rw [hc] at hw
        have hw : w = c := hw
        exact ⟨by show max (z_lo t) (c + t.2.1) ≤ v; omega, by show v ≤ min (z_hi t) (c + t.2.2.1); omega, Or.inl rfl⟩
      · rename_i j e he
        rw [he] at hw
        have hw : w = (N[j + 1]?).getD 0 + e := hw
        cases hn : Nat.ble (j + 2) N.length with
        | true =>
          have hlt : j + 1 < N.length := Nat.le_of_ble_eq_true hn
          rw [List.getElem?_eq_getElem hlt] at hw
          have hw : w = N[j + 1] + e := hw
          have hv0 : z_bval N bd t.1 = N[j + 1] + e := by
            unfold z_bval
            rw [he]
            show (N[j + 1]?).getD 0 + e = _
            rw [List.getElem?_eq_getElem hlt]
            rfl
          have hx : ∀ lo hi : Int, lo ≤ v → v ≤ hi → z_gi N (j + 1, t.2.1 + e, t.2.2.1 + e, lo, hi) v := fun lo hi g1 g2 => ⟨g1, g2, Or.inr ⟨N[j + 1], List.getElem?_eq_getElem hlt, by show N[j + 1] + (t.2.1 + e) ≤ v; omega, by show v ≤ N[j + 1] + (t.2.2.1 + e); omega⟩⟩
          show z_gi N (match iv t.1 with | some q => (j + 1, t.2.1 + e, t.2.2.1 + e, max (z_lo t) (q.1 + t.2.1), min (z_hi t) (q.2 + t.2.2.1)) | none => (j + 1, t.2.1 + e, t.2.2.1 + e, z_lo t, z_hi t)) v
          split
          · rename_i q hq
            have := hiv _ _ hq
            rw [hv0] at this
            exact hx _ _ (by omega) (by omega)
          · exact hx _ _ h1 h2
        | false => exact ⟨h1, h2, Or.inl rfl⟩
      · exact ⟨h1, h2, Or.inl rfl⟩
def z_subv (bd : z_bd) (iv : Nat → Option (Int × Int)) (n : Nat) : z_av → z_av
  | .inl t => .inl (z_sub bd iv n t)
  | .inr (.inl t) => .inr (.inl (z_sub bd iv n t))
  | .inr (.inr t) => .inr (.inr t)
theorem z_subv_gv {bd : z_bd} {iv : Nat → Option (Int × Int)} {N : List Int} {m : Nat} {al : Nat → Option Nat} (hiv : z_ivo N bd iv) : ∀ {t : z_av} {v : Value}, z_gv (z_bN N bd m) al t v → z_gv N al (z_subv bd iv N.length t) v
  | .inl _, _, ⟨x, e, h⟩ => ⟨x, e, z_sub_gi hiv h⟩
  | .inr (.inl _), _, ⟨x, e, h⟩ => ⟨x, e, z_sub_gi hiv h⟩
  | .inr (.inr _), _, h => h
def z_subc (bd : z_bd) (iv : Nat → Option (Int × Int)) (n : Nat) (A : z_ac_) : z_ac_ := (A.1, A.2.1, A.2.2.1, A.2.2.2.map (z_subv bd iv n))
theorem z_subc_gc {bd : z_bd} {iv : Nat → Option (Int × Int)} {N : List Int} {m : Nat} {al : Nat → Option Nat} {A : z_ac_} {q : z_C} (hiv : z_ivo N bd iv) (h : z_gc (z_bN N bd m) al A q) : z_gc N al (z_subc bd iv N.length A) q := by
  obtain ⟨h1, h2⟩ := h
  refine ⟨h1, ?_⟩
  show (match A.2.2.1 with | none => z_all2 (z_gv N al) (A.2.2.2.map (z_subv bd iv N.length)) q.2 | some n => q.2.length = n ∧ ∃ t, A.2.2.2.map (z_subv bd iv N.length) = [t] ∧ ∀ v ∈ q.2, z_gv N al t v)
  cases hn : A.2.2.1 with
  | none =>
    rw [hn] at h2
    exact z_all2.map (f := z_subv bd iv N.length) (fun _ _ k => z_subv_gv hiv k) h2
  | some n =>
    rw [hn] at h2
    obtain ⟨h3, t, h4, h5⟩ := h2
    exact ⟨h3, _, by rw [h4]; rfl, fun v hv => z_subv_gv hiv (h5 v hv)⟩
/-- a place of a list of places -/
def z_pget : List (Nat × z_av) → Nat → Option z_av
  | [], _ => none
  | q :: r, e => bif Nat.beq q.1 e then some q.2 else z_pget r e
theorem z_pget_mem : ∀ {ps : List (Nat × z_av)} {e : Nat} {v : z_av}, z_pget ps e = some v → (e, v) ∈ ps
  | [], _, _, h => by cases h
  | q :: r, e, v, h => by
    unfold z_pget at h
    cases hb : Nat.beq q.1 e with
    | true =>
      rw [hb] at h
      have h : some q.2 = some v := h
      cases h
      rw [← Nat.eq_of_beq_eq_true hb]
      exact List.mem_cons_self
    | false =>
      rw [hb] at h
      exact List.mem_cons_of_mem _ (z_pget_mem h)
theorem z_pget_nin : ∀ {ps : List (Nat × z_av)} {e : Nat}, z_pget ps e = none → z_nin e (ps.map fun p => p.1) = false
  | [], _, _ => rfl
  | q :: r, e, h => by
    unfold z_pget at h
    show (bif Nat.beq e q.1 then true else z_nin e (r.map fun p => p.1)) = false
    cases hb : Nat.beq q.1 e with
    | true => rw [hb] at h; cases h
    | false =>
      rw [hb] at h
      have hb2 : Nat.beq e q.1 = false := by
        cases hx : Nat.beq e q.1 with
        | false => rfl
        | true =>
          have := Nat.eq_of_beq_eq_true hx
          subst this
          rw [Nat.beq_refl] at hb
          cases hb
      rw [hb2]
      exact z_pget_nin (ps := r) h
def z_sets (bd : z_bd) (iv : Nat → Option (Int × Int)) (n : Nat) (ps : List (Nat × z_av)) : Nat → List z_av → List z_av
  | _, [] => []
  | k, t :: ts => (match z_pget ps k with
    | some v => z_subv bd iv n v
    | none => t) :: z_sets bd iv n ps (k + 1) ts
theorem z_sets_ok {bd : z_bd} {iv : Nat → Option (Int × Int)} {N : List Int} {m : Nat} {al al' : Nat → Option Nat} {ps : List (Nat × z_av)} (hiv : z_ivo N bd iv) (hle : z_le N N al al') : ∀ {ts : List z_av} {k : Nat} {vs ws : List Value}, z_all2 (z_gv N al) ts vs → ws.length = vs.length →
    (∀ i w, ws[i]? = some w → (z_pget ps (k + i) = none → vs[i]? = some w) ∧ ∀ v, z_pget ps (k + i) = some v → z_gv (z_bN N bd m) al' v w) → z_all2 (z_gv N al') (z_sets bd iv N.length ps k ts) ws
  | [], _, [], [], _, _, _ => trivial
  | t :: ts, k, v :: vs, w :: ws, ⟨h1, h2⟩, hl, h => by
    refine ⟨?_, z_sets_ok (m := m) hiv hle h2 (by simpa using hl) fun i w hi => ?_⟩
    · have h0 := h 0 w rfl
      show z_gv N al' (match z_pget ps k with | some v => z_subv bd iv N.length v | none => t) w
      split
      · rename_i v' hv
        exact z_subv_gv hiv (h0.2 v' hv)
      · rename_i hv
        have := h0.1 hv
        cases this
        exact h1.mono hle
    · have := h (i + 1) w (by simpa using hi)
      rw [show k + (i + 1) = k + 1 + i by omega] at this
      exact ⟨fun q => by simpa using this.1 q, this.2⟩
  | [], _, [], _ :: _, _, hl, _ => by simp at hl
  | [], _, _ :: _, _, h, _, _ => h.elim
  | _ :: _, _, [], _, h, _, _ => h.elim
  | _ :: _, _, _ :: _, [], _, hl, _ => by simp at hl
def z_ptc (bd : z_bd) (iv : Nat → Option (Int × Int)) (n : Nat) : z_Pt → List z_ac_ → Option (List z_ac_)
  | [], H => some H
  | (c, .inl A') :: r, H => match H[c]?, z_xget r c with
    | some A, none => bif A.2.1.2 then z_ptc bd iv n r (H.set c (z_subc bd iv n A')) else none
    | _, _ => none
  | (c, .inr ps) :: r, H => match H[c]?, z_xget r c with
    | some A, none => bif A.2.1.2 && A.2.2.1.isNone then z_ptc bd iv n r (H.set c (A.1, A.2.1, none, z_sets bd iv n ps 0 A.2.2.2)) else none
    | _, _ => none
theorem z_ptc_ok {bd : z_bd} {iv : Nat → Option (Int × Int)} {n : Nat} : ∀ {X : z_Pt} {H R : List z_ac_}, z_ptc bd iv n X H = some R → ∀ {c : Nat} {A : z_ac_}, H[c]? = some A → ∃ A2, R[c]? = some A2 ∧ (match z_xget X c with
    | none => A2 = A
    | some (.inl A') => A2 = z_subc bd iv n A' ∧ A.2.1.2 = true
    | some (.inr ps) => A2 = (A.1, A.2.1, none, z_sets bd iv n ps 0 A.2.2.2) ∧ A.2.1.2 = true ∧ A.2.2.1 = none)
  | [], H, R, h, c, A, hA => by cases h; exact ⟨A, hA, rfl⟩
  | (c0, .inl A') :: r, H, R, h, c, A, hA => by
    unfold z_ptc at h
    split at h
    · rename_i A0 hA0 hx
      cases hb : A0.2.1.2 with
      | false => rw [hb] at h; cases h
      | true =>
        rw [hb] at h
        have h : z_ptc bd iv n r (H.set c0 (z_subc bd iv n A')) = some R := h
        show ∃ A2, R[c]? = some A2 ∧ (match (bif Nat.beq c0 c then some (Sum.inl A') else z_xget r c) with | none => _ | some (.inl A') => _ | some (.inr ps) => _)
        cases hc : Nat.beq c0 c with
        | true =>
          have hc := Nat.eq_of_beq_eq_true hc
          subst hc
          cases hA0.symm.trans hA
          obtain ⟨A2, g1, g2⟩ := z_ptc_ok h (c := c0) (A := z_subc bd iv n A') (by rw [List.getElem?_set_self (List.getElem?_eq_some_iff.mp hA).1])
          rw [hx] at g2
          exact ⟨A2, g1, g2, hb⟩
        | false =>
          have hne : c0 ≠ c := fun q => by rw [q, Nat.beq_refl] at hc; cases hc
          exact z_ptc_ok h (by rw [List.getElem?_set_ne hne]; exact hA)
    · cases h
  | (c0, .inr ps) :: r, H, R, h, c, A, hA => by
    unfold z_ptc at h
    split at h
    · rename_i A0 hA0 hx
      cases hb : (A0.2.1.2 && A0.2.2.1.isNone) with
      | false => rw [hb] at h; cases h
      | true =>
        rw [hb] at h
        have h : z_ptc bd iv n r (H.set c0 (A0.1, A0.2.1, none, z_sets bd iv n ps 0 A0.2.2.2)) = some R := h
        rw [Bool.and_eq_true, Option.isNone_iff_eq_none] at hb
        show ∃ A2, R[c]? = some A2 ∧ (match (bif Nat.beq c0 c then some (Sum.inr ps) else z_xget r c) with | none => _ | some (.inl A') => _ | some (.inr ps) => _)
        cases hc : Nat.beq c0 c with
        | true =>
          have hc := Nat.eq_of_beq_eq_true hc
          subst hc
          cases hA0.symm.trans hA
          obtain ⟨A2, g1, g2⟩ := z_ptc_ok h (c := c0) (A := (A.1, A.2.1, none, z_sets bd iv n ps 0 A.2.2.2)) (by rw [List.getElem?_set_self (List.getElem?_eq_some_iff.mp hA).1])
          rw [hx] at g2
          exact ⟨A2, g1, g2, hb⟩
        | false =>
          have hne : c0 ≠ c := fun q => by rw [q, Nat.beq_refl] at hc; cases hc
          exact z_ptc_ok h (by rw [List.getElem?_set_ne hne]; exact hA)
    · cases h
/-- the heap behind a call -/
theorem z_ptc_gh {strs : z_Ss} {bd : z_bd} {iv : Nat → Option (Int × Int)} {N : List Int} {m : Nat} {al al' : Nat → Option Nat} {X : z_Xe} {rv : Option Value} {H R : List z_ac_} {P P' : z_H} (hiv : z_ivo N bd iv) (h : z_ptc bd iv N.length X.2.1 H = some R) (hH : z_gh strs N al H P) (hp : z_post (z_bN N bd m) al P X rv P' al') (hcell : ∀ c A', z_xget X.2.1 c = some (.inl A') → c < H.length) : z_gh strs N al' R P' := by
  obtain ⟨p1, p2, p3, p4, p5, p6, p7⟩ := hp
  have hle : z_le N N al al' := ⟨⟨[], by simp⟩, p1⟩
  have hwall : ∀ c, z_wall (z_xW X.2.1) c = true → ∃ A', z_xget X.2.1 c = some (.inl A') := fun c hc => by
    unfold z_wall at hc
    rw [z_xW_get] at hc
    cases hx : z_xget X.2.1 c with
    | none => rw [hx] at hc; cases hc
    | some o =>
      rw [hx] at hc
      match o, hc with
      | .inl A', _ => exact ⟨A', rfl⟩
      | .inr ps, hc => cases hc
  have whole : ∀ a c A', al' a = some c → z_xget X.2.1 c = some (.inl A') → ∃ q A, z_lk strs P' a = some q ∧ R[c]? = some A ∧ z_gc N al' A q ∧ (A.2.1.1 = true → ∀ b, al' b = some c → b = a) ∧ (A.2.1.2 = true → a < z_far) := by
    intro a c A' hac hx
    obtain ⟨k1, ⟨q', k2, k3⟩, k4⟩ := p5 c A' hx a hac
    obtain ⟨A2, g1, g2⟩ := z_ptc_ok h (List.getElem?_eq_getElem (hcell c A' hx))
    rw [hx] at g2
    obtain ⟨g2, -⟩ := g2
    subst g2
    exact ⟨q', _, by unfold z_lk; rw [if_pos k1]; exact k2, g1, z_subc_gc hiv k3, k4, fun _ => k1⟩
  intro a c hac
  cases hx : z_xget X.2.1 c with
  | some o =>
    match o, hx with
    | .inl A', hx => exact whole a c A' hac hx
    | .inr ps, hx =>
      rcases p2 a c hac with hac0 | hw
      rotate_left
      · obtain ⟨A', hx'⟩ := hwall c hw
        rw [hx] at hx'
        cases hx'
      obtain ⟨q, A, e1, e2, e3, e4, e5⟩ := hH a c hac0
      obtain ⟨A2, g1, g2⟩ := z_ptc_ok h e2
      rw [hx] at g2
      obtain ⟨g2, g3, g4⟩ := g2
      subst g2
      have hfar := e5 g3
      obtain ⟨r, r', k1, k2, k3, k4, k5⟩ := p3 a c hac0 hfar
      obtain ⟨r2, k6, k7⟩ := p6 c ps hx a hac
      cases k2.symm.trans k6
      unfold z_lk at e1
      rw [if_pos hfar] at e1
      cases k1.symm.trans e1
      obtain ⟨e6, e7⟩ := e3
      rw [g4] at e7
      refine ⟨r', _, by unfold z_lk; rw [if_pos hfar]; exact k2, g1, ⟨e6.trans k3.symm, ?_⟩, fun hs b hb => ?_, fun _ => hfar⟩
      · show z_all2 (z_gv N al') (z_sets bd iv N.length ps 0 A.2.2.2) r'.2
        refine z_sets_ok (m := m) hiv hle e7 k4 fun i w hi => ⟨fun hn => ?_, fun v hv => ?_⟩
        · rw [Nat.zero_add] at hn
          rw [← k5 i]
          · exact hi
          · unfold z_win
            rw [z_xW_get, hx]
            exact z_pget_nin hn
        · rw [Nat.zero_add] at hv
          obtain ⟨w', g5, g6⟩ := k7 i v (z_pget_mem hv)
          cases hi.symm.trans g5
          exact g6
      · rcases p2 b c hb with hb0 | hw
        · exact e4 hs b hb0
        · obtain ⟨A', hx'⟩ := hwall c hw
          rw [hx] at hx'
          cases hx'
  | none =>
    rcases p2 a c hac with hac0 | hw
    rotate_left
    · obtain ⟨A', hx'⟩ := hwall c hw
      rw [hx] at hx'
      cases hx'
    obtain ⟨q, A, e1, e2, e3, e4, e5⟩ := hH a c hac0
    obtain ⟨A2, g1, g2⟩ := z_ptc_ok h e2
    rw [hx] at g2
    have g2 : A2 = A := g2
    subst g2
    refine ⟨q, A2, ?_, g1, e3.mono hle, fun hs b hb => ?_, e5⟩
    · unfold z_lk at e1 ⊢
      split
      · rename_i hlt
        rw [if_pos hlt] at e1
        obtain ⟨r, r', k1, k2, k3, k4, k5⟩ := p3 a c hac0 hlt
        cases k1.symm.trans e1
        have : r' = q := by
          refine Prod.ext k3 (List.ext_getElem? fun e => k5 e ?_)
          unfold z_win
          rw [z_xW_get, hx]
          rfl
        rw [← this]
        exact k2
      · rename_i hlt
        rw [if_neg hlt] at e1
        exact e1
    · rcases p2 b c hb with hb0 | hw
      · exact e4 hs b hb0
      · obtain ⟨A', hx'⟩ := hwall c hw
        rw [hx] at hx'
        cases hx'
end ZCON
