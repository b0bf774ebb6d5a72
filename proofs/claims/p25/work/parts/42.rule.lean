/-! What a walk with contracts keeps; rules that change the state alone: naming, parting. -/
section ZRUL
variable {strs : z_Ss} {N : List Int} {al : Nat → Option Nat}
/-- the first identities are those of old, the cells of old too, nothing else was written, J holds, the cells made are told -/
def z_Iv (J : (Nat → Option Nat) → z_H → Prop) (W : z_Ws) (w0 : List Int) (g : Nat) (al0 : Nat → Option Nat) (P0 : z_H) (B0 : Nat) (N : List Int) (al : Nat → Option Nat) (P : z_H) (B : Nat) : Prop :=
  g ≤ N.length ∧ (∀ k, 1 ≤ k → k < g → N[k]? = w0[k]?) ∧ (∀ a c, al0 a = some c → al a = some c) ∧ (∀ a c, al a = some c → al0 a = some c ∨ z_wall W c = true) ∧ z_same W al0 P0 P ∧ J al P ∧ P.length + B0 ≤ P0.length + B
/-- J hangs on nothing that may be written -/
def z_Jok (J : (Nat → Option Nat) → z_H → Prop) (W : z_Ws) : Prop := ∀ {al al' : Nat → Option Nat} {P P' : z_H}, (∀ a c, al a = some c → al' a = some c) → (∀ a c, al' a = some c → al a = some c ∨ z_wall W c = true) → z_same W al P P' → J al P → J al' P'
theorem z_Iv_st {J : (Nat → Option Nat) → z_H → Prop} {W D : z_Ws} {w0 : List Int} {g : Nat} {al0 : Nat → Option Nat} {P0 : z_H} {B0 : Nat} (hJ : z_Jok J D) (hD : z_wsub D W = true) {N X : List Int} {al al' : Nat → Option Nat} {P P' : z_H} {B B' : Nat} (h : z_Iv J W w0 g al0 P0 B0 N al P B) (h1 : ∀ a c, al a = some c → al' a = some c) (h2 : ∀ a c, al' a = some c → al a = some c ∨ z_wall D c = true) (h3 : z_same D al P P') (h4 : P'.length + B ≤ P.length + B') : z_Iv J W w0 g al0 P0 B0 (N ++ X) al' P' B' := by
  obtain ⟨i1, i2, i3, i4, i5, i6, i7⟩ := h
  refine ⟨by rw [List.length_append]; omega, fun k k1 k2 => ?_, fun a c hac => h1 a c (i3 a c hac), fun a c hac => ?_, z_same_tr i5 (z_same_al i3 (z_same_sub hD h3)), hJ h1 h2 h3 i6, by omega⟩
  · rw [List.getElem?_append_left (by omega)]
    exact i2 k k1 k2
  · rcases h2 a c hac with h | h
    · exact i4 a c h
    · exact Or.inr (z_wsub_all hD h)
theorem z_Iv_N {J : (Nat → Option Nat) → z_H → Prop} {W : z_Ws} {w0 : List Int} {g : Nat} {al0 : Nat → Option Nat} {P0 : z_H} {B0 : Nat} {N X : List Int} {P : z_H} {B : Nat} (h : z_Iv J W w0 g al0 P0 B0 N al P B) : z_Iv J W w0 g al0 P0 B0 (N ++ X) al P B := by
  obtain ⟨i1, i2, i3⟩ := h
  refine ⟨by rw [List.length_append]; omega, fun k k1 k2 => ?_, i3⟩
  rw [List.getElem?_append_left (by omega)]
  exact i2 k k1 k2
/-- a number that wants a name: none, or not an exact one -/
def z_unm (t : z_tk) : Bool := !(z_lo t == z_hi t) && (Nat.beq t.1 0 || !(t.2.1 == t.2.2.1))
def z_nmt (n : Nat) (t : z_tk) : z_tk := (n, 0, 0, z_lo t, z_hi t)
def z_nmf (n : Nat) (t : z_tk) (F : List (Nat × Nat × Int)) : List (Nat × Nat × Int) := bif Nat.beq t.1 0 then [] else (t.1, n, t.2.1) :: (n, t.1, -t.2.2.1) :: F.filterMap fun q => bif Nat.beq q.2.1 t.1 then some (q.1, n, q.2.2 + t.2.1) else none
theorem z_nmt_ok {t : z_tk} {v : Int} (h : z_gi N t v) : z_gi (N ++ [v]) (z_nmt N.length t) v := ⟨h.1, h.2.1, Or.inr ⟨v, by show (N ++ [v])[N.length]? = some v; simp, by show v + 0 ≤ v; omega, by show v ≤ v + 0; omega⟩⟩
theorem z_nmf_ok {t : z_tk} {v : Int} {F : List (Nat × Nat × Int)} (hF : z_gx N F) (h : z_gi N t v) : z_gx (N ++ [v]) (z_nmf N.length t F) := by
  unfold z_nmf
  cases hb : Nat.beq t.1 0 with
  | true => exact fun q hq => by cases hq
  | false =>
    obtain ⟨-, -, h3 | ⟨w, e, h4, h5⟩⟩ := h
    · rw [h3] at hb
      cases hb
    · have e1 : (N ++ [v])[t.1]? = some w := by
        rw [List.getElem?_append_left (List.getElem?_eq_some_iff.mp e).1]
        exact e
      have e2 : (N ++ [v])[N.length]? = some v := by simp
      intro q hq
      have hq : q ∈ (t.1, N.length, t.2.1) :: (N.length, t.1, -t.2.2.1) :: F.filterMap (fun q => bif Nat.beq q.2.1 t.1 then some (q.1, N.length, q.2.2 + t.2.1) else none) := hq
      rcases List.mem_cons.mp hq with hq | hq
      · subst hq
        exact ⟨w, v, e1, e2, h4⟩
      rcases List.mem_cons.mp hq with hq | hq
      · subst hq
        exact ⟨v, w, e2, e1, by show v + -t.2.2.1 ≤ w; omega⟩
      · obtain ⟨p, hp, hpq⟩ := List.mem_filterMap.mp hq
        obtain ⟨a, b, g1, g2, g3⟩ := hF p hp
        cases hc : Nat.beq p.2.1 t.1 with
        | false => rw [hc] at hpq; cases hpq
        | true =>
          rw [hc] at hpq
          have hpq : some (p.1, N.length, p.2.2 + t.2.1) = some q := hpq
          cases hpq
          rw [Nat.eq_of_beq_eq_true hc, e] at g2
          cases g2
          exact ⟨a, v, by rw [List.getElem?_append_left (List.getElem?_eq_some_iff.mp g1).1]; exact g1, e2, by show a + (p.2.2 + t.2.1) ≤ v; omega⟩
/-- a local put anew, where there is one -/
def z_lset (L : List (Nat × z_av)) (i : Nat) (v : z_av) : List (Nat × z_av) := L.map fun q => if q.1 == i then (q.1, v) else q
theorem z_lset_get : ∀ {L : List (Nat × z_av)} {i j : Nat} {v u : z_av}, z_aget (z_lset L i v) j = some u → (j = i ∧ u = v ∧ ∃ w, z_aget L i = some w) ∨ z_aget L j = some u ∧ j ≠ i
  | [], _, _, _, _, h => by cases h
  | q :: r, i, j, v, u, h => by
    have h : (if (if q.1 == i then (q.1, v) else q).1 == j then some (if q.1 == i then (q.1, v) else q).2 else z_aget (z_lset r i v) j) = some u := h
    have hq1 : (if q.1 == i then (q.1, v) else q).1 = q.1 := by split <;> rfl
    rw [hq1] at h
    by_cases hj : q.1 = j
    · rw [if_pos (by simpa using hj)] at h
      by_cases hi : q.1 = i
      · rw [if_pos (by simpa using hi)] at h
        cases h
        exact Or.inl ⟨hj.symm.trans hi, rfl, q.2, by unfold z_aget; rw [if_pos (by simpa using hi)]⟩
      · rw [if_neg (by simpa using hi)] at h
        cases h
        exact Or.inr ⟨by unfold z_aget; rw [if_pos (by simpa using hj)], fun e => hi (hj.trans e)⟩
    · rw [if_neg (by simpa using hj)] at h
      rcases z_lset_get h with ⟨h1, h2, w, h3⟩ | ⟨h1, h2⟩
      · refine Or.inl ⟨h1, h2, w, ?_⟩
        unfold z_aget
        rw [if_neg (by rw [← h1]; simpa using hj)]
        exact h3
      · exact Or.inr ⟨by unfold z_aget; rw [if_neg (by simpa using hj)]; exact h1, h2⟩
theorem z_lset_gl {N' : List Int} {al' : Nat → Option Nat} {L : List (Nat × z_av)} {l : z_L} {i : Nat} {v t : z_av} (hL : z_gl N al L l) (ht : z_aget L i = some t) (hle : z_le N N' al al') (hv : ∀ w, z_get l i = some w → z_gv N al t w → z_gv N' al' v w) : z_gl N' al' (z_lset L i v) l := by
  intro j u hu
  rcases z_lset_get hu with ⟨h1, h2, -⟩ | ⟨h1, -⟩
  · subst h1
    subst h2
    obtain ⟨w, g1, g2⟩ := hL _ _ ht
    exact ⟨w, g1, hv w g1 g2⟩
  · obtain ⟨w, g1, g2⟩ := hL _ _ h1
    exact ⟨w, g1, g2.mono hle⟩
/-- the state with the local i put anew -/
def z_slo (S : z_as_) (i : Nat) (v : z_av) : z_as_ := ((S.1.1, S.1.2.1, z_lset S.1.2.2.1 i v, S.1.2.2.2), S.2)
/-- name a local -/
def z_nml (S : z_as_) (i : Nat) : Option z_as_ := match z_aget S.1.2.2.1 i with
  | some (.inl t) => bif z_unm t then some ((S.1.1, S.1.2.1, z_lset S.1.2.2.1 i (.inl (z_nmt S.2.2.2.1 t)), S.1.2.2.2), S.2.1, S.2.2.1, S.2.2.2.1 + 1, z_nmf S.2.2.2.1 t S.2.2.2.2.1 ++ S.2.2.2.2.1, S.2.2.2.2.2) else none
  | some (.inr (.inl t)) => bif z_unm t then some ((S.1.1, S.1.2.1, z_lset S.1.2.2.1 i (.inr (.inl (z_nmt S.2.2.2.1 t))), S.1.2.2.2), S.2.1, S.2.2.1, S.2.2.2.1 + 1, z_nmf S.2.2.2.1 t S.2.2.2.2.1 ++ S.2.2.2.2.1, S.2.2.2.2.2) else none
  | _ => none
theorem z_gx_app' {X Y : List (Nat × Nat × Int)} (h1 : z_gx N X) (h2 : z_gx N Y) : z_gx N (X ++ Y) := fun q hq => by
  rcases List.mem_append.mp hq with hq | hq
  · exact h1 q hq
  · exact h2 q hq
theorem z_nml_ok {S S' : z_as_} {i : Nat} {f : z_Fr} {rest : List z_Fr} {P : z_H} (h : z_nml S i = some S') (hS : z_gs strs N al S f rest P) : (∃ v, z_gs strs (N ++ [v]) al S' f rest P) ∧ S'.2.2.2.2.2 = S.2.2.2.2.2 := by
  have key : ∀ (k : z_tk → z_av) (t : z_tk), z_aget S.1.2.2.1 i = some (k t) → (∀ w, z_gv N al (k t) w → ∃ v : Int, z_gi N t v ∧ ∀ t', z_gi (N ++ [v]) t' v → z_gv (N ++ [v]) al (k t') w) → ∃ v, z_gs strs (N ++ [v]) al ((S.1.1, S.1.2.1, z_lset S.1.2.2.1 i (k (z_nmt S.2.2.2.1 t)), S.1.2.2.2), S.2.1, S.2.2.1, S.2.2.2.1 + 1, z_nmf S.2.2.2.1 t S.2.2.2.2.1 ++ S.2.2.2.2.1, S.2.2.2.2.2) f rest P := by
    intro k t hk hv
    obtain ⟨w, g1, g2⟩ := hS.1.2.2.1 i _ hk
    obtain ⟨v, g3, g4⟩ := hv w g2
    obtain ⟨m1, m2, m3, m4, m5⟩ := hS.mono (X := [v])
    have hlen := hS.2.2.2.1
    refine ⟨v, ⟨m1.1, m1.2.1, z_lset_gl hS.1.2.2.1 hk ⟨⟨[v], rfl⟩, fun _ _ q => q⟩ fun w' h1 _ => ?_, m1.2.2.2⟩, m2, m3, by show S.2.2.2.1 + 1 = _; rw [hlen]; simp, z_gx_app' ?_ m4, m5⟩
    · cases g1.symm.trans h1
      rw [hlen]
      exact g4 _ (z_nmt_ok g3)
    · show z_gx (N ++ [v]) (z_nmf S.2.2.2.1 t S.2.2.2.2.1)
      rw [hlen]
      exact z_nmf_ok hS.2.2.2.2.1 g3
  unfold z_nml at h
  split at h
  · rename_i t ht
    cases hu : z_unm t with
    | false => rw [hu] at h; cases h
    | true =>
      rw [hu] at h
      cases h
      exact ⟨key .inl t ht fun w ⟨x, e, hx⟩ => ⟨_, hx, fun t' h' => ⟨x, e, h'⟩⟩, rfl⟩
  · rename_i t ht
    cases hu : z_unm t with
    | false => rw [hu] at h; cases h
    | true =>
      rw [hu] at h
      cases h
      exact ⟨key (fun t => .inr (.inl t)) t ht fun w ⟨x, e, hx⟩ => ⟨_, hx, fun t' h' => ⟨x, e, h'⟩⟩, rfl⟩
  · cases h
/-- name all locals that want it -/
def z_nma : List Nat → z_as_ → z_as_
  | [], S => S
  | i :: r, S => match z_nml S i with
    | some S' => z_nma r S'
    | none => z_nma r S
theorem z_nma_ok : ∀ {is : List Nat} {S : z_as_} {N : List Int} {f : z_Fr} {rest : List z_Fr} {P : z_H}, z_gs strs N al S f rest P → (∃ X, z_gs strs (N ++ X) al (z_nma is S) f rest P) ∧ (z_nma is S).2.2.2.2.2 = S.2.2.2.2.2
  | [], S, N, f, rest, P, h => ⟨⟨[], by rw [List.append_nil]; exact h⟩, rfl⟩
  | i :: r, S, N, f, rest, P, h => by
    unfold z_nma
    split
    · rename_i S' hS'
      obtain ⟨⟨v, h1⟩, h2⟩ := z_nml_ok hS' h
      obtain ⟨⟨X, h3⟩, h4⟩ := z_nma_ok (is := r) h1
      exact ⟨⟨[v] ++ X, by rw [← List.append_assoc]; exact h3⟩, h4.trans h2⟩
    · exact z_nma_ok h
/-- part a local: null or not, one cell or the other -/
def z_sg (AH : List z_ac_) (c : Nat) : Bool := match AH[c]? with
  | some A => A.2.1.1
  | none => false
def z_spm (mu : Bool) (S : z_as_) (i : Nat) (cs : List Nat) : Option (List z_as_) := bif mu && (Nat.ble 2 cs.length && cs.all (z_sg S.2.2.1)) then some (cs.map fun c => z_slo S i (.inr (.inr (false, [c])))) else none
def z_spl (mu : Bool) (S : z_as_) (i : Nat) : Option (List z_as_) := match z_aget S.1.2.2.1 i with
  | some (.inr (.inr (nl, cs))) => bif nl && !cs.isEmpty then some [z_slo S i (.inr (.inr (true, []))), z_slo S i (.inr (.inr (false, cs)))] else z_spm mu S i cs
  | _ => none
theorem z_slo_gs {S : z_as_} {i : Nat} {t v : z_av} {w : Value} {f : z_Fr} {rest : List z_Fr} {P : z_H} (hS : z_gs strs N al S f rest P) (ht : z_aget S.1.2.2.1 i = some t) (hw : z_get f.2.2.1 i = some w) (hv : z_gv N al v w) : z_gs strs N al (z_slo S i v) f rest P := by
  obtain ⟨⟨a1, a2, a3, a4⟩, b⟩ := hS
  exact ⟨⟨a1, a2, z_lset_gl a3 ht z_le.rf fun w' h1 _ => by cases hw.symm.trans h1; exact hv, a4⟩, b⟩
theorem z_spl_ok {mu : Bool} {S : z_as_} {i : Nat} {Ss : List z_as_} {f : z_Fr} {rest : List z_Fr} {P : z_H} (h : z_spl mu S i = some Ss) (hS : z_gs strs N al S f rest P) : ∃ S' ∈ Ss, z_gs strs N al S' f rest P ∧ S'.2.2.2.2.2 = S.2.2.2.2.2 := by
  unfold z_spl at h
  split at h
  · rename_i nl cs ht
    obtain ⟨w, g1, g2⟩ := hS.1.2.2.1 i _ ht
    cases hb : (nl && !cs.isEmpty) with
    | true =>
      rw [hb] at h
      cases h
      rcases g2 with ⟨e, -⟩ | ⟨a, c, e, k1, k2⟩
      · exact ⟨_, List.mem_cons_self, z_slo_gs hS ht g1 (Or.inl ⟨e, rfl⟩), rfl⟩
      · exact ⟨_, List.mem_cons_of_mem _ List.mem_cons_self, z_slo_gs hS ht g1 (Or.inr ⟨a, c, e, k1, k2⟩), rfl⟩
    | false =>
      rw [hb] at h
      have h : z_spm mu S i cs = some Ss := h
      unfold z_spm at h
      cases hc : (mu && (Nat.ble 2 cs.length && cs.all (z_sg S.2.2.1))) with
      | false => rw [hc] at h; cases h
      | true =>
        rw [hc] at h
        have h : some (cs.map fun c => z_slo S i (.inr (.inr (false, [c])))) = some Ss := h
        cases h
        rcases g2 with ⟨e, hn⟩ | ⟨a, c, e, k1, k2⟩
        · have hn : nl = true := hn
          subst hn
          rw [Bool.and_eq_true, Bool.and_eq_true] at hc
          have h2 := Nat.le_of_ble_eq_true hc.2.1
          cases cs with
          | nil => simp at h2
          | cons c1 cr => cases hb
        · exact ⟨_, List.mem_map.mpr ⟨c, k2, rfl⟩, z_slo_gs hS ht g1 (Or.inr ⟨a, c, e, k1, List.mem_singleton_self _⟩), rfl⟩
  · cases h
/-- name a place of a single cell that stands on the stack -/
def z_nmc (S : z_as_) (c e : Nat) : Option z_as_ := match S.2.2.1[c]? with
  | some A => bif A.2.1.1 && A.2.2.1.isNone then match A.2.2.2[e]? with
      | some (.inl t) => bif z_unm t then some (S.1, S.2.1, S.2.2.1.set c (A.1, A.2.1, none, A.2.2.2.set e (.inl (z_nmt S.2.2.2.1 t))), S.2.2.2.1 + 1, z_nmf S.2.2.2.1 t S.2.2.2.2.1 ++ S.2.2.2.2.1, S.2.2.2.2.2) else none
      | some (.inr (.inl t)) => bif z_unm t then some (S.1, S.2.1, S.2.2.1.set c (A.1, A.2.1, none, A.2.2.2.set e (.inr (.inl (z_nmt S.2.2.2.1 t)))), S.2.2.2.1 + 1, z_nmf S.2.2.2.1 t S.2.2.2.2.1 ++ S.2.2.2.2.1, S.2.2.2.2.2) else none
      | _ => none
    else none
  | none => none
theorem z_all2_set_l {α β : Type} {R : α → β → Prop} : ∀ {as : List α} {bs : List β} {i : Nat} {a : α}, z_all2 R as bs → (∀ b, bs[i]? = some b → R a b) → z_all2 R (as.set i a) bs
  | [], [], _, _, _, _ => trivial
  | _ :: _, _ :: _, 0, _, ⟨_, h2⟩, h => ⟨h _ rfl, h2⟩
  | _ :: _, _ :: _, i + 1, _, ⟨h1, h2⟩, h => ⟨h1, z_all2_set_l h2 fun b hb => h b (by simpa using hb)⟩
  | [], _ :: _, _, _, h, _ => h.elim
  | _ :: _, [], _, _, h, _ => h.elim
theorem z_nmc_ok {S S' : z_as_} {c e a : Nat} {f : z_Fr} {rest : List z_Fr} {P : z_H} (h : z_nmc S c e = some S') (ha : al a = some c) (hS : z_gs strs N al S f rest P) : (∃ v, z_gs strs (N ++ [v]) al S' f rest P) ∧ S'.2.2.2.2.2 = S.2.2.2.2.2 := by
  have hlen := hS.2.2.2.1
  have key : ∀ (A : z_ac_) (k : z_tk → z_av) (t : z_tk), S.2.2.1[c]? = some A → A.2.1.1 = true → A.2.2.1 = none → A.2.2.2[e]? = some (k t) → (∀ w, z_gv N al (k t) w → ∃ v : Int, z_gi N t v ∧ ∀ t', z_gi (N ++ [v]) t' v → z_gv (N ++ [v]) al (k t') w) → ∃ v, z_gs strs (N ++ [v]) al (S.1, S.2.1, S.2.2.1.set c (A.1, A.2.1, none, A.2.2.2.set e (k (z_nmt S.2.2.2.1 t))), S.2.2.2.1 + 1, z_nmf S.2.2.2.1 t S.2.2.2.2.1 ++ S.2.2.2.2.1, S.2.2.2.2.2) f rest P := by
    intro A k t hA hs hn he hv
    obtain ⟨q, A', e1, e2, ⟨e3, e4⟩, e5, e6⟩ := hS.2.2.1 a c ha
    cases hA.symm.trans e2
    rw [hn] at e4
    have e4 : z_all2 (z_gv N al) A.2.2.2 q.2 := e4
    obtain ⟨w, g1, g2⟩ := e4.get he
    obtain ⟨v, g3, g4⟩ := hv w g2
    obtain ⟨m1, m2, m3, m4, m5⟩ := hS.mono (X := [v])
    refine ⟨v, m1, m2, fun b d hb => ?_, by show S.2.2.2.1 + 1 = _; rw [hlen]; simp, z_gx_app' (by rw [hlen]; exact z_nmf_ok hS.2.2.2.2.1 g3) m4, m5⟩
    obtain ⟨q2, A2, k1, k2, k3, k4, k5⟩ := m3 b d hb
    by_cases hcd : d = c
    · subst hcd
      cases hA.symm.trans k2
      have hab : b = a := e5 hs b hb
      subst hab
      cases e1.symm.trans k1
      refine ⟨q, _, e1, List.getElem?_set_self (List.getElem?_eq_some_iff.mp hA).1, ⟨e3, ?_⟩, e5, e6⟩
      obtain ⟨-, k3⟩ := k3
      rw [hn] at k3
      have k3 : z_all2 (z_gv (N ++ [v]) al) A.2.2.2 q.2 := k3
      show z_all2 (z_gv (N ++ [v]) al) (A.2.2.2.set e (k (z_nmt S.2.2.2.1 t))) q.2
      refine z_all2_set_l k3 fun w' hw' => ?_
      cases g1.symm.trans hw'
      rw [hlen]
      exact g4 _ (z_nmt_ok g3)
    · exact ⟨q2, A2, k1, by rw [List.getElem?_set_ne (fun q => hcd q.symm)]; exact k2, k3, k4, k5⟩
  unfold z_nmc at h
  split at h
  · rename_i A hA
    cases hb : (A.2.1.1 && A.2.2.1.isNone) with
    | false => rw [hb] at h; cases h
    | true =>
      rw [hb] at h
      rw [Bool.and_eq_true, Option.isNone_iff_eq_none] at hb
      have h : (match A.2.2.2[e]? with | some (.inl t) => (bif z_unm t then _ else none) | some (.inr (.inl t)) => (bif z_unm t then _ else none) | _ => none) = some S' := h
      split at h
      · rename_i t ht
        cases hu : z_unm t with
        | false => rw [hu] at h; cases h
        | true =>
          rw [hu] at h
          cases h
          exact ⟨key A .inl t hA hb.1 hb.2 ht fun w ⟨x, e, hx⟩ => ⟨_, hx, fun t' h' => ⟨x, e, h'⟩⟩, rfl⟩
      · rename_i t ht
        cases hu : z_unm t with
        | false => rw [hu] at h; cases h
        | true =>
          rw [hu] at h
          cases h
          exact ⟨key A (fun t => .inr (.inl t)) t hA hb.1 hb.2 ht fun w ⟨x, e, hx⟩ => ⟨_, hx, fun t' h' => ⟨x, e, h'⟩⟩, rfl⟩
      · cases h
  · cases h
/-- what a walk is told: where references are parted, where a local is parted, where two locals are held against each other, places that a call wants named, gaps, cells for new objects -/
abbrev z_Tg : Type := (Nat → Bool) × (Nat → Nat → Option Nat) × (Nat → Nat → List (Nat × Nat × Int)) × (Nat → List (Nat × Nat)) × (Nat → Option (Int × Int)) × (Nat → Option Nat)
/-- part a local by its numbers -/
def z_sps (S : z_as_) (t : z_tk) : Nat → List z_as_
  | 0 => []
  | n + 1 => z_nar t (z_lo t + n, z_lo t + n) S :: z_sps S t n
theorem z_sps_ok {S : z_as_} {t : z_tk} {v : Int} {f : z_Fr} {rest : List z_Fr} {P : z_H} (ht : z_gi N t v) (hS : z_gs strs N al S f rest P) : ∀ {n : Nat}, v < z_lo t + n → ∃ S' ∈ z_sps S t n, z_gs strs N al S' f rest P
  | 0, h => by have := ht.1; omega
  | n + 1, h => by
    by_cases hv : v = z_lo t + n
    · exact ⟨_, List.mem_cons_self, z_nar_gs ht (by show z_lo t + n ≤ v; omega) (by show v ≤ z_lo t + n; omega) hS⟩
    · obtain ⟨S', h1, h2⟩ := z_sps_ok ht hS (n := n) (by omega)
      exact ⟨S', List.mem_cons_of_mem _ h1, h2⟩
theorem z_sps_B {S S' : z_as_} {t : z_tk} : ∀ {n : Nat}, S' ∈ z_sps S t n → S'.2.2.2.2.2 = S.2.2.2.2.2
  | 0, h => by cases h
  | n + 1, h => by
    rcases List.mem_cons.mp h with h | h
    · subst h
      unfold z_nar z_cls_
      split <;> rfl
    · exact z_sps_B h
def z_spn (S : z_as_) (i : Nat) : Option (List z_as_) := match z_nml S i with
  | some S' => some [S']
  | none => match z_aget S.1.2.2.1 i with
    | some (.inl t) => bif z_ile (z_lo t) (z_hi t) && (!z_ile (z_hi t) (z_lo t) && z_ile (z_hi t) (z_lo t + 20)) then some (z_sps S t (z_hi t - z_lo t + 1).toNat) else none
    | _ => none
/-- one local holds another down -/
def z_hn1 (S : z_as_) (q : Nat × Nat × Int) : Option z_as_ := match z_aget S.1.2.2.1 q.1, z_aget S.1.2.2.1 q.2.1 with
  | some (.inl x), some (.inl y) => bif z_ge S.2.2.2.2.1 x y q.2.2 && !z_ile (z_hi x) (z_hi y - q.2.2) then some (z_nar x (z_lo x, z_hi y - q.2.2) S) else none
  | _, _ => none
def z_hnl (S : z_as_) : List (Nat × Nat × Int) → Option (List z_as_)
  | [] => none
  | q :: r => match z_hn1 S q with
    | some S' => some [S']
    | none => z_hnl S r
/-- name the places that a call wants named -/
def z_ngh (S : z_as_) : List (Nat × Nat) → Option (List z_as_)
  | [] => none
  | q :: r => match z_aget S.1.2.2.1 0 with
    | some (.inr (.inr (false, [c]))) => bif Nat.beq c q.1 then (match z_nmc S q.1 q.2 with
      | some S' => some [S']
      | none => z_ngh S r) else z_ngh S r
    | _ => z_ngh S r
/-- the rules ahead of an instruction -/
def z_pri (T : z_Tg) (fld : Nat → Option (Nat × Nat)) (y : Option Nat) (x : Nat) (S : z_as_) : Instr → Option (List z_as_)
  | .aload i => z_spl (T.1 x) S i
  | .aload_n i => z_spl (T.1 x) S i
  | .iload i => (z_nml S i).map fun S' => [S']
  | .iload_n i => (z_nml S i).map fun S' => [S']
  | .iinc i _ => (z_nml S i).map fun S' => [S']
  | .lload i => (z_nml S i).map fun S' => [S']
  | .lload_n i => (z_nml S i).map fun S' => [S']
  | .invokevirtual _ => match y with
    | some y => z_ngh S (T.2.2.2.1 y)
    | none => none
  | .iaload => match S.1.2.2.2.1 with
    | .inl i :: .inr (.inr (false, [c])) :: _ => bif z_ile (z_hi i) (z_lo i) && z_ile 0 (z_lo i) then (z_nmc S c (z_lo i).toNat).map fun S' => [S'] else none
    | _ => none
  | .laload => match S.1.2.2.2.1 with
    | .inl i :: .inr (.inr (false, [c])) :: _ => bif z_ile (z_hi i) (z_lo i) && z_ile 0 (z_lo i) then (z_nmc S c (z_lo i).toNat).map fun S' => [S'] else none
    | _ => none
  | .getfield n => match fld n, S.1.2.2.2.1 with
    | some f, .inr (.inr (false, [c])) :: _ => (z_nmc S c f.2).map fun S' => [S']
    | _, _ => none
  | _ => none
def z_pre (T : z_Tg) (fld : Nat → Option (Nat × Nat)) (y : Option Nat) (x pc : Nat) (S : z_as_) (ins : Instr) : Option (List z_as_) := match (match T.2.1 x pc with | some i => z_spn S i | none => none) with
  | some Ss => some Ss
  | none => match z_hnl S (T.2.2.1 x pc) with
    | some Ss => some Ss
    | none => z_pri T fld y x S ins
theorem z_pre_ok {T : z_Tg} {fld : Nat → Option (Nat × Nat)} {y : Option Nat} {x pc : Nat} {S : z_as_} {ins : Instr} {Ss : List z_as_} {f : z_Fr} {rest : List z_Fr} {P : z_H} (h : z_pre T fld y x pc S ins = some Ss) (hS : z_gs strs N al S f rest P) : ∃ S' ∈ Ss, (∃ X, z_gs strs (N ++ X) al S' f rest P) ∧ S'.2.2.2.2.2 = S.2.2.2.2.2 := by
  have h0 : ∀ {S'}, z_gs strs N al S' f rest P → ∃ X, z_gs strs (N ++ X) al S' f rest P := fun h2 => ⟨[], by simpa using h2⟩
  have hnm : ∀ i, ((z_nml S i).map fun S' => [S']) = some Ss → ∃ S' ∈ Ss, (∃ X, z_gs strs (N ++ X) al S' f rest P) ∧ S'.2.2.2.2.2 = S.2.2.2.2.2 := fun i h => by
    obtain ⟨S', h1, h2⟩ := z_map_some h
    subst h2
    obtain ⟨⟨v, h3⟩, h4⟩ := z_nml_ok h1 hS
    exact ⟨S', List.mem_singleton_self _, ⟨[v], h3⟩, h4⟩
  unfold z_pre at h
  split at h
  · rename_i Ss' hs
    cases h
    split at hs
    · rename_i i hi
      unfold z_spn at hs
      split at hs
      · rename_i S' hS'
        cases hs
        obtain ⟨⟨v, h3⟩, h4⟩ := z_nml_ok hS' hS
        exact ⟨S', List.mem_singleton_self _, ⟨[v], h3⟩, h4⟩
      · split at hs
        · rename_i t ht
          cases hc : (z_ile (z_lo t) (z_hi t) && (!z_ile (z_hi t) (z_lo t) && z_ile (z_hi t) (z_lo t + 20))) with
          | false => rw [hc] at hs; cases hs
          | true =>
            rw [hc] at hs
            cases hs
            obtain ⟨w, g1, a, g2, g3⟩ := hS.1.2.2.1 _ _ ht
            obtain ⟨S', k1, k2⟩ := z_sps_ok g3 hS (n := (z_hi t - z_lo t + 1).toNat) (by have := g3.1; have := g3.2.1; omega)
            exact ⟨S', k1, h0 k2, z_sps_B k1⟩
        · cases hs
    · cases hs
  split at h
  · rename_i Ss' hs
    cases h
    have key : ∀ {l : List (Nat × Nat × Int)}, z_hnl S l = some Ss → ∃ S' ∈ Ss, (∃ X, z_gs strs (N ++ X) al S' f rest P) ∧ S'.2.2.2.2.2 = S.2.2.2.2.2 := by
      intro l
      induction l with
      | nil => intro h; cases h
      | cons q r ih =>
        intro h
        unfold z_hnl at h
        split at h
        · rename_i S' hS'
          cases h
          unfold z_hn1 at hS'
          split at hS'
          · rename_i x y hx hy
            cases hc : (z_ge S.2.2.2.2.1 x y q.2.2 && !z_ile (z_hi x) (z_hi y - q.2.2)) with
            | false => rw [hc] at hS'; cases hS'
            | true =>
              rw [hc] at hS'
              cases hS'
              rw [Bool.and_eq_true] at hc
              obtain ⟨w, -, a, -, g3⟩ := hS.1.2.2.1 _ _ hx
              obtain ⟨w', -, b, -, k3⟩ := hS.1.2.2.1 _ _ hy
              have hle := z_ge_use hS.2.2.2.2.1 hc.1 g3 k3
              refine ⟨_, List.mem_singleton_self _, h0 (z_nar_gs g3 g3.1 (by have := k3.2.1; show a.toInt ≤ z_hi y - q.2.2; omega) hS), ?_⟩
              unfold z_nar z_cls_
              split <;> rfl
          · cases hS'
        · exact ih h
    exact key hs
  unfold z_pri at h
  have nmi : ∀ {i : z_tk} {c : Nat} {r : List z_av} {st : List z_av}, st = .inl i :: .inr (.inr (false, [c])) :: r → S.1.2.2.2.1 = st → (bif z_ile (z_hi i) (z_lo i) && z_ile 0 (z_lo i) then (z_nmc S c (z_lo i).toNat).map fun S' => [S'] else none) = some Ss → ∃ S' ∈ Ss, (∃ X, z_gs strs (N ++ X) al S' f rest P) ∧ S'.2.2.2.2.2 = S.2.2.2.2.2 := by
    intro i c r st hst0 hst h
    subst hst0
    cases hc : (z_ile (z_hi i) (z_lo i) && z_ile 0 (z_lo i)) with
    | false => rw [hc] at h; cases h
    | true =>
      rw [hc] at h
      obtain ⟨S', h1, h2⟩ := z_map_some h
      subst h2
      have h4 := hS.1.2.2.2.1
      rw [hst] at h4
      generalize f.2.2.2.1 = vs at h4
      match vs, h4 with
      | _ :: _ :: _, ⟨_, Or.inl ⟨_, hb⟩, _⟩ => cases hb
      | _ :: _ :: _, ⟨_, Or.inr ⟨a, c', _, ha, hc⟩, _⟩ =>
        have hc : c' = c := by simpa using hc
        subst hc
        obtain ⟨⟨v, h3⟩, h5⟩ := z_nmc_ok h1 ha hS
        exact ⟨S', List.mem_singleton_self _, ⟨[v], h3⟩, h5⟩
  have hsp : ∀ {mu i}, z_spl mu S i = some Ss → ∃ S' ∈ Ss, (∃ X, z_gs strs (N ++ X) al S' f rest P) ∧ S'.2.2.2.2.2 = S.2.2.2.2.2 := fun h => by
    obtain ⟨S', h1, h2, h3⟩ := z_spl_ok h hS
    exact ⟨S', h1, h0 h2, h3⟩
  have hng : ∀ {l : List (Nat × Nat)}, z_ngh S l = some Ss → ∃ S' ∈ Ss, (∃ X, z_gs strs (N ++ X) al S' f rest P) ∧ S'.2.2.2.2.2 = S.2.2.2.2.2 := by
    intro l
    induction l with
    | nil => intro h; cases h
    | cons q r ih =>
      intro h
      unfold z_ngh at h
      split at h
      · rename_i c hloc
        cases hb : Nat.beq c q.1 with
        | false => rw [hb] at h; exact ih h
        | true =>
          rw [hb] at h
          have hb := Nat.eq_of_beq_eq_true hb
          have h : (match z_nmc S q.1 q.2 with | some S' => some [S'] | none => z_ngh S r) = some Ss := h
          split at h
          · rename_i S' hS'
            cases h
            obtain ⟨w, -, g2⟩ := hS.1.2.2.1 _ _ hloc
            rcases g2 with ⟨-, g2⟩ | ⟨a, c', -, ha, hc⟩
            · cases g2
            · have hc : c' = c := by simpa using hc
              subst hc
              rw [hb] at ha
              obtain ⟨⟨v, h3⟩, h5⟩ := z_nmc_ok hS' ha hS
              exact ⟨S', List.mem_singleton_self _, ⟨[v], h3⟩, h5⟩
          · exact ih h
      · exact ih h
  split at h
  · exact hsp h
  · exact hsp h
  · exact hnm _ h
  · exact hnm _ h
  · exact hnm _ h
  · exact hnm _ h
  · exact hnm _ h
  · split at h
    · exact hng h
    · cases h
  · split at h
    · rename_i hst
      exact nmi rfl hst h
    · cases h
  · split at h
    · rename_i hst
      exact nmi rfl hst h
    · cases h
  · split at h
    · rename_i ff c r _ hst
      obtain ⟨S', h1, h2⟩ := z_map_some h
      subst h2
      have h4 := hS.1.2.2.2.1
      rw [hst] at h4
      generalize f.2.2.2.1 = vs at h4
      match vs, h4 with
      | _ :: _, ⟨Or.inl ⟨_, hb⟩, _⟩ => cases hb
      | _ :: _, ⟨Or.inr ⟨a, c', _, ha, hc⟩, _⟩ =>
        have hc : c' = c := by simpa using hc
        subst hc
        obtain ⟨⟨v, h3⟩, h5⟩ := z_nmc_ok h1 ha hS
        exact ⟨S', List.mem_singleton_self _, ⟨[v], h3⟩, h5⟩
    · cases h
  · cases h
end ZRUL
