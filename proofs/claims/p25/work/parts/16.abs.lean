/-! Abstract values, cells, frames and states, and what they stand for. -/
section ZABS
/-- a number: an identity (0: none), how far it lies from the identity's value, its interval -/
abbrev z_tk : Type := Nat × Int × Int × Int × Int
def z_lo (t : z_tk) : Int := t.2.2.2.1
def z_hi (t : z_tk) : Int := t.2.2.2.2
def z_iv (t : z_tk) : z_I := (t.2.2.2.1, t.2.2.2.2)
def z_tc (c : Int) : z_tk := (0, 0, 0, c, c)
def z_ti (i : z_I) : z_tk := (0, 0, 0, i.1, i.2)
/-- a value: an int, a long, a reference (null or one of some cells) -/
abbrev z_av : Type := z_tk ⊕ (z_tk ⊕ (Bool × List Nat))
def z_gi (N : List Int) (t : z_tk) (v : Int) : Prop := z_lo t ≤ v ∧ v ≤ z_hi t ∧ (t.1 = 0 ∨ ∃ w, N[t.1]? = some w ∧ w + t.2.1 ≤ v ∧ v ≤ w + t.2.2.1)
def z_gv (N : List Int) (al : Nat → Option Nat) : z_av → Value → Prop
  | .inl t, v => ∃ x : Int32, v = .int x ∧ z_gi N t x.toInt
  | .inr (.inl t), v => ∃ x : Int64, v = .long x ∧ z_gi N t x.toInt
  | .inr (.inr t), v => (v = .null ∧ t.1 = true) ∨ ∃ a c, v = .ref a ∧ al a = some c ∧ c ∈ t.2
/-- more identities, more cells -/
def z_le (N N' : List Int) (al al' : Nat → Option Nat) : Prop := (∃ X, N' = N ++ X) ∧ ∀ a c, al a = some c → al' a = some c
theorem z_le.rf {N : List Int} {al : Nat → Option Nat} : z_le N N al al := ⟨⟨[], by simp⟩, fun _ _ h => h⟩
theorem z_gi.mono {N N' : List Int} {t : z_tk} {v : Int} (h : z_gi N t v) (hN : ∃ X, N' = N ++ X) : z_gi N' t v := by
  obtain ⟨h1, h2, h3⟩ := h
  obtain ⟨X, rfl⟩ := hN
  refine ⟨h1, h2, h3.imp id ?_⟩
  rintro ⟨w, e, h4⟩
  exact ⟨w, by rw [List.getElem?_append_left (List.getElem?_eq_some_iff.mp e).1]; exact e, h4⟩
theorem z_gv.mono {N N' : List Int} {al al' : Nat → Option Nat} (hle : z_le N N' al al') : ∀ {t : z_av} {v : Value}, z_gv N al t v → z_gv N' al' t v
  | .inl _, _, ⟨x, e, h⟩ => ⟨x, e, h.mono hle.1⟩
  | .inr (.inl _), _, ⟨x, e, h⟩ => ⟨x, e, h.mono hle.1⟩
  | .inr (.inr _), _, Or.inl h => Or.inl h
  | .inr (.inr _), _, Or.inr ⟨a, c, e, h1, h2⟩ => Or.inr ⟨a, c, e, hle.2 _ _ h1, h2⟩
/-- lists, pointwise -/
def z_all2 {α β : Type} (R : α → β → Prop) : List α → List β → Prop
  | [], [] => True
  | a :: as, b :: bs => R a b ∧ z_all2 R as bs
  | _, _ => False
theorem z_all2.mono {α β : Type} {R S : α → β → Prop} (h : ∀ a b, R a b → S a b) : ∀ {as : List α} {bs : List β}, z_all2 R as bs → z_all2 S as bs
  | [], [], _ => trivial
  | _ :: _, _ :: _, ⟨h1, h2⟩ => ⟨h _ _ h1, h2.mono h⟩
  | [], _ :: _, h => h.elim
  | _ :: _, [], h => h.elim
theorem z_all2.len {α β : Type} {R : α → β → Prop} : ∀ {as : List α} {bs : List β}, z_all2 R as bs → as.length = bs.length
  | [], [], _ => rfl
  | _ :: _, _ :: _, ⟨_, h2⟩ => by simp [h2.len]
  | [], _ :: _, h => h.elim
  | _ :: _, [], h => h.elim
theorem z_all2.get {α β : Type} {R : α → β → Prop} : ∀ {as : List α} {bs : List β} {i : Nat} {a : α}, z_all2 R as bs → as[i]? = some a → ∃ b, bs[i]? = some b ∧ R a b
  | _ :: _, _ :: _, 0, _, ⟨h1, _⟩, e => by cases e; exact ⟨_, rfl, h1⟩
  | _ :: as, _ :: bs, i + 1, _, ⟨_, h2⟩, e => by
    obtain ⟨b, h3, h4⟩ := h2.get (i := i) (by simpa using e)
    exact ⟨b, by simpa using h3, h4⟩
  | [], [], _, _, _, e => by simp at e
  | [], _ :: _, _, _, h, _ => h.elim
  | _ :: _, [], _, _, h, _ => h.elim
theorem z_all2.getb {α β : Type} {R : α → β → Prop} : ∀ {as : List α} {bs : List β} {i : Nat} {b : β}, z_all2 R as bs → bs[i]? = some b → ∃ a, as[i]? = some a ∧ R a b
  | _ :: _, _ :: _, 0, _, ⟨h1, _⟩, e => by cases e; exact ⟨_, rfl, h1⟩
  | _ :: as, _ :: bs, i + 1, _, ⟨_, h2⟩, e => by
    obtain ⟨b, h3, h4⟩ := h2.getb (i := i) (by simpa using e)
    exact ⟨b, by simpa using h3, h4⟩
  | [], [], _, _, _, e => by simp at e
  | [], _ :: _, _, _, h, _ => h.elim
  | _ :: _, [], _, _, h, _ => h.elim
theorem z_all2.set {α β : Type} {R : α → β → Prop} : ∀ {as : List α} {bs : List β} {i : Nat} {a : α} {b : β}, z_all2 R as bs → R a b → z_all2 R (as.set i a) (bs.set i b)
  | [], [], _, _, _, _, _ => trivial
  | _ :: _, _ :: _, 0, _, _, ⟨_, h2⟩, h => ⟨h, h2⟩
  | _ :: _, _ :: _, i + 1, _, _, ⟨h1, h2⟩, h => ⟨h1, h2.set h⟩
  | [], _ :: _, _, _, _, h, _ => h.elim
  | _ :: _, [], _, _, _, h, _ => h.elim
theorem z_all2.map {α β : Type} {R S : α → β → Prop} {f : α → α} (h : ∀ a b, R a b → S (f a) b) : ∀ {as : List α} {bs : List β}, z_all2 R as bs → z_all2 S (as.map f) bs
  | [], [], _ => trivial
  | _ :: _, _ :: _, ⟨h1, h2⟩ => ⟨h _ _ h1, h2.map h⟩
  | [], _ :: _, h => h.elim
  | _ :: _, [], h => h.elim
/-- a cell: tag, (stands for one alone, is a near one), its length where all its places are told by one value, its values -/
abbrev z_ac_ : Type := Nat × (Bool × Bool) × Option Nat × List z_av
def z_gc (N : List Int) (al : Nat → Option Nat) (A : z_ac_) (q : z_C) : Prop := A.1 = q.1 ∧ match A.2.2.1 with
  | none => z_all2 (z_gv N al) A.2.2.2 q.2
  | some n => q.2.length = n ∧ ∃ t, A.2.2.2 = [t] ∧ ∀ v ∈ q.2, z_gv N al t v
theorem z_gc.mono {N N' : List Int} {al al' : Nat → Option Nat} (hle : z_le N N' al al') {A : z_ac_} {q : z_C} (h : z_gc N al A q) : z_gc N' al' A q := by
  obtain ⟨h1, h2⟩ := h
  refine ⟨h1, ?_⟩
  split at h2
  · exact h2.mono fun _ _ k => k.mono hle
  · obtain ⟨h3, t, h4, h5⟩ := h2
    exact ⟨h3, t, h4, fun v hv => (h5 v hv).mono hle⟩
/-- the heap -/
def z_gh (strs : z_Ss) (N : List Int) (al : Nat → Option Nat) (AH : List z_ac_) (P : z_H) : Prop :=
  ∀ a c, al a = some c → ∃ q A, z_lk strs P a = some q ∧ AH[c]? = some A ∧ z_gc N al A q ∧ (A.2.1.1 = true → ∀ b, al b = some c → b = a) ∧ (A.2.1.2 = true → a < z_far)
/-- the locals: what is known of them -/
def z_aget : List (Nat × z_av) → Nat → Option z_av
  | [], _ => none
  | q :: r, i => if q.1 == i then some q.2 else z_aget r i
def z_gl (N : List Int) (al : Nat → Option Nat) (L : List (Nat × z_av)) (l : z_L) : Prop := ∀ i t, z_aget L i = some t → ∃ v, z_get l i = some v ∧ z_gv N al t v
/-- a frame: method, pc, locals, stack, cells, slots -/
abbrev z_af : Type := Nat × Nat × List (Nat × z_av) × List z_av × Nat × Nat
def z_gf_ (N : List Int) (al : Nat → Option Nat) (F : z_af) (f : z_Fr) : Prop := F.1 = f.1 ∧ F.2.1 = f.2.1 ∧ z_gl N al F.2.2.1 f.2.2.1 ∧ z_all2 (z_gv N al) F.2.2.2.1 f.2.2.2.1 ∧ F.2.2.2.2.1 = f.2.2.2.2.1 ∧ F.2.2.2.2.2 = f.2.2.2.2.2
theorem z_gf_.mono {N N' : List Int} {al al' : Nat → Option Nat} (hle : z_le N N' al al') {F : z_af} {f : z_Fr} (h : z_gf_ N al F f) : z_gf_ N' al' F f := by
  obtain ⟨h1, h2, h3, h4, h5⟩ := h
  exact ⟨h1, h2, fun i t e => by
    obtain ⟨v, g1, g2⟩ := h3 i t e
    exact ⟨v, g1, g2.mono hle⟩, h4.mono fun _ _ k => k.mono hle, h5⟩
/-- a state: the top frame, those below, the heap, the next identity, what is known of two identities: one and a number are at most the other; how many cells there are at most -/
abbrev z_as_ : Type := z_af × List z_af × List z_ac_ × Nat × List (Nat × Nat × Int) × Nat
def z_gx (N : List Int) (F : List (Nat × Nat × Int)) : Prop := ∀ q ∈ F, ∃ a b, N[q.1]? = some a ∧ N[q.2.1]? = some b ∧ a + q.2.2 ≤ b
theorem z_gx.mono {N N' : List Int} {F : List (Nat × Nat × Int)} (h : z_gx N F) (hN : ∃ X, N' = N ++ X) : z_gx N' F := by
  intro q hq
  obtain ⟨X, rfl⟩ := hN
  obtain ⟨a, b, h1, h2, h3⟩ := h q hq
  exact ⟨a, b, by rw [List.getElem?_append_left (List.getElem?_eq_some_iff.mp h1).1]; exact h1, by rw [List.getElem?_append_left (List.getElem?_eq_some_iff.mp h2).1]; exact h2, h3⟩
def z_gs (strs : z_Ss) (N : List Int) (al : Nat → Option Nat) (S : z_as_) (f : z_Fr) (rest : List z_Fr) (P : z_H) : Prop :=
  z_gf_ N al S.1 f ∧ z_all2 (z_gf_ N al) S.2.1 rest ∧ z_gh strs N al S.2.2.1 P ∧ S.2.2.2.1 = N.length ∧ z_gx N S.2.2.2.2.1 ∧ P.length ≤ S.2.2.2.2.2
theorem z_gh.mono {strs : z_Ss} {N N' : List Int} {al : Nat → Option Nat} {AH : List z_ac_} {P : z_H} (hN : ∃ X, N' = N ++ X) (h : z_gh strs N al AH P) : z_gh strs N' al AH P := by
  intro a c hac
  obtain ⟨q, A, h1, h2, h3, h4⟩ := h a c hac
  exact ⟨q, A, h1, h2, h3.mono ⟨hN, fun _ _ k => k⟩, h4⟩
/-- a new value: a number without identity gets one -/
def z_new (n : Nat) (t : z_tk) : z_tk × Nat := if t.1 = 0 ∧ z_lo t ≠ z_hi t then ((n, 0, 0, z_lo t, z_hi t), n + 1) else (t, n)
theorem z_new_gi {N : List Int} {t : z_tk} {v : Int} (h : z_gi N t v) : ∃ N', (∃ X, N' = N ++ X) ∧ z_gi N' (z_new N.length t).1 v ∧ (z_new N.length t).2 = N'.length := by
  unfold z_new
  split
  · refine ⟨N ++ [v], ⟨_, rfl⟩, ⟨h.1, h.2.1, Or.inr ⟨v, by simp, by show v + 0 ≤ v; omega, by show v ≤ v + 0; omega⟩⟩, by simp⟩
  · exact ⟨N, ⟨[], by simp⟩, h, rfl⟩
def z_newv (n : Nat) : z_av → z_av × Nat
  | .inl t => (.inl (z_new n t).1, (z_new n t).2)
  | .inr (.inl t) => (.inr (.inl (z_new n t).1), (z_new n t).2)
  | .inr (.inr t) => (.inr (.inr t), n)
theorem z_newv_gv {N : List Int} {al : Nat → Option Nat} {t : z_av} {v : Value} (h : z_gv N al t v) : ∃ N', z_le N N' al al ∧ z_gv N' al (z_newv N.length t).1 v ∧ (z_newv N.length t).2 = N'.length := by
  match t, h with
  | .inl t, ⟨x, e, h⟩ =>
    obtain ⟨N', h1, h2, h3⟩ := z_new_gi h
    exact ⟨N', ⟨h1, fun _ _ k => k⟩, ⟨x, e, h2⟩, h3⟩
  | .inr (.inl t), ⟨x, e, h⟩ =>
    obtain ⟨N', h1, h2, h3⟩ := z_new_gi h
    exact ⟨N', ⟨h1, fun _ _ k => k⟩, ⟨x, e, h2⟩, h3⟩
  | .inr (.inr t), h => exact ⟨N, z_le.rf, h, rfl⟩
/-- an identity's value is narrowed: in all its exact numbers -/
def z_cl1 (k : Nat) (lo hi : Int) (t : z_tk) : z_tk := if t.1 = k ∧ t.2.1 = t.2.2.1 then (t.1, t.2.1, t.2.2.1, max (z_lo t) (lo + t.2.1), min (z_hi t) (hi + t.2.1)) else t
theorem z_cl1_gi {N : List Int} {k : Nat} {lo hi w : Int} (hk : k ≠ 0) (hw : N[k]? = some w) (h1 : lo ≤ w) (h2 : w ≤ hi) {t : z_tk} {v : Int} (h : z_gi N t v) : z_gi N (z_cl1 k lo hi t) v := by
  unfold z_cl1
  split
  · rename_i hc
    obtain ⟨g1, g2, g3⟩ := h
    rcases g3 with g3 | ⟨w', e, g4, g5⟩
    · exact absurd (hc.1.symm.trans g3) hk
    · rw [hc.1] at e
      have e1 : w' = w := Option.some.inj (e.symm.trans hw)
      subst e1
      have hd := hc.2
      refine ⟨?_, ?_, Or.inr ⟨w', by show N[t.1]? = some w'; rw [hc.1]; exact hw, g4, g5⟩⟩
      · show max (z_lo t) (lo + t.2.1) ≤ v
        omega
      · show v ≤ min (z_hi t) (hi + t.2.1)
        omega
  · exact h
def z_clv (k : Nat) (lo hi : Int) : z_av → z_av
  | .inl t => .inl (z_cl1 k lo hi t)
  | .inr (.inl t) => .inr (.inl (z_cl1 k lo hi t))
  | .inr (.inr t) => .inr (.inr t)
theorem z_clv_gv {N : List Int} {al : Nat → Option Nat} {k : Nat} {lo hi w : Int} (hk : k ≠ 0) (hw : N[k]? = some w) (h1 : lo ≤ w) (h2 : w ≤ hi) {t : z_av} {v : Value} (h : z_gv N al t v) : z_gv N al (z_clv k lo hi t) v := by
  match t, h with
  | .inl t, ⟨x, e, h⟩ => exact ⟨x, e, z_cl1_gi hk hw h1 h2 h⟩
  | .inr (.inl t), ⟨x, e, h⟩ => exact ⟨x, e, z_cl1_gi hk hw h1 h2 h⟩
  | .inr (.inr t), h => exact h
def z_clf (k : Nat) (lo hi : Int) (F : z_af) : z_af := (F.1, F.2.1, F.2.2.1.map (fun q => (q.1, z_clv k lo hi q.2)), F.2.2.2.1.map (z_clv k lo hi), F.2.2.2.2.1, F.2.2.2.2.2)
def z_clc (k : Nat) (lo hi : Int) (A : z_ac_) : z_ac_ := (A.1, A.2.1, A.2.2.1, A.2.2.2.map (z_clv k lo hi))
def z_cls_ (k : Nat) (lo hi : Int) (S : z_as_) : z_as_ := if k = 0 then S else (z_clf k lo hi S.1, S.2.1.map (z_clf k lo hi), S.2.2.1.map (z_clc k lo hi), S.2.2.2)
theorem z_aget_map (f : z_av → z_av) : ∀ (L : List (Nat × z_av)) (i : Nat), z_aget (L.map fun q => (q.1, f q.2)) i = (z_aget L i).map f
  | [], _ => rfl
  | q :: r, i => by
    show (if q.1 == i then some (f q.2) else z_aget (r.map fun q => (q.1, f q.2)) i) = (if q.1 == i then some q.2 else z_aget r i).map f
    rw [z_aget_map f r i]
    split <;> rfl
theorem z_clf_gf {N : List Int} {al : Nat → Option Nat} {k : Nat} {lo hi w : Int} (hk : k ≠ 0) (hw : N[k]? = some w) (h1 : lo ≤ w) (h2 : w ≤ hi) {F : z_af} {f : z_Fr} (h : z_gf_ N al F f) : z_gf_ N al (z_clf k lo hi F) f := by
  obtain ⟨g1, g2, g3, g4, g5⟩ := h
  refine ⟨g1, g2, fun i t e => ?_, g4.map fun _ _ q => z_clv_gv hk hw h1 h2 q, g5⟩
  have e : z_aget (F.2.2.1.map fun q => (q.1, z_clv k lo hi q.2)) i = some t := e
  rw [z_aget_map] at e
  obtain ⟨t', e1, e2⟩ := z_map_some e
  obtain ⟨v, g6, g7⟩ := g3 i t' e1
  exact ⟨v, g6, by rw [← e2]; exact z_clv_gv hk hw h1 h2 g7⟩
theorem z_cls_gs {strs : z_Ss} {N : List Int} {al : Nat → Option Nat} {k : Nat} {lo hi : Int} {S : z_as_} {f : z_Fr} {rest : List z_Fr} {P : z_H} (hw : k ≠ 0 → ∃ w, N[k]? = some w ∧ lo ≤ w ∧ w ≤ hi) (h : z_gs strs N al S f rest P) : z_gs strs N al (z_cls_ k lo hi S) f rest P := by
  unfold z_cls_
  split
  · exact h
  · rename_i hk
    obtain ⟨w, hw, h1, h2⟩ := hw hk
    obtain ⟨g1, g2, g3, g4⟩ := h
    refine ⟨z_clf_gf hk hw h1 h2 g1, g2.map fun _ _ q => z_clf_gf hk hw h1 h2 q, fun a c hac => ?_, g4⟩
    obtain ⟨q, A, e1, e2, ⟨e3, e4⟩, e5, e6⟩ := g3 a c hac
    refine ⟨q, z_clc k lo hi A, e1, ?_, ⟨e3, ?_⟩, e5, e6⟩
    · show (S.2.2.1.map (z_clc k lo hi))[c]? = _
      rw [List.getElem?_map, e2]
      rfl
    · show (match A.2.2.1 with | none => z_all2 (z_gv N al) (A.2.2.2.map (z_clv k lo hi)) q.2 | some n => q.2.length = n ∧ ∃ t, A.2.2.2.map (z_clv k lo hi) = [t] ∧ ∀ v ∈ q.2, z_gv N al t v)
      split at e4
      · exact e4.map fun _ _ q => z_clv_gv hk hw h1 h2 q
      · obtain ⟨e8, t, e9, e10⟩ := e4
        exact ⟨e8, _, by rw [e9]; rfl, fun v hv => z_clv_gv hk hw h1 h2 (e10 v hv)⟩
end ZABS
