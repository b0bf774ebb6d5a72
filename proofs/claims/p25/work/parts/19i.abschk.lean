section ZACK
variable {N : List Int} {al : Nat → Option Nat}
theorem z_all2.take {α β : Type} {R : α → β → Prop} : ∀ {as : List α} {bs : List β} (n : Nat), z_all2 R as bs → z_all2 R (as.take n) (bs.take n)
  | _, _, 0, _ => by simp [z_all2]
  | [], [], n + 1, _ => trivial
  | _ :: _, _ :: _, n + 1, ⟨h1, h2⟩ => ⟨h1, h2.take n⟩
  | [], _ :: _, _ + 1, h => h.elim
  | _ :: _, [], _ + 1, h => h.elim
theorem z_all2.drop {α β : Type} {R : α → β → Prop} : ∀ {as : List α} {bs : List β} (n : Nat), z_all2 R as bs → z_all2 R (as.drop n) (bs.drop n)
  | _, _, 0, h => h
  | [], [], n + 1, _ => trivial
  | _ :: _, _ :: _, n + 1, ⟨_, h2⟩ => h2.drop n
  | [], _ :: _, _ + 1, h => h.elim
  | _ :: _, [], _ + 1, h => h.elim
theorem z_all2.app {α β : Type} {R : α → β → Prop} : ∀ {as : List α} {bs : List β} {cs : List α} {ds : List β}, z_all2 R as bs → z_all2 R cs ds → z_all2 R (as ++ cs) (bs ++ ds)
  | [], [], _, _, _, h => h
  | _ :: _, _ :: _, _, _, ⟨h1, h2⟩, h => ⟨h1, h2.app h⟩
  | [], _ :: _, _, _, h, _ => h.elim
  | _ :: _, [], _, _, h, _ => h.elim
theorem z_all2.rev {α β : Type} {R : α → β → Prop} : ∀ {as : List α} {bs : List β}, z_all2 R as bs → z_all2 R as.reverse bs.reverse
  | [], [], _ => trivial
  | a :: as, b :: bs, ⟨h1, h2⟩ => by
    rw [List.reverse_cons, List.reverse_cons]
    exact h2.rev.app ⟨h1, trivial⟩
  | [], _ :: _, h => h.elim
  | _ :: _, [], h => h.elim
def z_acs (st : List z_av) : Nat := (st.map z_acat).sum
theorem z_acs_eq : ∀ {ts : List z_av} {vs : List Value}, z_all2 (z_gv N al) ts vs → z_cat vs = z_acs ts
  | [], [], _ => rfl
  | t :: ts, v :: vs, ⟨h1, h2⟩ => by
    have := z_acs_eq h2
    unfold z_cat z_acs at this ⊢
    rw [List.map_cons, List.map_cons, List.sum_cons, List.sum_cons, this, z_acat_eq h1]
  | [], _ :: _, h => h.elim
  | _ :: _, [], h => h.elim
def z_alv : Nat → List z_av → List (Nat × z_av)
  | _, [] => []
  | i, t :: ts => (i, t) :: z_alv (if z_acat t = 2 then i + 2 else i + 1) ts
theorem z_alv_ok : ∀ {ts : List z_av} {vs : List Value} {i : Nat}, z_all2 (z_gv N al) ts vs → z_gl N al (z_alv i ts) (lv_args i vs)
  | [], [], _, _ => fun j t h => by cases h
  | t :: ts, v :: vs, i, ⟨h1, h2⟩ => fun j u h => by
    have h : (if i == j then some t else z_aget (z_alv (if z_acat t = 2 then i + 2 else i + 1) ts) j) = some u := h
    show ∃ w, (if i == j then some v else z_get (lv_args (if v.category = 2 then i + 2 else i + 1) vs) j) = some w ∧ z_gv N al u w
    split at h
    · rename_i hj
      cases h
      exact ⟨v, by rw [if_pos hj], h1⟩
    · rename_i hj
      rw [if_neg hj, z_acat_eq h1]
      exact z_alv_ok h2 j u h
  | [], _ :: _, _, h => h.elim
  | _ :: _, [], _, h => h.elim
def z_aat (G : z_Pg) (AH : List z_ac_) (y kd : Nat) : List z_av → Bool
  | .inr (.inr r) :: _ => !r.1 && (!(kd == 1) || r.2.all fun c => match AH[c]? with
      | some A => A.1 == z_rcv G y
      | none => false)
  | _ => false
theorem z_aat_ok {G : z_Pg} {AH : List z_ac_} {P : z_H} {y kd : Nat} {ts : List z_av} {vs : List Value} (h : z_aat G AH y kd ts = true) (hH : z_gh (z_strs G) N al AH P) (hs : z_all2 (z_gv N al) ts vs) : z_at? G P y kd vs = true := by
  unfold z_aat at h
  split at h
  · rename_i r ts
    rw [Bool.and_eq_true, Bool.not_eq_true'] at h
    match vs, hs with
    | _ :: vs, ⟨Or.inl ⟨_, h3⟩, _⟩ => rw [h.1] at h3; cases h3
    | _ :: vs, ⟨Or.inr ⟨a, c, e, hac, hc⟩, _⟩ =>
      subst e
      unfold z_at?
      dsimp only
      split
      · rename_i hk
        have h2 := h.2
        rw [hk] at h2
        have h2 : (r.2.all fun c => match AH[c]? with | some A => A.1 == z_rcv G y | none => false) = true := by simpa using h2
        have h3 := List.all_eq_true.mp h2 c hc
        obtain ⟨q, A, g1, g2, g3, -⟩ := hH a c hac
        rw [g2] at h3
        rw [g1]
        dsimp only at h3 ⊢
        rw [← g3.1]
        exact h3
      · rfl
  · cases h
/-- a call of y -/
def z_aargs (G : z_Pg) (d y kd : Nat) (S : z_as_) : Option z_as_ :=
  if z_na G y ≤ S.1.2.2.2.1.length ∧ 1 ≤ d ∧ z_acs (S.1.2.2.2.1.drop (z_na G y)) ≤ 8 ∧ z_nL G y ≤ 45 ∧ z_acs ((S.1.2.2.2.1.take (z_na G y)).reverse) ≤ z_nL G y ∧ S.1.2.2.2.2.1 + z_mc G y ≤ z_mc G S.1.1 ∧ S.1.2.2.2.2.2 + z_ms G y ≤ z_ms G S.1.1 ∧ (kd = 0 ∨ 1 ≤ z_na G y) ∧ (kd = 0 ∨ z_aat G S.2.2.1 y kd ((S.1.2.2.2.1.take (z_na G y)).reverse) = true) then
    some ((y, 0, z_alv 0 ((S.1.2.2.2.1.take (z_na G y)).reverse), [], 0, 0), (S.1.1, S.1.2.1, S.1.2.2.1, S.1.2.2.2.1.drop (z_na G y), S.1.2.2.2.2) :: S.2.1, S.2.2) else none
theorem z_aargs_ok {G : z_Pg} {d y kd : Nat} {S S' : z_as_} {f : z_Fr} {rest : List z_Fr} {P : z_H} (h : z_aargs G d y kd S = some S') (hS : z_gs (z_strs G) N al S f rest P) :
    1 ≤ d ∧ ∃ as r, z_args G d y kd f.1 f.2.2.2.1 P f.2.2.2.2.1 f.2.2.2.2.2 = some (as, r) ∧ z_gs (z_strs G) N al S' (y, 0, lv_args 0 as, [], 0, 0) ((f.1, f.2.1, f.2.2.1, r, f.2.2.2.2.1, f.2.2.2.2.2) :: rest) P := by
  obtain ⟨⟨a1, a2, a3, a4, a5, a6⟩, b1, b2, b3, b4, b5⟩ := id hS
  unfold z_aargs at h
  split at h
  · rename_i hc
    cases h
    obtain ⟨c1, c2, c3, c4, c5, c6, c7, c8, c9⟩ := hc
    have htk := (a4.take (z_na G y)).rev
    have hdr := a4.drop (z_na G y)
    refine ⟨c2, (f.2.2.2.1.take (z_na G y)).reverse, f.2.2.2.1.drop (z_na G y), ?_, ⟨rfl, rfl, z_alv_ok htk, trivial, rfl, rfl⟩, ⟨⟨a1, a2, a3, hdr, a5, a6⟩, b1⟩, b2, b3, b4, b5⟩
    unfold z_args
    dsimp only
    rw [if_pos]
    refine ⟨by rw [← a4.len]; exact c1, c2, by rw [z_acs_eq hdr]; exact c3, c4, by rw [z_acs_eq htk]; exact c5, by rw [← a1, ← a5]; exact c6, by rw [← a1, ← a6]; exact c7, c8, c9.imp id fun k => z_aat_ok k b2 htk⟩
  · cases h
def z_isr : Instr → Bool
  | .return_ => true
  | .ireturn => true
  | .lreturn => true
  | .areturn => true
  | _ => false
theorem z_isr_no {rt : Option FieldType} {ins : Instr} {st : List Value} (h : z_isr ins = false) : z_ret rt ins st = none := by
  cases ins <;> first | rfl | cases h
def z_aret (rt : Option FieldType) : Instr → List z_av → Option (Option z_av)
  | .return_, [] => if rt = none then some none else none
  | .ireturn, [.inl t] => match rt with
    | some ty => if z_afit ty (.inl t) then some (some (.inl t)) else none
    | none => none
  | .lreturn, [.inr (.inl t)] => if rt = some .long then some (some (.inr (.inl t))) else none
  | .areturn, [.inr (.inr t)] => match rt with
    | some (.object _) => some (some (.inr (.inr t)))
    | some (.array _) => some (some (.inr (.inr t)))
    | _ => none
  | _, _ => none
def z_go_ (N : List Int) (al : Nat → Option Nat) : Option z_av → Option Value → Prop
  | none, none => True
  | some t, some v => z_gv N al t v
  | _, _ => False
theorem z_go_l {t : Option z_av} {v : Option Value} (h : z_go_ N al t v) : z_all2 (z_gv N al) t.toList v.toList := by
  match t, v, h with
  | none, none, _ => exact trivial
  | some t, some v, h => exact ⟨h, trivial⟩
theorem z_aret_ok {rt : Option FieldType} {ins : Instr} {ast : List z_av} {st : List Value} {r : Option z_av} (h : z_aret rt ins ast = some r) (hs : z_all2 (z_gv N al) ast st) : ∃ v, z_ret rt ins st = some v ∧ z_go_ N al r v := by
  unfold z_aret at h
  split at h
  · split at h
    · rename_i hrt
      cases h
      match st, hs with
      | [], _ => exact ⟨none, by unfold z_ret; rw [if_pos hrt], trivial⟩
    · cases h
  · rename_i t
    split at h
    · rename_i ty
      split at h
      · rename_i hf
        cases h
        match st, hs with
        | [_], ⟨⟨x, e, hx⟩, _⟩ =>
          subst e
          have hv : z_gv N al (.inl t) (.int x) := ⟨x, rfl, hx⟩
          refine ⟨some (.int x), ?_, hv⟩
          unfold z_ret
          dsimp only
          rw [if_pos (z_afit_ok hf hv).2]
      · cases h
    · cases h
  · rename_i t
    split at h
    · rename_i hrt
      cases h
      match st, hs with
      | [_], ⟨⟨x, e, hx⟩, _⟩ =>
        subst e
        refine ⟨some (.long x), ?_, ⟨x, rfl, hx⟩⟩
        unfold z_ret
        dsimp only
        rw [if_pos hrt]
    · cases h
  · rename_i t
    match st, hs with
    | [v], ⟨hv, _⟩ =>
      have hA : z_isA v = true := z_akA_ok (t := .inr (.inr t)) rfl hv
      split at h
      · cases h
        refine ⟨some v, ?_, hv⟩
        unfold z_ret
        dsimp only
        rw [if_pos hA]
      · cases h
        refine ⟨some v, ?_, hv⟩
        unfold z_ret
        dsimp only
        rw [if_pos hA]
      · cases h
  · cases h
end ZACK
