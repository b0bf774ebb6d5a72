section ZAMK
variable {strs : z_Ss} {N : List Int} {al : Nat → Option Nat}
def z_vabs : Value → Option z_av
  | .int x => some (.inl (z_tc x.toInt))
  | .long x => some (.inr (.inl (z_tc x.toInt)))
  | .null => some (.inr (.inr (true, [])))
  | _ => none
theorem z_vabs_ok {v : Value} {t : z_av} (h : z_vabs v = some t) : z_gv N al t v := by
  unfold z_vabs at h
  split at h
  · cases h
    exact ⟨_, rfl, z_tc_gi⟩
  · cases h
    exact ⟨_, rfl, z_tc_gi⟩
  · cases h
    exact Or.inl ⟨rfl, rfl⟩
  · cases h
def z_vabsl : List Value → Option (List z_av)
  | [] => some []
  | v :: vs => match z_vabs v, z_vabsl vs with
    | some t, some ts => some (t :: ts)
    | _, _ => none
theorem z_vabsl_ok : ∀ {vs : List Value} {ts : List z_av}, z_vabsl vs = some ts → z_all2 (z_gv N al) ts vs
  | [], _, h => by cases h; trivial
  | v :: vs, ts, h => by
    unfold z_vabsl at h
    split at h
    · rename_i t ts' h1 h2
      cases h
      exact ⟨z_vabs_ok h1, z_vabsl_ok h2⟩
    · cases h
theorem z_all2_rep {t : z_av} {v : Value} (h : z_gv N al t v) : ∀ n, z_all2 (z_gv N al) (List.replicate n t) (List.replicate n v)
  | 0 => trivial
  | n + 1 => ⟨h, z_all2_rep h n⟩
/-- new cells behind the old ones -/
def z_alx (al : Nat → Option Nat) (p n k : Nat) (g : Nat → Nat) (a : Nat) : Option Nat := if p ≤ a ∧ a < p + n then some (k + g (a - p)) else al a
theorem z_alx_le {AH : List z_ac_} {P : z_H} {n k : Nat} {g : Nat → Nat} (hH : z_gh strs N al AH P) (hf : P.length + n ≤ z_far) : z_le N N al (z_alx al P.length n k g) := by
  refine ⟨⟨[], by simp⟩, fun a c hac => ?_⟩
  unfold z_alx
  rw [if_neg]
  · exact hac
  · rintro ⟨h1, h2⟩
    obtain ⟨q, A, e, -⟩ := hH a c hac
    unfold z_lk at e
    rw [if_pos (by omega), List.getElem?_eq_none h1] at e
    cases e
theorem z_gh_app {AH AQ : List z_ac_} {P Q : z_H} {g : Nat → Nat} (hH : z_gh strs N al AH P) (hf : P.length + Q.length ≤ z_far)
    (hq : ∀ j q, Q[j]? = some q → ∃ A, AQ[g j]? = some A ∧ z_gc N (z_alx al P.length Q.length AH.length g) A q ∧ (A.2.1.1 = true → ∀ j', j' < Q.length → g j' = g j → j' = j)) : z_gh strs N (z_alx al P.length Q.length AH.length g) (AH ++ AQ) (P ++ Q) := by
  have hle := z_alx_le (n := Q.length) (k := AH.length) (g := g) hH hf
  intro a c hac
  unfold z_alx at hac
  split at hac
  · rename_i hr
    cases hac
    have hlt : a - P.length < Q.length := by omega
    obtain ⟨A, h1, h2, h3⟩ := hq (a - P.length) _ (List.getElem?_eq_getElem hlt)
    refine ⟨Q[a - P.length], A, ?_, ?_, h2, fun hs b hb => ?_, fun _ => by omega⟩
    · unfold z_lk
      rw [if_pos (by omega), List.getElem?_append_right hr.1]
      exact List.getElem?_eq_getElem hlt
    · rw [List.getElem?_append_right (by omega), show AH.length + g (a - P.length) - AH.length = g (a - P.length) by omega]
      exact h1
    · unfold z_alx at hb
      split at hb
      · rename_i hr'
        have hb := Option.some.inj hb
        have := h3 hs (b - P.length) (by omega) (by omega)
        omega
      · obtain ⟨q', A', -, k2, -⟩ := hH b _ hb
        have := (List.getElem?_eq_some_iff.mp k2).1
        omega
  · rename_i hr
    obtain ⟨q, A, h1, h2, h3, h4, h5⟩ := hH a c hac
    have hc := (List.getElem?_eq_some_iff.mp h2).1
    refine ⟨q, A, ?_, by rw [List.getElem?_append_left hc]; exact h2, h3.mono hle, fun hs b hb => ?_, h5⟩
    · unfold z_lk at h1 ⊢
      split
      · rename_i hl
        rw [if_pos hl] at h1
        rw [List.getElem?_append_left (List.getElem?_eq_some_iff.mp h1).1]
        exact h1
      · rename_i hl
        rw [if_neg hl] at h1
        exact h1
    · unfold z_alx at hb
      split at hb
      · have := Option.some.inj hb
        omega
      · exact h4 hs b hb
/-- an array of n values: one by one or in one -/
def z_row (md : Bool) (tg n : Nat) (t : z_av) (sg : Bool) : z_ac_ := if md then (tg, (sg, true), some n, [t]) else (tg, (sg, true), none, List.replicate n t)
theorem z_row_ok {md : Bool} {tg n : Nat} {t : z_av} {v : Value} {sg : Bool} (h : z_gv N al t v) : z_gc N al (z_row md tg n t sg) (tg, List.replicate n v) := by
  unfold z_row
  split
  · exact ⟨rfl, by simp, t, rfl, fun w hw => by rw [(List.mem_replicate.mp hw).2]; exact h⟩
  · exact ⟨rfl, z_all2_rep h n⟩
def z_ama (md : Bool) (o : Option Nat) (dv : Nat → Value) (AH : List z_ac_) (B : Nat) : List z_av → Option (List z_av × List z_ac_ × Nat × Nat)
  | .inl i :: st => match o with
    | some t => match z_vabs (dv t) with
      | some d => if z_lo i = z_hi i ∧ 0 ≤ z_lo i ∧ z_hi i ≤ 10000 ∧ B < z_far then some (.inr (.inr (false, [AH.length])) :: st, AH ++ [z_row md (100 + t) (z_lo i).toNat d true], 1, (z_lo i).toNat) else none
      | none => none
    | none => none
  | _ => none
theorem z_ama_ok {md : Bool} {o : Option Nat} {dv : Nat → Value} {AH AH' : List z_ac_} {B dc ds : Nat} {P : z_H} {ast ast' : List z_av} {st : List Value} (h : z_ama md o dv AH B ast = some (ast', AH', dc, ds)) (hH : z_gh strs N al AH P) (hs : z_all2 (z_gv N al) ast st) (hB : P.length ≤ B) :
    ∃ st' P' al', z_mka o dv P st = some (st', P', dc, ds) ∧ z_le N N al al' ∧ z_all2 (z_gv N al') ast' st' ∧ z_gh strs N al' AH' P' ∧ P'.length = P.length + dc := by
  unfold z_ama at h
  split at h
  · split at h
    · rename_i i r o' t
      split at h
      · rename_i d hd
        split at h
        · rename_i hc
          cases h
          obtain ⟨c1, c2, c3, c4⟩ := hc
          match st, hs with
          | _ :: st, ⟨⟨x, e, hx⟩, h2⟩ =>
            subst e
            have hn : x.toNatClampNeg = (z_lo i).toNat := by
              show x.toInt.toNat = _
              have := hx.1
              have := hx.2.1
              congr 1
              omega
            have h0 : 0 ≤ x.toInt := by have := hx.1; omega
            have hle := z_alx_le (n := 1) (k := AH.length) (g := fun _ => 0) hH (by omega)
            refine ⟨.ref P.length :: st, P ++ [(100 + t, List.replicate x.toNatClampNeg (dv t))], z_alx al P.length 1 AH.length (fun _ => 0), ?_, hle, ⟨Or.inr ⟨P.length, AH.length, rfl, ?_, by simp⟩, h2.mono fun _ _ k => k.mono hle⟩, ?_, by simp⟩
            · unfold z_mka
              dsimp only
              rw [if_pos ⟨h0, by omega, by omega⟩, hn]
            · unfold z_alx
              rw [if_pos ⟨by omega, by omega⟩]
              rfl
            · refine z_gh_app (Q := [(100 + t, List.replicate x.toNatClampNeg (dv t))]) (g := fun _ => 0) hH (by show P.length + 1 ≤ z_far; omega) fun j q hj => ?_
              have hj0 : j = 0 := by
                have := (List.getElem?_eq_some_iff.mp hj).1
                simp at this
                exact this
              subst hj0
              cases hj
              exact ⟨_, rfl, by rw [hn]; exact z_row_ok (z_vabs_ok hd), fun _ j' hj' _ => by simp at hj'; exact hj'⟩
        · cases h
      · cases h
    · cases h
  · cases h
def z_amn (o : Option (Nat × List Value)) (AH : List z_ac_) (B : Nat) (st : List z_av) : Option (List z_av × List z_ac_ × Nat × Nat) := match o with
  | some q => match z_vabsl q.2 with
    | some ts => if q.1 < 99 ∧ B < z_far then some (.inr (.inr (false, [AH.length])) :: st, AH ++ [(q.1, (true, true), none, ts)], 1, q.2.length) else none
    | none => none
  | none => none
theorem z_amn_ok {o : Option (Nat × List Value)} {AH AH' : List z_ac_} {B dc ds : Nat} {P : z_H} {ast ast' : List z_av} {st : List Value} (h : z_amn o AH B ast = some (ast', AH', dc, ds)) (hH : z_gh strs N al AH P) (hs : z_all2 (z_gv N al) ast st) (hB : P.length ≤ B) :
    ∃ st' P' al', (match o with | some q => if q.1 < 99 ∧ P.length < z_far then some (Value.ref P.length :: st, P ++ [q], 1, q.2.length) else none | none => none) = some (st', P', dc, ds) ∧ z_le N N al al' ∧ z_all2 (z_gv N al') ast' st' ∧ z_gh strs N al' AH' P' ∧ P'.length = P.length + dc := by
  unfold z_amn at h
  split at h
  · rename_i q
    split at h
    · rename_i ts hts
      split at h
      · rename_i hc
        cases h
        have hle := z_alx_le (n := 1) (k := AH.length) (g := fun _ => 0) hH (by omega)
        refine ⟨.ref P.length :: st, P ++ [q], z_alx al P.length 1 AH.length (fun _ => 0), ?_, hle, ⟨Or.inr ⟨P.length, AH.length, rfl, ?_, by simp⟩, hs.mono fun _ _ k => k.mono hle⟩, ?_, by simp⟩
        · rw [if_pos ⟨hc.1, by omega⟩]
        · unfold z_alx
          rw [if_pos ⟨by omega, by omega⟩]
          rfl
        · refine z_gh_app (Q := [q]) (g := fun _ => 0) hH (by show P.length + 1 ≤ z_far; omega) fun j q' hj => ?_
          have hj0 : j = 0 := by
            have := (List.getElem?_eq_some_iff.mp hj).1
            simp at this
            exact this
          subst hj0
          cases hj
          exact ⟨_, rfl, ⟨rfl, z_vabsl_ok hts⟩, fun _ j' hj' _ => by simp at hj'; exact hj'⟩
      · cases h
    · cases h
  · cases h
/-- rows of rows: all one by one, or the inner ones all in one -/
def z_amm (md : Bool) (o : Option (Nat × Nat)) (AH : List z_ac_) (B : Nat) : List z_av → Option (List z_av × List z_ac_ × Nat × Nat)
  | .inl k :: .inl n :: st => match o with
    | some t => match z_vabs (z_dv t.2) with
      | some d => if z_lo k = z_hi k ∧ 0 ≤ z_lo k ∧ z_hi k ≤ 10000 ∧ z_lo n = z_hi n ∧ 0 ≤ z_lo n ∧ z_hi n ≤ 10000 ∧ B + 1 + (z_lo n).toNat ≤ z_far then
          some (.inr (.inr (false, [AH.length])) :: st, AH ++ (if md then [(100 + t.1, (true, true), some (z_lo n).toNat, [.inr (.inr (false, [AH.length + 1]))]), z_row md (100 + t.2) (z_lo k).toNat d false] else (100 + t.1, (true, true), none, (List.range (z_lo n).toNat).map fun j => .inr (.inr (false, [AH.length + 1 + j]))) :: List.replicate (z_lo n).toNat (z_row md (100 + t.2) (z_lo k).toNat d true)), 1 + (z_lo n).toNat, (z_lo n).toNat + (z_lo n).toNat * (z_lo k).toNat) else none
      | none => none
    | none => none
  | _ => none
theorem z_all2_map {α β γ : Type} {R : α → β → Prop} {f : γ → α} {g : γ → β} : ∀ {l : List γ}, (∀ x ∈ l, R (f x) (g x)) → z_all2 R (l.map f) (l.map g)
  | [], _ => trivial
  | x :: l, h => ⟨h x List.mem_cons_self, z_all2_map fun y hy => h y (List.mem_cons_of_mem _ hy)⟩
theorem z_amm_ok {md : Bool} {o : Option (Nat × Nat)} {AH AH' : List z_ac_} {B dc ds : Nat} {P : z_H} {ast ast' : List z_av} {st : List Value} (h : z_amm md o AH B ast = some (ast', AH', dc, ds)) (hH : z_gh strs N al AH P) (hs : z_all2 (z_gv N al) ast st) (hB : P.length ≤ B) :
    ∃ st' P' al', z_mkm o P st = some (st', P', dc, ds) ∧ z_le N N al al' ∧ z_all2 (z_gv N al') ast' st' ∧ z_gh strs N al' AH' P' ∧ P'.length = P.length + dc := by
  unfold z_amm at h
  split at h
  · split at h
    · rename_i k n r o' t
      split at h
      · rename_i d hd
        split at h
        · rename_i hc
          cases h
          obtain ⟨c1, c2, c3, c4, c5, c6, c7⟩ := hc
          match st, hs with
          | _ :: _ :: st, ⟨⟨y, e1, hy⟩, ⟨x, e2, hx⟩, h2⟩ =>
            subst e1; subst e2
            have hn : x.toNatClampNeg = (z_lo n).toNat := by
              show x.toInt.toNat = _
              have := hx.1
              have := hx.2.1
              congr 1
              omega
            have hk : y.toNatClampNeg = (z_lo k).toNat := by
              show y.toInt.toNat = _
              have := hy.1
              have := hy.2.1
              congr 1
              omega
            have hx0 : 0 ≤ x.toInt := by have := hx.1; omega
            have hy0 : 0 ≤ y.toInt := by have := hy.1; omega
            have hmk : z_mkm (some t) P (.int y :: .int x :: st) = some (.ref P.length :: st, P ++ (100 + t.1, (List.range (z_lo n).toNat).map (fun j => Value.ref (P.length + 1 + j))) :: List.replicate (z_lo n).toNat (100 + t.2, List.replicate (z_lo k).toNat (z_dv t.2)), 1 + (z_lo n).toNat, (z_lo n).toNat + (z_lo n).toNat * (z_lo k).toNat) := by
              unfold z_mkm
              dsimp only
              rw [if_pos ⟨hx0, hy0, by omega, by omega, by omega⟩, hn, hk]
            have hlen : ((100 + t.1, (List.range (z_lo n).toNat).map (fun j => Value.ref (P.length + 1 + j))) :: List.replicate (z_lo n).toNat (100 + t.2, List.replicate (z_lo k).toNat (z_dv t.2))).length = 1 + (z_lo n).toNat := by simp; omega
            cases md with
            | true =>
              have hle := z_alx_le (n := 1 + (z_lo n).toNat) (k := AH.length) (g := fun j => if j = 0 then 0 else 1) hH (by omega)
              refine ⟨_, _, z_alx al P.length (1 + (z_lo n).toNat) AH.length (fun j => if j = 0 then 0 else 1), hmk, hle, ⟨Or.inr ⟨P.length, AH.length, rfl, ?_, by simp⟩, h2.mono fun _ _ k => k.mono hle⟩, ?_, by rw [List.length_append, hlen]⟩
              · unfold z_alx
                rw [if_pos ⟨by omega, by omega⟩]
                simp
              · rw [← hlen]
                refine z_gh_app (g := fun j => if j = 0 then 0 else 1) hH (by rw [hlen]; omega) fun j q hj => ?_
                rw [hlen]
                cases j with
                | zero =>
                  cases hj
                  refine ⟨_, rfl, ⟨rfl, by simp, _, rfl, fun w hw => ?_⟩, fun _ j' _ hj' => ?_⟩
                  · obtain ⟨i, hi, rfl⟩ := List.mem_map.mp hw
                    have hi := List.mem_range.mp hi
                    refine Or.inr ⟨_, AH.length + 1, rfl, ?_, by simp⟩
                    unfold z_alx
                    rw [if_pos ⟨by omega, by omega⟩]
                    show some (AH.length + (if P.length + 1 + i - P.length = 0 then 0 else 1)) = _
                    rw [if_neg (by omega)]
                  · have hj' : (if j' = 0 then 0 else 1) = (if 0 = 0 then 0 else 1) := hj'
                    split at hj'
                    · assumption
                    · simp at hj'
                | succ j =>
                  have hj : (List.replicate (z_lo n).toNat (100 + t.2, List.replicate (z_lo k).toNat (z_dv t.2)))[j]? = some q := by simpa using hj
                  have hq := (List.mem_replicate.mp (List.mem_of_getElem? hj)).2
                  subst hq
                  exact ⟨_, rfl, z_row_ok (z_vabs_ok hd), fun hs => by cases hs⟩
            | false =>
              have hle := z_alx_le (n := 1 + (z_lo n).toNat) (k := AH.length) (g := fun j => j) hH (by omega)
              refine ⟨_, _, z_alx al P.length (1 + (z_lo n).toNat) AH.length (fun j => j), hmk, hle, ⟨Or.inr ⟨P.length, AH.length, rfl, ?_, by simp⟩, h2.mono fun _ _ k => k.mono hle⟩, ?_, by rw [List.length_append, hlen]⟩
              · unfold z_alx
                rw [if_pos ⟨by omega, by omega⟩]
                simp
              · rw [← hlen]
                refine z_gh_app (g := fun j => j) hH (by rw [hlen]; omega) fun j q hj => ?_
                rw [hlen]
                cases j with
                | zero =>
                  cases hj
                  refine ⟨_, rfl, ⟨rfl, z_all2_map fun i hi => ?_⟩, fun _ j' _ hj' => hj'⟩
                  have hi := List.mem_range.mp hi
                  refine Or.inr ⟨_, AH.length + 1 + i, rfl, ?_, by simp⟩
                  unfold z_alx
                  rw [if_pos ⟨by omega, by omega⟩]
                  show some (AH.length + (P.length + 1 + i - P.length)) = _
                  congr 1
                  omega
                | succ j =>
                  have hj : (List.replicate (z_lo n).toNat (100 + t.2, List.replicate (z_lo k).toNat (z_dv t.2)))[j]? = some q := by simpa using hj
                  have hq := (List.mem_replicate.mp (List.mem_of_getElem? hj)).2
                  subst hq
                  have hlt : j < (z_lo n).toNat := by simpa using (List.getElem?_eq_some_iff.mp hj).1
                  exact ⟨z_row false (100 + t.2) (z_lo k).toNat d true, by simp [hlt], z_row_ok (z_vabs_ok hd), fun _ j' _ hj' => hj'⟩
        · cases h
      · cases h
    · cases h
  · cases h
def z_amk (md : Bool) (cls : Nat → Option (Nat × List Value)) (aan : Nat → Option Nat) (mna : Nat → Option (Nat × Nat)) (AH : List z_ac_) (B : Nat) : Instr → List z_av → Option (List z_av × List z_ac_ × Nat × Nat)
  | .new n => z_amn (cls n) AH B
  | .newarray t => z_ama md (z_atc t) z_dv AH B
  | .anewarray n => z_ama md (aan n) (fun _ => .null) AH B
  | .multianewarray n d => fun st => if d = 2 then z_amm md (mna n) AH B st else none
  | _ => fun _ => none
theorem z_amk_ok {md : Bool} {cls : Nat → Option (Nat × List Value)} {aan : Nat → Option Nat} {mna : Nat → Option (Nat × Nat)} {ins : Instr} {AH AH' : List z_ac_} {B dc ds : Nat} {P : z_H} {ast ast' : List z_av} {st : List Value} (h : z_amk md cls aan mna AH B ins ast = some (ast', AH', dc, ds)) (hH : z_gh strs N al AH P) (hs : z_all2 (z_gv N al) ast st) (hB : P.length ≤ B) :
    ∃ st' P' al', z_mk cls aan mna P ins st = some (st', P', dc, ds) ∧ z_le N N al al' ∧ z_all2 (z_gv N al') ast' st' ∧ z_gh strs N al' AH' P' ∧ P'.length = P.length + dc := by
  cases ins
  case new n => exact z_amn_ok h hH hs hB
  case newarray t => exact z_ama_ok h hH hs hB
  case anewarray n => exact z_ama_ok h hH hs hB
  case multianewarray n d =>
    have h : (if d = 2 then z_amm md (mna n) AH B ast else none) = some (ast', AH', dc, ds) := h
    split at h
    · rename_i hd
      obtain ⟨st', P', al', g1, g2⟩ := z_amm_ok h hH hs hB
      exact ⟨st', P', al', by show (if d = 2 then z_mkm (mna n) P st else none) = _; rw [if_pos hd]; exact g1, g2⟩
    · cases h
  all_goals (cases h)
end ZAMK
