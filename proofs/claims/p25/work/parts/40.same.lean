/-! What a run leaves as it was: a list of cells and places that may be written. -/
section ZSAM
/-- cells that may be written: whole ones, or some places of theirs -/
abbrev z_Ws : Type := List (Nat × Option (List Nat))
def z_wget : z_Ws → Nat → Option (Option (List Nat))
  | [], _ => none
  | q :: r, c => bif Nat.beq q.1 c then some q.2 else z_wget r c
def z_wall (W : z_Ws) (c : Nat) : Bool := match z_wget W c with
  | some none => true
  | _ => false
def z_win (W : z_Ws) (c e : Nat) : Bool := match z_wget W c with
  | some none => true
  | some (some es) => z_nin e es
  | none => false
theorem z_wall_win {W : z_Ws} {c e : Nat} (h : z_wall W c = true) : z_win W c e = true := by
  unfold z_wall at h
  unfold z_win
  split at h
  · rename_i h1
    rw [h1]
  · cases h
/-- all that the first allows, the second allows -/
def z_wsub (W W' : z_Ws) : Bool := W.all fun q => match q.2 with
  | none => z_wall W' q.1
  | some es => es.all fun e => z_win W' q.1 e
theorem z_wget_mem : ∀ {W : z_Ws} {c : Nat} {o : Option (List Nat)}, z_wget W c = some o → (c, o) ∈ W
  | [], _, _, h => by cases h
  | q :: r, c, o, h => by
    unfold z_wget at h
    cases hb : Nat.beq q.1 c with
    | true =>
      rw [hb] at h
      have h : some q.2 = some o := h
      cases h
      rw [← Nat.eq_of_beq_eq_true hb]
      exact List.mem_cons_self
    | false =>
      rw [hb] at h
      exact List.mem_cons_of_mem _ (z_wget_mem h)
theorem z_wsub_all {W W' : z_Ws} (h : z_wsub W W' = true) {c : Nat} (k : z_wall W c = true) : z_wall W' c = true := by
  unfold z_wall at k
  split at k
  · rename_i h1
    exact List.all_eq_true.mp h _ (z_wget_mem h1)
  · cases k
theorem z_wsub_in {W W' : z_Ws} (h : z_wsub W W' = true) {c e : Nat} (k : z_win W c e = true) : z_win W' c e = true := by
  unfold z_win at k
  split at k
  · rename_i h1
    exact z_wall_win (List.all_eq_true.mp h _ (z_wget_mem h1))
  · rename_i es h1
    exact List.all_eq_true.mp (List.all_eq_true.mp h _ (z_wget_mem h1)) e (z_nin_ok k)
  · cases k
/-- the near cells are as they were, but for what may be written -/
def z_same (W : z_Ws) (al : Nat → Option Nat) (P P' : z_H) : Prop := ∀ a c, al a = some c → a < z_far → ∃ q q', P[a]? = some q ∧ P'[a]? = some q' ∧ q'.1 = q.1 ∧ q'.2.length = q.2.length ∧ ∀ e, z_win W c e = false → q'.2[e]? = q.2[e]?
variable {strs : z_Ss} {N : List Int} {al : Nat → Option Nat} {W : z_Ws}
theorem z_gh_near {AH : List z_ac_} {P : z_H} (h : z_gh strs N al AH P) {a c : Nat} (hac : al a = some c) (ha : a < z_far) : ∃ q A, P[a]? = some q ∧ AH[c]? = some A ∧ z_gc N al A q := by
  obtain ⟨q, A, h1, h2, h3, -⟩ := h a c hac
  unfold z_lk at h1
  rw [if_pos ha] at h1
  exact ⟨q, A, h1, h2, h3⟩
theorem z_same_rf {AH : List z_ac_} {P : z_H} (h : z_gh strs N al AH P) : z_same W al P P := fun a c hac ha => by
  obtain ⟨q, A, h1, -⟩ := z_gh_near h hac ha
  exact ⟨q, q, h1, h1, rfl, rfl, fun _ _ => rfl⟩
theorem z_same_tr {P P1 P2 : z_H} (h : z_same W al P P1) (k : z_same W al P1 P2) : z_same W al P P2 := fun a c hac ha => by
  obtain ⟨q, q1, h1, h2, h3, h4, h5⟩ := h a c hac ha
  obtain ⟨r, q2, k1, k2, k3, k4, k5⟩ := k a c hac ha
  cases h2.symm.trans k1
  exact ⟨q, q2, h1, k2, k3.trans h3, k4.trans h4, fun e he => (k5 e he).trans (h5 e he)⟩
theorem z_same_sub {W' : z_Ws} {P P' : z_H} (hs : z_wsub W W' = true) (h : z_same W al P P') : z_same W' al P P' := fun a c hac ha => by
  obtain ⟨q, q', h1, h2, h3, h4, h5⟩ := h a c hac ha
  refine ⟨q, q', h1, h2, h3, h4, fun e he => h5 e ?_⟩
  cases hw : z_win W c e with
  | false => rfl
  | true => rw [z_wsub_in hs hw] at he; cases he
theorem z_same_al {al' : Nat → Option Nat} {P P' : z_H} (hl : ∀ a c, al' a = some c → al a = some c) (h : z_same W al P P') : z_same W al' P P' := fun a c hac ha => h a c (hl a c hac) ha
theorem z_same_app {AH : List z_ac_} {P Q : z_H} (h : z_gh strs N al AH P) : z_same W al P (P ++ Q) := fun a c hac ha => by
  obtain ⟨q, A, h1, -⟩ := z_gh_near h hac ha
  exact ⟨q, q, h1, by rw [List.getElem?_append_left (List.getElem?_eq_some_iff.mp h1).1]; exact h1, rfl, rfl, fun _ _ => rfl⟩
theorem z_same_set {AH : List z_ac_} {P : z_H} {b c : Nat} {q q' : z_C} (h : z_gh strs N al AH P) (hb : al b = some c) (hP : P[b]? = some q) (h1 : q'.1 = q.1) (h2 : q'.2.length = q.2.length) (h3 : ∀ e, z_win W c e = false → q'.2[e]? = q.2[e]?) : z_same W al P (P.set b q') := fun a d hac ha => by
  by_cases hab : a = b
  · subst hab
    cases hb.symm.trans hac
    exact ⟨q, q', hP, by rw [List.getElem?_set_self (List.getElem?_eq_some_iff.mp hP).1], h1, h2, h3⟩
  · obtain ⟨r, A, g1, -⟩ := z_gh_near h hac ha
    exact ⟨r, r, g1, by rw [List.getElem?_set_ne (fun e => hab e.symm)]; exact g1, rfl, rfl, fun _ _ => rfl⟩
/-- does a write keep to the list? -/
def z_war (W : z_Ws) : List z_av → Bool
  | _ :: _ :: .inr (.inr r) :: _ => r.2.all fun c => z_wall W c
  | _ => false
def z_wpf (W : z_Ws) (fk : Option (Nat × Nat)) : List z_av → Bool
  | _ :: .inr (.inr r) :: _ => match fk with
    | some f => r.2.all fun c => z_win W c f.2
    | none => false
  | _ => false
def z_wchk (fld : Nat → Option (Nat × Nat)) (W : z_Ws) : Instr → List z_av → Bool
  | .putfield n => z_wpf W (fld n)
  | .iastore => z_war W
  | .castore => z_war W
  | .bastore => z_war W
  | .lastore => z_war W
  | .aastore => z_war W
  | _ => fun _ => true
theorem z_wst {ast : List z_av} {x y : Value} {b : Nat} {st : List Value} (h : z_war W ast = true) (hs : z_all2 (z_gv N al) ast (x :: y :: .ref b :: st)) : ∃ c, al b = some c ∧ z_wall W c = true := by
  unfold z_war at h
  split at h
  · obtain ⟨-, -, k, -⟩ := hs
    rcases k with ⟨k, -⟩ | ⟨a, c, k1, k2, k3⟩
    · cases k
    · cases k1
      exact ⟨c, k2, List.all_eq_true.mp h c k3⟩
  · cases h
theorem z_wr_same {fld : Nat → Option (Nat × Nat)} {fty : Nat → Nat → FieldType} {fin : Nat → Nat → Bool} {ini : Option Nat} {ac : Nat → Option Nat} {ins : Instr} {AH : List z_ac_} {P P' : z_H} {ast : List z_av} {st st' : List Value} (hw : z_wchk fld W ins ast = true) (h : z_wr fld fty fin ini ac P ins st = some (st', P')) (hH : z_gh strs N al AH P) (hs : z_all2 (z_gv N al) ast st) : z_same W al P P' := by
  have has : ∀ {t : Nat} {nf : Int32 → Int32} {st st' : List Value} {P' : z_H}, z_war W ast = true → z_as t nf P st = some (st', P') → z_all2 (z_gv N al) ast st → z_same W al P P' := by
    intro t nf st st' P' hw h hs
    unfold z_as at h
    split at h
    · split at h
      · rename_i q hq
        split at h
        · rename_i hc
          cases h
          obtain ⟨c, k1, k2⟩ := z_wst hw hs
          refine z_same_set hH k1 hq hc.1.symm (by simp) fun e he => ?_
          rw [z_wall_win k2] at he
          cases he
        · cases h
      · cases h
    · cases h
  cases ins
  case putfield n =>
    have h : z_pf (fld n) fty fin ini P st = some (st', P') := h
    have hw : z_wpf W (fld n) ast = true := hw
    unfold z_wpf at hw
    split at hw
    · rename_i v r rr
      cases hf : fld n with
      | none => rw [hf] at hw; cases hw
      | some f =>
      rw [hf] at hw h
      unfold z_pf at h
      split at h
      · rename_i w b st0
        dsimp only at h hw
        split at h
        · rename_i q hq
          split at h
          · rename_i hc
            cases h
            obtain ⟨-, k, -⟩ := hs
            rcases k with ⟨k, -⟩ | ⟨a, c, k1, k2, k3⟩
            · cases k
            · cases k1
              have hin := List.all_eq_true.mp hw c k3
              refine z_same_set hH k2 hq hc.1.symm (by simp) fun e he => ?_
              have hne : f.2 ≠ e := fun q => by rw [← q, hin] at he; cases he
              exact List.getElem?_set_ne hne
          · cases h
        · cases h
      · cases h
    · cases hw
  case iastore => exact has hw h hs
  case castore => exact has hw h hs
  case bastore =>
    have h : (z_as 101 (fun x => x.toInt8.toInt32) P st).or (z_as 100 (fun x => x &&& 1) P st) = some (st', P') := h
    cases h1 : z_as 101 (fun x => x.toInt8.toInt32) P st with
    | some q =>
      rw [h1] at h
      cases h
      exact has hw h1 hs
    | none =>
      rw [h1] at h
      exact has hw h hs
  case lastore =>
    have h : z_las P st = some (st', P') := h
    unfold z_las at h
    split at h
    · split at h
      · rename_i q hq
        split at h
        · rename_i hc
          cases h
          obtain ⟨c, k1, k2⟩ := z_wst hw hs
          refine z_same_set hH k1 hq hc.1.symm (by simp) fun e he => ?_
          rw [z_wall_win k2] at he
          cases he
        · cases h
      · cases h
    · cases h
  case aastore =>
    have h : z_aas ac P st = some (st', P') := h
    unfold z_aas at h
    split at h
    · split at h
      · rename_i q hq
        split at h
        · split at h
          · rename_i hc
            cases h
            obtain ⟨c, k1, k2⟩ := z_wst hw hs
            refine z_same_set hH k1 hq rfl (by simp) fun e he => ?_
            rw [z_wall_win k2] at he
            cases he
          · cases h
        · cases h
      · cases h
    · cases h
  all_goals (cases h)
theorem z_acp_same {AH : List z_ac_} {P P' : z_H} {n dp : z_av} {cs : Bool × List Nat} {ast : List z_av} {st st' : List Value} (hw : (cs.2.all fun c => z_wall W c) = true) (h : z_acp P st = some (st', P')) (hH : z_gh strs N al AH P) (hs : z_all2 (z_gv N al) (n :: dp :: .inr (.inr cs) :: ast) st) : z_same W al P P' ∧ P'.length = P.length := by
  unfold z_acp at h
  split at h
  · split at h
    · rename_i q w hq hwb
      split at h
      · rename_i hc
        cases h
        obtain ⟨-, -, k, -⟩ := hs
        rcases k with ⟨k, -⟩ | ⟨a, c, k1, k2, k3⟩
        · cases k
        · cases k1
          refine ⟨z_same_set hH k2 hwb hc.2.1.symm (by simp [z_cpy]) fun e he => ?_, by simp⟩
          rw [z_wall_win (List.all_eq_true.mp hw c k3)] at he
          cases he
      · cases h
    · cases h
  · cases h
end ZSAM
