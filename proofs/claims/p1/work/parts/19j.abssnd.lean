section ZASN
variable {N : List Int} {al : Nat → Option Nat}
/-- Object's own constructor -/
def z_aprim (kd d : Nat) (S : z_as_) : Option z_as_ := if kd = 3 then match S.1.2.2.2.1 with
    | .inr (.inr r) :: st => if r.1 = false ∧ 1 ≤ d ∧ z_acs st ≤ 8 then some (z_go S (S.1.2.1 + 3) S.1.2.2.1 st) else none
    | _ => none
  else none
theorem z_aprim_ok {G : z_Pg} {kd d : Nat} {S S' : z_as_} {f : z_Fr} {rest : List z_Fr} {P : z_H} (h : z_aprim kd d S = some S') (hS : z_gs (z_strs G) N al S f rest P) :
    ∃ q, z_prim kd d f.2.1 f.2.2.1 f.2.2.2.1 P f.2.2.2.2.1 f.2.2.2.2.2 = some q ∧ z_gs (z_strs G) N al S' (f.1, q.1, q.2.1, q.2.2.1, q.2.2.2.2.1, q.2.2.2.2.2) rest q.2.2.2.1 := by
  obtain ⟨⟨a1, a2, a3, a4, a5, a6⟩, -⟩ := id hS
  unfold z_aprim at h
  split at h
  · rename_i hk
    split at h
    · rename_i r st hst
      split at h
      · rename_i hc
        cases h
        rw [hst] at a4
        generalize hv : f.2.2.2.1 = vs at a4
        match vs, a4 with
        | _ :: vs, ⟨Or.inl ⟨_, h3⟩, _⟩ => rw [hc.1] at h3; cases h3
        | _ :: vs, ⟨Or.inr ⟨a, c, e, _⟩, h4⟩ =>
          subst e
          refine ⟨(f.2.1 + 3, f.2.2.1, vs, P, f.2.2.2.2.1, f.2.2.2.2.2), ?_, by rw [a2]; exact z_go_gs hS a3 h4⟩
          unfold z_prim
          rw [if_pos hk]
          dsimp only
          rw [if_pos ⟨hc.2.1, by rw [z_acs_eq h4]; exact hc.2.2⟩]
      · cases h
    · cases h
  · cases h
/-- behind a call that gave r -/
def z_afb (G : z_Pg) (g : z_af) (r : Option z_av) (y : Nat) : z_af := (g.1, g.2.1 + 3, g.2.2.1, r.toList ++ g.2.2.2.1, g.2.2.2.2.1 + z_mc G y, g.2.2.2.2.2 + z_ms G y)
/-- what comes next: an end, or some states with their depths -/
def z_succ (G : z_Pg) (md : Nat → Nat → Bool) (ns d : Nat) (S : z_as_) : Option (Option z_av ⊕ List (Nat × z_as_)) := match z_cod G S.1.1 S.1.2.1 with
  | none => none
  | some i => match z_call G S.1.1 i.1 with
    | some yk => if yk.2 < 3 then match z_aargs G d yk.1 yk.2 S with
        | some S' => some (.inr [(d - 1, S')])
        | none => none
      else match z_aprim yk.2 d S with
        | some S' => some (.inr [(d, S')])
        | none => none
    | none => if z_isr i.1 then match z_aret (z_rty G S.1.1) i.1 S.1.2.2.2.1 with
        | some r => match S.2.1 with
          | [] => some (.inl r)
          | g :: rest => some (.inr [(d + 1, (z_afb G g r S.1.1, rest, S.2.2))])
        | none => none
      else match z_astp G (md S.1.1 S.1.2.1) ns S i.1 i.2 with
        | some Ss => some (.inr (Ss.map fun S' => (d, S')))
        | none => none
/-- the walk of all roads: every end is told to Q -/
def z_walk (G : z_Pg) (md : Nat → Nat → Bool) (ns : Nat) (Q : z_as_ → Option z_av → Bool) : Nat → List (Nat × z_as_) → Bool
  | _, [] => true
  | 0, _ :: _ => false
  | f + 1, x :: W => match z_succ G md ns x.1 x.2 with
    | none => false
    | some (.inl r) => match Q x.2 r with
      | true => z_walk G md ns Q f W
      | false => false
    | some (.inr Ss) => z_walk G md ns Q f (Ss ++ W)
/-- what is known of an end -/
def z_end (G : z_Pg) (Q : z_as_ → Option z_av → Bool) (N : List Int) (al : Nat → Option Nat) (r : Option Value) (P' : z_H) : Prop :=
  ∃ S' t N' al', Q S' t = true ∧ z_le N N' al al' ∧ z_gh (z_strs G) N' al' S'.2.2.1 P' ∧ S'.2.2.2.1 = N'.length ∧ z_gx N' S'.2.2.2.2.1 ∧ P'.length ≤ S'.2.2.2.2.2 ∧ z_go_ N' al' t r
theorem z_end.mono {G : z_Pg} {Q : z_as_ → Option z_av → Bool} {N N1 : List Int} {al al1 : Nat → Option Nat} {r : Option Value} {P' : z_H} (hle : z_le N N1 al al1) (h : z_end G Q N1 al1 r P') : z_end G Q N al r P' := by
  obtain ⟨⟨X, rfl⟩, k⟩ := hle
  obtain ⟨S', t, N', al', g1, ⟨⟨Y, rfl⟩, k'⟩, g3⟩ := h
  exact ⟨S', t, _, al', g1, ⟨⟨X ++ Y, by rw [List.append_assoc]⟩, fun a c hac => k' a c (k a c hac)⟩, g3⟩
/-- one step of the walk -/
theorem z_succ_ok {G : z_Pg} {md : Nat → Nat → Bool} {ns : Nat} {Q : z_as_ → Option z_av → Bool} {d : Nat} {S : z_as_} {N : List Int} {al : Nat → Option Nat} {f : z_Fr} {rest : List z_Fr} {P : z_H} {o : Option z_av ⊕ List (Nat × z_as_)} (h : z_succ G md ns d S = some o) (hS : z_gs (z_strs G) N al S f rest P) (hf : z_fr ns al)
    (hend : ∀ r, o = .inl r → Q S r = true) (hgo : ∀ Ss, o = .inr Ss → ∀ x ∈ Ss, ∀ {N al f rest P}, z_gs (z_strs G) N al x.2 f rest P → z_fr ns al → ∃ r P', z_RF G rest f x.1 P r P' ∧ z_end G Q N al r P') : ∃ r P', z_RF G rest f d P r P' ∧ z_end G Q N al r P' := by
    obtain ⟨⟨a1, a2, a3, a4, a5, a6⟩, b1, b2, b3, b4, b5⟩ := id hS
    unfold z_succ at h
    rw [a1, a2] at h
    split at h
    · cases h
    · rename_i i hi
      split at h
      · rename_i yk hyk
        split at h
        · rename_i hlt
          split at h
          · rename_i S' hS'
            cases h
            obtain ⟨hd, as, r, g1, g2⟩ := z_aargs_ok hS' hS
            obtain ⟨rv, P', k1, k2⟩ := hgo _ rfl (d - 1, S') (List.mem_singleton_self _) g2 hf
            refine ⟨rv, P', z_RF_call hd ?_ k1, k2⟩
            unfold z_next
            show (match z_cod G f.1 f.2.1 with | none => none | some i => _) = _
            rw [hi]
            dsimp only
            rw [hyk]
            dsimp only
            rw [if_pos hlt]
            show (match z_args G d yk.1 yk.2 f.1 f.2.2.2.1 P f.2.2.2.2.1 f.2.2.2.2.2 with | some ar => _ | none => none) = _
            rw [g1]
          · cases h
        · rename_i hlt
          split at h
          · rename_i S' hS'
            cases h
            obtain ⟨q, g1, g2⟩ := z_aprim_ok hS' hS
            obtain ⟨rv, P', k1, k2⟩ := hgo _ rfl (d, S') (List.mem_singleton_self _) g2 hf
            refine ⟨rv, P', z_RF_step ?_ k1, k2⟩
            unfold z_next
            show (match z_cod G f.1 f.2.1 with | none => none | some i => _) = _
            rw [hi]
            dsimp only
            rw [hyk]
            dsimp only
            rw [if_neg hlt]
            show (match z_prim yk.2 d f.2.1 f.2.2.1 f.2.2.2.1 P f.2.2.2.2.1 f.2.2.2.2.2 with | some q' => _ | none => none) = _
            rw [g1]
          · cases h
      · rename_i hno
        split at h
        · rename_i hisr
          split at h
          · rename_i r hr
            obtain ⟨v, g1, g2⟩ := z_aret_ok hr a4
            have hn : z_next G d f.1 (z_fs f P) = some (.inl v) := by
              unfold z_next
              show (match z_cod G f.1 f.2.1 with | none => none | some i => _) = _
              rw [hi]
              dsimp only
              rw [hno]
              show (match z_ret (z_rty G f.1) i.1 f.2.2.2.1 with | some r => _ | none => _) = _
              rw [g1]
            split at h
            · rename_i hrest
              cases h
              rw [hrest] at b1
              match rest, b1 with
              | [], _ => exact ⟨v, P, z_RF_end hn, S, r, N, al, hend r rfl, z_le.rf, b2, b3, b4, b5, g2⟩
            · rename_i g grest hrest
              cases h
              rw [hrest] at b1
              match rest, b1 with
              | fr :: rest, ⟨c1, c2⟩ =>
                obtain ⟨e1, e2, e3, e4, e5, e6⟩ := c1
                have hS2 : z_gs (z_strs G) N al (z_afb G g r f.1, grest, S.2.2) (z_fb G fr v f.1) rest P := ⟨⟨e1, congrArg (· + 3) e2, e3, (z_go_l g2).app e4, congrArg (· + z_mc G f.1) e5, congrArg (· + z_ms G f.1) e6⟩, c2, b2, b3, b4, b5⟩
                obtain ⟨rv, P', k1, k2⟩ := hgo _ rfl (d + 1, (z_afb G g r f.1, grest, S.2.2)) (List.mem_singleton_self _) hS2 hf
                exact ⟨rv, P', z_RF_ret hn k1, k2⟩
          · cases h
        · rename_i hisr
          split at h
          · rename_i Ss hSs
            cases h
            obtain ⟨q, g1, S', g2, N1, al1, g3, g4⟩ := z_astp_ok hSs hS hf
            obtain ⟨rv, P', k1, k2⟩ := hgo _ rfl (d, S') (List.mem_map.mpr ⟨S', g2, rfl⟩) g4 (hf.mono g3)
            refine ⟨rv, P', z_RF_step ?_ k1, k2.mono g3⟩
            unfold z_next
            show (match z_cod G f.1 f.2.1 with | none => none | some i => _) = _
            rw [hi]
            dsimp only
            rw [hno]
            show (match z_ret (z_rty G f.1) i.1 f.2.2.2.1 with | some r => _ | none => _) = _
            rw [z_isr_no (by simpa using hisr)]
            show (match z_step G f.1 i.1 i.2 f.2.1 f.2.2.1 f.2.2.2.1 P f.2.2.2.2.1 f.2.2.2.2.2 with | some q' => _ | none => none) = _
            rw [g1]
          · cases h
theorem z_walk_ok {G : z_Pg} {md : Nat → Nat → Bool} {ns : Nat} {Q : z_as_ → Option z_av → Bool} : ∀ {fu : Nat} {W : List (Nat × z_as_)}, z_walk G md ns Q fu W = true → ∀ x ∈ W, ∀ {N : List Int} {al : Nat → Option Nat} {f : z_Fr} {rest : List z_Fr} {P : z_H}, z_gs (z_strs G) N al x.2 f rest P → z_fr ns al → ∃ r P', z_RF G rest f x.1 P r P' ∧ z_end G Q N al r P'
  | _, [], _, x, hx => by cases hx
  | 0, _ :: _, h, _, _ => by cases h
  | fu + 1, y :: W, h, x, hx => by
    unfold z_walk at h
    split at h
    · cases h
    · rename_i r hr
      split at h
      · rename_i hq
        rcases List.mem_cons.mp hx with hx | hx
        · subst hx
          intro hS hf
          exact z_succ_ok hr hS hf (fun r' e => by cases e; exact hq) (fun Ss e => by cases e)
        · exact z_walk_ok h x hx
      · cases h
    · rename_i Ss hr
      rcases List.mem_cons.mp hx with hx | hx
      · subst hx
        intro hS hf
        exact z_succ_ok hr hS hf (fun r' e => by cases e) (fun Ss' e x' hx' => by
          cases e
          exact z_walk_ok h x' (List.mem_append.mpr (Or.inl hx')))
      · exact z_walk_ok h x (List.mem_append.mpr (Or.inr hx))
end ZASN
