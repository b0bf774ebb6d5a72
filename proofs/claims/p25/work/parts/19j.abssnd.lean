section ZASN
variable {N : List Int} {al : Nat → Option Nat}
theorem z_all2.mem0 {α β : Type} {R : α → β → Prop} : ∀ {as : List α} {bs : List β} {b : β}, z_all2 R as bs → b ∈ bs → ∃ a ∈ as, R a b
  | _ :: _, _ :: _, b, ⟨h1, h2⟩, hb => by
    rcases List.mem_cons.mp hb with rfl | hb
    · exact ⟨_, List.mem_cons_self, h1⟩
    · obtain ⟨a, ha, h3⟩ := h2.mem0 hb
      exact ⟨a, List.mem_cons_of_mem _ ha, h3⟩
  | [], [], _, _, hb => by cases hb
  | [], _ :: _, _, h, _ => h.elim
  | _ :: _, [], _, h, _ => h.elim
theorem z_all2_mapk {α β γ : Type} {R : α → β → Prop} {f : γ → α} {g : γ → β} : ∀ {l : List γ}, (∀ k ∈ l, R (f k) (g k)) → z_all2 R (l.map f) (l.map g)
  | [], _ => trivial
  | k :: l, h => ⟨h k List.mem_cons_self, z_all2_mapk fun k' hk => h k' (List.mem_cons_of_mem _ hk)⟩
theorem z_all2.getD {α β : Type} {R : α → β → Prop} {as : List α} {bs : List β} {i : Nat} {d : α} {e : β} (h : z_all2 R as bs) (hi : i < as.length) : R (as.getD i d) (bs.getD i e) := by
  obtain ⟨b, h1, h2⟩ := h.get (List.getElem?_eq_getElem hi)
  rw [List.getD_eq_getElem?_getD, List.getD_eq_getElem?_getD, List.getElem?_eq_getElem hi, h1]
  exact h2
/-- System.arraycopy between rows of ints, all told exactly -/
def z_acy (AH : List z_ac_) : List z_av → Option (List z_av × List z_ac_)
  | .inl n :: .inl dp :: .inr (.inr (false, [cb])) :: .inl sp :: .inr (.inr (false, [ca])) :: st => match AH[ca]?, AH[cb]? with
    | some A, some B => if A.1 = 103 ∧ B.1 = 103 ∧ A.2.1.2 = true ∧ B.2.1 = (true, true) ∧ A.2.2.1 = none ∧ B.2.2.1 = none ∧ z_lo n = z_hi n ∧ z_lo dp = z_hi dp ∧ z_lo sp = z_hi sp ∧ 0 ≤ z_lo n ∧ 0 ≤ z_lo dp ∧ 0 ≤ z_lo sp ∧ (z_lo sp).toNat + (z_lo n).toNat ≤ A.2.2.2.length ∧ (z_lo dp).toNat + (z_lo n).toNat ≤ B.2.2.2.length ∧ A.2.2.2.all z_akI = true then
        some (st, AH.set cb (103, B.2.1, none, (List.range B.2.2.2.length).map fun k => if (z_lo dp).toNat ≤ k ∧ k < (z_lo dp).toNat + (z_lo n).toNat then A.2.2.2.getD ((z_lo sp).toNat + (k - (z_lo dp).toNat)) (.inl (z_tc 0)) else B.2.2.2.getD k (.inl (z_tc 0)))) else none
    | _, _ => none
  | _ => none
theorem z_acy_ok {strs : z_Ss} {AH AH' : List z_ac_} {P : z_H} {ast ast' : List z_av} {st : List Value} (h : z_acy AH ast = some (ast', AH')) (hH : z_gh strs N al AH P) (hs : z_all2 (z_gv N al) ast st) : ∃ st' P', z_acp P st = some (st', P') ∧ z_all2 (z_gv N al) ast' st' ∧ z_gh strs N al AH' P' ∧ P'.length = P.length := by
  unfold z_acy at h
  split at h
  rotate_left
  · cases h
  rename_i n dp cb sp ca ast0
  split at h
  rotate_left
  · cases h
  rename_i A B hA hB
  split at h
  rotate_left
  · cases h
  rename_i hc
  cases h
  obtain ⟨c1, c2, c3, c4, c5, c6, c7, c8, c9, c10, c11, c12, c13, c14, c15⟩ := hc
  match st, hs with
  | _ :: _ :: _ :: _ :: _ :: st, ⟨⟨n', e1, hn⟩, ⟨dp', e2, hdp⟩, hb, ⟨sp', e3, hsp⟩, ha, hr⟩ =>
    subst e1; subst e2; subst e3
    rcases hb with ⟨-, q⟩ | ⟨b, cb', e4, hb, hbm⟩
    · cases q
    rcases ha with ⟨-, q⟩ | ⟨a, ca', e5, ha, ham⟩
    · cases q
    subst e4; subst e5
    have hbm : cb' = cb := by simpa using hbm
    have ham : ca' = ca := by simpa using ham
    subst hbm; subst ham
    obtain ⟨q, A', g1, g2, g3, g4, g5⟩ := hH a _ ha
    cases hA.symm.trans g2
    obtain ⟨w, B', k1, k2, k3, k4, k5⟩ := hH b _ hb
    cases hB.symm.trans k2
    have hfa : a < z_far := g5 c3
    have hfb : b < z_far := k5 (by rw [c4])
    have hPa : P[a]? = some q := by
      unfold z_lk at g1
      rw [if_pos hfa] at g1
      exact g1
    have hPb : P[b]? = some w := by
      unfold z_lk at k1
      rw [if_pos hfb] at k1
      exact k1
    obtain ⟨g6, g7⟩ := g3
    rw [c5] at g7
    have g7 : z_all2 (z_gv N al) A.2.2.2 q.2 := g7
    obtain ⟨k6, k7⟩ := k3
    rw [c6] at k7
    have k7 : z_all2 (z_gv N al) B.2.2.2 w.2 := k7
    have en : n'.toInt = z_lo n := by have := hn.1; have := hn.2.1; omega
    have edp : dp'.toInt = z_lo dp := by have := hdp.1; have := hdp.2.1; omega
    have esp : sp'.toInt = z_lo sp := by have := hsp.1; have := hsp.2.1; omega
    have tn : n'.toNatClampNeg = (z_lo n).toNat := by rw [← en]; rfl
    have tdp : dp'.toNatClampNeg = (z_lo dp).toNat := by rw [← edp]; rfl
    have tsp : sp'.toNatClampNeg = (z_lo sp).toNat := by rw [← esp]; rfl
    have hall : q.2.all z_isI = true := by
      refine List.all_eq_true.mpr fun v hv => ?_
      obtain ⟨u, hu, huv⟩ := z_all2.mem0 g7 hv
      exact z_akI_ok (List.all_eq_true.mp c15 u hu) huv
    refine ⟨st, P.set b (103, z_cpy w.2 q.2 sp'.toNatClampNeg dp'.toNatClampNeg n'.toNatClampNeg), ?_, hr, ?_, by simp⟩
    · unfold z_acp
      dsimp only
      rw [hPa, hPb]
      dsimp only
      rw [if_pos ⟨by rw [← g6, c1], by rw [← k6, c2], by omega, by omega, by omega, by rw [tn, tsp, ← g7.len]; exact c13, by rw [tn, tdp, ← k7.len]; exact c14, hall⟩]
    · refine z_gh_set hH hfb (List.getElem?_eq_some_iff.mp hPb).1 fun c' C hC => ?_
      by_cases hcc : c' = cb'
      · subst hcc
        cases hB.symm.trans hC
        refine ⟨_, List.getElem?_set_self (List.getElem?_eq_some_iff.mp hB).1, rfl, fun b' q0 hne hb' => absurd (k4 (by rw [c4]) b' hb') hne, fun _ => ⟨rfl, ?_⟩⟩
        show z_all2 (z_gv N al) ((List.range B.2.2.2.length).map _) (z_cpy w.2 q.2 _ _ _)
        unfold z_cpy
        rw [tn, tdp, tsp, ← k7.len]
        refine z_all2_mapk fun k hk => ?_
        have hk := List.mem_range.mp hk
        split
        · rename_i hin
          exact g7.getD (by omega)
        · exact k7.getD hk
      · exact ⟨C, by rw [List.getElem?_set_ne (fun e => hcc e.symm)]; exact hC, rfl, fun _ _ _ _ h => h, fun e => absurd (Option.some.inj (e.symm.trans hb)) hcc⟩
/-- Object's own constructor, arraycopy -/
def z_aprim (kd d : Nat) (S : z_as_) : Option z_as_ := if kd = 3 then match S.1.2.2.2.1 with
    | .inr (.inr r) :: st => if r.1 = false ∧ 1 ≤ d ∧ z_acs st ≤ 8 then some (z_go S (S.1.2.1 + 3) S.1.2.2.1 st) else none
    | _ => none
  else if kd = 5 then match z_acy S.2.2.1 S.1.2.2.2.1 with
    | some q => if 1 ≤ d ∧ z_acs q.1 ≤ 8 then some (z_hp (z_go S (S.1.2.1 + 3) S.1.2.2.1 q.1) q.2) else none
    | none => none
  else none
theorem z_aprim_ok {G : z_Pg} {kd d : Nat} {S S' : z_as_} {f : z_Fr} {rest : List z_Fr} {P : z_H} (h : z_aprim kd d S = some S') (hS : z_gs (z_strs G) N al S f rest P) :
    ∃ q, z_prim kd d f.2.1 f.2.2.1 f.2.2.2.1 P f.2.2.2.2.1 f.2.2.2.2.2 = some q ∧ z_gs (z_strs G) N al S' (f.1, q.1, q.2.1, q.2.2.1, q.2.2.2.2.1, q.2.2.2.2.2) rest q.2.2.2.1 := by
  obtain ⟨⟨a1, a2, a3, a4, a5, a6⟩, b1, b2, b3, b4, b5⟩ := id hS
  unfold z_aprim at h
  split at h
  · rename_i hk
    split at h
    · rename_i r st hst
      split at h
      · rename_i hc
        cases h
        rw [hst] at a4
        generalize hv : f.2.2.2.1 = vs at a4
        match vs, a4 with
        | _ :: vs, ⟨Or.inl ⟨_, h3⟩, _⟩ => rw [hc.1] at h3; cases h3
        | _ :: vs, ⟨Or.inr ⟨a, c, e, _⟩, h4⟩ =>
          subst e
          refine ⟨(f.2.1 + 3, f.2.2.1, vs, P, f.2.2.2.2.1, f.2.2.2.2.2), ?_, by rw [a2]; exact z_go_gs hS a3 h4⟩
          unfold z_prim
          rw [if_pos hk]
          dsimp only
          rw [if_pos ⟨hc.2.1, by rw [z_acs_eq h4]; exact hc.2.2⟩]
      · cases h
    · cases h
  · rename_i hk
    split at h
    rotate_left
    · cases h
    rename_i hk5
    split at h
    rotate_left
    · cases h
    rename_i q hq
    split at h
    rotate_left
    · cases h
    rename_i hc
    cases h
    obtain ⟨st', P', g1, g2, g3, g4⟩ := z_acy_ok (ast' := q.1) (AH' := q.2) hq b2 a4
    refine ⟨(f.2.1 + 3, f.2.2.1, st', P', f.2.2.2.2.1, f.2.2.2.2.2), ?_, ⟨a1, congrArg (· + 3) a2, a3, g2, a5, a6⟩, b1, g3, b3, b4, by show P'.length ≤ S.2.2.2.2.2; rw [g4]; exact b5⟩
    unfold z_prim
    rw [if_neg hk, if_pos hk5, g1]
    dsimp only
    rw [if_pos ⟨hc.1, by rw [z_acs_eq g2]; exact hc.2⟩]
/-- behind a call that gave r -/
def z_afb (G : z_Pg) (g : z_af) (r : Option z_av) (y : Nat) : z_af := (g.1, g.2.1 + 3, g.2.2.1, r.toList ++ g.2.2.2.1, g.2.2.2.2.1 + z_mc G y, g.2.2.2.2.2 + z_ms G y)
/-- what comes next: an end, or some states with their depths -/
def z_succ (G : z_Pg) (md : Nat → Nat → Bool) (ns d : Nat) (S : z_as_) : Option (Option z_av ⊕ List (Nat × z_as_)) := match z_cod G S.1.1 S.1.2.1 with
  | none => none
  | some i => match z_call G S.1.1 i.1 with
    | some yk => if yk.2 < 3 then match z_aargs G d yk.1 yk.2 S with
        | some S' => some (.inr [(d - 1, S')])
        | none => none
      else match z_aprim yk.2 d S with
        | some S' => some (.inr [(d, S')])
        | none => none
    | none => if z_isr i.1 then match z_aret (z_rty G S.1.1) i.1 S.1.2.2.2.1 with
        | some r => match S.2.1 with
          | [] => some (.inl r)
          | g :: rest => some (.inr [(d + 1, (z_afb G g r S.1.1, rest, S.2.2))])
        | none => none
      else match z_astp G (md S.1.1 S.1.2.1) ns S i.1 i.2 with
        | some Ss => some (.inr (Ss.map fun S' => (d, S')))
        | none => none
/-- the walk of all roads: every end is told to Q -/
def z_walk (G : z_Pg) (md : Nat → Nat → Bool) (ns : Nat) (Q : z_as_ → Option z_av → Bool) : Nat → List (Nat × z_as_) → Bool
  | _, [] => true
  | 0, _ :: _ => false
  | f + 1, x :: W => match z_succ G md ns x.1 x.2 with
    | none => false
    | some (.inl r) => match Q x.2 r with
      | true => z_walk G md ns Q f W
      | false => false
    | some (.inr Ss) => z_walk G md ns Q f (Ss ++ W)
/-- what is known of an end -/
def z_end (G : z_Pg) (Q : z_as_ → Option z_av → Bool) (N : List Int) (al : Nat → Option Nat) (r : Option Value) (P' : z_H) : Prop :=
  ∃ S' t N' al', Q S' t = true ∧ z_le N N' al al' ∧ z_gh (z_strs G) N' al' S'.2.2.1 P' ∧ S'.2.2.2.1 = N'.length ∧ z_gx N' S'.2.2.2.2.1 ∧ P'.length ≤ S'.2.2.2.2.2 ∧ z_go_ N' al' t r
theorem z_end.mono {G : z_Pg} {Q : z_as_ → Option z_av → Bool} {N N1 : List Int} {al al1 : Nat → Option Nat} {r : Option Value} {P' : z_H} (hle : z_le N N1 al al1) (h : z_end G Q N1 al1 r P') : z_end G Q N al r P' := by
  obtain ⟨⟨X, rfl⟩, k⟩ := hle
  obtain ⟨S', t, N', al', g1, ⟨⟨Y, rfl⟩, k'⟩, g3⟩ := h
  exact ⟨S', t, _, al', g1, ⟨⟨X ++ Y, by rw [List.append_assoc]⟩, fun a c hac => k' a c (k a c hac)⟩, g3⟩
/-- one step of the walk -/
theorem z_succ_ok {G : z_Pg} {md : Nat → Nat → Bool} {ns : Nat} {Q : z_as_ → Option z_av → Bool} {d : Nat} {S : z_as_} {N : List Int} {al : Nat → Option Nat} {f : z_Fr} {rest : List z_Fr} {P : z_H} {o : Option z_av ⊕ List (Nat × z_as_)} (h : z_succ G md ns d S = some o) (hS : z_gs (z_strs G) N al S f rest P) (hf : z_fr ns al)
    (hend : ∀ r, o = .inl r → Q S r = true) (hgo : ∀ Ss, o = .inr Ss → ∀ x ∈ Ss, ∀ {N al f rest P}, z_gs (z_strs G) N al x.2 f rest P → z_fr ns al → ∃ r P', z_RF G rest f x.1 P r P' ∧ z_end G Q N al r P') : ∃ r P', z_RF G rest f d P r P' ∧ z_end G Q N al r P' := by
    obtain ⟨⟨a1, a2, a3, a4, a5, a6⟩, b1, b2, b3, b4, b5⟩ := id hS
    unfold z_succ at h
    rw [a1, a2] at h
    split at h
    · cases h
    · rename_i i hi
      split at h
      · rename_i yk hyk
        split at h
        · rename_i hlt
          split at h
          · rename_i S' hS'
            cases h
            obtain ⟨hd, as, r, g1, g2⟩ := z_aargs_ok hS' hS
            obtain ⟨rv, P', k1, k2⟩ := hgo _ rfl (d - 1, S') (List.mem_singleton_self _) g2 hf
            refine ⟨rv, P', z_RF_call hd ?_ k1, k2⟩
            unfold z_next
            show (match z_cod G f.1 f.2.1 with | none => none | some i => _) = _
            rw [hi]
            dsimp only
            rw [hyk]
            dsimp only
            rw [if_pos hlt]
            show (match z_args G d yk.1 yk.2 f.1 f.2.2.2.1 P f.2.2.2.2.1 f.2.2.2.2.2 with | some ar => _ | none => none) = _
            rw [g1]
          · cases h
        · rename_i hlt
          split at h
          · rename_i S' hS'
            cases h
            obtain ⟨q, g1, g2⟩ := z_aprim_ok hS' hS
            obtain ⟨rv, P', k1, k2⟩ := hgo _ rfl (d, S') (List.mem_singleton_self _) g2 hf
            refine ⟨rv, P', z_RF_step ?_ k1, k2⟩
            unfold z_next
            show (match z_cod G f.1 f.2.1 with | none => none | some i => _) = _
            rw [hi]
            dsimp only
            rw [hyk]
            dsimp only
            rw [if_neg hlt]
            show (match z_prim yk.2 d f.2.1 f.2.2.1 f.2.2.2.1 P f.2.2.2.2.1 f.2.2.2.2.2 with | some q' => _ | none => none) = _
            rw [g1]
          · cases h
      · rename_i hno
        split at h
        · rename_i hisr
          split at h
          · rename_i r hr
            obtain ⟨v, g1, g2⟩ := z_aret_ok hr a4
            have hn : z_next G d f.1 (z_fs f P) = some (.inl v) := by
              unfold z_next
              show (match z_cod G f.1 f.2.1 with | none => none | some i => _) = _
              rw [hi]
              dsimp only
              rw [hno]
              show (match z_ret (z_rty G f.1) i.1 f.2.2.2.1 with | some r => _ | none => _) = _
              rw [g1]
            split at h
            · rename_i hrest
              cases h
              rw [hrest] at b1
              match rest, b1 with
              | [], _ => exact ⟨v, P, z_RF_end hn, S, r, N, al, hend r rfl, z_le.rf, b2, b3, b4, b5, g2⟩
            · rename_i g grest hrest
              cases h
              rw [hrest] at b1
              match rest, b1 with
              | fr :: rest, ⟨c1, c2⟩ =>
                obtain ⟨e1, e2, e3, e4, e5, e6⟩ := c1
                have hS2 : z_gs (z_strs G) N al (z_afb G g r f.1, grest, S.2.2) (z_fb G fr v f.1) rest P := ⟨⟨e1, congrArg (· + 3) e2, e3, (z_go_l g2).app e4, congrArg (· + z_mc G f.1) e5, congrArg (· + z_ms G f.1) e6⟩, c2, b2, b3, b4, b5⟩
                obtain ⟨rv, P', k1, k2⟩ := hgo _ rfl (d + 1, (z_afb G g r f.1, grest, S.2.2)) (List.mem_singleton_self _) hS2 hf
                exact ⟨rv, P', z_RF_ret hn k1, k2⟩
          · cases h
        · rename_i hisr
          split at h
          · rename_i Ss hSs
            cases h
            obtain ⟨q, g1, S', g2, N1, al1, g3, g4⟩ := z_astp_ok hSs hS hf
            obtain ⟨rv, P', k1, k2⟩ := hgo _ rfl (d, S') (List.mem_map.mpr ⟨S', g2, rfl⟩) g4 (hf.mono g3)
            refine ⟨rv, P', z_RF_step ?_ k1, k2.mono g3⟩
            unfold z_next
            show (match z_cod G f.1 f.2.1 with | none => none | some i => _) = _
            rw [hi]
            dsimp only
            rw [hno]
            show (match z_ret (z_rty G f.1) i.1 f.2.2.2.1 with | some r => _ | none => _) = _
            rw [z_isr_no (by simpa using hisr)]
            show (match z_step G f.1 i.1 i.2 f.2.1 f.2.2.1 f.2.2.2.1 P f.2.2.2.2.1 f.2.2.2.2.2 with | some q' => _ | none => none) = _
            rw [g1]
          · cases h
theorem z_walk_ok {G : z_Pg} {md : Nat → Nat → Bool} {ns : Nat} {Q : z_as_ → Option z_av → Bool} : ∀ {fu : Nat} {W : List (Nat × z_as_)}, z_walk G md ns Q fu W = true → ∀ x ∈ W, ∀ {N : List Int} {al : Nat → Option Nat} {f : z_Fr} {rest : List z_Fr} {P : z_H}, z_gs (z_strs G) N al x.2 f rest P → z_fr ns al → ∃ r P', z_RF G rest f x.1 P r P' ∧ z_end G Q N al r P'
  | _, [], _, x, hx => by cases hx
  | 0, _ :: _, h, _, _ => by cases h
  | fu + 1, y :: W, h, x, hx => by
    unfold z_walk at h
    split at h
    · cases h
    · rename_i r hr
      split at h
      · rename_i hq
        rcases List.mem_cons.mp hx with hx | hx
        · subst hx
          intro hS hf
          exact z_succ_ok hr hS hf (fun r' e => by cases e; exact hq) (fun Ss e => by cases e)
        · exact z_walk_ok h x hx
      · cases h
    · rename_i Ss hr
      rcases List.mem_cons.mp hx with hx | hx
      · subst hx
        intro hS hf
        exact z_succ_ok hr hS hf (fun r' e => by cases e) (fun Ss' e x' hx' => by
          cases e
          exact z_walk_ok h x' (List.mem_append.mpr (Or.inl hx')))
      · exact z_walk_ok h x (List.mem_append.mpr (Or.inr hx))
end ZASN
