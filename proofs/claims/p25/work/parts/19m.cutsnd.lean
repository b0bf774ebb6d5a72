section ZCSN
/-- what is told of a pile of frames (depth, top frame, those below, cells), step by step from behind; its end is told to Q -/
def z_Clo (G : z_Pg) (Q : z_as_ → Option z_av → Bool) (Φ : Nat → z_Fr → List z_Fr → z_H → Prop) : Prop :=
  (∀ {d : Nat} {f : z_Fr} {rest : List z_Fr} {P : z_H} {q : z_S}, z_next G d f.1 (z_fs f P) = some (.inr (.inl q)) → Φ d (f.1, q.1, q.2.1, q.2.2.1, q.2.2.2.2.1, q.2.2.2.2.2) rest q.2.2.2.1 → Φ d f rest P) ∧
  (∀ {d y : Nat} {f : z_Fr} {rest : List z_Fr} {P : z_H} {as rst : List Value}, 1 ≤ d → z_next G d f.1 (z_fs f P) = some (.inr (.inr (y, as, rst))) → Φ (d - 1) (y, 0, lv_args 0 as, [], 0, 0) ((f.1, f.2.1, f.2.2.1, rst, f.2.2.2.2.1, f.2.2.2.2.2) :: rest) P → Φ d f rest P) ∧
  (∀ {d : Nat} {f g : z_Fr} {rest : List z_Fr} {P : z_H} {r0 : Option Value}, z_next G d f.1 (z_fs f P) = some (.inl r0) → Φ (d + 1) (z_fb G g r0 f.1) rest P → Φ d f (g :: rest) P) ∧
  (∀ {d : Nat} {f : z_Fr} {P : z_H} {r0 : Option Value} {S : z_as_} {t : Option z_av} {N : List Int} {al : Nat → Option Nat}, z_next G d f.1 (z_fs f P) = some (.inl r0) → Q S t = true → z_gs (z_strs G) N al S f [] P → z_go_ N al t r0 → Φ d f [] P)
/-- one step of the walk, as z_succ_ok -/
theorem z_succ_dn {G : z_Pg} {md : Nat → Nat → Bool} {ns : Nat} {Q : z_as_ → Option z_av → Bool} {Φ : Nat → z_Fr → List z_Fr → z_H → Prop} (hΦ : z_Clo G Q Φ) {d : Nat} {S : z_as_} {N : List Int} {al : Nat → Option Nat} {f : z_Fr} {rest : List z_Fr} {P : z_H} {o : Option z_av ⊕ List (Nat × z_as_)} (h : z_succ G md ns d S = some o) (hS : z_gs (z_strs G) N al S f rest P) (hf : z_fr ns al)
    (hend : ∀ r, o = .inl r → Q S r = true) (hgo : ∀ Ss, o = .inr Ss → ∀ x ∈ Ss, ∀ {N1 al1 f rest P}, z_le N N1 al al1 → z_gs (z_strs G) N1 al1 x.2 f rest P → z_fr ns al1 → Φ x.1 f rest P) : Φ d f rest P := by
    obtain ⟨φ1, φ2, φ3, φ4⟩ := hΦ
    obtain ⟨⟨a1, a2, a3, a4, a5, a6⟩, b1, b2, b3, b4, b5⟩ := id hS
    unfold z_succ at h
    rw [a1, a2] at h
    split at h
    · cases h
    · rename_i i hi
      split at h
      · rename_i yk hyk
        split at h
        · rename_i hlt
          split at h
          · rename_i S' hS'
            cases h
            obtain ⟨hd, as, r, g1, g2⟩ := z_aargs_ok hS' hS
            have hnx : z_next G d f.1 (z_fs f P) = some (.inr (.inr (yk.1, as, r))) := by
              unfold z_next
              show (match z_cod G f.1 f.2.1 with | none => none | some i => _) = _
              rw [hi]
              dsimp only
              rw [hyk]
              dsimp only
              rw [if_pos hlt]
              show (match z_args G d yk.1 yk.2 f.1 f.2.2.2.1 P f.2.2.2.2.1 f.2.2.2.2.2 with | some ar => _ | none => none) = _
              rw [g1]
            exact φ2 hd hnx (hgo _ rfl (d - 1, S') (List.mem_singleton_self _) z_le.rf g2 hf)
          · cases h
        · rename_i hlt
          split at h
          · rename_i S' hS'
            cases h
            obtain ⟨q, g1, g2⟩ := z_aprim_ok hS' hS
            have hnx : z_next G d f.1 (z_fs f P) = some (.inr (.inl q)) := by
              unfold z_next
              show (match z_cod G f.1 f.2.1 with | none => none | some i => _) = _
              rw [hi]
              dsimp only
              rw [hyk]
              dsimp only
              rw [if_neg hlt]
              show (match z_prim yk.2 d f.2.1 f.2.2.1 f.2.2.2.1 P f.2.2.2.2.1 f.2.2.2.2.2 with | some q' => _ | none => none) = _
              rw [g1]
            exact φ1 hnx (hgo _ rfl (d, S') (List.mem_singleton_self _) z_le.rf g2 hf)
          · cases h
      · rename_i hno
        split at h
        · rename_i hisr
          split at h
          · rename_i r hr
            obtain ⟨v, g1, g2⟩ := z_aret_ok hr a4
            have hn : z_next G d f.1 (z_fs f P) = some (.inl v) := by
              unfold z_next
              show (match z_cod G f.1 f.2.1 with | none => none | some i => _) = _
              rw [hi]
              dsimp only
              rw [hno]
              show (match z_ret (z_rty G f.1) i.1 f.2.2.2.1 with | some r => _ | none => _) = _
              rw [g1]
            split at h
            · rename_i hrest
              cases h
              rw [hrest] at b1
              match rest, b1, hS with
              | [], _, hS => exact φ4 hn (hend r rfl) hS g2
            · rename_i g grest hrest
              cases h
              rw [hrest] at b1
              match rest, b1 with
              | fr :: rest, ⟨c1, c2⟩ =>
                obtain ⟨e1, e2, e3, e4, e5, e6⟩ := c1
                have hS2 : z_gs (z_strs G) N al (z_afb G g r f.1, grest, S.2.2) (z_fb G fr v f.1) rest P := ⟨⟨e1, congrArg (· + 3) e2, e3, (z_go_l g2).app e4, congrArg (· + z_mc G f.1) e5, congrArg (· + z_ms G f.1) e6⟩, c2, b2, b3, b4, b5⟩
                exact φ3 hn (hgo _ rfl (d + 1, (z_afb G g r f.1, grest, S.2.2)) (List.mem_singleton_self _) z_le.rf hS2 hf)
          · cases h
        · rename_i hisr
          split at h
          · rename_i Ss hSs
            cases h
            obtain ⟨q, g1, S', g2, N1, al1, g3, g4⟩ := z_astp_ok hSs hS hf
            have hnx : z_next G d f.1 (z_fs f P) = some (.inr (.inl q)) := by
              unfold z_next
              show (match z_cod G f.1 f.2.1 with | none => none | some i => _) = _
              rw [hi]
              dsimp only
              rw [hno]
              show (match z_ret (z_rty G f.1) i.1 f.2.2.2.1 with | some r => _ | none => _) = _
              rw [z_isr_no (by simpa using hisr)]
              show (match z_step G f.1 i.1 i.2 f.2.1 f.2.2.1 f.2.2.2.1 P f.2.2.2.2.1 f.2.2.2.2.2 with | some q' => _ | none => none) = _
              rw [g1]
            exact φ1 hnx (hgo _ rfl (d, S') (List.mem_map.mpr ⟨S', g2, rfl⟩) g3 g4 (hf.mono g3))
          · cases h
/-- what the identities of the place are in the state that has come to it -/
def z_bind (S : z_as_) : List (Nat × z_pc) → z_bd
  | [] => []
  | q :: r => (match z_plc S q.2 with
    | some t => if t.1 ≠ 0 ∧ t.2.1 = t.2.2.1 then (q.1, t.1, t.2.1) else (q.1, 0, z_lo t)
    | none => (q.1, 0, 0)) :: z_bind S r
/-- a state has come to the place D, from the place with the measure us -/
def z_arr (ns : Nat) (us : List (Nat × Nat × Int)) (d : Nat) (S : z_as_) (D : z_ce) : Bool := Nat.beq d D.1 && (z_sle (z_bind S D.2.2.1) ns S D.2.1 && match z_mts D D.2.2.2 with
  | some ws => z_mlt (z_bind S D.2.2.1) D.2.1.2.2.2.1 us ws
  | none => false)
/-- .. to a place that is known to end -/
def z_ar0 (ns : Nat) (d : Nat) (S : z_as_) (D : z_ce) : Bool := Nat.beq d D.1 && z_sle (z_bind S D.2.2.1) ns S D.2.1
/-- a number told plainly -/
def z_frc {α : Type} (n : Nat) (k : Nat → α) : α := match n with
  | 0 => k 0
  | m + 1 => k (Nat.succ m)
theorem z_frc_eq {α : Type} (n : Nat) (k : Nat → α) : z_frc n k = k n := by cases n <;> rfl
/-- z_succ, of a method and a pc that are told plainly -/
def z_succ2 (G : z_Pg) (md : Nat → Nat → Bool) (ns d x pc : Nat) (S : z_as_) : Option (Option z_av ⊕ List (Nat × z_as_)) := match z_cod G x pc with
  | none => none
  | some i => match z_call G x i.1 with
    | some yk => if yk.2 < 3 then match z_aargs G d yk.1 yk.2 S with
        | some S' => some (.inr [(d - 1, S')])
        | none => none
      else match z_aprim yk.2 d S with
        | some S' => some (.inr [(d, S')])
        | none => none
    | none => if z_isr i.1 then match z_aret (z_rty G x) i.1 S.1.2.2.2.1 with
        | some r => match S.2.1 with
          | [] => some (.inl r)
          | g :: rest => some (.inr [(d + 1, (z_afb G g r x, rest, S.2.2))])
        | none => none
      else match z_astp G (md x pc) ns S i.1 i.2 with
        | some Ss => some (.inr (Ss.map fun S' => (d, S')))
        | none => none
def z_fsuc (G : z_Pg) (md : Nat → Nat → Bool) (ns d : Nat) (S : z_as_) : Option (Option z_av ⊕ List (Nat × z_as_)) := z_frc S.1.1 fun x => z_frc S.1.2.1 fun pc => z_succ2 G md ns d x pc S
theorem z_fsuc_eq (G : z_Pg) (md : Nat → Nat → Bool) (ns d : Nat) (S : z_as_) : z_fsuc G md ns d S = z_succ G md ns d S := by
  unfold z_fsuc
  rw [z_frc_eq, z_frc_eq]
  rfl
def z_fat (at_ : Nat → Nat → Bool) (S : z_as_) : Bool := z_frc S.1.1 fun x => z_frc S.1.2.1 fun pc => at_ x pc
/-- the walk: 'at_' says where a place may be; Es: places that are known to end -/
def z_cwk (G : z_Pg) (md : Nat → Nat → Bool) (ns : Nat) (Q : z_as_ → Option z_av → Bool) (at_ : Nat → Nat → Bool) (Es Ds : List z_ce) (us : List (Nat × Nat × Int)) : Nat → List (Nat × z_as_) → Bool
  | _, [] => true
  | 0, _ :: _ => false
  | f + 1, x :: W => match z_fat at_ x.2 && (Es.any (z_ar0 ns x.1 x.2) || Ds.any (z_arr ns us x.1 x.2)) with
    | true => z_cwk G md ns Q at_ Es Ds us f W
    | false => match z_fsuc G md ns x.1 x.2 with
      | none => false
      | some (.inl r) => match Q x.2 r with
        | true => z_cwk G md ns Q at_ Es Ds us f W
        | false => false
      | some (.inr Ss) => z_cwk G md ns Q at_ Es Ds us f (Ss ++ W)
def z_cok (G : z_Pg) (md : Nat → Nat → Bool) (ns : Nat) (Q : z_as_ → Option z_av → Bool) (at_ : Nat → Nat → Bool) (Es Ds : List z_ce) (fu : Nat) (C : z_ce) : Bool := match z_mts C C.2.2.2 with
  | some us => z_cwk G md ns Q at_ Es Ds us fu [(C.1, C.2.1)]
  | none => false
/-- all places of a table end -/
theorem z_cut_all {G : z_Pg} {md : Nat → Nat → Bool} {ns : Nat} {Q : z_as_ → Option z_av → Bool} {at_ : Nat → Nat → Bool} {Es Ds : List z_ce} {fu : Nat} {Φ : Nat → z_Fr → List z_Fr → z_H → Prop} (hΦ : z_Clo G Q Φ) (hEs : ∀ D ∈ Es, ∀ {N : List Int} {al : Nat → Option Nat} {f : z_Fr} {rest : List z_Fr} {P : z_H}, z_gs (z_strs G) N al D.2.1 f rest P → z_fr ns al → Φ D.1 f rest P) (hall : ∀ C ∈ Ds, z_cok G md ns Q at_ Es Ds fu C = true) :
    ∀ (M : Nat) (C : z_ce), C ∈ Ds → ∀ {us : List (Nat × Nat × Int)} {N : List Int} {al : Nat → Option Nat} {f : z_Fr} {rest : List z_Fr} {P : z_H}, z_mts C C.2.2.2 = some us → z_num N us ≤ M → z_gs (z_strs G) N al C.2.1 f rest P → z_fr ns al → Φ C.1 f rest P := by
  intro M
  induction M using Nat.strongRecOn with
  | ind M IH =>
    intro C hC us N0 al0 f0 rest0 P0 hus hM hS0 hf0
    have hb := z_mts_ok hS0 hus
    have hk := z_mts_kind hus
    have hw := hall C hC
    unfold z_cok at hw
    rw [hus] at hw
    dsimp only at hw
    have key : ∀ (g : Nat) (W : List (Nat × z_as_)), z_cwk G md ns Q at_ Es Ds us g W = true → ∀ x ∈ W, ∀ {N : List Int} {al : Nat → Option Nat} {f : z_Fr} {rest : List z_Fr} {P : z_H}, (∃ X, N = N0 ++ X) → z_gs (z_strs G) N al x.2 f rest P → z_fr ns al → Φ x.1 f rest P := by
      intro g
      induction g with
      | zero =>
        intro W h x hx
        cases W with
        | nil => cases hx
        | cons y W => cases h
      | succ g ih =>
        intro W h x hx N al f rest P hN hS hf
        cases W with
        | nil => cases hx
        | cons y W =>
          unfold z_cwk at h
          split at h
          · rename_i hat
            rcases List.mem_cons.mp hx with rfl | hx
            · rw [Bool.and_eq_true, Bool.or_eq_true] at hat
              rcases hat.2 with hat | hat
              · obtain ⟨D, hD, harr⟩ := List.any_eq_true.mp hat
                unfold z_ar0 at harr
                rw [Bool.and_eq_true] at harr
                obtain ⟨k1, k2⟩ := z_sle_ok harr.2 hS hf
                rw [Nat.eq_of_beq_eq_true harr.1]
                exact hEs D hD k1 k2
              obtain ⟨D, hD, harr⟩ := List.any_eq_true.mp hat
              unfold z_arr at harr
              simp only [Bool.and_eq_true] at harr
              obtain ⟨h1, h2, h3⟩ := harr
              obtain ⟨k1, k2⟩ := z_sle_ok h2 hS hf
              split at h3
              · rename_i ws hws
                have hbD := z_mts_ok k1 hws
                obtain ⟨X, rfl⟩ := hN
                have hkn := z_mts_known hS0 hus
                have hbN : ∀ u ∈ us, 0 ≤ z_tv (N0 ++ X) u ∧ z_tv (N0 ++ X) u < (z_mB : Int) := fun u hu => by
                  rw [z_tv_more (hkn u hu)]
                  exact hb u hu
                have hlt := z_mlt_ok hk hbN hbD h3
                have heq : z_num (N0 ++ X) us = z_num N0 us := z_num_more hkn
                have := IH (z_num (z_bN (N0 ++ X) (z_bind x.2 D.2.2.1) D.2.1.2.2.2.1) ws) (by omega) D hD hws (Nat.le_refl _) k1 k2
                rw [Nat.eq_of_beq_eq_true h1]
                exact this
              · cases h3
            · exact ih W h x hx hN hS hf
          · split at h
            · cases h
            · rename_i r hr
              rw [z_fsuc_eq] at hr
              split at h
              · rename_i hq
                rcases List.mem_cons.mp hx with rfl | hx
                · exact z_succ_dn hΦ hr hS hf (fun r' e => by cases e; exact hq) (fun Ss e => by cases e)
                · exact ih W h x hx hN hS hf
              · cases h
            · rename_i Ss hr
              rw [z_fsuc_eq] at hr
              rcases List.mem_cons.mp hx with rfl | hx
              · refine z_succ_dn hΦ hr hS hf (fun r' e => by cases e) (fun Ss' e x' hx' => ?_)
                intro N1 al1 f1 rest1 P1 hle hS1 hf1
                cases e
                obtain ⟨X, rfl⟩ := hN
                obtain ⟨⟨Y, rfl⟩, -⟩ := id hle
                exact ih (Ss ++ W) h x' (List.mem_append.mpr (Or.inl hx')) ⟨X ++ Y, List.append_assoc _ _ _⟩ hS1 hf1
              · exact ih (Ss ++ W) h x (List.mem_append.mpr (Or.inr hx)) hN hS hf
    exact key fu _ hw _ (List.mem_singleton_self _) ⟨[], by simp⟩ hS0 hf0
theorem z_cut_one {G : z_Pg} {md : Nat → Nat → Bool} {ns : Nat} {Q : z_as_ → Option z_av → Bool} {at_ : Nat → Nat → Bool} {Es Ds : List z_ce} {fu : Nat} {Φ : Nat → z_Fr → List z_Fr → z_H → Prop} (hΦ : z_Clo G Q Φ) (hEs : ∀ D ∈ Es, ∀ {N : List Int} {al : Nat → Option Nat} {f : z_Fr} {rest : List z_Fr} {P : z_H}, z_gs (z_strs G) N al D.2.1 f rest P → z_fr ns al → Φ D.1 f rest P) (hall : ∀ C ∈ Ds, z_cok G md ns Q at_ Es Ds fu C = true) {C : z_ce} (hC : C ∈ Ds) {N : List Int} {al : Nat → Option Nat} {f : z_Fr} {rest : List z_Fr} {P : z_H} (hS : z_gs (z_strs G) N al C.2.1 f rest P) (hf : z_fr ns al) : Φ C.1 f rest P := by
  have hw := hall C hC
  unfold z_cok at hw
  split at hw
  · rename_i us hus
    exact z_cut_all hΦ hEs hall _ C hC hus (Nat.le_refl _) hS hf
  · cases hw
end ZCSN
