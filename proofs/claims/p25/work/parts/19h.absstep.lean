section ZAST
/-- the group of an instruction -/
def z_grp : Instr → Nat
  | .iload _ | .iload_n _ | .lload _ | .lload_n _ | .aload _ | .aload_n _ | .istore _ | .istore_n _ | .astore _ | .astore_n _ | .lstore _ | .lstore_n _ | .iinc _ _ => 1
  | .goto _ | .ifCond _ _ | .if_icmp _ _ | .ifnull _ | .ifnonnull _ | .tableswitch _ _ _ _ => 2
  | .getfield _ | .iaload | .caload | .baload | .laload | .aaload | .arraylength => 3
  | .putfield _ | .iastore | .castore | .bastore | .lastore | .aastore => 4
  | .new _ | .newarray _ | .anewarray _ | .multianewarray _ _ => 5
  | .ldc _ | .ldc_w _ | .ldc2_w _ | .getstatic _ => 6
  | _ => 0
theorem z_no0 {ins : Instr} (h : z_grp ins ≠ 0) (st : List Value) : z_pure ins st = none := by
  cases ins <;> first | rfl | exact absurd rfl h
theorem z_no1 {ins : Instr} (h : z_grp ins ≠ 1) (nL : Nat) (l : z_L) (st : List Value) : z_loc nL ins l st = none := by
  cases ins <;> first | rfl | exact absurd rfl h
theorem z_no2 {ins : Instr} (h : z_grp ins ≠ 2) (pc : Nat) (st : List Value) : z_jmp ins pc st = none := by
  cases ins <;> first | rfl | exact absurd rfl h
theorem z_no3 {ins : Instr} (h : z_grp ins ≠ 3) (fld : Nat → Option (Nat × Nat)) (nA : Nat) (H : Nat → Option z_C) (st : List Value) : z_rd fld nA H ins st = none := by
  cases ins <;> first | rfl | exact absurd rfl h
theorem z_no4 {ins : Instr} (h : z_grp ins ≠ 4) (fld : Nat → Option (Nat × Nat)) (fty : Nat → Nat → FieldType) (fin : Nat → Nat → Bool) (ini : Option Nat) (ac : Nat → Option Nat) (P : z_H) (st : List Value) : z_wr fld fty fin ini ac P ins st = none := by
  cases ins <;> first | rfl | exact absurd rfl h
theorem z_no5 {ins : Instr} (h : z_grp ins ≠ 5) (cls : Nat → Option (Nat × List Value)) (aan : Nat → Option Nat) (mna : Nat → Option (Nat × Nat)) (P : z_H) (st : List Value) : z_mk cls aan mna P ins st = none := by
  cases ins <;> first | rfl | exact absurd rfl h
theorem z_as_len {t : Nat} {nf : Int32 → Int32} {P P' : z_H} {st st' : List Value} (h : z_as t nf P st = some (st', P')) : P'.length = P.length := by
  unfold z_as at h
  split at h
  · split at h
    · split at h
      · cases h
        simp
      · cases h
    · cases h
  · cases h
theorem z_wr_len {fld : Nat → Option (Nat × Nat)} {fty : Nat → Nat → FieldType} {fin : Nat → Nat → Bool} {ini : Option Nat} {ac : Nat → Option Nat} {ins : Instr} {P P' : z_H} {st st' : List Value} (h : z_wr fld fty fin ini ac P ins st = some (st', P')) : P'.length = P.length := by
  cases ins
  case putfield n =>
    have h : z_pf (fld n) fty fin ini P st = some (st', P') := h
    unfold z_pf at h
    split at h
    · split at h
      · split at h
        · split at h
          · cases h
            simp
          · cases h
        · cases h
      · cases h
    · cases h
  case iastore => exact z_as_len h
  case castore => exact z_as_len h
  case bastore =>
    have h : (z_as 101 (fun x => x.toInt8.toInt32) P st).or (z_as 100 (fun x => x &&& 1) P st) = some (st', P') := h
    cases h1 : z_as 101 (fun x => x.toInt8.toInt32) P st with
    | some q =>
      rw [h1] at h
      cases h
      exact z_as_len h1
    | none =>
      rw [h1] at h
      exact z_as_len h
  case lastore =>
    have h : z_las P st = some (st', P') := h
    unfold z_las at h
    split at h
    · split at h
      · split at h
        · cases h
          simp
        · cases h
      · cases h
    · cases h
  case aastore =>
    have h : z_aas ac P st = some (st', P') := h
    unfold z_aas at h
    split at h
    · split at h
      · split at h
        · split at h
          · cases h
            simp
          · cases h
        · cases h
      · cases h
    · cases h
  all_goals (cases h)
variable {strs : z_Ss} {N : List Int} {al : Nat → Option Nat}
/-- the Strings' cells stand first in the abstract heap -/
def z_fr (n : Nat) (al : Nat → Option Nat) : Prop := ∀ j, j < n → al (z_far + j) = some j
theorem z_fr.mono {n : Nat} {N N' : List Int} {al al' : Nat → Option Nat} (h : z_fr n al) (hle : z_le N N' al al') : z_fr n al' := fun j hj => hle.2 _ _ (h j hj)
/-- the next place, with a new value on top -/
def z_pu (S : z_as_) (t : Nat) (L : List (Nat × z_av)) (s : List z_av) : z_as_ := match s with
  | [] => z_go S t L []
  | v :: r => ((S.1.1, t, L, (z_newv S.2.2.2.1 v).1 :: r, S.1.2.2.2.2), S.2.1, S.2.2.1, (z_newv S.2.2.2.1 v).2, S.2.2.2.2)
theorem z_gs.mono {S : z_as_} {f : z_Fr} {rest : List z_Fr} {P : z_H} {X : List Int} (h : z_gs strs N al S f rest P) : z_gf_ (N ++ X) al S.1 f ∧ z_all2 (z_gf_ (N ++ X) al) S.2.1 rest ∧ z_gh strs (N ++ X) al S.2.2.1 P ∧ z_gx (N ++ X) S.2.2.2.2.1 ∧ P.length ≤ S.2.2.2.2.2 := by
  have hle : z_le N (N ++ X) al al := ⟨⟨X, rfl⟩, fun _ _ k => k⟩
  obtain ⟨h1, h2, h3, h4, h5, h6⟩ := h
  exact ⟨h1.mono hle, h2.mono fun _ _ k => k.mono hle, h3.mono ⟨X, rfl⟩, h5.mono ⟨X, rfl⟩, h6⟩
theorem z_gl.mono {N' : List Int} {al' : Nat → Option Nat} {L : List (Nat × z_av)} {l : z_L} (h : z_gl N al L l) (hle : z_le N N' al al') : z_gl N' al' L l := fun i t e => by
  obtain ⟨v, g1, g2⟩ := h i t e
  exact ⟨v, g1, g2.mono hle⟩
theorem z_pu_gs {S : z_as_} {f : z_Fr} {rest : List z_Fr} {P : z_H} {t : Nat} {L : List (Nat × z_av)} {l : z_L} {r : List z_av} {r' : List Value} (hS : z_gs strs N al S f rest P) (hL : z_gl N al L l) (hr : z_all2 (z_gv N al) r r') : ∃ N', z_le N N' al al ∧ z_gs strs N' al (z_pu S t L r) (f.1, t, l, r', f.2.2.2.2.1, f.2.2.2.2.2) rest P := by
  match r, r', hr with
  | [], [], hr => exact ⟨N, z_le.rf, z_go_gs hS hL hr⟩
  | v :: r, w :: r', ⟨h1, h2⟩ =>
    obtain ⟨N', hle, g1, g2⟩ := z_newv_gv (N := N) h1
    obtain ⟨⟨X, rfl⟩, -⟩ := id hle
    obtain ⟨k1, k2, k3, k4, k5⟩ := hS.mono (X := X)
    refine ⟨N ++ X, hle, ⟨k1.1, rfl, hL.mono hle, ⟨?_, h2.mono fun _ _ k => k.mono hle⟩, k1.2.2.2.2⟩, k2, k3, ?_, k4, k5⟩
    · show z_gv (N ++ X) al (z_newv S.2.2.2.1 v).1 w
      rw [hS.2.2.2.1]
      exact g1
    · show (z_newv S.2.2.2.1 v).2 = _
      rw [hS.2.2.2.1]
      exact g2
/-- the heap becomes another -/
def z_hp (S : z_as_) (AH : List z_ac_) : z_as_ := (S.1, S.2.1, AH, S.2.2.2)
def z_cva (ns : Nat) : Value → Option z_av
  | .ref a => if z_far ≤ a ∧ a < z_far + ns then some (.inr (.inr (false, [a - z_far]))) else none
  | v => z_vabs v
theorem z_cva_ok {ns : Nat} {v : Value} {t : z_av} (hf : z_fr ns al) (h : z_cva ns v = some t) : z_gv N al t v := by
  unfold z_cva at h
  split at h
  · rename_i a
    split at h
    · rename_i hc
      cases h
      refine Or.inr ⟨a, a - z_far, rfl, ?_, by simp⟩
      have := hf (a - z_far) (Nat.sub_lt_left_of_lt_add hc.1 hc.2)
      rw [Nat.add_sub_of_le hc.1] at this
      exact this
    · cases h
  · exact z_vabs_ok h
/-- an instruction that calls nobody -/
def z_astp (G : z_Pg) (md : Bool) (ns : Nat) (S : z_as_) (ins : Instr) (len : Nat) : Option (List z_as_) := match z_grp ins with
  | 0 => (z_apure ins S.1.2.2.2.1).map fun s => [z_pu S (S.1.2.1 + len) S.1.2.2.1 s]
  | 1 => (z_aloc (z_nL G S.1.1) ins S.1.2.2.1 S.1.2.2.2.1).map fun q => [z_go S (S.1.2.1 + len) q.1 q.2]
  | 2 => z_ajmp S ins S.1.2.1 S.1.2.2.2.1
  | 3 => (z_ard (z_fld G S.1.1) (z_nA G) S.2.2.1 ins S.1.2.2.2.1).map fun s => [z_pu S (S.1.2.1 + len) S.1.2.2.1 s]
  | 4 => (z_awr (z_fld G S.1.1) (z_fty G) (z_fin G) (z_ini G S.1.1) (z_ac G) S.2.2.1 ins S.1.2.2.2.1).map fun q => [z_hp (z_go S (S.1.2.1 + len) S.1.2.2.1 q.1) q.2]
  | 5 => match z_amk md (z_cls G S.1.1) (z_aan G S.1.1) (z_mna G S.1.1) S.2.2.1 S.2.2.2.2.2 ins S.1.2.2.2.1 with
    | some q => if S.1.2.2.2.2.1 + q.2.2.1 ≤ z_mc G S.1.1 ∧ S.1.2.2.2.2.2 + q.2.2.2 ≤ z_ms G S.1.1 then some [((S.1.1, S.1.2.1 + len, S.1.2.2.1, q.1, S.1.2.2.2.2.1 + q.2.2.1, S.1.2.2.2.2.2 + q.2.2.2), S.2.1, q.2.1, S.2.2.2.1, S.2.2.2.2.1, S.2.2.2.2.2 + q.2.2.1)] else none
    | none => none
  | 6 => match z_cstv (z_cs G S.1.1) ins with
    | some v => (z_cva ns v).map fun t => [z_go S (S.1.2.1 + len) S.1.2.2.1 (t :: S.1.2.2.2.1)]
    | none => none
  | _ => none
theorem z_astp_ok {G : z_Pg} {md : Bool} {ns : Nat} {S : z_as_} {ins : Instr} {len : Nat} {Ss : List z_as_} {f : z_Fr} {rest : List z_Fr} {P : z_H} (h : z_astp G md ns S ins len = some Ss) (hS : z_gs (z_strs G) N al S f rest P) (hf : z_fr ns al) :
    ∃ q, z_step G f.1 ins len f.2.1 f.2.2.1 f.2.2.2.1 P f.2.2.2.2.1 f.2.2.2.2.2 = some q ∧ ∃ S' ∈ Ss, ∃ N' al', z_le N N' al al' ∧ z_gs (z_strs G) N' al' S' (f.1, q.1, q.2.1, q.2.2.1, q.2.2.2.2.1, q.2.2.2.2.2) rest q.2.2.2.1 := by
  obtain ⟨⟨a1, a2, a3, a4, a5, a6⟩, b1, b2, b3, b4, b5⟩ := id hS
  unfold z_astp at h
  split at h
  · rename_i hg
    obtain ⟨s, h1, h2⟩ := z_map_some h
    subst h2
    obtain ⟨st', g1, g2⟩ := z_apure_ok h1 a4
    obtain ⟨N', g3, g4⟩ := z_pu_gs (t := f.2.1 + len) hS a3 g2
    refine ⟨(f.2.1 + len, f.2.2.1, st', P, f.2.2.2.2.1, f.2.2.2.2.2), ?_, _, List.mem_singleton_self _, N', al, g3, by rw [a2]; exact g4⟩
    unfold z_step
    rw [g1]
  · rename_i hg
    obtain ⟨s, h1, h2⟩ := z_map_some h
    subst h2
    obtain ⟨l', st', g1, g2, g3⟩ := z_aloc_ok h1 a3 a4
    rw [a1] at g1
    refine ⟨(f.2.1 + len, l', st', P, f.2.2.2.2.1, f.2.2.2.2.2), ?_, _, List.mem_singleton_self _, N, al, z_le.rf, by rw [a2]; exact z_go_gs hS g2 g3⟩
    unfold z_step
    rw [z_no0 (by rw [hg]; decide), g1]
  · rename_i hg
    obtain ⟨q, g1, S', g2, g3⟩ := z_ajmp_ok h hS a4
    rw [a2] at g1
    refine ⟨(q.1, f.2.2.1, q.2, P, f.2.2.2.2.1, f.2.2.2.2.2), ?_, S', g2, N, al, z_le.rf, g3⟩
    unfold z_step
    rw [z_no0 (by rw [hg]; decide), z_no1 (by rw [hg]; decide), g1]
  · rename_i hg
    obtain ⟨s, h1, h2⟩ := z_map_some h
    subst h2
    obtain ⟨st', g1, g2⟩ := z_ard_ok h1 b2 a4
    rw [a1] at g1
    obtain ⟨N', g3, g4⟩ := z_pu_gs (t := f.2.1 + len) hS a3 g2
    refine ⟨(f.2.1 + len, f.2.2.1, st', P, f.2.2.2.2.1, f.2.2.2.2.2), ?_, _, List.mem_singleton_self _, N', al, g3, by rw [a2]; exact g4⟩
    unfold z_step
    rw [z_no0 (by rw [hg]; decide), z_no1 (by rw [hg]; decide), z_no2 (by rw [hg]; decide), g1]
  · rename_i hg
    obtain ⟨s, h1, h2⟩ := z_map_some h
    subst h2
    obtain ⟨st', P', g1, g2, g3⟩ := z_awr_ok h1 b2 a4
    rw [a1] at g1
    refine ⟨(f.2.1 + len, f.2.2.1, st', P', f.2.2.2.2.1, f.2.2.2.2.2), ?_, _, List.mem_singleton_self _, N, al, z_le.rf, ⟨a1, congrArg (· + len) a2, a3, g2, a5, a6⟩, b1, g3, b3, b4, ?_⟩
    · unfold z_step
      rw [z_no0 (by rw [hg]; decide), z_no1 (by rw [hg]; decide), z_no2 (by rw [hg]; decide), z_no3 (by rw [hg]; decide), g1]
    · show P'.length ≤ S.2.2.2.2.2
      rw [z_wr_len g1]
      exact b5
  · rename_i hg
    split at h
    · rename_i q hq
      split at h
      · rename_i hc
        cases h
        obtain ⟨st', P', al', g1, g2, g3, g4, g5⟩ := z_amk_ok (AH' := q.2.1) (dc := q.2.2.1) (ds := q.2.2.2) hq b2 a4 b5
        rw [a1] at g1 hc
        rw [a5, a6] at hc
        refine ⟨(f.2.1 + len, f.2.2.1, st', P', f.2.2.2.2.1 + q.2.2.1, f.2.2.2.2.2 + q.2.2.2), ?_, _, List.mem_singleton_self _, N, al', g2, ⟨a1, by rw [a2], a3.mono g2, g3, by rw [a5], by rw [a6]⟩, b1.mono fun _ _ k => k.mono g2, g4, b3, b4, ?_⟩
        · unfold z_step
          rw [z_no0 (by rw [hg]; decide), z_no1 (by rw [hg]; decide), z_no2 (by rw [hg]; decide), z_no3 (by rw [hg]; decide), z_no4 (by rw [hg]; decide), g1]
          show z_bump G f.1 _ = _
          unfold z_bump
          rw [if_pos hc]
        · show P'.length ≤ S.2.2.2.2.2 + q.2.2.1
          omega
      · cases h
    · cases h
  · rename_i hg
    split at h
    · rename_i v hv
      obtain ⟨t, h1, h2⟩ := z_map_some h
      subst h2
      rw [a1] at hv
      refine ⟨(f.2.1 + len, f.2.2.1, v :: f.2.2.2.1, P, f.2.2.2.2.1, f.2.2.2.2.2), ?_, _, List.mem_singleton_self _, N, al, z_le.rf, by rw [a2]; exact z_go_gs hS a3 ⟨z_cva_ok hf h1, a4⟩⟩
      unfold z_step
      rw [z_no0 (by rw [hg]; decide), z_no1 (by rw [hg]; decide), z_no2 (by rw [hg]; decide), z_no3 (by rw [hg]; decide), z_no4 (by rw [hg]; decide), z_no5 (by rw [hg]; decide)]
      show (match (z_cstv (z_cs G f.1) ins).map (· :: f.2.2.2.1) with | some s' => some (f.2.1 + len, f.2.2.1, s', P, f.2.2.2.2.1, f.2.2.2.2.2) | none => none) = _
      rw [hv]
      rfl
    · cases h
  · cases h
end ZAST
