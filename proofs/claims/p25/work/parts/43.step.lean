/-! Steps of a walk with contracts: what is written keeps to the list. -/
section ZST3
variable {strs : z_Ss} {N : List Int} {al : Nat → Option Nat} {W : z_Ws}
/-- a branch: unlike numbers are parted, also of a constant within -/
def z_br3 (S : z_as_) (t : Nat) (r : List z_av) (c : ClassFile.Cond) (b : Bool) (x y : z_tk) : List z_as_ := if (z_ned c b && (z_xt x && (z_xt y || (z_one (z_iv y) && (decide (z_lo x < z_lo y) && decide (z_lo y < z_hi x)))))) = true then z_br1 S t r .lt true x y ++ z_br1 S t r .gt true x y else z_br1 S t r c b x y
theorem z_br3_ok {S : z_as_} {f : z_Fr} {rest : List z_Fr} {P : z_H} {t : Nat} {r : List z_av} {r' : List Value} {c : ClassFile.Cond} {x y : z_tk} {u v : Int32} (hx : z_gi N x u.toInt) (hy : z_gi N y v.toInt) (hS : z_gs strs N al S f rest P) (hr : z_all2 (z_gv N al) r r') : ∃ S' ∈ z_br3 S t r c (z_cmp c u v) x y, z_gs strs N al S' (f.1, t, f.2.2.1, r', f.2.2.2.2.1, f.2.2.2.2.2) rest P := by
  unfold z_br3
  split
  · rename_i hc
    rw [Bool.and_eq_true] at hc
    rcases z_ned_ok hc.1 with h | h
    · obtain ⟨S', g1, g2⟩ := z_br1_ok (t := t) (c := .lt) hx hy hS hr
      rw [h] at g1
      exact ⟨S', List.mem_append.mpr (Or.inl g1), g2⟩
    · obtain ⟨S', g1, g2⟩ := z_br1_ok (t := t) (c := .gt) hx hy hS hr
      rw [h] at g1
      exact ⟨S', List.mem_append.mpr (Or.inr g1), g2⟩
  · exact z_br1_ok hx hy hS hr
theorem z_br1_B {S S' : z_as_} {t : Nat} {r : List z_av} {c : ClassFile.Cond} {b : Bool} {x y : z_tk} (h : S' ∈ z_br1 S t r c b x y) : S'.2.2.2.2.2 = S.2.2.2.2.2 := by
  unfold z_br1 at h
  split at h
  · cases h
  · rw [List.mem_singleton] at h
    subst h
    unfold z_nar z_cls_
    split <;> split <;> rfl
theorem z_nar_B {x : z_tk} {i : z_I} {S : z_as_} : (z_nar x i S).2.2.2.2.2 = S.2.2.2.2.2 := by
  unfold z_nar z_cls_
  split <;> rfl
theorem z_br3_B {S S' : z_as_} {t : Nat} {r : List z_av} {c : ClassFile.Cond} {b : Bool} {x y : z_tk} (h : S' ∈ z_br3 S t r c b x y) : S'.2.2.2.2.2 = S.2.2.2.2.2 := by
  unfold z_br3 at h
  split at h
  · rcases List.mem_append.mp h with h | h
    · exact z_br1_B h
    · exact z_br1_B h
  · exact z_br1_B h
theorem z_sws_B {S S' : z_as_} {r : List z_av} {x : z_tk} {pc : Nat} : ∀ {offs : List Int} {k : Int} {X : List z_as_}, z_sws S r x pc k offs = some X → S' ∈ X → S'.2.2.2.2.2 = S.2.2.2.2.2
  | [], k, X, h, hm => by cases h; cases hm
  | off :: offs, k, X, h, hm => by
    unfold z_sws at h
    split at h
    · split at h
      · rename_i t X' ht hX
        cases h
        rcases List.mem_cons.mp hm with hm | hm
        · subst hm
          exact z_nar_B
        · exact z_sws_B hX hm
      · cases h
    · exact z_sws_B h hm
/-- jumps -/
def z_ajmp3 (S : z_as_) : Instr → Nat → List z_av → Option (List z_as_)
  | .ifCond c off => fun pc st => match st with
    | .inl x :: r => (z_tg pc off).map fun t => z_br3 S t r c true x (z_tc 0) ++ z_br3 S (pc + 3) r c false x (z_tc 0)
    | _ => none
  | .if_icmp c off => fun pc st => match st with
    | .inl y :: .inl x :: r => (z_tg pc off).map fun t => z_br3 S t r c true x y ++ z_br3 S (pc + 3) r c false x y
    | _ => none
  | .tableswitch dflt lo hi offs => z_ajmp S (.tableswitch dflt lo hi offs)
  | .goto off => z_ajmp S (.goto off)
  | .ifnull off => z_ajmp S (.ifnull off)
  | .ifnonnull off => z_ajmp S (.ifnonnull off)
  | _ => fun _ _ => none
theorem z_ajmp_B {S S' : z_as_} {ins : Instr} {pc : Nat} {Ss : List z_as_} {ast : List z_av} (h : z_ajmp S ins pc ast = some Ss) (hm : S' ∈ Ss) (hn : ∀ c off, ins ≠ .ifCond c off ∧ ins ≠ .if_icmp c off) : S'.2.2.2.2.2 = S.2.2.2.2.2 := by
  cases ins
  case goto off =>
    obtain ⟨t, h1, h2⟩ := z_map_some h
    subst h2
    rw [List.mem_singleton] at hm
    subst hm
    rfl
  case ifCond c off => exact absurd rfl (hn c off).1
  case if_icmp c off => exact absurd rfl (hn c off).2
  case ifnull off =>
    unfold z_ajmp at h
    dsimp only at h
    split at h
    · obtain ⟨t, h1, h2⟩ := z_map_some h
      subst h2
      rcases List.mem_append.mp hm with hm | hm <;> split at hm
      · rw [List.mem_singleton] at hm; subst hm; rfl
      · cases hm
      · cases hm
      · rw [List.mem_singleton] at hm; subst hm; rfl
    · cases h
  case ifnonnull off =>
    unfold z_ajmp at h
    dsimp only at h
    split at h
    · obtain ⟨t, h1, h2⟩ := z_map_some h
      subst h2
      rcases List.mem_append.mp hm with hm | hm <;> split at hm
      · rw [List.mem_singleton] at hm; subst hm; rfl
      · cases hm
      · cases hm
      · rw [List.mem_singleton] at hm; subst hm; rfl
    · cases h
  case tableswitch dflt lo hi offs =>
    unfold z_ajmp at h
    dsimp only at h
    split at h
    · unfold z_sw at h
      split at h
      · rename_i X t hX ht
        split at h
        · cases h
          rcases List.mem_append.mp hm with hm | hm
          · exact z_sws_B hX hm
          · rcases List.mem_append.mp hm with hm | hm <;> split at hm
            · rw [List.mem_singleton] at hm; subst hm; exact z_nar_B
            · cases hm
            · rw [List.mem_singleton] at hm; subst hm; exact z_nar_B
            · cases hm
        · cases h
      · cases h
    · cases h
  all_goals (cases h)
theorem z_ajmp3_ok {S : z_as_} {ins : Instr} {pc : Nat} {Ss : List z_as_} {ast : List z_av} {f : z_Fr} {rest : List z_Fr} {P : z_H} {st : List Value} (h : z_ajmp3 S ins pc ast = some Ss) (hS : z_gs strs N al S f rest P) (hs : z_all2 (z_gv N al) ast st) : ∃ q, z_jmp ins pc st = some q ∧ ∃ S' ∈ Ss, z_gs strs N al S' (f.1, q.1, f.2.2.1, q.2, f.2.2.2.2.1, f.2.2.2.2.2) rest P ∧ S'.2.2.2.2.2 = S.2.2.2.2.2 := by
  have old : ∀ ins, z_ajmp S ins pc ast = some Ss → (∀ c off, ins ≠ .ifCond c off ∧ ins ≠ .if_icmp c off) → ∃ q, z_jmp ins pc st = some q ∧ ∃ S' ∈ Ss, z_gs strs N al S' (f.1, q.1, f.2.2.1, q.2, f.2.2.2.2.1, f.2.2.2.2.2) rest P ∧ S'.2.2.2.2.2 = S.2.2.2.2.2 := fun ins h hn => by
    obtain ⟨q, h1, S', h2, h3⟩ := z_ajmp_ok h hS hs
    exact ⟨q, h1, S', h2, h3, z_ajmp_B h h2 hn⟩
  cases ins
  case goto off => exact old _ h fun _ _ => ⟨(fun q => by cases q), (fun q => by cases q)⟩
  case ifnull off => exact old _ h fun _ _ => ⟨(fun q => by cases q), (fun q => by cases q)⟩
  case ifnonnull off => exact old _ h fun _ _ => ⟨(fun q => by cases q), (fun q => by cases q)⟩
  case tableswitch dflt lo hi offs => exact old _ h fun _ _ => ⟨(fun q => by cases q), (fun q => by cases q)⟩
  case ifCond c off =>
    unfold z_ajmp3 at h
    dsimp only at h
    split at h
    · obtain ⟨t, h1, h2⟩ := z_map_some h
      subst h2
      match st, hs with
      | _ :: st, ⟨⟨u, e, hu⟩, hr⟩ =>
        subst e
        refine ⟨(if z_cmp c u 0 then t else pc + 3, st), by show (z_tg pc off).map _ = _; rw [h1]; rfl, ?_⟩
        cases hc : z_cmp c u 0 with
        | true =>
          obtain ⟨S', g1, g2⟩ := z_br3_ok (t := t) (c := c) (v := 0) hu z_zero_gi hS hr
          rw [hc] at g1
          exact ⟨S', List.mem_append.mpr (Or.inl g1), g2, z_br3_B g1⟩
        | false =>
          obtain ⟨S', g1, g2⟩ := z_br3_ok (t := pc + 3) (c := c) (v := 0) hu z_zero_gi hS hr
          rw [hc] at g1
          exact ⟨S', List.mem_append.mpr (Or.inr g1), g2, z_br3_B g1⟩
    · cases h
  case if_icmp c off =>
    unfold z_ajmp3 at h
    dsimp only at h
    split at h
    · obtain ⟨t, h1, h2⟩ := z_map_some h
      subst h2
      match st, hs with
      | _ :: _ :: st, ⟨⟨v, e1, hv⟩, ⟨u, e2, hu⟩, hr⟩ =>
        subst e1; subst e2
        refine ⟨(if z_cmp c u v then t else pc + 3, st), by show (z_tg pc off).map _ = _; rw [h1]; rfl, ?_⟩
        cases hc : z_cmp c u v with
        | true =>
          obtain ⟨S', g1, g2⟩ := z_br3_ok (t := t) (c := c) hu hv hS hr
          rw [hc] at g1
          exact ⟨S', List.mem_append.mpr (Or.inl g1), g2, z_br3_B g1⟩
        | false =>
          obtain ⟨S', g1, g2⟩ := z_br3_ok (t := pc + 3) (c := c) hu hv hS hr
          rw [hc] at g1
          exact ⟨S', List.mem_append.mpr (Or.inr g1), g2, z_br3_B g1⟩
    · cases h
  all_goals (cases h)
theorem z_pu_B {S : z_as_} {t : Nat} {L : List (Nat × z_av)} {s : List z_av} : (z_pu S t L s).2.2.2.2.2 = S.2.2.2.2.2 := by
  unfold z_pu
  split <;> rfl
/-- an instruction that calls nobody and makes nothing -/
def z_astp3 (G : z_Pg) (W : z_Ws) (ns : Nat) (S : z_as_) (ins : Instr) (len : Nat) : Option (List z_as_) := match z_grp ins with
  | 0 => (z_apure ins S.1.2.2.2.1).map fun s => [z_pu S (S.1.2.1 + len) S.1.2.2.1 s]
  | 1 => (z_aloc (z_nL G S.1.1) ins S.1.2.2.1 S.1.2.2.2.1).map fun q => [z_go S (S.1.2.1 + len) q.1 q.2]
  | 2 => z_ajmp3 S ins S.1.2.1 S.1.2.2.2.1
  | 3 => (z_ard (z_fld G S.1.1) (z_nA G) S.2.2.1 ins S.1.2.2.2.1).map fun s => [z_pu S (S.1.2.1 + len) S.1.2.2.1 s]
  | 4 => match z_wchk (z_fld G S.1.1) W ins S.1.2.2.2.1 with
    | true => (z_awr (z_fld G S.1.1) (z_fty G) (z_fin G) (z_ini G S.1.1) (z_ac G) S.2.2.1 ins S.1.2.2.2.1).map fun q => [z_hp (z_go S (S.1.2.1 + len) S.1.2.2.1 q.1) q.2]
    | false => none
  | 6 => match z_cstv (z_cs G S.1.1) ins with
    | some v => (z_cva ns v).map fun t => [z_go S (S.1.2.1 + len) S.1.2.2.1 (t :: S.1.2.2.2.1)]
    | none => none
  | _ => none
theorem z_astp3_ok {G : z_Pg} {ns : Nat} {S : z_as_} {ins : Instr} {len : Nat} {Ss : List z_as_} {f : z_Fr} {rest : List z_Fr} {P : z_H} (h : z_astp3 G W ns S ins len = some Ss) (hS : z_gs (z_strs G) N al S f rest P) (hf : z_fr ns al) :
    ∃ q, z_step G f.1 ins len f.2.1 f.2.2.1 f.2.2.2.1 P f.2.2.2.2.1 f.2.2.2.2.2 = some q ∧ ∃ S' ∈ Ss, ∃ X, z_gs (z_strs G) (N ++ X) al S' (f.1, q.1, q.2.1, q.2.2.1, q.2.2.2.2.1, q.2.2.2.2.2) rest q.2.2.2.1 ∧ z_same W al P q.2.2.2.1 ∧ q.2.2.2.1.length = P.length ∧ S'.2.2.2.2.2 = S.2.2.2.2.2 := by
  obtain ⟨⟨a1, a2, a3, a4, a5, a6⟩, b1, b2, b3, b4, b5⟩ := id hS
  have hrf : z_same W al P P := z_same_rf b2
  have hn : ∀ {S' f P}, z_gs (z_strs G) N al S' f rest P → z_gs (z_strs G) (N ++ []) al S' f rest P := fun k => by rw [List.append_nil]; exact k
  unfold z_astp3 at h
  split at h
  · rename_i hg
    obtain ⟨s, h1, h2⟩ := z_map_some h
    subst h2
    obtain ⟨st', g1, g2⟩ := z_apure_ok h1 a4
    obtain ⟨N', g3, g4⟩ := z_pu_gs (t := f.2.1 + len) hS a3 g2
    obtain ⟨⟨X, rfl⟩, -⟩ := g3
    refine ⟨(f.2.1 + len, f.2.2.1, st', P, f.2.2.2.2.1, f.2.2.2.2.2), ?_, _, List.mem_singleton_self _, X, by rw [a2]; exact g4, hrf, rfl, z_pu_B⟩
    unfold z_step
    rw [g1]
  · rename_i hg
    obtain ⟨s, h1, h2⟩ := z_map_some h
    subst h2
    obtain ⟨l', st', g1, g2, g3⟩ := z_aloc_ok h1 a3 a4
    rw [a1] at g1
    refine ⟨(f.2.1 + len, l', st', P, f.2.2.2.2.1, f.2.2.2.2.2), ?_, _, List.mem_singleton_self _, [], by rw [a2]; exact hn (z_go_gs hS g2 g3), hrf, rfl, rfl⟩
    unfold z_step
    rw [z_no0 (by rw [hg]; decide), g1]
  · rename_i hg
    obtain ⟨q, g1, S', g2, g3, g4⟩ := z_ajmp3_ok h hS a4
    rw [a2] at g1
    refine ⟨(q.1, f.2.2.1, q.2, P, f.2.2.2.2.1, f.2.2.2.2.2), ?_, S', g2, [], hn g3, hrf, rfl, g4⟩
    unfold z_step
    rw [z_no0 (by rw [hg]; decide), z_no1 (by rw [hg]; decide), g1]
  · rename_i hg
    obtain ⟨s, h1, h2⟩ := z_map_some h
    subst h2
    obtain ⟨st', g1, g2⟩ := z_ard_ok h1 b2 a4
    rw [a1] at g1
    obtain ⟨N', g3, g4⟩ := z_pu_gs (t := f.2.1 + len) hS a3 g2
    obtain ⟨⟨X, rfl⟩, -⟩ := g3
    refine ⟨(f.2.1 + len, f.2.2.1, st', P, f.2.2.2.2.1, f.2.2.2.2.2), ?_, _, List.mem_singleton_self _, X, by rw [a2]; exact g4, hrf, rfl, z_pu_B⟩
    unfold z_step
    rw [z_no0 (by rw [hg]; decide), z_no1 (by rw [hg]; decide), z_no2 (by rw [hg]; decide), g1]
  · rename_i hg
    split at h
    · rename_i hw
      obtain ⟨s, h1, h2⟩ := z_map_some h
      subst h2
      obtain ⟨st', P', g1, g2, g3⟩ := z_awr_ok h1 b2 a4
      have hsm := z_wr_same hw g1 b2 a4
      rw [a1] at g1
      refine ⟨(f.2.1 + len, f.2.2.1, st', P', f.2.2.2.2.1, f.2.2.2.2.2), ?_, _, List.mem_singleton_self _, [], hn ⟨⟨a1, congrArg (· + len) a2, a3, g2, a5, a6⟩, b1, g3, b3, b4, ?_⟩, hsm, z_wr_len g1, rfl⟩
      · unfold z_step
        rw [z_no0 (by rw [hg]; decide), z_no1 (by rw [hg]; decide), z_no2 (by rw [hg]; decide), z_no3 (by rw [hg]; decide), g1]
      · show P'.length ≤ S.2.2.2.2.2
        rw [z_wr_len g1]
        exact b5
    · cases h
  · rename_i hg
    split at h
    · rename_i v hv
      obtain ⟨t, h1, h2⟩ := z_map_some h
      subst h2
      rw [a1] at hv
      refine ⟨(f.2.1 + len, f.2.2.1, v :: f.2.2.2.1, P, f.2.2.2.2.1, f.2.2.2.2.2), ?_, _, List.mem_singleton_self _, [], by rw [a2]; exact hn (z_go_gs hS a3 ⟨z_cva_ok hf h1, a4⟩), hrf, rfl, rfl⟩
      unfold z_step
      rw [z_no0 (by rw [hg]; decide), z_no1 (by rw [hg]; decide), z_no2 (by rw [hg]; decide), z_no3 (by rw [hg]; decide), z_no4 (by rw [hg]; decide), z_no5 (by rw [hg]; decide)]
      show (match (z_cstv (z_cs G f.1) ins).map (· :: f.2.2.2.1) with | some s' => some (f.2.1 + len, f.2.2.1, s', P, f.2.2.2.2.1, f.2.2.2.2.2) | none => none) = _
      rw [hv]
      rfl
    · cases h
  · cases h
end ZST3
