section ZABR
variable {strs : z_Ss} {N : List Int} {al : Nat → Option Nat}
def z_go (S : z_as_) (t : Nat) (L : List (Nat × z_av)) (r : List z_av) : z_as_ := ((S.1.1, t, L, r, S.1.2.2.2.2), S.2)
theorem z_go_gs {S : z_as_} {f : z_Fr} {rest : List z_Fr} {P : z_H} {t : Nat} {L : List (Nat × z_av)} {l : z_L} {r : List z_av} {r' : List Value} (hS : z_gs strs N al S f rest P) (hL : z_gl N al L l) (hr : z_all2 (z_gv N al) r r') : z_gs strs N al (z_go S t L r) (f.1, t, l, r', f.2.2.2.2.1, f.2.2.2.2.2) rest P := by
  obtain ⟨⟨h1, h2, h3, h4, h5, h6⟩, h7⟩ := hS
  exact ⟨⟨h1, rfl, hL, hr, h5, h6⟩, h7⟩
def z_nar (x : z_tk) (i : z_I) (S : z_as_) : z_as_ := z_cls_ x.1 (i.1 - x.2.2.1) (i.2 - x.2.1) S
theorem z_nar_gs {S : z_as_} {f : z_Fr} {rest : List z_Fr} {P : z_H} {x : z_tk} {i : z_I} {v : Int} (hx : z_gi N x v) (h1 : i.1 ≤ v) (h2 : v ≤ i.2) (hS : z_gs strs N al S f rest P) : z_gs strs N al (z_nar x i S) f rest P := by
  refine z_cls_gs (fun hk => ?_) hS
  obtain ⟨-, -, h0 | ⟨w, e, h4, h5⟩⟩ := hx
  · exact absurd h0 hk
  · exact ⟨w, e, by omega, by omega⟩
def z_addf (X : List (Nat × Nat × Int)) (S : z_as_) : z_as_ := (S.1, S.2.1, S.2.2.1, S.2.2.2.1, X ++ S.2.2.2.2.1, S.2.2.2.2.2)
theorem z_addf_gs {S : z_as_} {f : z_Fr} {rest : List z_Fr} {P : z_H} {X : List (Nat × Nat × Int)} (hX : z_gx N X) (hS : z_gs strs N al S f rest P) : z_gs strs N al (z_addf X S) f rest P := by
  obtain ⟨h1, h2, h3, h4, h5, h6⟩ := hS
  refine ⟨h1, h2, h3, h4, fun q hq => ?_, h6⟩
  rcases List.mem_append.mp hq with hq | hq
  · exact hX q hq
  · exact h5 q hq
/-- x + k ≤ y as a fact -/
def z_f1 (x y : z_tk) (k : Int) : List (Nat × Nat × Int) := if z_xt x && z_xt y then [(x.1, y.1, x.2.1 + k - y.2.1)] else []
theorem z_f1_ok {x y : z_tk} {a b k : Int} (hx : z_gi N x a) (hy : z_gi N y b) (h : a + k ≤ b) : z_gx N (z_f1 x y k) := by
  unfold z_f1
  split
  · rename_i hc
    rw [Bool.and_eq_true] at hc
    obtain ⟨w, e1, r1⟩ := z_xt_eq hc.1 hx
    obtain ⟨u, e2, r2⟩ := z_xt_eq hc.2 hy
    intro q hq
    rw [List.mem_singleton] at hq
    subst hq
    exact ⟨w, u, e1, e2, by show w + (x.2.1 + k - y.2.1) ≤ u; omega⟩
  · intro q hq
    cases hq
theorem z_gx_app {X Y : List (Nat × Nat × Int)} (h1 : z_gx N X) (h2 : z_gx N Y) : z_gx N (X ++ Y) := by
  intro q hq
  rcases List.mem_append.mp hq with hq | hq
  · exact h1 q hq
  · exact h2 q hq
theorem z_gx_nil : z_gx N [] := fun q hq => by cases hq
def z_fcts (c : ClassFile.Cond) (b : Bool) (x y : z_tk) : List (Nat × Nat × Int) := match c, b with
  | .eq, true => z_f1 x y 0 ++ z_f1 y x 0
  | .ne, false => z_f1 x y 0 ++ z_f1 y x 0
  | .lt, true => z_f1 x y 1
  | .ge, false => z_f1 x y 1
  | .le, true => z_f1 x y 0
  | .gt, false => z_f1 x y 0
  | .gt, true => z_f1 y x 1
  | .le, false => z_f1 y x 1
  | .ge, true => z_f1 y x 0
  | .lt, false => z_f1 y x 0
  | _, _ => []
theorem z_fcts_ok {c : ClassFile.Cond} {x y : z_tk} {u v : Int32} (hx : z_gi N x u.toInt) (hy : z_gi N y v.toInt) : z_gx N (z_fcts c (z_cmp c u v) x y) := by
  have eqi : u = v ↔ u.toInt = v.toInt := ⟨fun h => by rw [h], fun h => Int32.toInt_inj.mp h⟩
  have lti : u < v ↔ u.toInt < v.toInt := Int32.lt_iff_toInt_lt
  have gti : v < u ↔ v.toInt < u.toInt := Int32.lt_iff_toInt_lt
  have lei : u ≤ v ↔ u.toInt ≤ v.toInt := Int32.le_iff_toInt_le
  have gei : v ≤ u ↔ v.toInt ≤ u.toInt := Int32.le_iff_toInt_le
  cases c
  case eq =>
    by_cases h : u = v
    · rw [show z_cmp .eq u v = true by simp [z_cmp, h]]
      have := eqi.mp h
      exact z_gx_app (z_f1_ok hx hy (by omega)) (z_f1_ok hy hx (by omega))
    · rw [show z_cmp .eq u v = false by simp [z_cmp, h]]
      exact z_gx_nil
  case ne =>
    by_cases h : u = v
    · rw [show z_cmp .ne u v = false by simp [z_cmp, h]]
      have := eqi.mp h
      exact z_gx_app (z_f1_ok hx hy (by omega)) (z_f1_ok hy hx (by omega))
    · rw [show z_cmp .ne u v = true by simp [z_cmp, h]]
      exact z_gx_nil
  case lt =>
    by_cases h : u < v
    · rw [show z_cmp .lt u v = true by simp [z_cmp, h]]
      exact z_f1_ok hx hy (by have := lti.mp h; omega)
    · rw [show z_cmp .lt u v = false by simp [z_cmp, h]]
      exact z_f1_ok hy hx (by have : ¬ u.toInt < v.toInt := fun q => h (lti.mpr q); omega)
  case ge =>
    by_cases h : v ≤ u
    · rw [show z_cmp .ge u v = true by simp [z_cmp, h]]
      exact z_f1_ok hy hx (by have := gei.mp h; omega)
    · rw [show z_cmp .ge u v = false by simp [z_cmp, h]]
      exact z_f1_ok hx hy (by have : ¬ v.toInt ≤ u.toInt := fun q => h (gei.mpr q); omega)
  case gt =>
    by_cases h : v < u
    · rw [show z_cmp .gt u v = true by simp [z_cmp, h]]
      exact z_f1_ok hy hx (by have := gti.mp h; omega)
    · rw [show z_cmp .gt u v = false by simp [z_cmp, h]]
      exact z_f1_ok hx hy (by have : ¬ v.toInt < u.toInt := fun q => h (gti.mpr q); omega)
  case le =>
    by_cases h : u ≤ v
    · rw [show z_cmp .le u v = true by simp [z_cmp, h]]
      exact z_f1_ok hx hy (by have := lei.mp h; omega)
    · rw [show z_cmp .le u v = false by simp [z_cmp, h]]
      exact z_f1_ok hy hx (by have : ¬ u.toInt ≤ v.toInt := fun q => h (lei.mpr q); omega)
/-- the branch b of a compare -/
def z_br1 (S : z_as_) (t : Nat) (r : List z_av) (c : ClassFile.Cond) (b : Bool) (x y : z_tk) : List z_as_ := match z_cut S.2.2.2.2.1 c b x y with
  | none => []
  | some q => [z_nar x q.1 (z_nar y q.2 (z_addf (z_fcts c b x y) (z_go S t S.1.2.2.1 r)))]
theorem z_br1_ok {S : z_as_} {f : z_Fr} {rest : List z_Fr} {P : z_H} {t : Nat} {r : List z_av} {r' : List Value} {c : ClassFile.Cond} {x y : z_tk} {u v : Int32} (hx : z_gi N x u.toInt) (hy : z_gi N y v.toInt) (hS : z_gs strs N al S f rest P) (hr : z_all2 (z_gv N al) r r') : ∃ S' ∈ z_br1 S t r c (z_cmp c u v) x y, z_gs strs N al S' (f.1, t, f.2.2.1, r', f.2.2.2.2.1, f.2.2.2.2.2) rest P := by
  obtain ⟨q, h1, h2, h3, h4, h5⟩ := z_cut_ok (c := c) hS.2.2.2.2.1 hx hy
  unfold z_br1
  rw [h1]
  exact ⟨_, List.mem_singleton_self _, z_nar_gs hx h2 h3 (z_nar_gs hy h4 h5 (z_addf_gs (z_fcts_ok hx hy) (z_go_gs hS hS.1.2.2.1 hr)))⟩
/-- unlike: less or greater -/
def z_ned : ClassFile.Cond → Bool → Bool
  | .ne, true => true
  | .eq, false => true
  | _, _ => false
theorem z_ned_ok {c : ClassFile.Cond} {u v : Int32} (h : z_ned c (z_cmp c u v) = true) : z_cmp .lt u v = true ∨ z_cmp .gt u v = true := by
  have key : u ≠ v → u < v ∨ v < u := fun hne => by
    have h1 : u.toInt ≠ v.toInt := fun q => hne (Int32.toInt_inj.mp q)
    rcases Int.lt_or_gt_of_ne h1 with h2 | h2
    · exact Or.inl (Int32.lt_iff_toInt_lt.mpr h2)
    · exact Or.inr (Int32.lt_iff_toInt_lt.mpr h2)
  have fin : u ≠ v → z_cmp .lt u v = true ∨ z_cmp .gt u v = true := fun hne => (key hne).imp (fun q => decide_eq_true q) (fun q => decide_eq_true q)
  cases c
  case eq =>
    refine fin fun q => ?_
    rw [show z_cmp .eq u v = true from decide_eq_true q] at h
    cases h
  case ne =>
    refine fin fun q => ?_
    rw [show z_cmp .ne u v = false from decide_eq_false fun k => k q] at h
    cases h
  all_goals
    exfalso
    generalize z_cmp _ u v = b at h
    cases b <;> cases h
def z_br (S : z_as_) (t : Nat) (r : List z_av) (c : ClassFile.Cond) (b : Bool) (x y : z_tk) : List z_as_ := if (z_ned c b && (z_xt x && z_xt y)) = true then z_br1 S t r .lt true x y ++ z_br1 S t r .gt true x y else z_br1 S t r c b x y
theorem z_br_ok {S : z_as_} {f : z_Fr} {rest : List z_Fr} {P : z_H} {t : Nat} {r : List z_av} {r' : List Value} {c : ClassFile.Cond} {x y : z_tk} {u v : Int32} (hx : z_gi N x u.toInt) (hy : z_gi N y v.toInt) (hS : z_gs strs N al S f rest P) (hr : z_all2 (z_gv N al) r r') : ∃ S' ∈ z_br S t r c (z_cmp c u v) x y, z_gs strs N al S' (f.1, t, f.2.2.1, r', f.2.2.2.2.1, f.2.2.2.2.2) rest P := by
  unfold z_br
  split
  · rename_i hc
    rw [Bool.and_eq_true] at hc
    rcases z_ned_ok hc.1 with h | h
    · obtain ⟨S', g1, g2⟩ := z_br1_ok (t := t) (c := .lt) hx hy hS hr
      rw [h] at g1
      exact ⟨S', List.mem_append.mpr (Or.inl g1), g2⟩
    · obtain ⟨S', g1, g2⟩ := z_br1_ok (t := t) (c := .gt) hx hy hS hr
      rw [h] at g1
      exact ⟨S', List.mem_append.mpr (Or.inr g1), g2⟩
  · exact z_br1_ok hx hy hS hr
/-- the places of a switch, from the k-th on -/
def z_sws (S : z_as_) (r : List z_av) (x : z_tk) (pc : Nat) : Int → List Int → Option (List z_as_)
  | _, [] => some []
  | k, off :: offs => if z_lo x ≤ k ∧ k ≤ z_hi x then (match z_tg pc off, z_sws S r x pc (k + 1) offs with
      | some t, some W => some (z_nar x (k, k) (z_go S t S.1.2.2.1 r) :: W)
      | _, _ => none) else z_sws S r x pc (k + 1) offs
theorem z_sws_ok {S : z_as_} {f : z_Fr} {rest : List z_Fr} {P : z_H} {r : List z_av} {r' : List Value} {x : z_tk} {pc : Nat} {u : Int} (hx : z_gi N x u) (hS : z_gs strs N al S f rest P) (hr : z_all2 (z_gv N al) r r') : ∀ {offs : List Int} {k : Int} {W : List z_as_}, z_sws S r x pc k offs = some W → k ≤ u → u < k + offs.length → ∃ off t, offs[(u - k).toNat]? = some off ∧ z_tg pc off = some t ∧ ∃ S' ∈ W, z_gs strs N al S' (f.1, t, f.2.2.1, r', f.2.2.2.2.1, f.2.2.2.2.2) rest P
  | [], k, W, _, h1, h2 => by simp at h2; omega
  | off :: offs, k, W, h, h1, h2 => by
    unfold z_sws at h
    by_cases hu : u = k
    · subst hu
      rw [if_pos ⟨hx.1, hx.2.1⟩] at h
      split at h
      · rename_i t W' ht hW
        cases h
        exact ⟨off, t, by simp, ht, _, List.mem_cons_self, z_nar_gs hx (by show u ≤ u; omega) (by show u ≤ u; omega) (z_go_gs hS hS.1.2.2.1 hr)⟩
      · cases h
    · have hlen : u < (k + 1) + offs.length := by
        simp at h2
        omega
      have hidx : ∀ o, offs[(u - (k + 1)).toNat]? = some o → (off :: offs)[(u - k).toNat]? = some o := fun o ho => by
        rw [show (u - k).toNat = (u - (k + 1)).toNat + 1 by omega]
        simpa using ho
      split at h
      · split at h
        · rename_i t W' ht hW
          cases h
          obtain ⟨o, t', g1, g2, S', g3, g4⟩ := z_sws_ok hx hS hr hW (by omega) hlen
          exact ⟨o, t', hidx o g1, g2, S', List.mem_cons_of_mem _ g3, g4⟩
        · cases h
      · obtain ⟨o, t', g1, g2, S', g3, g4⟩ := z_sws_ok hx hS hr h (by omega) hlen
        exact ⟨o, t', hidx o g1, g2, S', g3, g4⟩
def z_sw (S : z_as_) (r : List z_av) (x : z_tk) (pc : Nat) (dflt lo hi : Int) (offs : List Int) : Option (List z_as_) := match z_sws S r x pc lo offs, z_tg pc dflt with
  | some W, some t => if hi + 1 = lo + offs.length then some (W ++ ((if z_lo x < lo then [z_nar x (z_lo x, lo - 1) (z_go S t S.1.2.2.1 r)] else []) ++ (if hi < z_hi x then [z_nar x (hi + 1, z_hi x) (z_go S t S.1.2.2.1 r)] else []))) else none
  | _, _ => none
/-- jumps -/
def z_ajmp (S : z_as_) : Instr → Nat → List z_av → Option (List z_as_)
  | .goto off => fun pc st => (z_tg pc off).map fun t => [z_go S t S.1.2.2.1 st]
  | .ifCond c off => fun pc st => match st with
    | .inl x :: r => (z_tg pc off).map fun t => z_br S t r c true x (z_tc 0) ++ z_br S (pc + 3) r c false x (z_tc 0)
    | _ => none
  | .if_icmp c off => fun pc st => match st with
    | .inl y :: .inl x :: r => (z_tg pc off).map fun t => z_br S t r c true x y ++ z_br S (pc + 3) r c false x y
    | _ => none
  | .ifnull off => fun pc st => match st with
    | .inr (.inr q) :: r => (z_tg pc off).map fun t => (if q.1 then [z_go S t S.1.2.2.1 r] else []) ++ (if q.2.isEmpty then [] else [z_go S (pc + 3) S.1.2.2.1 r])
    | _ => none
  | .ifnonnull off => fun pc st => match st with
    | .inr (.inr q) :: r => (z_tg pc off).map fun t => (if q.1 then [z_go S (pc + 3) S.1.2.2.1 r] else []) ++ (if q.2.isEmpty then [] else [z_go S t S.1.2.2.1 r])
    | _ => none
  | .tableswitch dflt lo hi offs => fun pc st => match st with
    | .inl x :: r => z_sw S r x pc dflt lo hi offs.toList
    | _ => none
  | _ => fun _ _ => none
theorem z_zero_gi : z_gi N (z_tc 0) (0 : Int32).toInt := z_tc_gi
theorem z_ajmp_ok {S : z_as_} {ins : Instr} {pc : Nat} {Ss : List z_as_} {ast : List z_av} {f : z_Fr} {rest : List z_Fr} {P : z_H} {st : List Value} (h : z_ajmp S ins pc ast = some Ss) (hS : z_gs strs N al S f rest P) (hs : z_all2 (z_gv N al) ast st) : ∃ q, z_jmp ins pc st = some q ∧ ∃ S' ∈ Ss, z_gs strs N al S' (f.1, q.1, f.2.2.1, q.2, f.2.2.2.2.1, f.2.2.2.2.2) rest P := by
  cases ins
  case goto off =>
    obtain ⟨t, h1, h2⟩ := z_map_some h
    subst h2
    exact ⟨(t, st), by show (z_tg pc off).map _ = _; rw [h1]; rfl, _, List.mem_singleton_self _, z_go_gs hS hS.1.2.2.1 hs⟩
  case ifCond c off =>
    unfold z_ajmp at h
    dsimp only at h
    split at h
    · obtain ⟨t, h1, h2⟩ := z_map_some h
      subst h2
      match st, hs with
      | _ :: st, ⟨⟨u, e, hu⟩, hr⟩ =>
        subst e
        refine ⟨(if z_cmp c u 0 then t else pc + 3, st), by show (z_tg pc off).map _ = _; rw [h1]; rfl, ?_⟩
        cases hc : z_cmp c u 0 with
        | true =>
          obtain ⟨S', g1, g2⟩ := z_br_ok (t := t) (c := c) (v := 0) hu z_zero_gi hS hr
          rw [hc] at g1
          exact ⟨S', List.mem_append.mpr (Or.inl g1), g2⟩
        | false =>
          obtain ⟨S', g1, g2⟩ := z_br_ok (t := pc + 3) (c := c) (v := 0) hu z_zero_gi hS hr
          rw [hc] at g1
          exact ⟨S', List.mem_append.mpr (Or.inr g1), g2⟩
    · cases h
  case if_icmp c off =>
    unfold z_ajmp at h
    dsimp only at h
    split at h
    · obtain ⟨t, h1, h2⟩ := z_map_some h
      subst h2
      match st, hs with
      | _ :: _ :: st, ⟨⟨v, e1, hv⟩, ⟨u, e2, hu⟩, hr⟩ =>
        subst e1; subst e2
        refine ⟨(if z_cmp c u v then t else pc + 3, st), by show (z_tg pc off).map _ = _; rw [h1]; rfl, ?_⟩
        cases hc : z_cmp c u v with
        | true =>
          obtain ⟨S', g1, g2⟩ := z_br_ok (t := t) (c := c) hu hv hS hr
          rw [hc] at g1
          exact ⟨S', List.mem_append.mpr (Or.inl g1), g2⟩
        | false =>
          obtain ⟨S', g1, g2⟩ := z_br_ok (t := pc + 3) (c := c) hu hv hS hr
          rw [hc] at g1
          exact ⟨S', List.mem_append.mpr (Or.inr g1), g2⟩
    · cases h
  case ifnull off =>
    unfold z_ajmp at h
    dsimp only at h
    split at h
    · rename_i q r
      obtain ⟨t, h1, h2⟩ := z_map_some h
      subst h2
      match st, hs with
      | _ :: st, ⟨Or.inl ⟨e, hq⟩, hr⟩ =>
        subst e
        exact ⟨(t, st), by show (z_tg pc off).map _ = _; rw [h1]; rfl, z_go S t S.1.2.2.1 r, by rw [if_pos hq]; simp, z_go_gs hS hS.1.2.2.1 hr⟩
      | _ :: st, ⟨Or.inr ⟨a, c, e, hq, hc⟩, hr⟩ =>
        subst e
        have hne : q.2 ≠ [] := fun hq2 => by
          rw [hq2] at hc
          cases hc
        exact ⟨(pc + 3, st), rfl, z_go S (pc + 3) S.1.2.2.1 r, by simp [hne], z_go_gs hS hS.1.2.2.1 hr⟩
    · cases h
  case ifnonnull off =>
    unfold z_ajmp at h
    dsimp only at h
    split at h
    · rename_i q r
      obtain ⟨t, h1, h2⟩ := z_map_some h
      subst h2
      match st, hs with
      | _ :: st, ⟨Or.inl ⟨e, hq⟩, hr⟩ =>
        subst e
        exact ⟨(pc + 3, st), rfl, z_go S (pc + 3) S.1.2.2.1 r, by rw [if_pos hq]; simp, z_go_gs hS hS.1.2.2.1 hr⟩
      | _ :: st, ⟨Or.inr ⟨a, c, e, hq, hc⟩, hr⟩ =>
        subst e
        have hne : q.2 ≠ [] := fun hq2 => by
          rw [hq2] at hc
          cases hc
        exact ⟨(t, st), by show (z_tg pc off).map _ = _; rw [h1]; rfl, z_go S t S.1.2.2.1 r, by simp [hne], z_go_gs hS hS.1.2.2.1 hr⟩
    · cases h
  case tableswitch dflt lo hi offs =>
    unfold z_ajmp at h
    dsimp only at h
    split at h
    · rename_i x r
      unfold z_sw at h
      split at h
      · rename_i W t hW ht
        split at h
        · rename_i hlen
          cases h
          match st, hs with
          | _ :: st, ⟨⟨u, e, hu⟩, hr⟩ =>
            subst e
            by_cases hlo : u.toInt < lo
            · refine ⟨(t, st), by show (if u.toInt < lo ∨ hi < u.toInt then (z_tg pc dflt).map _ else _) = _; rw [if_pos (Or.inl hlo), ht]; rfl, z_nar x (z_lo x, lo - 1) (z_go S t S.1.2.2.1 r), ?_, z_nar_gs hu hu.1 (by show u.toInt ≤ lo - 1; omega) (z_go_gs hS hS.1.2.2.1 hr)⟩
              rw [if_pos (show z_lo x < lo by have := hu.1; omega)]
              simp
            · by_cases hhi : hi < u.toInt
              · refine ⟨(t, st), by show (if u.toInt < lo ∨ hi < u.toInt then (z_tg pc dflt).map _ else _) = _; rw [if_pos (Or.inr hhi), ht]; rfl, z_nar x (hi + 1, z_hi x) (z_go S t S.1.2.2.1 r), ?_, z_nar_gs hu (by show hi + 1 ≤ u.toInt; omega) hu.2.1 (z_go_gs hS hS.1.2.2.1 hr)⟩
                rw [if_pos (show hi < z_hi x by have := hu.2.1; omega)]
                simp
              · obtain ⟨off, t', g1, g2, S', g3, g4⟩ := z_sws_ok hu hS hr hW (by omega) (by omega)
                refine ⟨(t', st), ?_, S', List.mem_append.mpr (Or.inl g3), g4⟩
                show (if u.toInt < lo ∨ hi < u.toInt then _ else match offs[(u.toInt - lo).toNat]? with | some off => (z_tg pc off).map _ | none => none) = _
                rw [if_neg (by omega), ← Array.getElem?_toList, g1]
                show (z_tg pc off).map _ = _
                rw [g2]
                rfl
        · cases h
      · cases h
    · cases h
  all_goals (cases h)
end ZABR
