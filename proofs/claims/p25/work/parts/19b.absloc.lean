section ZAL
variable {N : List Int} {al : Nat → Option Nat}
/-- may the entry of k be a wide one? -/
def z_awide (L : List (Nat × z_av)) (k : Nat) : Bool := match z_aget L k with
  | some t => z_acat t == 2
  | none => true
def z_aset1 (L : List (Nat × z_av)) (i : Nat) (t : z_av) : List (Nat × z_av) := (i, t) :: L.filter (fun q => !(q.1 == i) && !(q.1 + 1 == i && z_awide L q.1))
def z_aset2 (L : List (Nat × z_av)) (i : Nat) (t : z_av) : List (Nat × z_av) := (i, t) :: L.filter (fun q => !(q.1 == i) && (!(q.1 == i + 1) && !(q.1 + 1 == i && z_awide L q.1)))
theorem z_aget_filter (p : Nat → Bool) : ∀ (L : List (Nat × z_av)) (j : Nat), z_aget (L.filter fun q => p q.1) j = if p j = true then z_aget L j else none
  | [], j => by simp [z_aget]
  | q :: r, j => by
    have ih := z_aget_filter p r j
    by_cases hp : p q.1 = true
    · rw [List.filter_cons_of_pos (p := fun q : Nat × z_av => p q.1) (a := q) (l := r) hp]
      show (if q.1 == j then some q.2 else z_aget (r.filter fun q => p q.1) j) = if p j = true then (if q.1 == j then some q.2 else z_aget r j) else none
      rw [ih]
      by_cases hj : q.1 = j
      · subst hj
        simp [hp]
      · simp [hj]
    · rw [List.filter_cons_of_neg (p := fun q : Nat × z_av => p q.1) (a := q) (l := r) hp, ih]
      show _ = if p j = true then (if q.1 == j then some q.2 else z_aget r j) else none
      by_cases hj : q.1 = j
      · subst hj
        simp [hp]
      · simp [hj]
theorem z_get_keep {p : Nat × Value → Bool} {j : Nat} {w : Value} (hp : p (j, w) = true) : ∀ {l : z_L}, z_get l j = some w → (∀ q, q.1 = j → q.2 = w → p q = true) → z_get (l.filter p) j = some w
  | [], h, _ => by cases h
  | q :: r, h, hq => by
    unfold z_get at h
    split at h
    · rename_i e
      have e' : q.1 = j := by simpa using e
      cases h
      rw [List.filter_cons_of_pos (hq q e' rfl)]
      unfold z_get
      rw [if_pos e]
    · rename_i e
      have ih := z_get_keep hp h hq
      by_cases h2 : p q = true
      · rw [List.filter_cons_of_pos h2]
        unfold z_get
        rw [if_neg e]
        exact ih
      · rw [List.filter_cons_of_neg h2]
        exact ih
theorem z_aset1_ok {L : List (Nat × z_av)} {l : z_L} {i : Nat} {t : z_av} {v : Value} (hL : z_gl N al L l) (ht : z_gv N al t v) : z_gl N al (z_aset1 L i t) (z_set1 l i v) := by
  intro j u hu
  unfold z_aset1 at hu
  have hu : (if i == j then some t else z_aget (L.filter fun q => !(q.1 == i) && !(q.1 + 1 == i && z_awide L q.1)) j) = some u := hu
  by_cases hj : i = j
  · subst hj
    simp at hu
    subst hu
    exact ⟨v, by unfold z_set1 z_get; simp, ht⟩
  · have hne : (i == j) = false := by simpa using hj
    rw [hne] at hu
    rw [if_neg (by decide), z_aget_filter (fun k => !(k == i) && !(k + 1 == i && z_awide L k))] at hu
    split at hu
    · rename_i hp
      obtain ⟨w, h1, h2⟩ := hL j u hu
      refine ⟨w, ?_, h2⟩
      unfold z_set1 z_get
      rw [if_neg (by simpa using hj)]
      simp only [Bool.and_eq_true, Bool.not_eq_true'] at hp
      have hcat : (j + 1 == i && w.category == 2) = false := by
        have h3 := hp.2
        by_cases h4 : j + 1 = i
        · have h5 : z_awide L j = false := by simpa [h4] using h3
          unfold z_awide at h5
          rw [hu] at h5
          have h6 := z_acat_eq h2
          rw [h6]
          simp [h4]
          simpa using h5
        · simp [h4]
      refine z_get_keep ?_ h1 (fun q e1 e2 => ?_)
      · simp only [hcat, hp.1]
        rfl
      · rw [e1, e2, hcat, hp.1]
        rfl
    · cases hu
theorem z_aset2_ok {L : List (Nat × z_av)} {l : z_L} {i : Nat} {t : z_av} {v : Value} (hL : z_gl N al L l) (ht : z_gv N al t v) : z_gl N al (z_aset2 L i t) (z_set2 l i v) := by
  intro j u hu
  unfold z_aset2 at hu
  have hu : (if i == j then some t else z_aget (L.filter fun q => !(q.1 == i) && (!(q.1 == i + 1) && !(q.1 + 1 == i && z_awide L q.1))) j) = some u := hu
  by_cases hj : i = j
  · subst hj
    simp at hu
    subst hu
    exact ⟨v, by unfold z_set2 z_get; simp, ht⟩
  · have hne : (i == j) = false := by simpa using hj
    rw [hne] at hu
    rw [if_neg (by decide), z_aget_filter (fun k => !(k == i) && (!(k == i + 1) && !(k + 1 == i && z_awide L k)))] at hu
    split at hu
    · rename_i hp
      obtain ⟨w, h1, h2⟩ := hL j u hu
      refine ⟨w, ?_, h2⟩
      unfold z_set2 z_get
      rw [if_neg (by simpa using hj)]
      simp only [Bool.and_eq_true, Bool.not_eq_true'] at hp
      have hcat : (j + 1 == i && w.category == 2) = false := by
        have h3 := hp.2.2
        by_cases h4 : j + 1 = i
        · have h5 : z_awide L j = false := by simpa [h4] using h3
          unfold z_awide at h5
          rw [hu] at h5
          have h6 := z_acat_eq h2
          rw [h6]
          simp [h4]
          simpa using h5
        · simp [h4]
      refine z_get_keep ?_ h1 (fun q e1 e2 => ?_)
      · simp only [hcat, hp.1, hp.2.1]
        rfl
      · rw [e1, e2, hcat, hp.1, hp.2.1]
        rfl
    · cases hu
def z_akI : z_av → Bool
  | .inl _ => true
  | _ => false
def z_akL : z_av → Bool
  | .inr (.inl _) => true
  | _ => false
def z_akA : z_av → Bool
  | .inr (.inr _) => true
  | _ => false
theorem z_akI_ok : ∀ {t : z_av} {v : Value}, z_akI t = true → z_gv N al t v → z_isI v = true
  | .inl _, _, _, ⟨_, e, _⟩ => by rw [e]; rfl
  | .inr _, _, h, _ => by cases h
theorem z_akL_ok : ∀ {t : z_av} {v : Value}, z_akL t = true → z_gv N al t v → z_isL v = true
  | .inr (.inl _), _, _, ⟨_, e, _⟩ => by rw [e]; rfl
  | .inl _, _, h, _ => by cases h
  | .inr (.inr _), _, h, _ => by cases h
theorem z_akA_ok : ∀ {t : z_av} {v : Value}, z_akA t = true → z_gv N al t v → z_isA v = true
  | .inr (.inr _), _, _, Or.inl ⟨e, _⟩ => by rw [e]; rfl
  | .inr (.inr _), _, _, Or.inr ⟨_, _, e, _⟩ => by rw [e]; rfl
  | .inl _, _, h, _ => by cases h
  | .inr (.inl _), _, h, _ => by cases h
def z_ald (k : z_av → Bool) (L : List (Nat × z_av)) (i : Nat) (st : List z_av) : Option (List (Nat × z_av) × List z_av) := match z_aget L i with
  | some t => if k t then some (L, t :: st) else none
  | none => none
def z_ast1 (k : z_av → Bool) (nL : Nat) (L : List (Nat × z_av)) (i : Nat) : List z_av → Option (List (Nat × z_av) × List z_av)
  | t :: st => if k t && decide (i < nL) then some (z_aset1 L i t, st) else none
  | _ => none
def z_ast2 (nL : Nat) (L : List (Nat × z_av)) (i : Nat) : List z_av → Option (List (Nat × z_av) × List z_av)
  | .inr (.inl t) :: st => if i + 1 < nL then some (z_aset2 L i (.inr (.inl t)), st) else none
  | _ => none
def z_ainc (nL : Nat) (L : List (Nat × z_av)) (i : Nat) (n : Int) (st : List z_av) : Option (List (Nat × z_av) × List z_av) := match z_aget L i with
  | some (.inl t) => if i < nL then some (z_aset1 L i (.inl (z_ex2 (fun a b => a + b) z_add32 t (z_tc (Int32.ofInt n).toInt))), st) else none
  | _ => none
def z_aloc (nL : Nat) : Instr → List (Nat × z_av) → List z_av → Option (List (Nat × z_av) × List z_av)
  | .iload i => fun l st => z_ald z_akI l i st
  | .iload_n i => fun l st => z_ald z_akI l i st
  | .lload i => fun l st => z_ald z_akL l i st
  | .lload_n i => fun l st => z_ald z_akL l i st
  | .aload i => fun l st => z_ald z_akA l i st
  | .aload_n i => fun l st => z_ald z_akA l i st
  | .istore i => fun l st => z_ast1 z_akI nL l i st
  | .istore_n i => fun l st => z_ast1 z_akI nL l i st
  | .astore i => fun l st => z_ast1 z_akA nL l i st
  | .astore_n i => fun l st => z_ast1 z_akA nL l i st
  | .lstore i => fun l st => z_ast2 nL l i st
  | .lstore_n i => fun l st => z_ast2 nL l i st
  | .iinc i n => fun l st => z_ainc nL l i n st
  | _ => fun _ _ => none
theorem z_ald_ok {ka : z_av → Bool} {k : Value → Bool} (hk : ∀ {t v}, ka t = true → z_gv N al t v → k v = true) {L L' : List (Nat × z_av)} {l : z_L} {i : Nat} {ast ast' : List z_av} {st : List Value} (h : z_ald ka L i ast = some (L', ast')) (hL : z_gl N al L l) (hs : z_all2 (z_gv N al) ast st) : ∃ l' st', z_ld k l i st = some (l', st') ∧ z_gl N al L' l' ∧ z_all2 (z_gv N al) ast' st' := by
  unfold z_ald at h
  split at h
  · rename_i t ht
    split at h
    · rename_i hkt
      cases h
      obtain ⟨v, h1, h2⟩ := hL i t ht
      refine ⟨l, v :: st, ?_, hL, h2, hs⟩
      unfold z_ld
      rw [h1]
      show (if k v = true then some (l, v :: st) else none) = _
      rw [if_pos (hk hkt h2)]
    · cases h
  · cases h
theorem z_ast1_ok {ka : z_av → Bool} {k : Value → Bool} (hk : ∀ {t v}, ka t = true → z_gv N al t v → k v = true) {nL : Nat} {L L' : List (Nat × z_av)} {l : z_L} {i : Nat} {ast ast' : List z_av} {st : List Value} (h : z_ast1 ka nL L i ast = some (L', ast')) (hL : z_gl N al L l) (hs : z_all2 (z_gv N al) ast st) : ∃ l' st', z_st1 k nL l i st = some (l', st') ∧ z_gl N al L' l' ∧ z_all2 (z_gv N al) ast' st' := by
  unfold z_ast1 at h
  split at h
  · split at h
    · rename_i hkt
      rw [Bool.and_eq_true] at hkt
      cases h
      match st, hs with
      | v :: st, ⟨h1, h2⟩ =>
        refine ⟨z_set1 l i v, st, ?_, z_aset1_ok hL h1, h2⟩
        show (if (k v && decide (i < nL)) = true then some (z_set1 l i v, st) else none) = _
        rw [if_pos (by rw [Bool.and_eq_true]; exact ⟨hk hkt.1 h1, hkt.2⟩)]
    · cases h
  · cases h
theorem z_ast2_ok {nL : Nat} {L L' : List (Nat × z_av)} {l : z_L} {i : Nat} {ast ast' : List z_av} {st : List Value} (h : z_ast2 nL L i ast = some (L', ast')) (hL : z_gl N al L l) (hs : z_all2 (z_gv N al) ast st) : ∃ l' st', z_st2 nL l i st = some (l', st') ∧ z_gl N al L' l' ∧ z_all2 (z_gv N al) ast' st' := by
  unfold z_ast2 at h
  split at h
  · split at h
    · rename_i hi
      cases h
      match st, hs with
      | v :: st, ⟨h1, h2⟩ =>
        obtain ⟨x, e, hx⟩ := id h1
        subst e
        refine ⟨z_set2 l i (.long x), st, ?_, z_aset2_ok hL h1, h2⟩
        show (if i + 1 < nL then some (z_set2 l i (.long x), st) else none) = _
        rw [if_pos hi]
    · cases h
  · cases h
theorem z_ainc_ok {nL : Nat} {L L' : List (Nat × z_av)} {l : z_L} {i : Nat} {n : Int} {ast ast' : List z_av} {st : List Value} (h : z_ainc nL L i n ast = some (L', ast')) (hL : z_gl N al L l) (hs : z_all2 (z_gv N al) ast st) : ∃ l' st', z_inc nL l i n st = some (l', st') ∧ z_gl N al L' l' ∧ z_all2 (z_gv N al) ast' st' := by
  unfold z_ainc at h
  split at h
  · rename_i t ht
    split at h
    · rename_i hi
      cases h
      obtain ⟨v, h1, x, e, hx⟩ := hL i _ ht
      subst e
      refine ⟨z_set1 l i (.int (x + Int32.ofInt n)), st, ?_, z_aset1_ok hL ⟨_, rfl, z_ex2_gi hx z_tc_gi (z_add32_gi hx z_tc_gi)⟩, hs⟩
      unfold z_inc
      rw [h1]
      show (if i < nL then _ else none) = _
      rw [if_pos hi]
    · cases h
  · cases h
theorem z_aloc_ok {nL : Nat} {ins : Instr} {L L' : List (Nat × z_av)} {l : z_L} {ast ast' : List z_av} {st : List Value} (h : z_aloc nL ins L ast = some (L', ast')) (hL : z_gl N al L l) (hs : z_all2 (z_gv N al) ast st) : ∃ l' st', z_loc nL ins l st = some (l', st') ∧ z_gl N al L' l' ∧ z_all2 (z_gv N al) ast' st' := by
  cases ins
  case iload i => exact z_ald_ok (fun h1 h2 => z_akI_ok h1 h2) h hL hs
  case iload_n i => exact z_ald_ok (fun h1 h2 => z_akI_ok h1 h2) h hL hs
  case lload i => exact z_ald_ok (fun h1 h2 => z_akL_ok h1 h2) h hL hs
  case lload_n i => exact z_ald_ok (fun h1 h2 => z_akL_ok h1 h2) h hL hs
  case aload i => exact z_ald_ok (fun h1 h2 => z_akA_ok h1 h2) h hL hs
  case aload_n i => exact z_ald_ok (fun h1 h2 => z_akA_ok h1 h2) h hL hs
  case istore i => exact z_ast1_ok (fun h1 h2 => z_akI_ok h1 h2) h hL hs
  case istore_n i => exact z_ast1_ok (fun h1 h2 => z_akI_ok h1 h2) h hL hs
  case astore i => exact z_ast1_ok (fun h1 h2 => z_akA_ok h1 h2) h hL hs
  case astore_n i => exact z_ast1_ok (fun h1 h2 => z_akA_ok h1 h2) h hL hs
  case lstore i => exact z_ast2_ok h hL hs
  case lstore_n i => exact z_ast2_ok h hL hs
  case iinc i n => exact z_ainc_ok h hL hs
  all_goals (cases h)
end ZAL
