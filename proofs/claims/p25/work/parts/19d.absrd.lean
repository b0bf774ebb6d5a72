section ZARD
variable {strs : z_Ss} {N : List Int} {al : Nat → Option Nat}
/-- two values in one -/
def z_jt (s t : z_tk) : z_tk := if s.1 = t.1 then (s.1, min s.2.1 t.2.1, max s.2.2.1 t.2.2.1, min (z_lo s) (z_lo t), max (z_hi s) (z_hi t)) else (0, 0, 0, min (z_lo s) (z_lo t), max (z_hi s) (z_hi t))
theorem z_jt_l {s t : z_tk} {v : Int} (h : z_gi N s v) : z_gi N (z_jt s t) v := by
  obtain ⟨h1, h2, h3⟩ := h
  unfold z_jt
  split
  · refine ⟨by show min (z_lo s) (z_lo t) ≤ v; omega, by show v ≤ max (z_hi s) (z_hi t); omega, h3.imp id ?_⟩
    rintro ⟨w, e, h4, h5⟩
    exact ⟨w, e, by show w + min s.2.1 t.2.1 ≤ v; omega, by show v ≤ w + max s.2.2.1 t.2.2.1; omega⟩
  · exact ⟨by show min (z_lo s) (z_lo t) ≤ v; omega, by show v ≤ max (z_hi s) (z_hi t); omega, Or.inl rfl⟩
theorem z_jt_r {s t : z_tk} {v : Int} (h : z_gi N t v) : z_gi N (z_jt s t) v := by
  obtain ⟨h1, h2, h3⟩ := h
  unfold z_jt
  split
  · rename_i hst
    refine ⟨by show min (z_lo s) (z_lo t) ≤ v; omega, by show v ≤ max (z_hi s) (z_hi t); omega, ?_⟩
    rcases h3 with h3 | ⟨w, e, h4, h5⟩
    · exact Or.inl (hst.trans h3)
    · exact Or.inr ⟨w, by show N[s.1]? = some w; rw [hst]; exact e, by show w + min s.2.1 t.2.1 ≤ v; omega, by show v ≤ w + max s.2.2.1 t.2.2.1; omega⟩
  · exact ⟨by show min (z_lo s) (z_lo t) ≤ v; omega, by show v ≤ max (z_hi s) (z_hi t); omega, Or.inl rfl⟩
def z_jn : z_av → z_av → Option z_av
  | .inl s, .inl t => some (.inl (z_jt s t))
  | .inr (.inl s), .inr (.inl t) => some (.inr (.inl (z_jt s t)))
  | .inr (.inr s), .inr (.inr t) => some (.inr (.inr (s.1 || t.1, s.2 ++ t.2.filter fun c => !s.2.contains c)))
  | _, _ => none
theorem z_jn_l : ∀ {s t u : z_av} {v : Value}, z_jn s t = some u → z_gv N al s v → z_gv N al u v
  | .inl s, .inl t, _, _, h, ⟨x, e, g⟩ => by cases h; exact ⟨x, e, z_jt_l g⟩
  | .inr (.inl s), .inr (.inl t), _, _, h, ⟨x, e, g⟩ => by cases h; exact ⟨x, e, z_jt_l g⟩
  | .inr (.inr s), .inr (.inr t), _, _, h, Or.inl ⟨e, g⟩ => by cases h; exact Or.inl ⟨e, by show (s.1 || t.1) = true; rw [g]; rfl⟩
  | .inr (.inr s), .inr (.inr t), _, _, h, Or.inr ⟨a, c, e, g1, g2⟩ => by cases h; exact Or.inr ⟨a, c, e, g1, List.mem_append.mpr (Or.inl g2)⟩
  | .inl _, .inr _, _, _, h, _ => by cases h
  | .inr (.inl _), .inl _, _, _, h, _ => by cases h
  | .inr (.inl _), .inr (.inr _), _, _, h, _ => by cases h
  | .inr (.inr _), .inl _, _, _, h, _ => by cases h
  | .inr (.inr _), .inr (.inl _), _, _, h, _ => by cases h
theorem z_jn_r : ∀ {s t u : z_av} {v : Value}, z_jn s t = some u → z_gv N al t v → z_gv N al u v
  | .inl s, .inl t, _, _, h, ⟨x, e, g⟩ => by cases h; exact ⟨x, e, z_jt_r g⟩
  | .inr (.inl s), .inr (.inl t), _, _, h, ⟨x, e, g⟩ => by cases h; exact ⟨x, e, z_jt_r g⟩
  | .inr (.inr s), .inr (.inr t), _, _, h, Or.inl ⟨e, g⟩ => by cases h; exact Or.inl ⟨e, by show (s.1 || t.1) = true; rw [g]; simp⟩
  | .inr (.inr s), .inr (.inr t), _, _, h, Or.inr ⟨a, c, e, g1, g2⟩ => by
    cases h
    refine Or.inr ⟨a, c, e, g1, List.mem_append.mpr ?_⟩
    by_cases hc : c ∈ s.2
    · exact Or.inl hc
    · exact Or.inr (List.mem_filter.mpr ⟨g2, by simpa using hc⟩)
  | .inl _, .inr _, _, _, h, _ => by cases h
  | .inr (.inl _), .inl _, _, _, h, _ => by cases h
  | .inr (.inl _), .inr (.inr _), _, _, h, _ => by cases h
  | .inr (.inr _), .inl _, _, _, h, _ => by cases h
  | .inr (.inr _), .inr (.inl _), _, _, h, _ => by cases h
/-- many values in one -/
def z_jns : List z_av → Option z_av
  | [] => none
  | t :: ts => match ts with
    | [] => some t
    | _ :: _ => match z_jns ts with
      | some u => z_jn t u
      | none => none
theorem z_jns_ok : ∀ {ts : List z_av} {t u : z_av} {v : Value}, z_jns ts = some u → t ∈ ts → z_gv N al t v → z_gv N al u v
  | [], _, _, _, h, _, _ => by cases h
  | [s], t, u, v, h, hm, hv => by
    rw [List.mem_singleton] at hm
    subst hm
    cases h
    exact hv
  | s :: s' :: ts, t, u, v, h, hm, hv => by
    have h : (match z_jns (s' :: ts) with | some u => z_jn s u | none => none) = some u := h
    split at h
    · rename_i w hw
      rcases List.mem_cons.mp hm with hm | hm
      · subst hm
        exact z_jn_l h hv
      · exact z_jn_r h (z_jns_ok hw hm hv)
    · cases h
/-- what some cells give, one by one -/
def z_rds (AH : List z_ac_) (p : z_ac_ → Option z_av) : List Nat → Option (List z_av)
  | [] => some []
  | c :: cs => match AH[c]? with
    | some A => match p A, z_rds AH p cs with
      | some t, some ts => some (t :: ts)
      | _, _ => none
    | none => none
theorem z_rds_ok {AH : List z_ac_} {p : z_ac_ → Option z_av} : ∀ {cs : List Nat} {ts : List z_av} {c : Nat}, z_rds AH p cs = some ts → c ∈ cs → ∃ A t, AH[c]? = some A ∧ p A = some t ∧ t ∈ ts
  | [], _, _, _, h => by cases h
  | c' :: cs, ts, c, h, hc => by
    unfold z_rds at h
    split at h
    · rename_i A hA
      split at h
      · rename_i t ts' ht hts
        cases h
        rcases List.mem_cons.mp hc with hc | hc
        · subst hc
          exact ⟨A, t, hA, ht, List.mem_cons_self⟩
        · obtain ⟨A', t', h1, h2, h3⟩ := z_rds_ok hts hc
          exact ⟨A', t', h1, h2, List.mem_cons_of_mem _ h3⟩
      · cases h
    · cases h
def z_rdj (AH : List z_ac_) (p : z_ac_ → Option z_av) (cs : List Nat) : Option z_av := match z_rds AH p cs with
  | some ts => z_jns ts
  | none => none
theorem z_rdj_ok {AH : List z_ac_} {p : z_ac_ → Option z_av} {cs : List Nat} {u : z_av} {c : Nat} (h : z_rdj AH p cs = some u) (hc : c ∈ cs) : ∃ A t, AH[c]? = some A ∧ p A = some t ∧ ∀ v, z_gv N al t v → z_gv N al u v := by
  unfold z_rdj at h
  split at h
  · rename_i ts hts
    obtain ⟨A, t, h1, h2, h3⟩ := z_rds_ok hts hc
    exact ⟨A, t, h1, h2, fun v hv => z_jns_ok h h3 hv⟩
  · cases h
/-- an element of a cell: its values with the length -/
def z_ael (i : z_tk) (A : z_ac_) : Option z_av := match A.2.2.1 with
  | some n => if 0 ≤ z_lo i ∧ z_hi i < n then A.2.2.2.head? else none
  | none => if 0 ≤ z_lo i ∧ z_hi i < A.2.2.2.length then z_jns ((A.2.2.2.drop (z_lo i).toNat).take (z_hi i - z_lo i + 1).toNat) else none
theorem z_ael_ok {i : z_tk} {A : z_ac_} {t : z_av} {q : z_C} {x : Int32} (h : z_ael i A = some t) (hi : z_gi N i x.toInt) (hA : z_gc N al A q) : 0 ≤ x.toInt ∧ ∃ v, q.2[x.toNatClampNeg]? = some v ∧ z_gv N al t v := by
  obtain ⟨-, hA⟩ := hA
  have hx : x.toNatClampNeg = x.toInt.toNat := rfl
  unfold z_ael at h
  split at h
  · rename_i n hn
    split at h
    · rename_i hc
      rw [hn] at hA
      obtain ⟨hl, s, e1, e2⟩ := hA
      rw [e1] at h
      cases h
      have h0 : 0 ≤ x.toInt := by have := hi.1; omega
      have h1 : x.toNatClampNeg < q.2.length := by have := hi.2.1; omega
      exact ⟨h0, q.2[x.toNatClampNeg], List.getElem?_eq_getElem h1, e2 _ (List.getElem_mem h1)⟩
    · cases h
  · rename_i hn
    split at h
    · rename_i hc
      rw [hn] at hA
      have h0 : 0 ≤ x.toInt := by have := hi.1; omega
      have hlt : x.toNatClampNeg < A.2.2.2.length := by have := hi.2.1; omega
      obtain ⟨v, e1, e2⟩ := z_all2.get hA (List.getElem?_eq_getElem hlt)
      refine ⟨h0, v, e1, z_jns_ok h ?_ e2⟩
      have e3 : ((A.2.2.2.drop (z_lo i).toNat).take (z_hi i - z_lo i + 1).toNat)[x.toNatClampNeg - (z_lo i).toNat]? = some A.2.2.2[x.toNatClampNeg] := by
        rw [List.getElem?_take_of_lt (by have := hi.1; have := hi.2.1; omega), List.getElem?_drop, show (z_lo i).toNat + (x.toNatClampNeg - (z_lo i).toNat) = x.toNatClampNeg by have := hi.1; omega]
        exact List.getElem?_eq_getElem hlt
      exact List.mem_of_getElem? e3
    · cases h
def z_chk (k : z_av → Bool) : Option z_av → Option z_av
  | some t => if k t then some t else none
  | none => none
theorem z_chk_ok {k : z_av → Bool} {o : Option z_av} {t : z_av} (h : z_chk k o = some t) : o = some t ∧ k t = true := by
  unfold z_chk at h
  split at h
  · split at h
    · rename_i hk
      cases h
      exact ⟨rfl, hk⟩
    · cases h
  · cases h
/-- an element out of a cell of the kind t -/
def z_pe (t : Nat → Bool) (k : z_av → Bool) (i : z_tk) (A : z_ac_) : Option z_av := if t A.1 then z_chk k (z_ael i A) else none
def z_arl (t : Nat → Bool) (k : z_av → Bool) (AH : List z_ac_) : List z_av → Option (List z_av)
  | .inl i :: .inr (.inr r) :: st => if r.1 then none else (z_rdj AH (z_pe t k i) r.2).map (· :: st)
  | _ => none
theorem z_arl_ok {t : Nat → Bool} {ka : z_av → Bool} {k : Value → Bool} (hk : ∀ {t v}, ka t = true → z_gv N al t v → k v = true) {AH : List z_ac_} {P : z_H} {ast ast' : List z_av} {st : List Value} (h : z_arl t ka AH ast = some ast') (hH : z_gh strs N al AH P) (hs : z_all2 (z_gv N al) ast st) :
    ∃ i a r q v, st = .int i :: .ref a :: r ∧ z_lk strs P a = some q ∧ t q.1 = true ∧ 0 ≤ i.toInt ∧ q.2[i.toNatClampNeg]? = some v ∧ k v = true ∧ z_all2 (z_gv N al) ast' (v :: r) := by
  unfold z_arl at h
  split at h
  · split at h
    · cases h
    · rename_i i r as hr
      obtain ⟨u, h1, h2⟩ := z_map_some h
      subst h2
      match st, hs with
      | _ :: _ :: st, ⟨⟨x, e, hx⟩, Or.inl ⟨e2, h3⟩, h4⟩ => exact absurd h3 hr
      | _ :: _ :: st, ⟨⟨x, e, hx⟩, Or.inr ⟨a, c, e2, hac, hc⟩, h4⟩ =>
        subst e; subst e2
        obtain ⟨q, A, g1, g2, g3, -⟩ := hH a c hac
        obtain ⟨A', s, g4, g5, g6⟩ := z_rdj_ok (N := N) (al := al) h1 hc
        rw [g2] at g4
        cases g4
        unfold z_pe at g5
        split at g5
        · rename_i ht
          obtain ⟨g7, g8⟩ := z_chk_ok g5
          obtain ⟨g9, v, g10, g11⟩ := z_ael_ok g7 hx g3
          exact ⟨x, a, st, q, v, rfl, g1, by rw [← g3.1]; exact ht, g9, g10, hk g8 g11, g6 v g11, h4⟩
        · cases g5
  · cases h
def z_plen (nA : Nat) (A : z_ac_) : Option z_av := if 100 ≤ A.1 ∧ A.1 < 100 + nA then match A.2.2.1 with
    | some n => if n < 2147483648 then some (.inl (z_tc n)) else none
    | none => if A.2.2.2.length < 2147483648 then some (.inl (z_tc A.2.2.2.length)) else none
  else none
theorem z_plen_ok {nA : Nat} {A : z_ac_} {q : z_C} {t : z_av} (h : z_plen nA A = some t) (hA : z_gc N al A q) : 100 ≤ q.1 ∧ q.1 < 100 + nA ∧ z_gv N al t (.int (Int32.ofNat q.2.length)) := by
  obtain ⟨h0, hA⟩ := hA
  have hf : ∀ n : Nat, n < 2147483648 → z_gi N (z_tc n) (Int32.ofNat n).toInt := fun n hn => by
    have : (Int32.ofNat n).toInt = (n : Int) := by
      rw [Int32.toInt_ofNat_of_lt (by omega)]
    rw [this]
    exact z_tc_gi
  unfold z_plen at h
  split at h
  · rename_i hc
    rw [h0] at hc
    refine ⟨hc.1, hc.2, ?_⟩
    split at h
    · rename_i n hn
      split at h
      · rename_i hl
        cases h
        rw [hn] at hA
        rw [hA.1]
        exact ⟨_, rfl, hf n hl⟩
      · cases h
    · rename_i hn
      split at h
      · rename_i hl
        cases h
        rw [hn] at hA
        rw [← z_all2.len hA]
        exact ⟨_, rfl, hf _ hl⟩
      · cases h
  · cases h
def z_pfl (f : Nat × Nat) (A : z_ac_) : Option z_av := if A.1 = f.1 ∧ A.1 < 99 then match A.2.2.1 with
    | none => A.2.2.2[f.2]?
    | some _ => none
  else none
theorem z_pfl_ok {f : Nat × Nat} {A : z_ac_} {q : z_C} {t : z_av} (h : z_pfl f A = some t) (hA : z_gc N al A q) : q.1 = f.1 ∧ q.1 < 99 ∧ ∃ v, q.2[f.2]? = some v ∧ z_gv N al t v := by
  obtain ⟨h0, hA⟩ := hA
  unfold z_pfl at h
  split at h
  · rename_i hc
    rw [h0] at hc
    split at h
    · rename_i hn
      rw [hn] at hA
      exact ⟨hc.1, hc.2, z_all2.get hA h⟩
    · cases h
  · cases h
def z_aone (p : z_ac_ → Option z_av) (AH : List z_ac_) : List z_av → Option (List z_av)
  | .inr (.inr r) :: st => if r.1 then none else (z_rdj AH p r.2).map (· :: st)
  | _ => none
theorem z_aone_ok {p : z_ac_ → Option z_av} {AH : List z_ac_} {P : z_H} {ast ast' : List z_av} {st : List Value} (h : z_aone p AH ast = some ast') (hH : z_gh strs N al AH P) (hs : z_all2 (z_gv N al) ast st) :
    ∃ a r q A t u r', st = .ref a :: r ∧ z_lk strs P a = some q ∧ z_gc N al A q ∧ p A = some t ∧ ast' = u :: r' ∧ (∀ v, z_gv N al t v → z_gv N al u v) ∧ z_all2 (z_gv N al) r' r := by
  unfold z_aone at h
  split at h
  · split at h
    · cases h
    · rename_i r as hr
      obtain ⟨u, h1, h2⟩ := z_map_some h
      subst h2
      match st, hs with
      | _ :: st, ⟨Or.inl ⟨e2, h3⟩, h4⟩ => exact absurd h3 hr
      | _ :: st, ⟨Or.inr ⟨a, c, e2, hac, hc⟩, h4⟩ =>
        subst e2
        obtain ⟨q, A, g1, g2, g3, -⟩ := hH a c hac
        obtain ⟨A', s, g4, g5, g6⟩ := z_rdj_ok (N := N) (al := al) h1 hc
        rw [g2] at g4
        cases g4
        exact ⟨a, st, q, A, s, u, as, rfl, g1, g3, g5, rfl, g6, h4⟩
  · cases h
def z_ard (fld : Nat → Option (Nat × Nat)) (nA : Nat) (AH : List z_ac_) : Instr → List z_av → Option (List z_av)
  | .getfield n => fun st => match fld n with
    | some f => z_aone (z_pfl f) AH st
    | none => none
  | .iaload => z_arl (fun t => t == 103) z_akI AH
  | .caload => z_arl (fun t => t == 102) z_akI AH
  | .baload => z_arl (fun t => t == 101 || t == 100) z_akI AH
  | .laload => z_arl (fun t => t == 104) z_akL AH
  | .aaload => z_arl (fun t => decide (105 ≤ t) && decide (t < 100 + nA)) z_akA AH
  | .arraylength => z_aone (z_plen nA) AH
  | _ => fun _ => none
theorem z_ard_ok {fld : Nat → Option (Nat × Nat)} {nA : Nat} {AH : List z_ac_} {P : z_H} {ins : Instr} {ast ast' : List z_av} {st : List Value} (h : z_ard fld nA AH ins ast = some ast') (hH : z_gh strs N al AH P) (hs : z_all2 (z_gv N al) ast st) : ∃ st', z_rd fld nA (z_lk strs P) ins st = some st' ∧ z_all2 (z_gv N al) ast' st' := by
  cases ins
  case getfield n =>
    have h : (match fld n with | some f => z_aone (z_pfl f) AH ast | none => none) = some ast' := h
    split at h
    · rename_i f hf
      obtain ⟨a, r, q, A, t, u, r', e, g1, g2, g3, e2, g4, g5⟩ := z_aone_ok h hH hs
      obtain ⟨g6, g7, v, g8, g9⟩ := z_pfl_ok g3 g2
      subst e; subst e2
      refine ⟨v :: r, ?_, g4 v g9, g5⟩
      show z_gf (fld n) (z_lk strs P) (.ref a :: r) = _
      unfold z_gf
      dsimp only
      rw [hf]
      dsimp only
      rw [g1]
      dsimp only
      rw [if_pos ⟨g6, g7⟩, g8]
    · cases h
  case arraylength =>
    obtain ⟨a, r, q, A, t, u, r', e, g1, g2, g3, e2, g4, g5⟩ := z_aone_ok (p := z_plen nA) h hH hs
    obtain ⟨g6, g7, g8⟩ := z_plen_ok g3 g2
    subst e; subst e2
    refine ⟨.int (Int32.ofNat q.2.length) :: r, ?_, g4 _ g8, g5⟩
    show z_alen nA (z_lk strs P) (.ref a :: r) = _
    unfold z_alen
    dsimp only
    rw [g1]
    dsimp only
    rw [if_pos ⟨g6, g7⟩]
  case iaload =>
    obtain ⟨i, a, r, q, v, e, g1, g2, g3, g4, g5, g6⟩ := z_arl_ok (t := fun t => t == 103) (k := z_isI) (fun h1 h2 => z_akI_ok h1 h2) h hH hs
    subst e
    refine ⟨v :: r, ?_, g6⟩
    show z_al 103 z_isI (z_lk strs P) (.int i :: .ref a :: r) = some (v :: r)
    unfold z_al
    dsimp only
    rw [g1]
    dsimp only
    rw [if_pos ⟨by simpa using g2, g3⟩, g4]
    dsimp only
    rw [if_pos g5]
  case caload =>
    obtain ⟨i, a, r, q, v, e, g1, g2, g3, g4, g5, g6⟩ := z_arl_ok (t := fun t => t == 102) (k := z_isI) (fun h1 h2 => z_akI_ok h1 h2) h hH hs
    subst e
    refine ⟨v :: r, ?_, g6⟩
    show z_al 102 z_isI (z_lk strs P) (.int i :: .ref a :: r) = some (v :: r)
    unfold z_al
    dsimp only
    rw [g1]
    dsimp only
    rw [if_pos ⟨by simpa using g2, g3⟩, g4]
    dsimp only
    rw [if_pos g5]
  case laload =>
    obtain ⟨i, a, r, q, v, e, g1, g2, g3, g4, g5, g6⟩ := z_arl_ok (t := fun t => t == 104) (k := z_isL) (fun h1 h2 => z_akL_ok h1 h2) h hH hs
    subst e
    refine ⟨v :: r, ?_, g6⟩
    show z_al 104 z_isL (z_lk strs P) (.int i :: .ref a :: r) = some (v :: r)
    unfold z_al
    dsimp only
    rw [g1]
    dsimp only
    rw [if_pos ⟨by simpa using g2, g3⟩, g4]
    dsimp only
    rw [if_pos g5]
  case baload =>
    obtain ⟨i, a, r, q, v, e, g1, g2, g3, g4, g5, g6⟩ := z_arl_ok (t := fun t => t == 101 || t == 100) (k := z_isI) (fun h1 h2 => z_akI_ok h1 h2) h hH hs
    subst e
    refine ⟨v :: r, ?_, g6⟩
    show (z_al 101 z_isI (z_lk strs P) _).or (z_al 100 z_isI (z_lk strs P) _) = _
    unfold z_al
    dsimp only
    rw [g1]
    dsimp only
    rw [g4]
    dsimp only
    rw [if_pos g5]
    have h2 : q.1 = 101 ∨ q.1 = 100 := by simpa using g2
    rcases h2 with h2 | h2
    · rw [if_pos ⟨h2, g3⟩]
      rfl
    · rw [if_neg (by omega), if_pos ⟨h2, g3⟩]
      rfl
  case aaload =>
    obtain ⟨i, a, r, q, v, e, g1, g2, g3, g4, g5, g6⟩ := z_arl_ok (t := fun t => decide (105 ≤ t) && decide (t < 100 + nA)) (k := z_isA) (fun h1 h2 => z_akA_ok h1 h2) h hH hs
    subst e
    refine ⟨v :: r, ?_, g6⟩
    show z_alq nA (z_lk strs P) (.int i :: .ref a :: r) = some (v :: r)
    unfold z_alq
    dsimp only
    rw [g1]
    dsimp only
    simp only [Bool.and_eq_true, decide_eq_true_eq] at g2
    rw [if_pos ⟨g2.1, g2.2, g3⟩, g4]
    dsimp only
    rw [if_pos g5]
  all_goals (cases h)
end ZARD
