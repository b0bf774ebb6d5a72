/-! What holds at the law's start, in the words of the picture. -/
section ZSTART
def z_iw : List Nat := [26, 34, 58, 74, 80, 173, 206, 229, 236, 955, 1204]
theorem z_iw_ok : (List.range z_CT.length).all (fun i => z_isW (z_iw.getD i 0) (.instantiable (z_CT.getD i ("", [])).1 (z_CT.getD i ("", [])).2.length)) = true := by decide +kernel
theorem z_tsub : ∀ w ∈ z_Ts (k2_sels lw_privs), w ∈ lw_tbl := fun w hw => by
  rcases List.mem_append.mp hw with h | h
  · exact List.mem_append_left _ h
  · exact List.mem_append_right _ (List.mem_filter.mp h).1
theorem z_nsub : ∀ w ∈ z_Ns, w ∈ lw_tbl := fun w hw => List.mem_append_right _ (List.mem_filter.mp hw).1
theorem z_isw_tbl {i : Nat} {w : Cond} (h : z_isW i w = true) : w ∈ lw_tbl := List.mem_append_right _ (List.mem_of_getElem? (z_isW_use h))
theorem z_ArrP {s : State} {args : Array Value} {t : FieldType} (ht : ∀ C, t ≠ .object C) (h : (Cond.arrayClass t).before args s = true) : ∃ c : ClassId, ArrOfT s c t ∧ va_RA s c t := by
  obtain ⟨cA, kA, comp, h1, h2, h3⟩ := Cond.arrayClass_spec h
  refine ⟨cA, fun n z => ⟨fun k h => (by cases h), kA, h2, comp, h3⟩, ?_⟩
  cases t with
  | object C => exact absurd rfl (ht C)
  | _ => exact h1
theorem z_ArrO {s : State} {args : Array Value} {C : String} (h : (Cond.arrayOver (.object C)).before args s = true) : ∃ c : ClassId, ArrOfT s c (.object C) ∧ va_RA s c (.object C) := by
  obtain ⟨comp, c, k, h1, h2, h3, h4, h5⟩ := Cond.arrayOver_spec h
  exact ⟨c, fun n z => ⟨fun k h => (by cases h), k, h3, comp, h4⟩, k, comp, h3, h4, h1, h5⟩
theorem z_ArrA {s : State} {args : Array Value} {t : FieldType} (h : (Cond.arrayOver (.array t)).before args s = true) : ∃ c : ClassId, ArrOfT s c (.array t) ∧ va_RA s c (.array t) := by
  obtain ⟨comp, c, k, h1, h2, h3, h4, h5⟩ := arrayOverA_spec h
  exact ⟨c, fun n z => ⟨fun k h => (by cases h), k, h3, comp, h4⟩, h5⟩
theorem z_startA {s : State} {args : Array Value} (hts : ∀ w ∈ lw_tbl, w.before args s = true) : ∀ (i : Nat) (t : FieldType), z_atys[i]? = some t → ∃ c : ClassId, ArrOfT s c t ∧ va_RA s c t
  | 0, t, h => by
    cases h
    exact z_ArrP (fun C q => by cases q) (hts _ (z_isw_tbl (i := 1380) (by decide +kernel)))
  | 1, t, h => by
    cases h
    exact z_ArrP (fun C q => by cases q) (hts _ (z_isw_tbl (i := 510) (by decide +kernel)))
  | 2, t, h => by
    cases h
    exact z_ArrP (fun C q => by cases q) (hts _ (z_isw_tbl (i := 56) (by decide +kernel)))
  | 3, t, h => by
    cases h
    exact z_ArrP (fun C q => by cases q) (hts _ (z_isw_tbl (i := 114) (by decide +kernel)))
  | 4, t, h => by
    cases h
    exact z_ArrP (fun C q => by cases q) (hts _ (z_isw_tbl (i := 72) (by decide +kernel)))
  | 5, t, h => by
    cases h
    exact z_ArrA (hts _ (z_isw_tbl (i := 116) (by decide +kernel)))
  | 6, t, h => by
    cases h
    exact z_ArrO (hts _ (z_isw_tbl (i := 204) (by decide +kernel)))
  | 7, t, h => by
    cases h
    exact z_ArrO (hts _ (z_isw_tbl (i := 235) (by decide +kernel)))
  | 8, t, h => by
    cases h
    exact z_ArrO (hts _ (z_isw_tbl (i := 267) (by decide +kernel)))
  | 9, t, h => by
    cases h
    exact z_ArrA (hts _ (z_isw_tbl (i := 1210) (by decide +kernel)))
  | k + 10, t, h => by
    have : z_atys[k + 10]? = none := List.getElem?_eq_none (Nat.le_add_left 10 k)
    rw [this] at h
    cases h
theorem z_startK {s : State} {args : Array Value} (hts : ∀ w ∈ lw_tbl, w.before args s = true) (hCL : z_CL (z_cl0 z_CT) (z_Ts (k2_sels lw_privs))) : ∃ (D : va_G) (ta : Nat → ClassId), z_K D (z_cl0 z_CT) ta z_atys s := by
  have h0 : ∀ k : Nat, ∃ q : ClassId × (Nat → Nat), ∀ r, (z_cl0 z_CT)[k]? = some r → u_Kn s r.1 r.2.1 r.2.2 q.1 q.2 := by
    intro k
    cases hr : (z_cl0 z_CT)[k]? with
    | none => exact ⟨(0, fun _ => 0), fun r h => by cases h⟩
    | some r =>
      obtain ⟨c, hc, rfl⟩ := z_cl_get hr
      have hk : k < z_CT.length := (List.getElem?_eq_some_iff.mp hc).1
      have hw := List.all_eq_true.mp z_iw_ok k (List.mem_range.mpr hk)
      rw [z_getD hc] at hw
      obtain ⟨cC, iS, h⟩ := u_known (C := c.1) (n := c.2.length) (fun w hw => hts w (z_tsub w hw)) (hCL k _ hr).1 (hts _ (z_isw_tbl hw))
      exact ⟨(cC, iS), fun r' h' => by cases h'; exact h⟩
  obtain ⟨dd, hdd⟩ := Classical.axiomOfChoice h0
  have h1 : ∀ i : Nat, ∃ c : ClassId, ∀ t, z_atys[i]? = some t → ArrOfT s c t ∧ va_RA s c t := by
    intro i
    cases ht : z_atys[i]? with
    | none => exact ⟨0, fun t h => by cases h⟩
    | some t =>
      obtain ⟨c, hc⟩ := z_startA hts i t ht
      exact ⟨c, fun t' h' => by cases h'; exact hc⟩
  obtain ⟨ta, hta⟩ := Classical.axiomOfChoice h1
  exact ⟨(fun k => (dd k).1, fun k => (dd k).2), ta, fun c q hq => hdd c q hq, hta⟩
def z_tms : Nat → Term
  | 0 => .string "ChaffInTheWind$Barn" 89
  | 1 => .string "ChaffInTheWind$Market" 30
  | 2 => .string "ChaffInTheWind$Market" 32
  | 3 => .string "ChaffInTheWind$Formula" 53
  | 4 => .string "ChaffInTheWind$Formula" 48
  | _ => .string "ChaffInTheWind$Formula" 35
def z_flt : List Cond := flatC (Jvm.Cond.and given_1 narrow_1)
def z_ci (w : Cond) : Bool := z_flt.any fun u => decide (u = w)
theorem z_ci_use {w : Cond} {args : Array Value} {s : State} (h : z_ci w = true) (hg : (Jvm.Cond.and given_1 narrow_1).before args s = true) : w.before args s = true := by
  obtain ⟨u, hu, hd⟩ := List.any_eq_true.mp h
  have : u = w := of_decide_eq_true hd
  subst this
  exact flat_of_before _ hg u hu
theorem z_ci1 : (List.range 6).all (fun i => z_ci (Cond.exactly (z_tms i) "java/lang/String") && (z_ci (Cond.eq (.field (z_tms i) "java/lang/String" "coder" "B") (.int 0)) && (z_ci (Cond.arrayOf (.field (z_tms i) "java/lang/String" "value" "[B") .byte) && (z_ci (Cond.eq (.length (.field (z_tms i) "java/lang/String" "value" "[B")) (.int (Int32.ofNat ((z_strl.map List.length).getD i 0)))) && (List.range ((z_strl.map List.length).getD i 0)).all fun j => z_ci (Cond.eq (.elem (.field (z_tms i) "java/lang/String" "value" "[B") (.int (Int32.ofNat j))) (.int ((z_strl.getD i []).getD j 0))))))) = true := by decide +kernel
theorem z_ci2 : (List.range 6).all (fun i => (List.range 6).all fun j => Nat.beq i j || (z_ci (Cond.not (Cond.eq (z_tms i) (z_tms j))) || z_ci (Cond.not (Cond.eq (z_tms j) (z_tms i))))) = true := by decide +kernel
theorem z_rs_ok : ∀ r ∈ z_rsl, z_tms r.2.2.2 = .string r.1 r.2.1 ∧ r.2.2.2 < 6 ∧ Cond.stringRef r.1 r.2.1 r.2.2.1 ∈ lw_tbl := by
  intro r hr
  unfold z_rsl at hr
  simp only [List.mem_cons, List.not_mem_nil, or_false] at hr
  rcases hr with rfl | rfl | rfl | rfl | rfl | rfl
  · exact ⟨rfl, by decide, by decide +kernel⟩
  · exact ⟨rfl, by decide, by decide +kernel⟩
  · exact ⟨rfl, by decide, by decide +kernel⟩
  · exact ⟨rfl, by decide, by decide +kernel⟩
  · exact ⟨rfl, by decide, by decide +kernel⟩
  · exact ⟨rfl, by decide, by decide +kernel⟩
theorem z_startX {s : State} {b L : Nat} {xs : Nat → Int32} (hts : ∀ w ∈ lw_tbl, w.before #[Value.ref b] s = true) (hgv : (Jvm.Cond.and given_1 narrow_1).before #[Value.ref b] s = true) (hX : va_X b L xs s s.heap) (hbl : b < s.heap.size) : ∃ ext : Nat → Nat, ext 12 = b ∧ z_X (z_strl, (List.range L).map xs) ext s.heap.size z_rsl s := by
  have hA : ∀ a : Nat, a < s.heap.size → ¬ s.heap.size ≤ a := fun a ha => Nat.not_le.mpr ha
  have k1 : ∀ i, i < 6 → _ := fun i hi => List.all_eq_true.mp z_ci1 i (List.mem_range.mpr hi)
  simp only [Bool.and_eq_true] at k1
  obtain ⟨adK, adV, hS, hev⟩ := vk_Sof (N := 6) (tm := z_tms) (len := z_strl.map List.length) (byt := z_strl) (A := fun q => s.heap.size ≤ q) (args := #[Value.ref b]) (s := s)
    (fun i hi => by
      match i, hi with
      | 0, _ => decide
      | 1, _ => decide
      | 2, _ => decide
      | 3, _ => decide
      | 4, _ => decide
      | 5, _ => decide)
    (fun i hi => z_ci_use (k1 i hi).1 hgv) (fun i hi => z_ci_use (k1 i hi).2.1 hgv) (fun i hi => z_ci_use (k1 i hi).2.2.1 hgv) (fun i hi => z_ci_use (k1 i hi).2.2.2.1 hgv)
    (fun i hi j hj => z_ci_use (List.all_eq_true.mp (k1 i hi).2.2.2.2 j (List.mem_range.mpr hj)) hgv)
    (fun i j hi hj hij => by
      have h := List.all_eq_true.mp (List.all_eq_true.mp z_ci2 i (List.mem_range.mpr hi)) j (List.mem_range.mpr hj)
      rw [Bool.or_eq_true, Bool.or_eq_true] at h
      rcases h with h | h | h
      · exact absurd (Nat.eq_of_beq_eq_true h) hij
      · exact Or.inl (z_ci_use h hgv)
      · exact Or.inr (z_ci_use h hgv)) hA
  obtain ⟨ext, x12, e1, e2⟩ : ∃ ext : Nat → Nat, ext 12 = b ∧ (∀ i, i < 6 → ext (2 * i) = adK i) ∧ ∀ i, i < 6 → ext (2 * i + 1) = adV i := by
    refine ⟨fun j => if j = 12 then b else if j % 2 = 0 then adK (j / 2) else adV (j / 2), if_pos rfl, fun i hi => ?_, fun i hi => ?_⟩
    · show (if 2 * i = 12 then b else if 2 * i % 2 = 0 then adK (2 * i / 2) else adV (2 * i / 2)) = adK i
      rw [if_neg (by omega), if_pos (by omega), show 2 * i / 2 = i by omega]
    · show (if 2 * i + 1 = 12 then b else if (2 * i + 1) % 2 = 0 then adK ((2 * i + 1) / 2) else adV ((2 * i + 1) / 2)) = adV i
      rw [if_neg (by omega), if_neg (by omega), show (2 * i + 1) / 2 = i by omega]
  refine ⟨ext, x12, ⟨fun i hi => ?_, fun i j hi hj e => ?_⟩, ?_, fun r hr => ?_, ?_, ?_⟩
  · have hi : i < 6 := hi
    have h := hS.1 i hi
    show va_O _ (ext (2 * i)) _ s s.heap ∧ va_OF _ _ _ _ (ext (2 * i)) _ s s.heap ∧ va_OF _ _ _ (.ref (ext (2 * i + 1))) (ext (2 * i)) _ s s.heap ∧ va_T _ (ext (2 * i + 1)) _ _ _ s s.heap
    rw [e1 i hi, e2 i hi]
    exact h
  · have hi : i < 6 := hi
    have hj : j < 6 := hj
    refine hS.2 i j hi hj ?_
    have e : ext (2 * i) = ext (2 * j) := e
    rwa [e1 i hi, e1 j hj] at e
  · exact va_Zof (args := #[Value.ref b]) (hts _ (by decide +kernel)) (hts _ (by decide +kernel)) (va_eqi (z_ci_use (w := Cond.eq (.static "java/lang/String" "COMPACT_STRINGS" "Z") (.int 1)) (by decide +kernel) hgv)) hA
  · obtain ⟨g1, g2, g3⟩ := z_rs_ok r hr
    have h := hev _ g2
    rw [g1] at h
    rw [e1 _ g2]
    exact vk_R.of (hts _ g3) h
  · show ext 12 < s.heap.size
    rw [x12]
    exact hbl
  · show va_X (ext 12) ((List.range L).map xs).length (fun j => ((List.range L).map xs).getD j 0) s s.heap
    rw [x12]
    obtain ⟨scr, y1, y2, y3, y4, y5⟩ := hX
    refine ⟨scr, y1, y2, y3, by rw [y4]; simp, fun j hj => ?_⟩
    have hj : j < L := by simpa using hj
    rw [y5 j hj]
    simp [hj]
end ZSTART
