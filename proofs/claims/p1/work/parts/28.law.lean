/-! The law's start as a state of the picture; its end. -/
section ZLAW
def z_cvb (ns : Nat) : Value → z_av → Bool
  | .int x, .inl t => Nat.beq t.1 0 && (decide (z_lo t ≤ x.toInt) && decide (x.toInt ≤ z_hi t))
  | .ref a, .inr (.inr (_, [c])) => decide (a = z_far + c) && decide (c < ns)
  | _, _ => false
theorem z_cvb_ok {ns : Nat} {N : List Int} {al : Nat → Option Nat} (hf : z_fr ns al) {v : Value} {t : z_av} (h : z_cvb ns v t = true) : z_gv N al t v := by
  unfold z_cvb at h
  split at h
  · rename_i x t
    simp only [Bool.and_eq_true, decide_eq_true_eq] at h
    exact ⟨x, rfl, h.2.1, h.2.2, Or.inl (Nat.eq_of_beq_eq_true h.1)⟩
  · rename_i a nl c
    simp only [Bool.and_eq_true, decide_eq_true_eq] at h
    exact Or.inr ⟨a, c, rfl, by rw [h.1]; exact hf c h.2, List.mem_singleton_self _⟩
  · cases h
def z_cvl (ns : Nat) : List Value → List z_av → Bool
  | [], [] => true
  | v :: vs, t :: ts => z_cvb ns v t && z_cvl ns vs ts
  | _, _ => false
theorem z_cvl_ok {ns : Nat} {N : List Int} {al : Nat → Option Nat} (hf : z_fr ns al) : ∀ {vs : List Value} {ts : List z_av}, z_cvl ns vs ts = true → z_all2 (z_gv N al) ts vs
  | [], [], _ => trivial
  | v :: vs, t :: ts, h => by
    unfold z_cvl at h
    rw [Bool.and_eq_true] at h
    exact ⟨z_cvb_ok hf h.1, z_cvl_ok hf h.2⟩
  | [], _ :: _, h => by cases h
  | _ :: _, [], h => by cases h
/-- the far cells of the Strings are told as they are -/
def z_ckh (ns : Nat) (q : z_C) (A : z_ac_) : Bool := decide (A.1 = q.1) && (decide (A.2.1 = (true, false)) && (decide (A.2.2.1 = none) && z_cvl ns q.2 A.2.2.2))
theorem z_ckh_ok : (List.range 12).all (fun j => match z_fc (z_strl, []) j, z_Hb[j]? with | some q, some A => z_ckh 13 q A | _, _ => false) = true := by decide +kernel
def z_al0 (a : Nat) : Option Nat := if z_far ≤ a ∧ a < z_far + 13 then some (a - z_far) else none
theorem z_fr0 : z_fr 13 z_al0 := fun j hj => by
  unfold z_al0
  rw [if_pos ⟨Nat.le_add_right _ _, Nat.add_lt_add_left hj _⟩, Nat.add_sub_cancel_left]
def z_N0 (xl : List Int32) : List Int := 0 :: (xl.map fun x => x.toInt) ++ [0]
def z_sc (n : Nat) : z_ac_ := (103, (true, false), none, (List.range n).map fun k => .inl (k + 1, 0, 0, -2147483648, 2147483647))
theorem z_sc_ok {xl : List Int32} {al : Nat → Option Nat} : z_all2 (z_gv (z_N0 xl) al) ((List.range xl.length).map fun k => .inl (k + 1, 0, 0, -2147483648, 2147483647)) (xl.map Value.int) := by
  have e : xl.map Value.int = (List.range xl.length).map fun k => Value.int (xl.getD k 0) := by
    refine List.ext_getElem? fun k => ?_
    rw [List.getElem?_map, List.getElem?_map]
    by_cases hk : k < xl.length
    · rw [List.getElem?_range hk]
      simp [hk]
    · rw [List.getElem?_eq_none (by omega), List.getElem?_eq_none (by simp; omega)]
      rfl
  rw [e]
  refine z_all2_mapk fun k hk => ?_
  have hk := List.mem_range.mp hk
  have h1 := (xl.getD k 0).le_toInt
  have h2 := (xl.getD k 0).toInt_lt
  refine ⟨xl.getD k 0, rfl, by show (-2147483648 : Int) ≤ _; omega, by show _ ≤ (2147483647 : Int); omega, Or.inr ⟨(xl.getD k 0).toInt, ?_, by show _ + 0 ≤ _; omega, by show _ ≤ _ + 0; omega⟩⟩
  show (0 :: (xl.map fun x : Int32 => x.toInt) ++ [0])[k + 1]? = _
  rw [List.cons_append, List.getElem?_cons_succ, List.getElem?_append_left (by simp; exact hk)]
  simp [hk]
theorem z_lk_hi {strs : z_Ss} {P : z_H} {j : Nat} : z_lk strs P (z_far + j) = z_fc strs j := by
  unfold z_lk
  rw [if_neg (Nat.not_lt.mpr (Nat.le_add_right _ _)), Nat.add_sub_cancel_left]
theorem z_al0_get {a c : Nat} (h : z_al0 a = some c) : a = z_far + c ∧ c < 13 := by
  unfold z_al0 at h
  split at h
  · rename_i hr
    have h := Option.some.inj h
    subst h
    exact ⟨(Nat.add_sub_cancel' hr.1).symm, Nat.sub_lt_left_of_lt_add hr.1 hr.2⟩
  · cases h
theorem z_fc12 {xl : List Int32} : z_fc (z_strl, xl) 12 = some (103, xl.map Value.int) := rfl
theorem z_fclt {xl : List Int32} {j : Nat} (h : j < 12) : z_fc (z_strl, xl) j = z_fc (z_strl, []) j := by
  have h1 : j / 2 < z_strl.length := by
    show j / 2 < 6
    omega
  unfold z_fc
  show (match z_strl[j / 2]? with | some b => _ | none => _) = (match z_strl[j / 2]? with | some b => _ | none => _)
  rw [List.getElem?_eq_getElem h1]
/-- the heap at the start -/
theorem z_gh0 {xl : List Int32} {n : Nat} (hn : xl.length = n) {AH : List z_ac_} (h12 : AH[12]? = some (z_sc n)) (hb : ∀ j, j < 12 → AH[j]? = z_Hb[j]?) : z_gh (z_strl, xl) (z_N0 xl) z_al0 AH [] := by
  intro a c hac
  obtain ⟨ha, hc⟩ := z_al0_get hac
  subst ha
  rw [z_lk_hi]
  have huniq : ∀ b, z_al0 b = some c → b = z_far + c := fun b hb' => (z_al0_get hb').1
  by_cases h : c = 12
  · subst h
    refine ⟨(103, xl.map Value.int), z_sc n, z_fc12, h12, ⟨rfl, ?_⟩, fun _ b hb' => huniq b hb', fun q => by cases q⟩
    subst hn
    exact z_sc_ok
  · have hlt : c < 12 := by omega
    have hk := List.all_eq_true.mp z_ckh_ok c (List.mem_range.mpr hlt)
    rw [← hb _ hlt] at hk
    split at hk
    · rename_i q A hq hA
      unfold z_ckh at hk
      simp only [Bool.and_eq_true, decide_eq_true_eq] at hk
      obtain ⟨k1, k2, k3, k4⟩ := hk
      refine ⟨q, A, (z_fclt hlt).trans hq, hA, ⟨k1, ?_⟩, fun _ b hb' => huniq b hb', fun hn9 => by rw [k2] at hn9; cases hn9⟩
      rw [k3]
      exact z_cvl_ok z_fr0 k4
    · cases hk
theorem z_gs0 {xl : List Int32} {n : Nat} (hn : xl.length = n) {AH : List z_ac_} (h12 : AH[12]? = some (z_sc n)) (hb : ∀ j, j < 12 → AH[j]? = z_Hb[j]?) : z_gs (z_strl, xl) (z_N0 xl) z_al0 ((291, 0, [(0, .inr (.inr (false, [12])))], [], 0, 0), [], AH, n + 2, [], 0) (291, 0, [(0, .ref (z_far + 12))], [], 0, 0) [] [] := by
  refine ⟨⟨rfl, rfl, fun i t h => ?_, trivial, rfl, rfl⟩, trivial, z_gh0 hn h12 hb, ?_, fun q hq => (by cases hq), Nat.le_refl _⟩
  · have h : (if (0 : Nat) == i then some (.inr (.inr (false, [12]))) else none) = some t := h
    split at h
    · rename_i hi
      cases h
      have hi : 0 = i := by simpa using hi
      subst hi
      exact ⟨.ref (z_far + 12), rfl, Or.inr ⟨z_far + 12, 12, rfl, z_fr0 12 (by decide), List.mem_singleton_self _⟩⟩
    · cases h
  · show n + 2 = (0 :: (xl.map fun x : Int32 => x.toInt) ++ [0]).length
    simp [hn]
theorem z_G_set (xs : List Int32) : z_G xs = z_setS (z_G []) (z_strl, xs) := rfl
end ZLAW
