/-! Rows for runs that are told by hand, one instruction a row. -/
section ZROW
variable {G : z_Pg} {d x : Nat}
theorem z_tow_tr : ∀ {n m : Nat} {q q1 q2 : z_S}, z_tow G n d x q q1 → z_tow G m d x q1 q2 → z_tow G (n + m) d x q q2 := by
  intro n
  induction n with
  | zero =>
    intro m q q1 q2 h k
    have h : q = q1 := h
    subst h
    rw [Nat.zero_add]
    exact k
  | succ n ih =>
    intro m q q1 q2 h k
    have mono : ∀ {m : Nat} {a b : z_S}, z_tow G m d x a b → ∀ j, z_tow G (m + j) d x a b := by
      intro m
      induction m with
      | zero =>
        intro a b h j
        have h : a = b := h
        subst h
        cases j with
        | zero => exact rfl
        | succ j => rw [Nat.zero_add]; exact Or.inl rfl
      | succ m ihm =>
        intro a b h j
        rw [Nat.succ_add]
        rcases h with h | ⟨c, h1, h2⟩ | ⟨y, as, rst, rv, P1, h1, h2, h3⟩
        · exact Or.inl h
        · exact Or.inr (Or.inl ⟨c, h1, ihm h2 j⟩)
        · exact Or.inr (Or.inr ⟨y, as, rst, rv, P1, h1, h2, ihm h3 j⟩)
    rw [Nat.succ_add]
    rcases h with h | ⟨c, h1, h2⟩ | ⟨y, as, rst, rv, P1, h1, h2, h3⟩
    · subst h
      have := mono k (n + 1)
      rw [show m + (n + 1) = n + m + 1 by omega] at this
      exact this
    · exact Or.inr (Or.inl ⟨c, h1, ih h2 k⟩)
    · exact Or.inr (Or.inr ⟨y, as, rst, rv, P1, h1, h2, ih h3 k⟩)
theorem z_To_tr {q q1 q2 : z_S} (h : z_To G d x q q1) (k : z_To G d x q1 q2) : z_To G d x q q2 := by
  obtain ⟨n, h⟩ := h
  obtain ⟨m, k⟩ := k
  exact ⟨n + m, z_tow_tr h k⟩
/-- a run to a place goes on to the end -/
theorem z_To_runs {q q1 : z_S} {r : Option Value} {P' : z_H} (h : z_To G d x q q1) (k : z_Runs G d x q1 r P') : z_Runs G d x q r P' := by
  obtain ⟨n, h⟩ := h
  induction n generalizing q with
  | zero =>
    have h : q = q1 := h
    subst h
    exact k
  | succ n ih =>
    rcases h with h | ⟨c, h1, h2⟩ | ⟨y, as, rst, rv, P1, h1, h2, h3⟩
    · subst h
      exact k
    · exact z_Runs_step h1 (ih h2)
    · exact z_Runs_call h1 h2 (ih h3)
/-- from q on a place of Ψ is reached in this frame -/
def z_Rh (G : z_Pg) (d x : Nat) (Ψ : z_S → Prop) (q : z_S) : Prop := ∃ q', z_To G d x q q' ∧ Ψ q'
variable {Ψ : z_S → Prop} {pc len c n : Nat} {l l' : z_L} {st st' : List Value} {P : z_H} {ins : Instr}
theorem z_rh_end {q : z_S} (h : Ψ q) : z_Rh G d x Ψ q := ⟨q, z_To_rf, h⟩
theorem z_rh_step {q q1 : z_S} (h : z_next G d x q = some (.inr (.inl q1))) (k : z_Rh G d x Ψ q1) : z_Rh G d x Ψ q := by
  obtain ⟨q', h1, h2⟩ := k
  exact ⟨q', z_To_step h h1, h2⟩
theorem z_rh_tr {Ψ' : z_S → Prop} {q : z_S} (h : z_Rh G d x Ψ' q) (k : ∀ q1, Ψ' q1 → z_Rh G d x Ψ q1) : z_Rh G d x Ψ q := by
  obtain ⟨q1, h1, h2⟩ := h
  obtain ⟨q2, k1, k2⟩ := k q1 h2
  exact ⟨q2, z_To_tr h1 k1, k2⟩
theorem z_nx {i : Instr × Nat} {q : z_S} (hc : z_cod G x pc = some i) (h1 : z_call G x i.1 = none) (h2 : z_isr i.1 = false) (h3 : z_step G x i.1 i.2 pc l st P c n = some q) : z_next G d x (pc, l, st, P, c, n) = some (.inr (.inl q)) := by
  unfold z_next
  show (match z_cod G x pc with | none => none | some i => _) = _
  rw [hc]
  dsimp only
  rw [h1]
  show (match z_ret (z_rty G x) i.1 st with | some r => _ | none => _) = _
  rw [z_isr_no h2]
  show (match z_step G x i.1 i.2 pc l st P c n with | some q' => _ | none => none) = _
  rw [h3]
/-- the stack alone -/
theorem z_r_pu (hc : z_cod G x pc = some (ins, len)) (h1 : z_call G x ins = none) (h2 : z_isr ins = false) (hp : z_pure ins st = some st') (k : z_Rh G d x Ψ (pc + len, l, st', P, c, n)) : z_Rh G d x Ψ (pc, l, st, P, c, n) :=
  z_rh_step (z_nx hc h1 h2 (by unfold z_step; rw [hp])) k
/-- locals -/
theorem z_r_lo (hc : z_cod G x pc = some (ins, len)) (h1 : z_call G x ins = none) (h2 : z_isr ins = false) (hg : z_grp ins = 1) (hp : z_loc (z_nL G x) ins l st = some (l', st')) (k : z_Rh G d x Ψ (pc + len, l', st', P, c, n)) : z_Rh G d x Ψ (pc, l, st, P, c, n) :=
  z_rh_step (z_nx hc h1 h2 (by unfold z_step; rw [z_no0 (by rw [hg]; decide), hp])) k
/-- jumps -/
theorem z_r_jm {t : Nat} (hc : z_cod G x pc = some (ins, len)) (h1 : z_call G x ins = none) (h2 : z_isr ins = false) (hg : z_grp ins = 2) (hp : z_jmp ins pc st = some (t, st')) (k : z_Rh G d x Ψ (t, l, st', P, c, n)) : z_Rh G d x Ψ (pc, l, st, P, c, n) :=
  z_rh_step (z_nx hc h1 h2 (by unfold z_step; rw [z_no0 (by rw [hg]; decide), z_no1 (by rw [hg]; decide), hp])) k
/-- reads -/
theorem z_r_rd (hc : z_cod G x pc = some (ins, len)) (h1 : z_call G x ins = none) (h2 : z_isr ins = false) (hg : z_grp ins = 3) (hp : z_rd (z_fld G x) (z_nA G) (z_lk (z_strs G) P) ins st = some st') (k : z_Rh G d x Ψ (pc + len, l, st', P, c, n)) : z_Rh G d x Ψ (pc, l, st, P, c, n) :=
  z_rh_step (z_nx hc h1 h2 (by unfold z_step; rw [z_no0 (by rw [hg]; decide), z_no1 (by rw [hg]; decide), z_no2 (by rw [hg]; decide), hp])) k
/-- writes -/
theorem z_r_wr {P' : z_H} (hc : z_cod G x pc = some (ins, len)) (h1 : z_call G x ins = none) (h2 : z_isr ins = false) (hg : z_grp ins = 4) (hp : z_wr (z_fld G x) (z_fty G) (z_fin G) (z_ini G x) (z_ac G) P ins st = some (st', P')) (k : z_Rh G d x Ψ (pc + len, l, st', P', c, n)) : z_Rh G d x Ψ (pc, l, st, P, c, n) :=
  z_rh_step (z_nx hc h1 h2 (by unfold z_step; rw [z_no0 (by rw [hg]; decide), z_no1 (by rw [hg]; decide), z_no2 (by rw [hg]; decide), z_no3 (by rw [hg]; decide), hp])) k
/-- a constant of the pool -/
theorem z_r_cs {v : Value} (hc : z_cod G x pc = some (ins, len)) (h1 : z_call G x ins = none) (h2 : z_isr ins = false) (hg : z_grp ins = 6) (hp : z_cstv (z_cs G x) ins = some v) (k : z_Rh G d x Ψ (pc + len, l, v :: st, P, c, n)) : z_Rh G d x Ψ (pc, l, st, P, c, n) :=
  z_rh_step (z_nx hc h1 h2 (by
    unfold z_step
    rw [z_no0 (by rw [hg]; decide), z_no1 (by rw [hg]; decide), z_no2 (by rw [hg]; decide), z_no3 (by rw [hg]; decide), z_no4 (by rw [hg]; decide), z_no5 (by rw [hg]; decide)]
    unfold z_cst
    rw [hp]
    rfl)) k
theorem z_ldv {k : Value → Bool} {i : Nat} {v : Value} (h : z_get l i = some v) (hk : k v = true) : z_ld k l i st = some (l, v :: st) := by
  unfold z_ld
  rw [h]
  dsimp only
  rw [if_pos hk]
theorem z_stv {k : Value → Bool} {nL i : Nat} {v : Value} (hk : k v = true) (hi : i < nL) : z_st1 k nL l i (v :: st) = some (z_set1 l i v, st) := by
  unfold z_st1
  dsimp only
  rw [if_pos (by rw [hk, decide_eq_true hi]; rfl)]
theorem z_stl {nL i : Nat} {v : Int64} (hi : i + 1 < nL) : z_st2 nL l i (.long v :: st) = some (z_set2 l i (.long v), st) := by
  unfold z_st2
  dsimp only
  rw [if_pos hi]
theorem z_icv {nL i : Nat} {v : Int32} {k : Int} (h : z_get l i = some (.int v)) (hi : i < nL) : z_inc nL l i k st = some (z_set1 l i (.int (v + Int32.ofInt k)), st) := by
  unfold z_inc
  rw [h]
  dsimp only
  rw [if_pos hi]
/-- a local put anew: the others -/
theorem z_g1s {i : Nat} {v : Value} : z_get (z_set1 l i v) i = some v := by
  unfold z_set1 z_get
  simp
theorem z_gfl {f : Nat × Value → Bool} {j : Nat} {w : Value} : ∀ {l : z_L}, z_get l j = some w → f (j, w) = true → z_get (l.filter f) j = some w
  | [], h, _ => by cases h
  | q :: r, h, hf => by
    unfold z_get at h
    split at h
    · rename_i e
      have e' : q.1 = j := by simpa using e
      cases h
      have hq : q = (j, q.2) := by rw [← e']
      have hfq : f q = true := by rw [hq]; exact hf
      rw [List.filter_cons_of_pos hfq]
      unfold z_get
      rw [if_pos e]
    · rename_i e
      cases hfq : f q with
      | true =>
        rw [List.filter_cons_of_pos hfq]
        unfold z_get
        rw [if_neg e]
        exact z_gfl h hf
      | false =>
        rw [List.filter_cons_of_neg (by rw [hfq]; decide)]
        exact z_gfl h hf
theorem z_g1n {i j : Nat} {v w : Value} (h : z_get l j = some w) (hij : i ≠ j) (hw : j + 1 ≠ i ∨ w.category ≠ 2) : z_get (z_set1 l i v) j = some w := by
  unfold z_set1 z_get
  rw [if_neg (by simpa using hij)]
  refine z_gfl h ?_
  simp only [Bool.and_eq_true, Bool.not_eq_true', beq_eq_false_iff_ne, Bool.and_eq_false_iff]
  refine ⟨fun e => hij e.symm, ?_⟩
  rcases hw with hw | hw
  · exact Or.inl hw
  · exact Or.inr hw
theorem z_g2s {i : Nat} {v : Value} : z_get (z_set2 l i v) i = some v := by
  unfold z_set2 z_get
  simp
theorem z_g2n {i j : Nat} {v w : Value} (h : z_get l j = some w) (hij : i ≠ j) (hj : j ≠ i + 1) (hw : j + 1 ≠ i ∨ w.category ≠ 2) : z_get (z_set2 l i v) j = some w := by
  unfold z_set2 z_get
  rw [if_neg (by simpa using hij)]
  refine z_gfl h ?_
  simp only [Bool.and_eq_true, Bool.not_eq_true', beq_eq_false_iff_ne, Bool.and_eq_false_iff]
  refine ⟨fun e => hij e.symm, hj, ?_⟩
  rcases hw with hw | hw
  · exact Or.inl hw
  · exact Or.inr hw
/-- comparisons -/
theorem z_icy {cc : ClassFile.Cond} {off : Int} {a b : Int32} {t : Nat} (ht : z_tg pc off = some t) (h : z_cmp cc a b = true) : z_jmp (.if_icmp cc off) pc (.int b :: .int a :: st) = some (t, st) := by
  unfold z_jmp
  dsimp only
  rw [ht, h]
  rfl
theorem z_icn {cc : ClassFile.Cond} {off : Int} {a b : Int32} {t : Nat} (ht : z_tg pc off = some t) (h : z_cmp cc a b = false) : z_jmp (.if_icmp cc off) pc (.int b :: .int a :: st) = some (pc + 3, st) := by
  unfold z_jmp
  dsimp only
  rw [ht, h]
  rfl
theorem z_ify {cc : ClassFile.Cond} {off : Int} {a : Int32} {t : Nat} (ht : z_tg pc off = some t) (h : z_cmp cc a 0 = true) : z_jmp (.ifCond cc off) pc (.int a :: st) = some (t, st) := by
  unfold z_jmp
  dsimp only
  rw [ht, h]
  rfl
theorem z_ifn {cc : ClassFile.Cond} {off : Int} {a : Int32} {t : Nat} (ht : z_tg pc off = some t) (h : z_cmp cc a 0 = false) : z_jmp (.ifCond cc off) pc (.int a :: st) = some (pc + 3, st) := by
  unfold z_jmp
  dsimp only
  rw [ht, h]
  rfl
theorem z_gty {off : Int} {t : Nat} (ht : z_tg pc off = some t) : z_jmp (.goto off) pc st = some (t, st) := by
  unfold z_jmp
  dsimp only
  rw [ht]
  rfl
theorem z_c_lt {a b : Int32} : z_cmp .lt a b = decide (a.toInt < b.toInt) := decide_eq_decide.mpr Int32.lt_iff_toInt_lt
theorem z_c_ge {a b : Int32} : z_cmp .ge a b = decide (b.toInt ≤ a.toInt) := decide_eq_decide.mpr Int32.le_iff_toInt_le
theorem z_c_gt {a b : Int32} : z_cmp .gt a b = decide (b.toInt < a.toInt) := decide_eq_decide.mpr Int32.lt_iff_toInt_lt
theorem z_c_le {a b : Int32} : z_cmp .le a b = decide (a.toInt ≤ b.toInt) := decide_eq_decide.mpr Int32.le_iff_toInt_le
theorem z_c_eq {a b : Int32} : z_cmp .eq a b = decide (a.toInt = b.toInt) := by
  unfold z_cmp
  exact decide_eq_decide.mpr Int32.toInt_inj.symm
theorem z_c_ne {a b : Int32} : z_cmp .ne a b = decide (a.toInt ≠ b.toInt) := by
  unfold z_cmp
  exact decide_eq_decide.mpr (not_congr Int32.toInt_inj.symm)
/-- reads of near cells -/
theorem z_lkn {strs : z_Ss} {a : Nat} {q : z_C} (ha : a < z_far) (h : P[a]? = some q) : z_lk strs P a = some q := by
  unfold z_lk
  rw [if_pos ha]
  exact h
theorem z_gfv {fk : Option (Nat × Nat)} {H : Nat → Option z_C} {a ci k : Nat} {vs : List Value} {v : Value} (hf : fk = some (ci, k)) (hP : H a = some (ci, vs)) (hci : ci < 99) (hv : vs[k]? = some v) : z_gf fk H (.ref a :: st) = some (v :: st) := by
  unfold z_gf
  rw [hf]
  dsimp only
  rw [hP]
  dsimp only
  rw [if_pos ⟨rfl, hci⟩, hv]
theorem z_iav {H : Nat → Option z_C} {a j : Nat} {i v : Int32} {vs : List Value} (hP : H a = some (103, vs)) (hi : i.toInt = (j : Int)) (hv : vs[j]? = some (.int v)) : z_al 103 z_isI H (.int i :: .ref a :: st) = some (.int v :: st) := by
  have e : i.toNatClampNeg = j := by
    show i.toInt.toNat = j
    rw [hi]
    exact Int.toNat_natCast j
  unfold z_al
  dsimp only
  rw [hP]
  dsimp only
  rw [if_pos ⟨rfl, by omega⟩, e, hv]
  rfl
theorem z_lav {H : Nat → Option z_C} {a j : Nat} {i : Int32} {v : Int64} {vs : List Value} (hP : H a = some (104, vs)) (hi : i.toInt = (j : Int)) (hv : vs[j]? = some (.long v)) : z_al 104 z_isL H (.int i :: .ref a :: st) = some (.long v :: st) := by
  have e : i.toNatClampNeg = j := by
    show i.toInt.toNat = j
    rw [hi]
    exact Int.toNat_natCast j
  unfold z_al
  dsimp only
  rw [hP]
  dsimp only
  rw [if_pos ⟨rfl, by omega⟩, e, hv]
  rfl
theorem z_lsv {a j : Nat} {i : Int32} {v : Int64} {vs : List Value} (hP : P[a]? = some (104, vs)) (hi : i.toInt = (j : Int)) (hj : j < vs.length) : z_las P (.long v :: .int i :: .ref a :: st) = some (st, P.set a (104, vs.set j (.long v))) := by
  have e : i.toNatClampNeg = j := by
    show i.toInt.toNat = j
    rw [hi]
    exact Int.toNat_natCast j
  unfold z_las
  dsimp only
  rw [hP]
  dsimp only
  rw [e, if_pos ⟨rfl, by omega, hj⟩]
theorem z_pfv {fk : Option (Nat × Nat)} {fty : Nat → Nat → FieldType} {fin : Nat → Nat → Bool} {ini : Option Nat} {a ci k : Nat} {vs : List Value} {v : Value} (hf : fk = some (ci, k)) (hP : P[a]? = some (ci, vs)) (hci : ci < 99) (hk : k < vs.length) (h1 : fits (fty ci k) v = true) (h2 : narrow (fty ci k) v = v) (h3 : fin ci k = false) : z_pf fk fty fin ini P (v :: .ref a :: st) = some (st, P.set a (ci, vs.set k v)) := by
  unfold z_pf
  rw [hf]
  dsimp only
  rw [hP]
  dsimp only
  rw [if_pos ⟨rfl, hci, hk, h1, h2, Or.inl h3⟩]
/-- a method that writes nothing leaves the cells as they are -/
def z_roi : Instr → Bool
  | .putfield _ | .iastore | .castore | .bastore | .lastore | .aastore | .new _ | .newarray _ | .anewarray _ | .multianewarray _ _ => false
  | _ => true
def z_rom (G : z_Pg) (R : Nat → Bool) : Prop := ∀ x pc i, R x = true → z_cod G x pc = some i → z_roi i.1 = true ∧ ∀ yk, z_call G x i.1 = some yk → yk.2 < 3 ∧ R yk.1 = true
theorem z_ro_step {q : z_S} (hi : z_roi ins = true) (h : z_step G x ins len pc l st P c n = some q) : q.2.2.2.1 = P := by
  unfold z_step at h
  split at h
  · cases h; rfl
  split at h
  · cases h; rfl
  split at h
  · cases h; rfl
  split at h
  · cases h; rfl
  split at h
  · rename_i q' hq
    unfold z_wr at hq
    unfold z_roi at hi
    split at hq <;> first | cases hi | cases hq
  split at h
  · rename_i q' hq
    unfold z_mk at hq
    unfold z_roi at hi
    split at hq <;> first | cases hi | cases hq
  split at h
  · cases h; rfl
  · cases h
theorem z_ro {R : Nat → Bool} (hR : z_rom G R) : ∀ {f d x : Nat} {q : z_S} {o : Option Value × z_H}, R x = true → z_run G f d x q = some o → o.2 = q.2.2.2.1 := by
  intro f
  induction f with
  | zero => intro d x q o _ h; cases h
  | succ f ih =>
    intro d x q o hx h
    unfold z_run at h
    split at h
    · cases h
    · cases h; rfl
    · rename_i q' hn
      rw [ih hx h]
      unfold z_next at hn
      split at hn
      · cases hn
      rename_i i hi
      obtain ⟨h1, h2⟩ := hR x _ i hx hi
      split at hn
      · rename_i yk hyk
        rw [if_pos (h2 yk hyk).1] at hn
        split at hn <;> cases hn
      split at hn
      · cases hn
      split at hn
      · rename_i q2 hq2
        cases hn
        exact z_ro_step h1 hq2
      · cases hn
    · rename_i a hn
      split at h
      · rename_i o1 h1
        unfold z_next at hn
        split at hn
        · cases hn
        rename_i i hi
        obtain ⟨-, h2⟩ := hR x _ i hx hi
        split at hn
        · rename_i yk hyk
          obtain ⟨h3, h4⟩ := h2 yk hyk
          rw [if_pos h3] at hn
          split at hn
          · cases hn
            have e := ih h4 h1
            rw [ih hx h]
            exact e
          · cases hn
        split at hn
        · cases hn
        split at hn <;> cases hn
      · cases h
theorem z_ro_runs {R : Nat → Bool} (hR : z_rom G R) {q : z_S} {r : Option Value} {P' : z_H} (hx : R x = true) (h : z_Runs G d x q r P') : P' = q.2.2.2.1 := by
  obtain ⟨f, h⟩ := h
  exact z_ro hR hx h
end ZROW
