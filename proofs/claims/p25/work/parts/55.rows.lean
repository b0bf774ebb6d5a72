/-! Rows for runs that are told by hand, one instruction a row. -/
section ZROW
variable {G : z_Pg} {d x : Nat}
theorem z_tow_tr : ∀ {n m : Nat} {q q1 q2 : z_S}, z_tow G n d x q q1 → z_tow G m d x q1 q2 → z_tow G (n + m) d x q q2 := by
  intro n
  induction n with
  | zero =>
    intro m q q1 q2 h k
    have h : q = q1 := h
    subst h
    rw [Nat.zero_add]
    exact k
  | succ n ih =>
    intro m q q1 q2 h k
    have mono : ∀ {m : Nat} {a b : z_S}, z_tow G m d x a b → ∀ j, z_tow G (m + j) d x a b := by
      intro m
      induction m with
      | zero =>
        intro a b h j
        have h : a = b := h
        subst h
        cases j with
        | zero => exact rfl
        | succ j => rw [Nat.zero_add]; exact Or.inl rfl
      | succ m ihm =>
        intro a b h j
        rw [Nat.succ_add]
        rcases h with h | ⟨c, h1, h2⟩ | ⟨y, as, rst, rv, P1, h1, h2, h3⟩
        · exact Or.inl h
        · exact Or.inr (Or.inl ⟨c, h1, ihm h2 j⟩)
        · exact Or.inr (Or.inr ⟨y, as, rst, rv, P1, h1, h2, ihm h3 j⟩)
    rw [Nat.succ_add]
    rcases h with h | ⟨c, h1, h2⟩ | ⟨y, as, rst, rv, P1, h1, h2, h3⟩
    · subst h
      have := mono k (n + 1)
      rw [show m + (n + 1) = n + m + 1 by omega] at this
      exact this
    · exact Or.inr (Or.inl ⟨c, h1, ih h2 k⟩)
    · exact Or.inr (Or.inr ⟨y, as, rst, rv, P1, h1, h2, ih h3 k⟩)
theorem z_To_tr {q q1 q2 : z_S} (h : z_To G d x q q1) (k : z_To G d x q1 q2) : z_To G d x q q2 := by
  obtain ⟨n, h⟩ := h
  obtain ⟨m, k⟩ := k
  exact ⟨n + m, z_tow_tr h k⟩
/-- a run to a place goes on to the end -/
theorem z_To_runs {q q1 : z_S} {r : Option Value} {P' : z_H} (h : z_To G d x q q1) (k : z_Runs G d x q1 r P') : z_Runs G d x q r P' := by
  obtain ⟨n, h⟩ := h
  induction n generalizing q with
  | zero =>
    have h : q = q1 := h
    subst h
    exact k
  | succ n ih =>
    rcases h with h | ⟨c, h1, h2⟩ | ⟨y, as, rst, rv, P1, h1, h2, h3⟩
    · subst h
      exact k
    · exact z_Runs_step h1 (ih h2)
    · exact z_Runs_call h1 h2 (ih h3)
/-- from q on a place of Ψ is reached in this frame -/
def z_Rh (G : z_Pg) (d x : Nat) (Ψ : z_S → Prop) (q : z_S) : Prop := ∃ q', z_To G d x q q' ∧ Ψ q'
variable {Ψ : z_S → Prop} {pc len c n : Nat} {l l' : z_L} {st st' : List Value} {P : z_H} {ins : Instr}
theorem z_rh_end {q : z_S} (h : Ψ q) : z_Rh G d x Ψ q := ⟨q, z_To_rf, h⟩
theorem z_rh_step {q q1 : z_S} (h : z_next G d x q = some (.inr (.inl q1))) (k : z_Rh G d x Ψ q1) : z_Rh G d x Ψ q := by
  obtain ⟨q', h1, h2⟩ := k
  exact ⟨q', z_To_step h h1, h2⟩
theorem z_rh_tr {Ψ' : z_S → Prop} {q : z_S} (h : z_Rh G d x Ψ' q) (k : ∀ q1, Ψ' q1 → z_Rh G d x Ψ q1) : z_Rh G d x Ψ q := by
  obtain ⟨q1, h1, h2⟩ := h
  obtain ⟨q2, k1, k2⟩ := k q1 h2
  exact ⟨q2, z_To_tr h1 k1, k2⟩
theorem z_nx {i : Instr × Nat} {q : z_S} (hc : z_cod G x pc = some i) (h1 : z_call G x i.1 = none) (h2 : z_isr i.1 = false) (h3 : z_step G x i.1 i.2 pc l st P c n = some q) : z_next G d x (pc, l, st, P, c, n) = some (.inr (.inl q)) := by
  unfold z_next
  show (match z_cod G x pc with | none => none | some i => _) = _
  rw [hc]
  dsimp only
  rw [h1]
  show (match z_ret (z_rty G x) i.1 st with | some r => _ | none => _) = _
  rw [z_isr_no h2]
  show (match z_step G x i.1 i.2 pc l st P c n with | some q' => _ | none => none) = _
  rw [h3]
/-- the stack alone -/
theorem z_r_pu {t : Nat} (hc : z_cod G x pc = some (ins, len)) (h1 : z_call G x ins = none) (h2 : z_isr ins = false) (ht : pc + len = t) (hp : z_pure ins st = some st') (k : z_Rh G d x Ψ (t, l, st', P, c, n)) : z_Rh G d x Ψ (pc, l, st, P, c, n) := by
  subst ht
  exact z_rh_step (z_nx hc h1 h2 (by unfold z_step; rw [hp])) k
/-- locals -/
theorem z_r_lo (hc : z_cod G x pc = some (ins, len)) (h1 : z_call G x ins = none) (h2 : z_isr ins = false) (hg : z_grp ins = 1) (hp : z_loc (z_nL G x) ins l st = some (l', st')) (k : z_Rh G d x Ψ (pc + len, l', st', P, c, n)) : z_Rh G d x Ψ (pc, l, st, P, c, n) :=
  z_rh_step (z_nx hc h1 h2 (by unfold z_step; rw [z_no0 (by rw [hg]; decide), hp])) k
/-- jumps -/
theorem z_r_jm {t : Nat} (hc : z_cod G x pc = some (ins, len)) (h1 : z_call G x ins = none) (h2 : z_isr ins = false) (hg : z_grp ins = 2) (hp : z_jmp ins pc st = some (t, st')) (k : z_Rh G d x Ψ (t, l, st', P, c, n)) : z_Rh G d x Ψ (pc, l, st, P, c, n) :=
  z_rh_step (z_nx hc h1 h2 (by unfold z_step; rw [z_no0 (by rw [hg]; decide), z_no1 (by rw [hg]; decide), hp])) k
/-- reads -/
theorem z_r_rd {t : Nat} (hc : z_cod G x pc = some (ins, len)) (h1 : z_call G x ins = none) (h2 : z_isr ins = false) (ht : pc + len = t) (hg : z_grp ins = 3) (hp : z_rd (z_fld G x) (z_nA G) (z_lk (z_strs G) P) ins st = some st') (k : z_Rh G d x Ψ (t, l, st', P, c, n)) : z_Rh G d x Ψ (pc, l, st, P, c, n) := by
  subst ht
  exact z_rh_step (z_nx hc h1 h2 (by unfold z_step; rw [z_no0 (by rw [hg]; decide), z_no1 (by rw [hg]; decide), z_no2 (by rw [hg]; decide), hp])) k
/-- writes -/
theorem z_r_wr {t : Nat} {P' : z_H} (hc : z_cod G x pc = some (ins, len)) (h1 : z_call G x ins = none) (h2 : z_isr ins = false) (ht : pc + len = t) (hg : z_grp ins = 4) (hp : z_wr (z_fld G x) (z_fty G) (z_fin G) (z_ini G x) (z_ac G) P ins st = some (st', P')) (k : z_Rh G d x Ψ (t, l, st', P', c, n)) : z_Rh G d x Ψ (pc, l, st, P, c, n) := by
  subst ht
  exact z_rh_step (z_nx hc h1 h2 (by unfold z_step; rw [z_no0 (by rw [hg]; decide), z_no1 (by rw [hg]; decide), z_no2 (by rw [hg]; decide), z_no3 (by rw [hg]; decide), hp])) k
/-- a constant of the pool -/
theorem z_r_cs {t : Nat} {v : Value} (hc : z_cod G x pc = some (ins, len)) (h1 : z_call G x ins = none) (h2 : z_isr ins = false) (ht : pc + len = t) (hg : z_grp ins = 6) (hp : z_cstv (z_cs G x) ins = some v) (k : z_Rh G d x Ψ (t, l, v :: st, P, c, n)) : z_Rh G d x Ψ (pc, l, st, P, c, n) := by
  subst ht
  exact z_rh_step (z_nx hc h1 h2 (by
    unfold z_step
    rw [z_no0 (by rw [hg]; decide), z_no1 (by rw [hg]; decide), z_no2 (by rw [hg]; decide), z_no3 (by rw [hg]; decide), z_no4 (by rw [hg]; decide), z_no5 (by rw [hg]; decide)]
    unfold z_cst
    rw [hp]
    rfl)) k
theorem z_ldv {k : Value → Bool} {i : Nat} {v : Value} (h : z_get l i = some v) (hk : k v = true) : z_ld k l i st = some (l, v :: st) := by
  unfold z_ld
  rw [h]
  dsimp only
  rw [if_pos hk]
theorem z_stv {k : Value → Bool} {nL i : Nat} {v : Value} (hk : k v = true) (hi : i < nL) : z_st1 k nL l i (v :: st) = some (z_set1 l i v, st) := by
  unfold z_st1
  dsimp only
  rw [if_pos (by rw [hk, decide_eq_true hi]; rfl)]
theorem z_stl {nL i : Nat} {v : Int64} (hi : i + 1 < nL) : z_st2 nL l i (.long v :: st) = some (z_set2 l i (.long v), st) := by
  unfold z_st2
  dsimp only
  rw [if_pos hi]
theorem z_icv {nL i : Nat} {v : Int32} {k : Int} (h : z_get l i = some (.int v)) (hi : i < nL) : z_inc nL l i k st = some (z_set1 l i (.int (v + Int32.ofInt k)), st) := by
  unfold z_inc
  rw [h]
  dsimp only
  rw [if_pos hi]
/-- a local put anew: the others -/
theorem z_g1s {i : Nat} {v : Value} : z_get (z_set1 l i v) i = some v := by
  unfold z_set1 z_get
  simp
theorem z_gfl {f : Nat × Value → Bool} {j : Nat} {w : Value} : ∀ {l : z_L}, z_get l j = some w → f (j, w) = true → z_get (l.filter f) j = some w
  | [], h, _ => by cases h
  | q :: r, h, hf => by
    unfold z_get at h
    split at h
    · rename_i e
      have e' : q.1 = j := by simpa using e
      cases h
      have hq : q = (j, q.2) := by rw [← e']
      have hfq : f q = true := by rw [hq]; exact hf
      rw [List.filter_cons_of_pos hfq]
      unfold z_get
      rw [if_pos e]
    · rename_i e
      cases hfq : f q with
      | true =>
        rw [List.filter_cons_of_pos hfq]
        unfold z_get
        rw [if_neg e]
        exact z_gfl h hf
      | false =>
        rw [List.filter_cons_of_neg (by rw [hfq]; decide)]
        exact z_gfl h hf
theorem z_g1n {i j : Nat} {v w : Value} (h : z_get l j = some w) (hij : i ≠ j) (hw : j + 1 ≠ i ∨ w.category ≠ 2) : z_get (z_set1 l i v) j = some w := by
  unfold z_set1 z_get
  rw [if_neg (by simpa using hij)]
  refine z_gfl h ?_
  simp only [Bool.and_eq_true, Bool.not_eq_true', beq_eq_false_iff_ne, Bool.and_eq_false_iff]
  refine ⟨fun e => hij e.symm, ?_⟩
  rcases hw with hw | hw
  · exact Or.inl hw
  · exact Or.inr hw
theorem z_g2s {i : Nat} {v : Value} : z_get (z_set2 l i v) i = some v := by
  unfold z_set2 z_get
  simp
theorem z_g2n {i j : Nat} {v w : Value} (h : z_get l j = some w) (hij : i ≠ j) (hj : j ≠ i + 1) (hw : j + 1 ≠ i ∨ w.category ≠ 2) : z_get (z_set2 l i v) j = some w := by
  unfold z_set2 z_get
  rw [if_neg (by simpa using hij)]
  refine z_gfl h ?_
  simp only [Bool.and_eq_true, Bool.not_eq_true', beq_eq_false_iff_ne, Bool.and_eq_false_iff]
  refine ⟨fun e => hij e.symm, hj, ?_⟩
  rcases hw with hw | hw
  · exact Or.inl hw
  · exact Or.inr hw
/-- comparisons -/
theorem z_icy {cc : ClassFile.Cond} {off : Int} {a b : Int32} {t : Nat} (ht : z_tg pc off = some t) (h : z_cmp cc a b = true) : z_jmp (.if_icmp cc off) pc (.int b :: .int a :: st) = some (t, st) := by
  unfold z_jmp
  dsimp only
  rw [ht, h]
  rfl
theorem z_icn {cc : ClassFile.Cond} {off : Int} {a b : Int32} {t : Nat} (ht : z_tg pc off = some t) (h : z_cmp cc a b = false) : z_jmp (.if_icmp cc off) pc (.int b :: .int a :: st) = some (pc + 3, st) := by
  unfold z_jmp
  dsimp only
  rw [ht, h]
  rfl
theorem z_ify {cc : ClassFile.Cond} {off : Int} {a : Int32} {t : Nat} (ht : z_tg pc off = some t) (h : z_cmp cc a 0 = true) : z_jmp (.ifCond cc off) pc (.int a :: st) = some (t, st) := by
  unfold z_jmp
  dsimp only
  rw [ht, h]
  rfl
theorem z_ifn {cc : ClassFile.Cond} {off : Int} {a : Int32} {t : Nat} (ht : z_tg pc off = some t) (h : z_cmp cc a 0 = false) : z_jmp (.ifCond cc off) pc (.int a :: st) = some (pc + 3, st) := by
  unfold z_jmp
  dsimp only
  rw [ht, h]
  rfl
theorem z_gty {off : Int} {t : Nat} (ht : z_tg pc off = some t) : z_jmp (.goto off) pc st = some (t, st) := by
  unfold z_jmp
  dsimp only
  rw [ht]
  rfl
theorem z_c_lt {a b : Int32} : z_cmp .lt a b = decide (a.toInt < b.toInt) := decide_eq_decide.mpr Int32.lt_iff_toInt_lt
theorem z_c_ge {a b : Int32} : z_cmp .ge a b = decide (b.toInt ≤ a.toInt) := decide_eq_decide.mpr Int32.le_iff_toInt_le
theorem z_c_gt {a b : Int32} : z_cmp .gt a b = decide (b.toInt < a.toInt) := decide_eq_decide.mpr Int32.lt_iff_toInt_lt
theorem z_c_le {a b : Int32} : z_cmp .le a b = decide (a.toInt ≤ b.toInt) := decide_eq_decide.mpr Int32.le_iff_toInt_le
theorem z_c_eq {a b : Int32} : z_cmp .eq a b = decide (a.toInt = b.toInt) := by
  unfold z_cmp
  exact decide_eq_decide.mpr Int32.toInt_inj.symm
theorem z_c_ne {a b : Int32} : z_cmp .ne a b = decide (a.toInt ≠ b.toInt) := by
  unfold z_cmp
  exact decide_eq_decide.mpr (not_congr Int32.toInt_inj.symm)
/-- reads of near cells -/
theorem z_lkn {strs : z_Ss} {a : Nat} {q : z_C} (ha : a < z_far) (h : P[a]? = some q) : z_lk strs P a = some q := by
  unfold z_lk
  rw [if_pos ha]
  exact h
theorem z_gfv {fk : Option (Nat × Nat)} {H : Nat → Option z_C} {a ci k : Nat} {vs : List Value} {v : Value} (hf : fk = some (ci, k)) (hP : H a = some (ci, vs)) (hci : ci < 99) (hv : vs[k]? = some v) : z_gf fk H (.ref a :: st) = some (v :: st) := by
  unfold z_gf
  rw [hf]
  dsimp only
  rw [hP]
  dsimp only
  rw [if_pos ⟨rfl, hci⟩, hv]
theorem z_iav {H : Nat → Option z_C} {a j : Nat} {i v : Int32} {vs : List Value} (hP : H a = some (103, vs)) (hi : i.toInt = (j : Int)) (hv : vs[j]? = some (.int v)) : z_al 103 z_isI H (.int i :: .ref a :: st) = some (.int v :: st) := by
  have e : i.toNatClampNeg = j := by
    show i.toInt.toNat = j
    rw [hi]
    exact Int.toNat_natCast j
  unfold z_al
  dsimp only
  rw [hP]
  dsimp only
  rw [if_pos ⟨rfl, by omega⟩, e, hv]
  rfl
theorem z_lav {H : Nat → Option z_C} {a j : Nat} {i : Int32} {v : Int64} {vs : List Value} (hP : H a = some (104, vs)) (hi : i.toInt = (j : Int)) (hv : vs[j]? = some (.long v)) : z_al 104 z_isL H (.int i :: .ref a :: st) = some (.long v :: st) := by
  have e : i.toNatClampNeg = j := by
    show i.toInt.toNat = j
    rw [hi]
    exact Int.toNat_natCast j
  unfold z_al
  dsimp only
  rw [hP]
  dsimp only
  rw [if_pos ⟨rfl, by omega⟩, e, hv]
  rfl
theorem z_lsv {a j : Nat} {i : Int32} {v : Int64} {vs : List Value} (hP : P[a]? = some (104, vs)) (hi : i.toInt = (j : Int)) (hj : j < vs.length) : z_las P (.long v :: .int i :: .ref a :: st) = some (st, P.set a (104, vs.set j (.long v))) := by
  have e : i.toNatClampNeg = j := by
    show i.toInt.toNat = j
    rw [hi]
    exact Int.toNat_natCast j
  unfold z_las
  dsimp only
  rw [hP]
  dsimp only
  rw [e, if_pos ⟨rfl, by omega, hj⟩]
theorem z_pfv {fk : Option (Nat × Nat)} {fty : Nat → Nat → FieldType} {fin : Nat → Nat → Bool} {ini : Option Nat} {a ci k : Nat} {vs : List Value} {v : Value} (hf : fk = some (ci, k)) (hP : P[a]? = some (ci, vs)) (hci : ci < 99) (hk : k < vs.length) (h1 : fits (fty ci k) v = true) (h2 : narrow (fty ci k) v = v) (h3 : fin ci k = false) : z_pf fk fty fin ini P (v :: .ref a :: st) = some (st, P.set a (ci, vs.set k v)) := by
  unfold z_pf
  rw [hf]
  dsimp only
  rw [hP]
  dsimp only
  rw [if_pos ⟨rfl, hci, hk, h1, h2, Or.inl h3⟩]
/-- a method that writes nothing leaves the cells as they are -/
def z_roi : Instr → Bool
  | .putfield _ | .iastore | .castore | .bastore | .lastore | .aastore | .new _ | .newarray _ | .anewarray _ | .multianewarray _ _ => false
  | _ => true
def z_rom (G : z_Pg) (R : Nat → Bool) : Prop := ∀ x pc i, R x = true → z_cod G x pc = some i → z_roi i.1 = true ∧ ∀ yk, z_call G x i.1 = some yk → yk.2 < 3 ∧ R yk.1 = true
theorem z_ro_step {q : z_S} (hi : z_roi ins = true) (h : z_step G x ins len pc l st P c n = some q) : q.2.2.2.1 = P := by
  unfold z_step at h
  split at h
  · cases h; rfl
  split at h
  · cases h; rfl
  split at h
  · cases h; rfl
  split at h
  · cases h; rfl
  split at h
  · rename_i q' hq
    unfold z_wr at hq
    unfold z_roi at hi
    split at hq <;> first | cases hi | cases hq
  split at h
  · rename_i q' hq
    unfold z_mk at hq
    unfold z_roi at hi
    split at hq <;> first | cases hi | cases hq
  split at h
  · cases h; rfl
  · cases h
theorem z_ro {R : Nat → Bool} (hR : z_rom G R) : ∀ {f d x : Nat} {q : z_S} {o : Option Value × z_H}, R x = true → z_run G f d x q = some o → o.2 = q.2.2.2.1 := by
  intro f
  induction f with
  | zero => intro d x q o _ h; cases h
  | succ f ih =>
    intro d x q o hx h
    unfold z_run at h
    split at h
    · cases h
    · cases h; rfl
    · rename_i q' hn
      rw [ih hx h]
      unfold z_next at hn
      split at hn
      · cases hn
      rename_i i hi
      obtain ⟨h1, h2⟩ := hR x _ i hx hi
      split at hn
      · rename_i yk hyk
        rw [if_pos (h2 yk hyk).1] at hn
        split at hn <;> cases hn
      split at hn
      · cases hn
      split at hn
      · rename_i q2 hq2
        cases hn
        exact z_ro_step h1 hq2
      · cases hn
    · rename_i a hn
      split at h
      · rename_i o1 h1
        unfold z_next at hn
        split at hn
        · cases hn
        rename_i i hi
        obtain ⟨-, h2⟩ := hR x _ i hx hi
        split at hn
        · rename_i yk hyk
          obtain ⟨h3, h4⟩ := h2 yk hyk
          rw [if_pos h3] at hn
          split at hn
          · cases hn
            have e := ih h4 h1
            rw [ih hx h]
            exact e
          · cases hn
        split at hn
        · cases hn
        split at hn <;> cases hn
      · cases h
theorem z_ro_runs {R : Nat → Bool} (hR : z_rom G R) {q : z_S} {r : Option Value} {P' : z_H} (hx : R x = true) (h : z_Runs G d x q r P') : P' = q.2.2.2.1 := by
  obtain ⟨f, h⟩ := h
  exact z_ro hR hx h
theorem z_r_ld {t i : Nat} {v : Value} {kk : Value → Bool} (hc : z_cod G x pc = some (ins, len)) (h1 : z_call G x ins = none) (h2 : z_isr ins = false) (ht : pc + len = t) (hg : z_grp ins = 1) (hp : ∀ nL, z_loc nL ins l st = z_ld kk l i st) (h : z_get l i = some v) (hk : kk v = true) (k : z_Rh G d x Ψ (t, l, v :: st, P, c, n)) : z_Rh G d x Ψ (pc, l, st, P, c, n) := by
  subst ht
  exact z_r_lo hc h1 h2 hg ((hp _).trans (z_ldv h hk)) k
theorem z_r_is {t i : Nat} {v : Value} {kk : Value → Bool} (hc : z_cod G x pc = some (ins, len)) (h1 : z_call G x ins = none) (h2 : z_isr ins = false) (ht : pc + len = t) (hg : z_grp ins = 1) (hp : z_loc (z_nL G x) ins l (v :: st) = z_st1 kk (z_nL G x) l i (v :: st)) (hk : kk v = true) (hi : Nat.ble (i + 1) (z_nL G x) = true) (k : ∀ l', z_get l' i = some v → (∀ j w, z_get l j = some w → i ≠ j → (j + 1 ≠ i ∨ w.category ≠ 2) → z_get l' j = some w) → z_Rh G d x Ψ (t, l', st, P, c, n)) : z_Rh G d x Ψ (pc, l, v :: st, P, c, n) := by
  subst ht
  exact z_r_lo hc h1 h2 hg (hp.trans (z_stv hk (Nat.le_of_ble_eq_true hi))) (k _ z_g1s fun j w h h1 h2 => z_g1n h h1 h2)
theorem z_r_ls {t i : Nat} {v : Int64} (hc : z_cod G x pc = some (ins, len)) (h1 : z_call G x ins = none) (h2 : z_isr ins = false) (ht : pc + len = t) (hg : z_grp ins = 1) (hp : z_loc (z_nL G x) ins l (.long v :: st) = z_st2 (z_nL G x) l i (.long v :: st)) (hi : Nat.ble (i + 2) (z_nL G x) = true) (k : ∀ l', z_get l' i = some (.long v) → (∀ j w, z_get l j = some w → i ≠ j → j ≠ i + 1 → (j + 1 ≠ i ∨ w.category ≠ 2) → z_get l' j = some w) → z_Rh G d x Ψ (t, l', st, P, c, n)) : z_Rh G d x Ψ (pc, l, .long v :: st, P, c, n) := by
  subst ht
  exact z_r_lo hc h1 h2 hg (hp.trans (z_stl (Nat.le_of_ble_eq_true hi))) (k _ z_g2s fun j w h h1 h2 h3 => z_g2n h h1 h2 h3)
theorem z_r_ic {t i : Nat} {v : Int32} {kk : Int} (hc : z_cod G x pc = some (ins, len)) (h1 : z_call G x ins = none) (h2 : z_isr ins = false) (ht : pc + len = t) (hp : ins = .iinc i kk) (hi : Nat.ble (i + 1) (z_nL G x) = true) (h : z_get l i = some (.int v)) (k : ∀ l', z_get l' i = some (.int (v + Int32.ofInt kk)) → (∀ j w, z_get l j = some w → i ≠ j → (j + 1 ≠ i ∨ w.category ≠ 2) → z_get l' j = some w) → z_Rh G d x Ψ (t, l', st, P, c, n)) : z_Rh G d x Ψ (pc, l, st, P, c, n) := by
  subst ht
  subst hp
  exact z_r_lo hc h1 h2 rfl (show z_inc (z_nL G x) l i kk st = _ from z_icv h (Nat.le_of_ble_eq_true hi)) (k _ z_g1s fun j w h h1 h2 => z_g1n h h1 h2)
theorem z_irm {a b : Int32} (hb : b ≠ 0) : z_pure .irem (.int b :: .int a :: st) = some (.int (a - a / b * b) :: st) := by
  show z_i2d (fun x y => .int (x - x / y * y)) (.int b :: .int a :: st) = _
  unfold z_i2d
  dsimp only
  rw [if_neg hb]
/-- what a cell holds, by its picture -/
theorem z_plr {strs : z_Ss} {N : List Int} {al : Nat → Option Nat} {AH : List z_ac_} {a c : Nat} {A : z_ac_} (hH : z_gh strs N al AH P) (ha : al a = some c) (hA : AH[c]? = some A) (hn : A.2.1.2 = true) : a < z_far ∧ (A.2.1.1 = true → ∀ b, al b = some c → b = a) ∧ ∃ vs, P[a]? = some (A.1, vs) ∧ (A.2.2.1 = none → z_all2 (z_gv N al) A.2.2.2 vs) ∧ (∀ m, A.2.2.1 = some m → vs.length = m ∧ ∃ t, A.2.2.2 = [t] ∧ ∀ v ∈ vs, z_gv N al t v) := by
  obtain ⟨q, A', e1, e2, ⟨e3, e4⟩, e5, e6⟩ := hH a c ha
  cases hA.symm.trans e2
  have hf := e6 hn
  unfold z_lk at e1
  rw [if_pos hf] at e1
  refine ⟨hf, e5, q.2, by rw [e1, e3], fun h => ?_, fun m h => ?_⟩
  · rw [h] at e4
    exact e4
  · rw [h] at e4
    exact e4
/-- one place of one cell put anew -/
theorem z_post_1 {strs : z_Ss} {N : List Int} {al : Nat → Option Nat} {AH : List z_ac_} {a cc e ci : Nat} {vs : List Value} {w : Value} {t : z_av} {tr : Option z_av} {rv : Option Value} (hH : z_gh strs N al AH P) (ha : al a = some cc) (hu : ∀ b, al b = some cc → b = a) (hP : P[a]? = some (ci, vs)) (he : e < vs.length) (hw : z_gv N al t w) (hr : z_go_ N al tr rv) : z_post N al P (tr, [(cc, .inr [(e, t)])], 0) rv (P.set a (ci, vs.set e w)) al := by
  refine ⟨fun _ _ h => h, fun _ _ h => Or.inl h, ?_, hr, fun c' A' h => ?_, fun c' ps h b hb => ?_, by rw [List.length_set]; exact Nat.le_refl _⟩
  · refine z_same_set hH ha hP rfl (List.length_set ..) fun k hk => ?_
    have hk : z_win [(cc, some [e])] cc k = false := hk
    have hne : e ≠ k := fun q => by
      subst q
      unfold z_win z_wget at hk
      rw [Nat.beq_refl] at hk
      have hk : z_nin e [e] = false := hk
      unfold z_nin at hk
      rw [Nat.beq_refl] at hk
      cases hk
    exact List.getElem?_set_ne hne
  · unfold z_xget at h
    cases hb : Nat.beq cc c' with
    | true => rw [hb] at h; cases h
    | false => rw [hb] at h; cases h
  · unfold z_xget at h
    cases hb' : Nat.beq cc c' with
    | false => rw [hb'] at h; cases h
    | true =>
      rw [hb'] at h
      cases h
      have := Nat.eq_of_beq_eq_true hb'
      subst this
      have := hu b hb
      subst this
      refine ⟨(ci, vs.set e w), List.getElem?_set_self (List.getElem?_eq_some_iff.mp hP).1, fun e' v' hm => ?_⟩
      rw [List.mem_singleton] at hm
      cases hm
      exact ⟨w, List.getElem?_set_self he, hw⟩
end ZROW
