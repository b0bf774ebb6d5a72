section ZAWI
variable {strs : z_Ss} {N : List Int} {al : Nat → Option Nat}
def z_asI (tg : Nat → Bool) (nf : z_tk → z_tk) (AH : List z_ac_) : List z_av → Option (List z_av × List z_ac_)
  | .inl x :: .inl i :: .inr (.inr r) :: st => if r.1 then none else (z_awa tg (.inl (nf x)) i AH r.2).map fun X => (st, X)
  | _ => none
def z_asL (AH : List z_ac_) : List z_av → Option (List z_av × List z_ac_)
  | .inr (.inl x) :: .inl i :: .inr (.inr r) :: st => if r.1 then none else (z_awa (fun t => t == 104) (.inr (.inl x)) i AH r.2).map fun X => (st, X)
  | _ => none
def z_asA (ac : Nat → Option Nat) (AH : List z_ac_) : List z_av → Option (List z_av × List z_ac_)
  | .inr (.inr v) :: .inl i :: .inr (.inr r) :: st => if r.1 || v.1 then none else (z_awa (fun t => decide (105 ≤ t) && v.2.all fun c => match AH[c]? with
      | some W => W.2.1.2 && (decide (W.1 < 99) && decide (ac (t - 100) = some W.1))
      | none => false) (.inr (.inr v)) i AH r.2).map fun X => (st, X)
  | _ => none
def z_afit : FieldType → z_av → Bool
  | .boolean, .inl t => decide (0 ≤ z_lo t) && decide (z_hi t ≤ 1)
  | .int, .inl _ => true
  | .long, .inr (.inl _) => true
  | .object _, .inr (.inr _) => true
  | .array _, .inr (.inr _) => true
  | _, _ => false
theorem z_afit_ok {ty : FieldType} {t : z_av} {v : Value} (h : z_afit ty t = true) (ht : z_gv N al t v) : fits ty v = true ∧ narrow ty v = v := by
  unfold z_afit at h
  split at h
  · rename_i t
    obtain ⟨x, e, g1, g2, -⟩ := ht
    subst e
    simp only [Bool.and_eq_true, decide_eq_true_eq] at h
    have h01 : x.toInt = 0 ∨ x.toInt = 1 := by omega
    have hx : x = 0 ∨ x = 1 := h01.imp (fun q => Int32.toInt_inj.mp (by rw [q]; decide)) (fun q => Int32.toInt_inj.mp (by rw [q]; decide))
    rcases hx with hx | hx <;> subst hx <;> exact ⟨rfl, rfl⟩
  · obtain ⟨x, e, -⟩ := ht
    subst e
    exact ⟨rfl, rfl⟩
  · obtain ⟨x, e, -⟩ := ht
    subst e
    exact ⟨rfl, rfl⟩
  · rcases ht with ⟨e, -⟩ | ⟨a, c, e, -⟩ <;> subst e <;> exact ⟨rfl, rfl⟩
  · rcases ht with ⟨e, -⟩ | ⟨a, c, e, -⟩ <;> subst e <;> exact ⟨rfl, rfl⟩
  · cases h
def z_apf (fk : Option (Nat × Nat)) (fty : Nat → Nat → FieldType) (fin : Nat → Nat → Bool) (ini : Option Nat) (AH : List z_ac_) : List z_av → Option (List z_av × List z_ac_)
  | v :: .inr (.inr r) :: st => match fk with
    | some f => if r.1 = false ∧ f.1 < 99 ∧ z_afit (fty f.1 f.2) v = true ∧ (fin f.1 f.2 = false ∨ ini = some f.1) then (z_awa (fun t => t == f.1) v (z_tc f.2) AH r.2).map fun X => (st, X) else none
    | none => none
  | _ => none
def z_awr (fld : Nat → Option (Nat × Nat)) (fty : Nat → Nat → FieldType) (fin : Nat → Nat → Bool) (ini : Option Nat) (ac : Nat → Option Nat) (AH : List z_ac_) : Instr → List z_av → Option (List z_av × List z_ac_)
  | .putfield n => z_apf (fld n) fty fin ini AH
  | .iastore => z_asI (fun t => t == 103) (fun x => x) AH
  | .castore => z_asI (fun t => t == 102) (z_cutto 0 65535) AH
  | .bastore => fun st => (z_asI (fun t => t == 101) (z_cutto (-128) 127) AH st).or (z_asI (fun t => t == 100) (z_cutto 0 1) AH st)
  | .lastore => z_asL AH
  | .aastore => z_asA ac AH
  | _ => fun _ => none
theorem z_awa_lo {tg : Nat → Bool} {v : z_av} {i : z_tk} {AH AH' : List z_ac_} {cs : List Nat} (h : z_awa tg v i AH cs = some AH') (hne : cs ≠ []) : 0 ≤ z_lo i := by
  refine Decidable.byContradiction fun hlo => ?_
  have hw : ∀ A, z_wka tg v i A = none := by
    intro A
    unfold z_wka
    split
    · split
      · rw [if_neg (fun q => hlo q.1)]
      · rw [if_neg (fun q => hlo q.1)]
    · rfl
  have hu : ∀ cs, cs ≠ [] → z_upd (z_wka tg v i) AH cs = none := by
    intro cs hcs
    cases cs with
    | nil => exact absurd rfl hcs
    | cons c' cs =>
      unfold z_upd
      split
      · rw [hw]
      · rfl
  unfold z_awa at h
  split at h
  · rename_i c0
    split at h
    · rename_i Y hY
      unfold z_aw1 at hY
      split at hY
      · split at hY
        · rename_i hs
          unfold z_str at hs
          simp only [Bool.and_eq_true, decide_eq_true_eq] at hs
          exact hlo hs.2.2.2.2.2.1
        · cases hY
      · cases hY
    · rw [hu _ hne] at h
      cases h
  · rw [hu _ hne] at h
    cases h
theorem z_awa_ix {tg : Nat → Bool} {v : z_av} {i : z_tk} {AH AH' : List z_ac_} {cs : List Nat} {P : z_H} {a c : Nat} {j : Int32} {w : Value} (h : z_awa tg v i AH cs = some AH') (hH : z_gh strs N al AH P) (hac : al a = some c) (hc : c ∈ cs) (hj : z_gi N i j.toInt) (hv : z_gv N al v w) :
    ∃ q, P[a]? = some q ∧ tg q.1 = true ∧ 0 ≤ j.toInt ∧ j.toNatClampNeg < q.2.length ∧ z_gh strs N al AH' (P.set a (q.1, q.2.set j.toNatClampNeg w)) := by
  have hlo := z_awa_lo h (fun q => by rw [q] at hc; cases hc)
  have hj0 : 0 ≤ j.toInt := by have := hj.1; omega
  have hj' : z_gi N i ((j.toNatClampNeg : Nat) : Int) := by
    have : ((j.toNatClampNeg : Nat) : Int) = j.toInt := by show ((j.toInt.toNat : Nat) : Int) = j.toInt; omega
    rw [this]
    exact hj
  obtain ⟨q, g1, g2, g3, g4⟩ := z_awa_ok h hH hac hc hj' hv
  exact ⟨q, g1, g2, hj0, g3, g4⟩
theorem z_asI_ok {t : Nat} {nf : z_tk → z_tk} {g : Int32 → Int32} (hg : ∀ x a, z_gi N x (Int32.toInt a) → z_gi N (nf x) (g a).toInt) {AH AH' : List z_ac_} {P : z_H} {ast ast' : List z_av} {st : List Value} (h : z_asI (fun k => k == t) nf AH ast = some (ast', AH')) (hH : z_gh strs N al AH P) (hs : z_all2 (z_gv N al) ast st) : ∃ st' P', z_as t g P st = some (st', P') ∧ z_all2 (z_gv N al) ast' st' ∧ z_gh strs N al AH' P' := by
  unfold z_asI at h
  split at h
  · split at h
    · cases h
    · rename_i x i r ast hr
      obtain ⟨X, h1, h2⟩ := z_map_some h
      cases h2
      match st, hs with
      | _ :: _ :: _ :: st, ⟨_, _, Or.inl ⟨_, h3⟩, _⟩ => exact absurd h3 hr
      | _ :: _ :: _ :: st, ⟨⟨a, e1, ha⟩, ⟨j, e2, hj⟩, Or.inr ⟨b, c, e3, hb, hc⟩, h4⟩ =>
        subst e1; subst e2; subst e3
        obtain ⟨q, g1, g2, g5, g3, g4⟩ := z_awa_ix (w := .int (g a)) h1 hH hb hc hj ⟨_, rfl, hg x a ha⟩
        have g2 : q.1 = t := by simpa using g2
        refine ⟨st, P.set b (t, q.2.set j.toNatClampNeg (.int (g a))), ?_, h4, by rw [← g2]; exact g4⟩
        unfold z_as
        dsimp only
        rw [g1]
        dsimp only
        rw [if_pos ⟨g2, g5, g3⟩]
  · cases h
theorem z_asI_no {t : Nat} {nf : z_tk → z_tk} {g : Int32 → Int32} {t' : Nat} (htt : t ≠ t') {AH AH' : List z_ac_} {P : z_H} {ast ast' : List z_av} {st : List Value} (hg : ∀ x a, z_gi N x (Int32.toInt a) → z_gi N (nf x) (g a).toInt) (h : z_asI (fun k => k == t) nf AH ast = some (ast', AH')) (hH : z_gh strs N al AH P) (hs : z_all2 (z_gv N al) ast st) (f : Int32 → Int32) : z_as t' f P st = none := by
  obtain ⟨st', P', h1, -⟩ := z_asI_ok hg h hH hs
  unfold z_as at h1 ⊢
  split at h1
  · split at h1
    · rename_i q hq
      split at h1
      · rename_i hc
        rw [if_neg (fun k => htt (hc.1.symm.trans k.1))]
      · cases h1
    · cases h1
  · cases h1
theorem z_asL_ok {AH AH' : List z_ac_} {P : z_H} {ast ast' : List z_av} {st : List Value} (h : z_asL AH ast = some (ast', AH')) (hH : z_gh strs N al AH P) (hs : z_all2 (z_gv N al) ast st) : ∃ st' P', z_las P st = some (st', P') ∧ z_all2 (z_gv N al) ast' st' ∧ z_gh strs N al AH' P' := by
  unfold z_asL at h
  split at h
  · split at h
    · cases h
    · rename_i x i r ast hr
      obtain ⟨X, h1, h2⟩ := z_map_some h
      cases h2
      match st, hs with
      | _ :: _ :: _ :: st, ⟨_, _, Or.inl ⟨_, h3⟩, _⟩ => exact absurd h3 hr
      | _ :: _ :: _ :: st, ⟨⟨a, e1, ha⟩, ⟨j, e2, hj⟩, Or.inr ⟨b, c, e3, hb, hc⟩, h4⟩ =>
        subst e1; subst e2; subst e3
        obtain ⟨q, g1, g2, g5, g3, g4⟩ := z_awa_ix (w := .long a) h1 hH hb hc hj ⟨_, rfl, ha⟩
        have g2 : q.1 = 104 := by simpa using g2
        refine ⟨st, P.set b (104, q.2.set j.toNatClampNeg (.long a)), ?_, h4, by rw [← g2]; exact g4⟩
        unfold z_las
        dsimp only
        rw [g1]
        dsimp only
        rw [if_pos ⟨g2, g5, g3⟩]
  · cases h
theorem z_asA_ok {ac : Nat → Option Nat} {AH AH' : List z_ac_} {P : z_H} {ast ast' : List z_av} {st : List Value} (h : z_asA ac AH ast = some (ast', AH')) (hH : z_gh strs N al AH P) (hs : z_all2 (z_gv N al) ast st) : ∃ st' P', z_aas ac P st = some (st', P') ∧ z_all2 (z_gv N al) ast' st' ∧ z_gh strs N al AH' P' := by
  unfold z_asA at h
  split at h
  · split at h
    · cases h
    · rename_i x i r ast hr
      obtain ⟨X, h1, h2⟩ := z_map_some h
      cases h2
      rw [Bool.not_eq_true, Bool.or_eq_false_iff] at hr
      match st, hs with
      | _ :: _ :: _ :: st, ⟨_, _, Or.inl ⟨_, h3⟩, _⟩ => rw [hr.1] at h3; cases h3
      | _ :: _ :: _ :: st, ⟨Or.inl ⟨_, h3⟩, _, _, _⟩ => rw [hr.2] at h3; cases h3
      | _ :: _ :: _ :: st, ⟨Or.inr ⟨a, ca, e1, ha, hca⟩, ⟨j, e2, hj⟩, Or.inr ⟨b, c, e3, hb, hc⟩, h4⟩ =>
        subst e1; subst e2; subst e3
        obtain ⟨q, g1, g2, g5, g3, g4⟩ := z_awa_ix (w := .ref a) h1 hH hb hc hj (Or.inr ⟨a, ca, rfl, ha, hca⟩)
        simp only [Bool.and_eq_true, decide_eq_true_eq] at g2
        obtain ⟨g6, g7⟩ := g2
        have g8 := List.all_eq_true.mp g7 ca hca
        obtain ⟨qa, W, k1, k2, k3, -, k5⟩ := hH a ca ha
        rw [k2] at g8
        simp only [Bool.and_eq_true, decide_eq_true_eq] at g8
        obtain ⟨g9, g10, g11⟩ := g8
        have hPa : P[a]? = some qa := by
          unfold z_lk at k1
          rw [if_pos (k5 g9)] at k1
          exact k1
        refine ⟨st, P.set b (q.1, q.2.set j.toNatClampNeg (.ref a)), ?_, h4, g4⟩
        unfold z_aas
        dsimp only
        rw [g1]
        dsimp only
        rw [hPa]
        dsimp only
        rw [if_pos ⟨g6, by rw [← k3.1]; exact g10, by rw [← k3.1]; exact g11, g5, g3⟩]
  · cases h
theorem z_apf_ok {fk : Option (Nat × Nat)} {fty : Nat → Nat → FieldType} {fin : Nat → Nat → Bool} {ini : Option Nat} {AH AH' : List z_ac_} {P : z_H} {ast ast' : List z_av} {st : List Value} (h : z_apf fk fty fin ini AH ast = some (ast', AH')) (hH : z_gh strs N al AH P) (hs : z_all2 (z_gv N al) ast st) : ∃ st' P', z_pf fk fty fin ini P st = some (st', P') ∧ z_all2 (z_gv N al) ast' st' ∧ z_gh strs N al AH' P' := by
  unfold z_apf at h
  split at h
  · rename_i v r ast
    split at h
    · rename_i f
      split at h
      · rename_i hc
        obtain ⟨c1, c2, c3, c4⟩ := hc
        obtain ⟨X, h1, h2⟩ := z_map_some h
        cases h2
        match st, hs with
        | _ :: _ :: st, ⟨_, Or.inl ⟨_, h3⟩, _⟩ => rw [c1] at h3; cases h3
        | w :: _ :: st, ⟨hv, Or.inr ⟨b, c, e3, hb, hcc⟩, h4⟩ =>
          subst e3
          obtain ⟨q, g1, g2, g3, g4⟩ := z_awa_ok (k := f.2) h1 hH hb hcc z_tc_gi hv
          have g2 : q.1 = f.1 := by simpa using g2
          obtain ⟨g5, g6⟩ := z_afit_ok c3 hv
          refine ⟨st, P.set b (f.1, q.2.set f.2 w), ?_, h4, by rw [← g2]; exact g4⟩
          unfold z_pf
          dsimp only
          rw [g1]
          dsimp only
          rw [if_pos ⟨g2, by omega, g3, g5, g6, c4⟩]
      · cases h
    · cases h
  · cases h
theorem z_awr_ok {fld : Nat → Option (Nat × Nat)} {fty : Nat → Nat → FieldType} {fin : Nat → Nat → Bool} {ini : Option Nat} {ac : Nat → Option Nat} {ins : Instr} {AH AH' : List z_ac_} {P : z_H} {ast ast' : List z_av} {st : List Value} (h : z_awr fld fty fin ini ac AH ins ast = some (ast', AH')) (hH : z_gh strs N al AH P) (hs : z_all2 (z_gv N al) ast st) : ∃ st' P', z_wr fld fty fin ini ac P ins st = some (st', P') ∧ z_all2 (z_gv N al) ast' st' ∧ z_gh strs N al AH' P' := by
  have hb : ∀ x a, z_gi N x (Int32.toInt a) → z_gi N (z_cutto (-128) 127 x) (a.toInt8.toInt32).toInt := by
    intro x a hx
    have g1 := a.toInt8.le_toInt
    have g2 := a.toInt8.toInt_lt
    refine z_cutto_gi hx (by rw [Int8.toInt_toInt32]; omega) (by rw [Int8.toInt_toInt32]; omega) (fun g3 g4 => ?_)
    rw [Int8.toInt_toInt32, Int32.toInt_toInt8]
    unfold Int.bmod
    simp only [Nat.reducePow]
    omega
  have hz : ∀ x a, z_gi N x (Int32.toInt a) → z_gi N (z_cutto 0 1 x) (a &&& 1).toInt := by
    intro x a hx
    have g := z_and_in (a := (-2147483648, 2147483647)) (b := (1, 1)) (x := a) (y := 1) ⟨a.le_toInt, by have := a.toInt_lt; omega⟩ ⟨by decide, by decide⟩
    refine z_cutto_gi hx g.1 g.2 (fun g3 g4 => ?_)
    have h01 : a.toInt = 0 ∨ a.toInt = 1 := by omega
    have hx : a = 0 ∨ a = 1 := h01.imp (fun q => Int32.toInt_inj.mp (by rw [q]; decide)) (fun q => Int32.toInt_inj.mp (by rw [q]; decide))
    rcases hx with hx | hx <;> subst hx <;> decide
  have hc : ∀ x a, z_gi N x (Int32.toInt a) → z_gi N (z_cutto 0 65535 x) (a.toUInt32.toUInt16.toUInt32.toInt32).toInt := by
    intro x a hx
    have e : (a.toUInt32.toUInt16.toUInt32.toInt32).toInt = ((a.toBitVec.toNat % 65536 : Nat) : Int) := by
      rw [UInt32.toUInt32_toUInt16, pk_char, nI_toInt (by omega)]
    have e2 : a.toInt = a.toBitVec.toInt := rfl
    rw [BitVec.toInt_eq_toNat_cond] at e2
    refine z_cutto_gi hx (by rw [e]; omega) (by rw [e]; omega) (fun g1 g2 => ?_)
    rw [e]
    split at e2 <;> omega
  cases ins
  case putfield n => exact z_apf_ok h hH hs
  case iastore => exact z_asI_ok (nf := fun x => x) (g := fun x => x) (fun x a hx => hx) h hH hs
  case castore => exact z_asI_ok (g := fun x => x.toUInt32.toUInt16.toUInt32.toInt32) hc h hH hs
  case lastore => exact z_asL_ok h hH hs
  case aastore => exact z_asA_ok h hH hs
  case bastore =>
    have h : (z_asI (fun t => t == 101) (z_cutto (-128) 127) AH ast).or (z_asI (fun t => t == 100) (z_cutto 0 1) AH ast) = some (ast', AH') := h
    cases h1 : z_asI (fun t => t == 101) (z_cutto (-128) 127) AH ast with
    | some X =>
      rw [h1] at h
      cases h
      obtain ⟨st', P', g1, g2⟩ := z_asI_ok (g := fun x => x.toInt8.toInt32) hb h1 hH hs
      refine ⟨st', P', ?_, g2⟩
      show (z_as 101 (fun x => x.toInt8.toInt32) P st).or _ = _
      rw [g1]
      rfl
    | none =>
      rw [h1] at h
      obtain ⟨st', P', g1, g2⟩ := z_asI_ok (g := fun x => x &&& 1) hz h hH hs
      refine ⟨st', P', ?_, g2⟩
      show (z_as 101 (fun x => x.toInt8.toInt32) P st).or (z_as 100 (fun x => x &&& 1) P st) = _
      rw [z_asI_no (t' := 101) (by decide) hz h hH hs, g1]
      rfl
  all_goals (cases h)
end ZAWI
