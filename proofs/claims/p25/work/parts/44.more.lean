/-! arraycopy between rows told in one, a new cell among others of its kind, longs held against 0. -/
section ZMOR
variable {strs : z_Ss} {N : List Int} {al : Nat → Option Nat} {W : z_Ws}
def z_cps (k : Nat) (A : z_ac_) : Option z_av := bif Nat.beq A.1 103 && A.2.1.2 then (match A.2.2.1, A.2.2.2 with
  | some m, [.inl t] => bif Nat.ble k m then some (.inl t) else none
  | _, _ => none) else none
theorem z_cps_ok {k : Nat} {A : z_ac_} {t : z_av} {q : z_C} (h : z_cps k A = some t) (hA : z_gc N al A q) : q.1 = 103 ∧ A.2.1.2 = true ∧ k ≤ q.2.length ∧ (∀ v ∈ q.2, z_gv N al t v ∧ z_isI v = true) := by
  obtain ⟨h1, h2⟩ := hA
  unfold z_cps at h
  cases hb : (Nat.beq A.1 103 && A.2.1.2) with
  | false => rw [hb] at h; cases h
  | true =>
    rw [hb] at h
    rw [Bool.and_eq_true] at hb
    have h : (match A.2.2.1, A.2.2.2 with | some m, [.inl t] => (bif Nat.ble k m then some (.inl t) else none) | _, _ => none) = some t := h
    split at h
    · rename_i m u e1 e2
      cases hm : Nat.ble k m with
      | false => rw [hm] at h; cases h
      | true =>
        rw [hm] at h
        cases h
        rw [e1] at h2
        obtain ⟨h3, s, h4, h5⟩ := h2
        rw [e2] at h4
        cases h4
        exact ⟨h1.symm.trans (Nat.eq_of_beq_eq_true hb.1), hb.2, by rw [h3]; exact Nat.le_of_ble_eq_true hm, fun v hv => ⟨h5 v hv, z_akI_ok rfl (h5 v hv)⟩⟩
    · cases h
def z_cpd (v : z_av) (k : Nat) (A : z_ac_) : Option z_ac_ := bif Nat.beq A.1 103 && A.2.1.2 then (match A.2.2.1, A.2.2.2 with
  | some m, [t] => bif Nat.ble k m then (z_jn t v).map fun u => (A.1, A.2.1, some m, [u]) else none
  | _, _ => none) else none
theorem z_cpd_old {v : z_av} {k : Nat} {A A' : z_ac_} (h : z_cpd v k A = some A') : z_wk A A' := by
  unfold z_cpd at h
  cases hb : (Nat.beq A.1 103 && A.2.1.2) with
  | false => rw [hb] at h; cases h
  | true =>
    rw [hb] at h
    have h : (match A.2.2.1, A.2.2.2 with | some m, [t] => (bif Nat.ble k m then (z_jn t v).map fun u => (A.1, A.2.1, some m, [u]) else none) | _, _ => none) = some A' := h
    split at h
    · rename_i m t e1 e2
      cases hm : Nat.ble k m with
      | false => rw [hm] at h; cases h
      | true =>
        rw [hm] at h
        obtain ⟨u, h1, h2⟩ := z_map_some h
        subst h2
        refine ⟨rfl, fun N al q0 hq => ?_⟩
        obtain ⟨g1, g2⟩ := hq
        rw [e1] at g2
        obtain ⟨g3, s, g4, g5⟩ := g2
        rw [e2] at g4
        cases g4
        exact ⟨g1, g3, u, rfl, fun w hw => z_jn_l h1 (g5 w hw)⟩
    · cases h
theorem z_cpd_new {v : z_av} {k : Nat} {A A' : z_ac_} {q : z_C} {ws : List Value} (h : z_cpd v k A = some A') (hA : z_gc N al A q) (hl : ws.length = q.2.length) (hw : ∀ w ∈ ws, w ∈ q.2 ∨ z_gv N al v w) : q.1 = 103 ∧ A.2.1.2 = true ∧ k ≤ q.2.length ∧ z_gc N al A' (103, ws) := by
  unfold z_cpd at h
  obtain ⟨g1, g2⟩ := hA
  cases hb : (Nat.beq A.1 103 && A.2.1.2) with
  | false => rw [hb] at h; cases h
  | true =>
    rw [hb] at h
    rw [Bool.and_eq_true] at hb
    have h : (match A.2.2.1, A.2.2.2 with | some m, [t] => (bif Nat.ble k m then (z_jn t v).map fun u => (A.1, A.2.1, some m, [u]) else none) | _, _ => none) = some A' := h
    split at h
    · rename_i m t e1 e2
      cases hm : Nat.ble k m with
      | false => rw [hm] at h; cases h
      | true =>
        rw [hm] at h
        obtain ⟨u, h1, h2⟩ := z_map_some h
        subst h2
        rw [e1] at g2
        obtain ⟨g3, s, g4, g5⟩ := g2
        rw [e2] at g4
        cases g4
        have h103 := Nat.eq_of_beq_eq_true hb.1
        refine ⟨g1.symm.trans h103, hb.2, by rw [g3]; exact Nat.le_of_ble_eq_true hm, h103, hl.trans g3, u, rfl, fun w hw' => ?_⟩
        rcases hw w hw' with hw' | hw'
        · exact z_jn_l h1 (g5 w hw')
        · exact z_jn_r h1 hw'
    · cases h
/-- System.arraycopy between rows of ints told in one each -/
def z_acy3 (W : z_Ws) (AH : List z_ac_) : List z_av → Option (List z_av × List z_ac_)
  | .inl n :: .inl dp :: .inr (.inr (false, cb)) :: .inl sp :: .inr (.inr (false, ca)) :: st => if z_lo n = z_hi n ∧ z_lo dp = z_hi dp ∧ z_lo sp = z_hi sp ∧ 0 ≤ z_lo n ∧ 0 ≤ z_lo dp ∧ 0 ≤ z_lo sp ∧ (cb.all fun c => z_wall W c) = true then
      (match z_rdj AH (z_cps ((z_lo sp).toNat + (z_lo n).toNat)) ca with
      | some v => (z_upd (z_cpd v ((z_lo dp).toNat + (z_lo n).toNat)) AH cb).map fun X => (st, X)
      | none => none) else none
  | _ => none
theorem z_acy3_ok {AH AH' : List z_ac_} {P : z_H} {ast ast' : List z_av} {st : List Value} (h : z_acy3 W AH ast = some (ast', AH')) (hH : z_gh strs N al AH P) (hs : z_all2 (z_gv N al) ast st) : ∃ st' P', z_acp P st = some (st', P') ∧ z_all2 (z_gv N al) ast' st' ∧ z_gh strs N al AH' P' ∧ z_same W al P P' ∧ P'.length = P.length := by
  unfold z_acy3 at h
  split at h
  rotate_left
  · cases h
  rename_i n dp cb sp ca ast0
  split at h
  rotate_left
  · cases h
  rename_i hc
  obtain ⟨c1, c2, c3, c4, c5, c6, c7⟩ := hc
  split at h
  rotate_left
  · cases h
  rename_i v hv
  obtain ⟨X, h1, h2⟩ := z_map_some h
  cases h2
  match st, hs with
  | st1 :: st2 :: st3 :: st4 :: st5 :: st, hsall@⟨⟨n', e1, hn⟩, ⟨dp', e2, hdp⟩, hb, ⟨sp', e3, hsp⟩, ha, hr⟩ =>
    rcases hb with ⟨-, q⟩ | ⟨b, cb', e4, hb, hbm⟩
    · cases q
    rcases ha with ⟨-, q⟩ | ⟨a, ca', e5, ha, ham⟩
    · cases q
    obtain ⟨q, A, g1, g2, g3, g4, g5⟩ := hH a ca' ha
    obtain ⟨A', t, k1, k2, k3⟩ := z_rdj_ok (N := N) (al := al) hv ham
    cases g2.symm.trans k1
    obtain ⟨m1, m2, m3, m4⟩ := z_cps_ok k2 g3
    obtain ⟨w, B, j1, j2, j3, j4, j5⟩ := hH b cb' hb
    obtain ⟨B', u1, u2, u3⟩ := z_upd_ok (fun hx => z_cpd_old hx) h1 j2
    obtain ⟨C, C', w1, w2, w3⟩ := u3 hbm
    have en : n'.toInt = z_lo n := by have := hn.1; have := hn.2.1; omega
    have edp : dp'.toInt = z_lo dp := by have := hdp.1; have := hdp.2.1; omega
    have esp : sp'.toInt = z_lo sp := by have := hsp.1; have := hsp.2.1; omega
    have tn : n'.toNatClampNeg = (z_lo n).toNat := by rw [← en]; rfl
    have tdp : dp'.toNatClampNeg = (z_lo dp).toNat := by rw [← edp]; rfl
    have tsp : sp'.toNatClampNeg = (z_lo sp).toNat := by rw [← esp]; rfl
    have hel : ∀ x ∈ z_cpy w.2 q.2 sp'.toNatClampNeg dp'.toNatClampNeg n'.toNatClampNeg, x ∈ w.2 ∨ z_gv N al v x := by
      intro x hx
      unfold z_cpy at hx
      obtain ⟨k, hk, rfl⟩ := List.mem_map.mp hx
      have hk := List.mem_range.mp hk
      split
      · rename_i hin
        right
        rw [tsp, tdp] at *
        have hlt : (z_lo sp).toNat + (k - (z_lo dp).toNat) < q.2.length := by omega
        rw [List.getD_eq_getElem?_getD, List.getElem?_eq_getElem hlt]
        exact k3 _ (m4 _ (List.getElem_mem hlt)).1
      · left
        rw [List.getD_eq_getElem?_getD, List.getElem?_eq_getElem hk]
        exact List.getElem_mem hk
    obtain ⟨n1, n2, n3, n4⟩ := z_cpd_new (ws := z_cpy w.2 q.2 sp'.toNatClampNeg dp'.toNatClampNeg n'.toNatClampNeg) w2 (w1.2 _ _ _ j3) (by simp [z_cpy]) hel
    have hfa : a < z_far := g5 m2
    have hfb : b < z_far := j5 (by rw [← w1.1]; exact n2)
    have hPa : P[a]? = some q := by
      unfold z_lk at g1
      rw [if_pos hfa] at g1
      exact g1
    have hPb : P[b]? = some w := by
      unfold z_lk at j1
      rw [if_pos hfb] at j1
      exact j1
    subst e1; subst e2; subst e3; subst e4; subst e5
    have hz : z_acp P (.int n' :: .int dp' :: .ref b :: .int sp' :: .ref a :: st) = some (st, P.set b (103, z_cpy w.2 q.2 sp'.toNatClampNeg dp'.toNatClampNeg n'.toNatClampNeg)) := by
      unfold z_acp
      dsimp only
      rw [hPa, hPb]
      dsimp only
      rw [if_pos ⟨m1, n1, by omega, by omega, by omega, by rw [tn, tsp]; exact m3, by rw [tn, tdp]; exact n3, List.all_eq_true.mpr fun x hx => (m4 x hx).2⟩]
    obtain ⟨s1, s2⟩ := z_acp_same (W := W) c7 hz hH hsall
    refine ⟨st, _, hz, hr, ?_, s1, s2⟩
    refine z_gh_set hH hfb (List.getElem?_eq_some_iff.mp hPb).1 fun c' C0 hC => ?_
    obtain ⟨C2, x1, x2, -⟩ := z_upd_ok (fun hx => z_cpd_old hx) h1 hC
    refine ⟨C2, x1, x2.1, fun b' q0 _ _ k => x2.2 _ _ _ k, fun hc' => ?_⟩
    cases hb.symm.trans hc'
    cases u1.symm.trans x1
    exact w3.2 _ _ _ n4
/-- a value stands for what a place says, without a name -/
def z_dvb : Value → z_av → Bool
  | .int x, .inl t => Nat.beq t.1 0 && (decide (z_lo t ≤ x.toInt) && decide (x.toInt ≤ z_hi t))
  | .long x, .inr (.inl t) => Nat.beq t.1 0 && (decide (z_lo t ≤ x.toInt) && decide (x.toInt ≤ z_hi t))
  | .null, .inr (.inr t) => t.1
  | _, _ => false
theorem z_dvb_ok : ∀ {v : Value} {t : z_av}, z_dvb v t = true → z_gv N al t v := by
  intro v t h
  unfold z_dvb at h
  split at h
  · simp only [Bool.and_eq_true, decide_eq_true_eq] at h
    exact ⟨_, rfl, h.2.1, h.2.2, Or.inl (Nat.eq_of_beq_eq_true h.1)⟩
  · simp only [Bool.and_eq_true, decide_eq_true_eq] at h
    exact ⟨_, rfl, h.2.1, h.2.2, Or.inl (Nat.eq_of_beq_eq_true h.1)⟩
  · exact Or.inl ⟨rfl, h⟩
  · cases h
def z_dvl : List Value → List z_av → Bool
  | [], [] => true
  | v :: vs, t :: ts => z_dvb v t && z_dvl vs ts
  | _, _ => false
theorem z_dvl_ok : ∀ {vs : List Value} {ts : List z_av}, z_dvl vs ts = true → z_all2 (z_gv N al) ts vs
  | [], [], _ => trivial
  | v :: vs, t :: ts, h => by
    unfold z_dvl at h
    rw [Bool.and_eq_true] at h
    exact ⟨z_dvb_ok h.1, z_dvl_ok h.2⟩
  | [], _ :: _, h => by cases h
  | _ :: _, [], h => by cases h
/-- a new object, told in one with others: cls gives for a class its cell -/
def z_nws (G : z_Pg) (W : z_Ws) (cc : Nat → Option Nat) (S : z_as_) : Instr → Option z_as_
  | .new n => match z_cls G S.1.1 n with
    | some q => match cc q.1 with
      | some c => match S.2.2.1[c]? with
        | some A => if A.1 = q.1 ∧ q.1 < 99 ∧ A.2.1.1 = false ∧ A.2.2.1 = none ∧ z_dvl q.2 A.2.2.2 = true ∧ S.2.2.2.2.2 < z_far ∧ z_wall W c = true ∧ S.1.2.2.2.2.1 + 1 ≤ z_mc G S.1.1 ∧ S.1.2.2.2.2.2 + q.2.length ≤ z_ms G S.1.1 then some ((S.1.1, S.1.2.1 + 3, S.1.2.2.1, .inr (.inr (false, [c])) :: S.1.2.2.2.1, S.1.2.2.2.2.1 + 1, S.1.2.2.2.2.2 + q.2.length), S.2.1, S.2.2.1, S.2.2.2.1, S.2.2.2.2.1, S.2.2.2.2.2 + 1) else none
        | none => none
      | none => none
    | none => none
  | _ => none
def z_alu (al : Nat → Option Nat) (p c : Nat) (a : Nat) : Option Nat := if a = p then some c else al a
theorem z_nws_ok {G : z_Pg} {cc : Nat → Option Nat} {ns : Nat} {S S' : z_as_} {ins : Instr} {f : z_Fr} {rest : List z_Fr} {P : z_H} (h : z_nws G W cc S ins = some S') (hS : z_gs (z_strs G) N al S f rest P) (hf : z_fr ns al) :
    ∃ q, z_step G f.1 ins 3 f.2.1 f.2.2.1 f.2.2.2.1 P f.2.2.2.2.1 f.2.2.2.2.2 = some q ∧ ∃ al', (∀ a c, al a = some c → al' a = some c) ∧ (∀ a c, al' a = some c → al a = some c ∨ z_wall W c = true) ∧ z_gs (z_strs G) N al' S' (f.1, q.1, q.2.1, q.2.2.1, q.2.2.2.2.1, q.2.2.2.2.2) rest q.2.2.2.1 ∧ z_same W al P q.2.2.2.1 ∧ q.2.2.2.1.length = P.length + 1 ∧ S'.2.2.2.2.2 = S.2.2.2.2.2 + 1 := by
  obtain ⟨⟨a1, a2, a3, a4, a5, a6⟩, b1, b2, b3, b4, b5⟩ := id hS
  unfold z_nws at h
  split at h
  rotate_left
  · cases h
  rename_i n
  split at h
  rotate_left
  · cases h
  rename_i q hq
  split at h
  rotate_left
  · cases h
  rename_i c hcc
  split at h
  rotate_left
  · cases h
  rename_i A hA
  split at h
  rotate_left
  · cases h
  rename_i hc
  cases h
  obtain ⟨c1, c2, c3, c4, c5, c6, c7, c8, c9⟩ := hc
  have hlt : P.length < z_far := Nat.lt_of_le_of_lt b5 c6
  have hnone : al P.length = none := by
    cases hx : al P.length with
    | none => rfl
    | some d =>
      obtain ⟨q', A', g1, -⟩ := b2 _ _ hx
      unfold z_lk at g1
      rw [if_pos hlt, List.getElem?_eq_none (Nat.le_refl _)] at g1
      cases g1
  have hext : ∀ a d, al a = some d → z_alu al P.length c a = some d := fun a d had => by
    unfold z_alu
    rw [if_neg (fun e => by rw [e, hnone] at had; cases had)]
    exact had
  have hle : z_le N N al (z_alu al P.length c) := ⟨⟨[], by simp⟩, hext⟩
  rw [a1] at hq
  refine ⟨(f.2.1 + 3, f.2.2.1, .ref P.length :: f.2.2.2.1, P ++ [q], f.2.2.2.2.1 + 1, f.2.2.2.2.2 + q.2.length), ?_, z_alu al P.length c, hext, fun a d had => ?_, ⟨⟨a1, by show S.1.2.1 + 3 = _; rw [a2], a3.mono hle, ⟨Or.inr ⟨P.length, c, rfl, by unfold z_alu; rw [if_pos rfl], List.mem_singleton_self _⟩, a4.mono fun _ _ k => k.mono hle⟩, by show _ + 1 = _; rw [a5], by show _ + q.2.length = _; rw [a6]⟩, b1.mono fun _ _ k => k.mono hle, ?_, b3, b4, by show (P ++ [q]).length ≤ _; simp; omega⟩, z_same_app b2, by simp, rfl⟩
  · unfold z_step
    show (match z_mk (z_cls G f.1) (z_aan G f.1) (z_mna G f.1) P (.new n) f.2.2.2.1 with | some q => z_bump G f.1 _ | none => _) = _
    have hm : z_mk (z_cls G f.1) (z_aan G f.1) (z_mna G f.1) P (.new n) f.2.2.2.1 = some (.ref P.length :: f.2.2.2.1, P ++ [q], 1, q.2.length) := by
      show (match z_cls G f.1 n with | some q => _ | none => none) = _
      rw [hq]
      dsimp only
      rw [if_pos ⟨c2, hlt⟩]
    rw [hm]
    dsimp only
    unfold z_bump
    rw [if_pos]
    rw [a1, a5, a6] at *
    exact ⟨c8, c9⟩
  · unfold z_alu at had
    split at had
    · cases had
      exact Or.inr c7
    · exact Or.inl had
  · intro a d had
    unfold z_alu at had
    split at had
    · rename_i hap
      cases had
      subst hap
      refine ⟨q, A, ?_, hA, ⟨c1, ?_⟩, (fun hs => by rw [c3] at hs; cases hs), fun _ => hlt⟩
      · unfold z_lk
        rw [if_pos hlt]
        simp
      · rw [c4]
        exact z_dvl_ok c5
    · rename_i hap
      obtain ⟨q', A', g1, g2, g3, g4, g5⟩ := b2 a d had
      refine ⟨q', A', ?_, g2, g3.mono hle, fun hs b hb => ?_, g5⟩
      · unfold z_lk at g1 ⊢
        split
        · rename_i hl
          rw [if_pos hl] at g1
          rw [List.getElem?_append_left (List.getElem?_eq_some_iff.mp g1).1]
          exact g1
        · rename_i hl
          rw [if_neg hl] at g1
          exact g1
      · unfold z_alu at hb
        split at hb
        · cases hb
          cases hA.symm.trans g2
          rw [c3] at hs
          cases hs
        · exact g4 hs b hb
/-- a long held against 0, and the branch behind it -/
def z_lzq (S : z_as_) (x : z_tk) (r : List z_av) (tE tN : Nat) : List z_as_ := (bif z_ile (z_lo x) 0 && z_ile 0 (z_hi x) then [z_nar x (0, 0) (z_go S tE S.1.2.2.1 r)] else []) ++ ((bif z_ile (z_lo x) (-1) then [z_nar x (z_lo x, -1) (z_go S tN S.1.2.2.1 r)] else []) ++ (bif z_ile 1 (z_hi x) then [z_nar x (1, z_hi x) (z_go S tN S.1.2.2.1 r)] else []))
def z_lzc (S : z_as_) (x : z_tk) (r : List z_av) (pc : Nat) (off : Int) : ClassFile.Cond → Option (List z_as_)
  | .eq => (z_tg (pc + 1) off).map fun t => z_lzq S x r t (pc + 1 + 3)
  | .ne => (z_tg (pc + 1) off).map fun t => z_lzq S x r (pc + 1 + 3) t
  | _ => none
def z_lz (S : z_as_) (i2 : Option (Instr × Nat)) : Instr → Option (List z_as_)
  | .lcmp => match S.1.2.2.2.1, i2 with
    | .inr (.inl y) :: .inr (.inl x) :: r, some (.ifCond c off, _) => bif z_ile (z_lo y) 0 && (z_ile 0 (z_lo y) && (z_ile (z_hi y) 0 && z_ile 0 (z_hi y))) then z_lzc S x r S.1.2.1 off c else none
    | _, _ => none
  | _ => none
theorem z_lzq_ok {S : z_as_} {x : z_tk} {b : Int} {r : List z_av} {r' : List Value} {tE tN : Nat} {f : z_Fr} {rest : List z_Fr} {P : z_H} (hx : z_gi N x b) (hS : z_gs strs N al S f rest P) (hr : z_all2 (z_gv N al) r r') : ∃ S' ∈ z_lzq S x r tE tN, z_gs strs N al S' (f.1, if b = 0 then tE else tN, f.2.2.1, r', f.2.2.2.2.1, f.2.2.2.2.2) rest P ∧ S'.2.2.2.2.2 = S.2.2.2.2.2 := by
  have tr : ∀ p q : Int, p ≤ q → z_ile p q = true := fun p q h => by unfold z_ile; exact decide_eq_true h
  unfold z_lzq
  obtain ⟨x1, x2, -⟩ := id hx
  by_cases hb : b = 0
  · refine ⟨z_nar x (0, 0) (z_go S tE S.1.2.2.1 r), List.mem_append.mpr (Or.inl ?_), ?_, z_nar_B⟩
    · rw [tr _ _ (by omega), tr _ _ (by omega)]
      exact List.mem_singleton_self _
    · rw [if_pos hb]
      exact z_nar_gs hx (by show (0 : Int) ≤ b; omega) (by show b ≤ 0; omega) (z_go_gs hS hS.1.2.2.1 hr)
  · by_cases hn : b ≤ -1
    · refine ⟨z_nar x (z_lo x, -1) (z_go S tN S.1.2.2.1 r), List.mem_append.mpr (Or.inr (List.mem_append.mpr (Or.inl ?_))), ?_, z_nar_B⟩
      · rw [tr _ _ (by omega)]
        exact List.mem_singleton_self _
      · rw [if_neg hb]
        exact z_nar_gs hx x1 hn (z_go_gs hS hS.1.2.2.1 hr)
    · refine ⟨z_nar x (1, z_hi x) (z_go S tN S.1.2.2.1 r), List.mem_append.mpr (Or.inr (List.mem_append.mpr (Or.inr ?_))), ?_, z_nar_B⟩
      · rw [tr _ _ (by omega)]
        exact List.mem_singleton_self _
      · rw [if_neg hb]
        exact z_nar_gs hx (by show (1 : Int) ≤ b; omega) x2 (z_go_gs hS hS.1.2.2.1 hr)
theorem z_lg0 {b a : Int64} (ha : a.toInt = 0) : (lg_cmp b a = 0) ↔ b.toInt = 0 := by
  have hlt : (b > a) ↔ a.toInt < b.toInt := Int64.lt_iff_toInt_lt
  have heq : (b = a) ↔ b.toInt = a.toInt := ⟨fun h => by rw [h], fun h => Int64.toInt_inj.mp h⟩
  unfold lg_cmp
  split
  · rename_i h
    rw [hlt] at h
    exact ⟨fun q => absurd q (by decide), fun q => by omega⟩
  split
  · rename_i h
    rw [heq] at h
    exact ⟨fun _ => by omega, fun _ => rfl⟩
  · rename_i h1 h2
    rw [heq] at h2
    exact ⟨fun q => absurd q (by decide), fun q => by omega⟩
theorem z_lz_ok {S : z_as_} {ins : Instr} {i2 : Option (Instr × Nat)} {Ss : List z_as_} {f : z_Fr} {rest : List z_Fr} {P : z_H} (h : z_lz S i2 ins = some Ss) (hS : z_gs strs N al S f rest P) :
    ins = .lcmp ∧ ∃ c off n u st st2 t, i2 = some (.ifCond c off, n) ∧ z_pure .lcmp f.2.2.2.1 = some (.int u :: st) ∧ z_jmp (.ifCond c off) (f.2.1 + 1) (.int u :: st) = some (t, st2) ∧ ∃ S' ∈ Ss, z_gs strs N al S' (f.1, t, f.2.2.1, st2, f.2.2.2.2.1, f.2.2.2.2.2) rest P ∧ S'.2.2.2.2.2 = S.2.2.2.2.2 := by
  unfold z_lz at h
  split at h
  rotate_left
  · cases h
  split at h
  rotate_left
  · cases h
  rename_i y x r c off n hst
  cases hb : (z_ile (z_lo y) 0 && (z_ile 0 (z_lo y) && (z_ile (z_hi y) 0 && z_ile 0 (z_hi y)))) with
  | false => rw [hb] at h; cases h
  | true =>
    rw [hb] at h
    unfold z_ile at hb
    simp only [Bool.and_eq_true, decide_eq_true_eq] at hb
    have a4 := hS.1.2.2.2.1
    have hpc := hS.1.2.1
    rw [hst] at a4
    generalize hv : f.2.2.2.1 = vs at a4
    match vs, a4 with
    | _ :: _ :: st, ⟨⟨a, e1, ha⟩, ⟨b, e2, hx⟩, hr⟩ =>
      subst e1; subst e2
      have ha0 : a.toInt = 0 := by have := ha.1; have := ha.2.1; omega
      have hlg := z_lg0 (b := b) ha0
      have h : z_lzc S x r S.1.2.1 off c = some Ss := h
      rw [hpc] at h
      refine ⟨rfl, c, off, n, lg_cmp b a, st, st, ?_⟩
      cases c
      case eq =>
        obtain ⟨t, h1, h2⟩ := z_map_some h
        subst h2
        obtain ⟨S', g1, g2, g3⟩ := z_lzq_ok (tE := t) (tN := f.2.1 + 1 + 3) hx hS hr
        refine ⟨if b.toInt = 0 then t else f.2.1 + 1 + 3, rfl, rfl, ?_, S', g1, g2, g3⟩
        show (z_tg (f.2.1 + 1) off).map (fun t => (if z_cmp .eq (lg_cmp b a) 0 then t else f.2.1 + 1 + 3, st)) = _
        rw [h1]
        show some ((if decide (lg_cmp b a = 0) = true then t else f.2.1 + 1 + 3, st)) = _
        by_cases hz : b.toInt = 0
        · rw [if_pos (decide_eq_true (hlg.mpr hz)), if_pos hz]
        · rw [if_neg (fun q => hz (hlg.mp (of_decide_eq_true q))), if_neg hz]
      case ne =>
        obtain ⟨t, h1, h2⟩ := z_map_some h
        subst h2
        obtain ⟨S', g1, g2, g3⟩ := z_lzq_ok (tE := f.2.1 + 1 + 3) (tN := t) hx hS hr
        refine ⟨if b.toInt = 0 then f.2.1 + 1 + 3 else t, rfl, rfl, ?_, S', g1, g2, g3⟩
        show (z_tg (f.2.1 + 1) off).map (fun t => (if z_cmp .ne (lg_cmp b a) 0 then t else f.2.1 + 1 + 3, st)) = _
        rw [h1]
        show some ((if decide (lg_cmp b a ≠ 0) = true then t else f.2.1 + 1 + 3, st)) = _
        by_cases hz : b.toInt = 0
        · rw [if_neg (fun q => (of_decide_eq_true q) (hlg.mpr hz)), if_pos hz]
        · have hq : decide (lg_cmp b a ≠ 0) = true := decide_eq_true fun q => hz (hlg.mp q)
          rw [if_pos hq, if_neg hz]
      all_goals cases h
end ZMOR
