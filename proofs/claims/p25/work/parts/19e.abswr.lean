section ZAWR
variable {strs : z_Ss} {N : List Int} {al : Nat → Option Nat}
/-- a cell is at most another -/
def z_wk (A A' : z_ac_) : Prop := A'.2.1 = A.2.1 ∧ ∀ N al q0, z_gc N al A q0 → z_gc N al A' q0
theorem z_wk.rf {A : z_ac_} : z_wk A A := ⟨rfl, fun _ _ _ h => h⟩
theorem z_wk.tr {A B C : z_ac_} (h : z_wk A B) (k : z_wk B C) : z_wk A C := ⟨k.1.trans h.1, fun _ _ _ g => k.2 _ _ _ (h.2 _ _ _ g)⟩
def z_jnr (lo hi : Int) (v : z_av) : Nat → List z_av → Option (List z_av)
  | _, [] => some []
  | k, t :: ts => match (if lo ≤ (k : Int) ∧ (k : Int) ≤ hi then z_jn t v else some t), z_jnr lo hi v (k + 1) ts with
    | some a, some b => some (a :: b)
    | _, _ => none
theorem z_jnr_old {lo hi : Int} {v : z_av} : ∀ {ts us : List z_av} {k : Nat} {vs : List Value}, z_jnr lo hi v k ts = some us → z_all2 (z_gv N al) ts vs → z_all2 (z_gv N al) us vs
  | [], _, _, [], h, _ => by cases h; trivial
  | t :: ts, us, k, w :: vs, h, ⟨h1, h2⟩ => by
    unfold z_jnr at h
    split at h
    · rename_i a b ha hb
      cases h
      refine ⟨?_, z_jnr_old hb h2⟩
      split at ha
      · exact z_jn_l ha h1
      · cases ha
        exact h1
    · cases h
  | [], _, _, _ :: _, _, h => h.elim
  | _ :: _, _, _, [], _, h => h.elim
theorem z_jnr_new {lo hi : Int} {v : z_av} {w : Value} : ∀ {ts us : List z_av} {k i : Nat} {vs : List Value}, z_jnr lo hi v k ts = some us → z_all2 (z_gv N al) ts vs → z_gv N al v w → lo ≤ ((k + i : Nat) : Int) → ((k + i : Nat) : Int) ≤ hi → z_all2 (z_gv N al) us (vs.set i w)
  | [], _, _, _, [], h, _, _, _, _ => by cases h; trivial
  | t :: ts, us, k, i, x :: vs, h, ⟨h1, h2⟩, hw, g1, g2 => by
    unfold z_jnr at h
    split at h
    · rename_i a b ha hb
      cases h
      cases i with
      | zero =>
        refine ⟨?_, z_jnr_old hb h2⟩
        rw [if_pos ⟨by simpa using g1, by simpa using g2⟩] at ha
        exact z_jn_r ha hw
      | succ i =>
        refine ⟨?_, z_jnr_new (i := i) hb h2 hw (by rw [show k + 1 + i = k + (i + 1) by omega]; exact g1) (by rw [show k + 1 + i = k + (i + 1) by omega]; exact g2)⟩
        split at ha
        · exact z_jn_l ha h1
        · cases ha
          exact h1
    · cases h
  | [], _, _, _, _ :: _, _, h, _, _, _ => h.elim
  | _ :: _, _, _, _, [], _, h, _, _, _ => h.elim
/-- a cell written at i, or not -/
def z_wka (tg : Nat → Bool) (v : z_av) (i : z_tk) (A : z_ac_) : Option z_ac_ := if tg A.1 && A.2.1.2 then match A.2.2.1 with
    | some n => if 0 ≤ z_lo i ∧ z_hi i < n then match A.2.2.2 with
        | [t] => (z_jn t v).map fun u => (A.1, A.2.1, some n, [u])
        | _ => none
      else none
    | none => if 0 ≤ z_lo i ∧ z_hi i < A.2.2.2.length then (z_jnr (z_lo i) (z_hi i) v 0 A.2.2.2).map fun w => (A.1, A.2.1, none, w) else none
  else none
theorem z_wka_old {tg : Nat → Bool} {v : z_av} {i : z_tk} {A A' : z_ac_} (h : z_wka tg v i A = some A') : z_wk A A' := by
  unfold z_wka at h
  split at h
  · split at h
    · rename_i n hn
      split at h
      · split at h
        · rename_i t ht
          obtain ⟨u, h1, h2⟩ := z_map_some h
          subst h2
          refine ⟨rfl, fun N al q0 hq => ?_⟩
          obtain ⟨g1, g2⟩ := hq
          rw [hn] at g2
          obtain ⟨g3, s, g4, g5⟩ := g2
          rw [ht] at g4
          cases g4
          exact ⟨g1, g3, u, rfl, fun w hw => z_jn_l h1 (g5 w hw)⟩
        · cases h
      · cases h
    · rename_i hn
      split at h
      · obtain ⟨u, h1, h2⟩ := z_map_some h
        subst h2
        refine ⟨rfl, fun N al q0 hq => ?_⟩
        obtain ⟨g1, g2⟩ := hq
        rw [hn] at g2
        exact ⟨g1, z_jnr_old h1 g2⟩
      · cases h
  · cases h
theorem z_wka_new {tg : Nat → Bool} {v : z_av} {i : z_tk} {A A' : z_ac_} {q : z_C} {k : Nat} {w : Value} (h : z_wka tg v i A = some A') (hA : z_gc N al A q) (hi : z_gi N i k) (hv : z_gv N al v w) : tg q.1 = true ∧ A.2.1.2 = true ∧ k < q.2.length ∧ z_gc N al A' (q.1, q.2.set k w) := by
  unfold z_wka at h
  split at h
  · rename_i ht
    rw [Bool.and_eq_true] at ht
    obtain ⟨g1, g2⟩ := hA
    refine ⟨by rw [← g1]; exact ht.1, ht.2, ?_⟩
    split at h
    · rename_i n hn
      split at h
      · rename_i hb
        split at h
        · rename_i t ht
          obtain ⟨u, h1, h2⟩ := z_map_some h
          subst h2
          rw [hn] at g2
          obtain ⟨g3, s, g4, g5⟩ := g2
          rw [ht] at g4
          cases g4
          refine ⟨by have := hi.2.1; omega, g1, by show (q.2.set k w).length = n; simpa using g3, u, rfl, fun w' hw => ?_⟩
          rcases List.mem_or_eq_of_mem_set hw with hw | hw
          · exact z_jn_l h1 (g5 w' hw)
          · subst hw
            exact z_jn_r h1 hv
        · cases h
      · cases h
    · rename_i hn
      split at h
      · rename_i hb
        obtain ⟨u, h1, h2⟩ := z_map_some h
        subst h2
        rw [hn] at g2
        refine ⟨by have := hi.2.1; have := g2.len; omega, g1, z_jnr_new h1 g2 hv (by have := hi.1; simpa using this) (by have := hi.2.1; simpa using this)⟩
      · cases h
  · cases h
def z_upd (f : z_ac_ → Option z_ac_) : List z_ac_ → List Nat → Option (List z_ac_)
  | AH, [] => some AH
  | AH, c :: cs => match AH[c]? with
    | some A => match f A with
      | some A' => z_upd f (AH.set c A') cs
      | none => none
    | none => none
theorem z_upd_ok {f : z_ac_ → Option z_ac_} (hf : ∀ {A A'}, f A = some A' → z_wk A A') {c' : Nat} : ∀ {cs : List Nat} {AH AH' : List z_ac_} {A : z_ac_}, z_upd f AH cs = some AH' → AH[c']? = some A → ∃ A', AH'[c']? = some A' ∧ z_wk A A' ∧ (c' ∈ cs → ∃ B B', z_wk A B ∧ f B = some B' ∧ z_wk B' A')
  | [], AH, AH', A, h, hA => by
    cases h
    exact ⟨A, hA, z_wk.rf, fun h => by cases h⟩
  | c :: cs, AH, AH', A, h, hA => by
    unfold z_upd at h
    split at h
    · rename_i A1 hA1
      split at h
      · rename_i A2 hA2
        by_cases hc : c' = c
        · subst hc
          have e : A1 = A := Option.some.inj (hA1.symm.trans hA)
          subst e
          have hlt : c' < AH.length := (List.getElem?_eq_some_iff.mp hA).1
          obtain ⟨A', h1, h2, h3⟩ := z_upd_ok hf (A := A2) h (by rw [List.getElem?_set_self hlt])
          exact ⟨A', h1, (hf hA2).tr h2, fun _ => ⟨A1, A2, z_wk.rf, hA2, h2⟩⟩
        · obtain ⟨A', h1, h2, h3⟩ := z_upd_ok hf (A := A) h (by rw [List.getElem?_set_ne (fun q => hc q.symm)]; exact hA)
          refine ⟨A', h1, h2, fun hm => h3 ?_⟩
          rcases List.mem_cons.mp hm with hm | hm
          · exact absurd hm hc
          · exact hm
      · cases h
    · cases h
/-- may it be written over? -/
def z_str (tg : Nat → Bool) (i : z_tk) (A : z_ac_) : Bool := tg A.1 && (A.2.1.2 && (A.2.1.1 && (A.2.2.1.isNone && (decide (z_lo i = z_hi i) && (decide (0 ≤ z_lo i) && decide (z_lo i < A.2.2.2.length))))))
def z_aw1 (tg : Nat → Bool) (v : z_av) (i : z_tk) (AH : List z_ac_) (c : Nat) : Option (List z_ac_) := match AH[c]? with
  | some A => if z_str tg i A then some (AH.set c (A.1, A.2.1, none, A.2.2.2.set (z_lo i).toNat v)) else none
  | none => none
def z_awa (tg : Nat → Bool) (v : z_av) (i : z_tk) (AH : List z_ac_) (cs : List Nat) : Option (List z_ac_) := match cs with
  | [c] => match z_aw1 tg v i AH c with
    | some X => some X
    | none => z_upd (z_wka tg v i) AH cs
  | _ => z_upd (z_wka tg v i) AH cs
/-- a heap after a write -/
theorem z_gh_set {AH AH' : List z_ac_} {P : z_H} {a : Nat} {q' : z_C} (hH : z_gh strs N al AH P) (ha : a < z_far) (hP : a < P.length) (hx : ∀ c' A, AH[c']? = some A → ∃ A', AH'[c']? = some A' ∧ A'.2.1 = A.2.1 ∧ (∀ b q0, b ≠ a → al b = some c' → z_gc N al A q0 → z_gc N al A' q0) ∧ (al a = some c' → z_gc N al A' q')) : z_gh strs N al AH' (P.set a q') := by
  intro b c hb
  obtain ⟨q, A, h1, h2, h3, h4, h5⟩ := hH b c hb
  obtain ⟨A', g1, g2, g3, g4⟩ := hx c A h2
  by_cases hba : b = a
  · subst hba
    refine ⟨q', A', ?_, g1, g4 hb, by rw [g2]; exact h4, by rw [g2]; exact h5⟩
    unfold z_lk
    rw [if_pos ha, List.getElem?_set_self hP]
  · refine ⟨q, A', ?_, g1, g3 b q hba hb h3, by rw [g2]; exact h4, by rw [g2]; exact h5⟩
    unfold z_lk at h1 ⊢
    split
    · rename_i hlt
      rw [if_pos hlt] at h1
      rw [List.getElem?_set_ne (fun e => hba e.symm)]
      exact h1
    · rename_i hlt
      rw [if_neg hlt] at h1
      exact h1
theorem z_awa_ok {tg : Nat → Bool} {v : z_av} {i : z_tk} {AH AH' : List z_ac_} {cs : List Nat} {P : z_H} {a c k : Nat} {w : Value} (h : z_awa tg v i AH cs = some AH') (hH : z_gh strs N al AH P) (hac : al a = some c) (hc : c ∈ cs) (hi : z_gi N i k) (hv : z_gv N al v w) :
    ∃ q, P[a]? = some q ∧ tg q.1 = true ∧ k < q.2.length ∧ z_gh strs N al AH' (P.set a (q.1, q.2.set k w)) := by
  obtain ⟨q, A, e1, e2, e3, e4, e5⟩ := hH a c hac
  have weak : z_upd (z_wka tg v i) AH cs = some AH' → ∃ q, P[a]? = some q ∧ tg q.1 = true ∧ k < q.2.length ∧ z_gh strs N al AH' (P.set a (q.1, q.2.set k w)) := by
    intro h
    obtain ⟨A', g1, g2, g3⟩ := z_upd_ok z_wka_old h e2
    obtain ⟨B, B', g4, g5, g6⟩ := g3 hc
    obtain ⟨g7, g8, g9, g10⟩ := z_wka_new g5 (g4.2 _ _ _ e3) hi hv
    have hfar : a < z_far := e5 (by rw [← g4.1]; exact g8)
    have hPa : P[a]? = some q := by
      unfold z_lk at e1
      rw [if_pos hfar] at e1
      exact e1
    refine ⟨q, hPa, g7, g9, z_gh_set hH hfar (List.getElem?_eq_some_iff.mp hPa).1 fun c' C hC => ?_⟩
    obtain ⟨C', k1, k2, -⟩ := z_upd_ok z_wka_old h hC
    refine ⟨C', k1, k2.1, fun b q0 _ _ k3 => k2.2 _ _ _ k3, fun hc' => ?_⟩
    have : c = c' := Option.some.inj (hac.symm.trans hc')
    subst this
    rw [g1] at k1
    cases k1
    exact g6.2 _ _ _ g10
  unfold z_awa at h
  split at h
  · rename_i c0
    split at h
    · rename_i X hX
      cases h
      rw [List.mem_singleton] at hc
      subst hc
      unfold z_aw1 at hX
      rw [e2] at hX
      dsimp only at hX
      split at hX
      · rename_i hs
        cases hX
        unfold z_str at hs
        simp only [Bool.and_eq_true, decide_eq_true_eq, Option.isNone_iff_eq_none] at hs
        obtain ⟨s1, s2, s3, s4, s5, s6, s7⟩ := hs
        have hfar : a < z_far := e5 s2
        have hPa : P[a]? = some q := by
          unfold z_lk at e1
          rw [if_pos hfar] at e1
          exact e1
        obtain ⟨e6, e7⟩ := e3
        rw [s4] at e7
        have hk : (z_lo i).toNat = k := by have := hi.1; have := hi.2.1; omega
        refine ⟨q, hPa, by rw [← e6]; exact s1, by have := e7.len; omega, z_gh_set hH hfar (List.getElem?_eq_some_iff.mp hPa).1 fun c' C hC => ?_⟩
        by_cases hcc : c' = c
        · subst hcc
          have : A = C := Option.some.inj (e2.symm.trans hC)
          subst this
          have hlt : c' < AH.length := (List.getElem?_eq_some_iff.mp e2).1
          refine ⟨_, List.getElem?_set_self hlt, rfl, fun b q0 hb hbc _ => absurd (e4 s3 b hbc) hb, fun _ => ⟨e6, ?_⟩⟩
          show z_all2 (z_gv N al) (A.2.2.2.set (z_lo i).toNat v) (q.2.set k w)
          rw [hk]
          exact e7.set hv
        · refine ⟨C, by rw [List.getElem?_set_ne (fun e => hcc e.symm)]; exact hC, rfl, fun _ _ _ _ k3 => k3, fun hc' => absurd (Option.some.inj (hc'.symm.trans hac)) hcc⟩
      · cases hX
    · exact weak h
  · exact weak h
end ZAWR
