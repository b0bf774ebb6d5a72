/-! The walk doesn't look at the far things; a run's last place. -/
section ZSET
def z_setS (G : z_Pg) (s : z_Ss) : z_Pg := (z_cod G, z_fld G, z_cs G, z_cls G, z_aan G, z_mna G, z_inv G, z_inf G, z_rty G, z_ini G, z_rcv G, z_fty G, z_fin G, z_ac G, z_nA G, s)
theorem z_fsuc_setS (G : z_Pg) (s : z_Ss) (md : Nat → Nat → Bool) (ns d : Nat) (S : z_as_) : z_fsuc (z_setS G s) md ns d S = z_fsuc G md ns d S := rfl
theorem z_cwk_setS (G : z_Pg) (s : z_Ss) (md : Nat → Nat → Bool) (ns : Nat) (Q : z_as_ → Option z_av → Bool) (at_ : Nat → Nat → Bool) (Es Ds : List z_ce) (us : List (Nat × Nat × Int)) : ∀ (f : Nat) (W : List (Nat × z_as_)), z_cwk (z_setS G s) md ns Q at_ Es Ds us f W = z_cwk G md ns Q at_ Es Ds us f W := by
  intro f
  induction f with
  | zero => intro W; cases W <;> rfl
  | succ f ih =>
    intro W
    cases W with
    | nil => rfl
    | cons x W =>
      unfold z_cwk
      rw [z_fsuc_setS]
      simp only [ih]
theorem z_cok_setS {G : z_Pg} {s : z_Ss} {md : Nat → Nat → Bool} {ns : Nat} {Q : z_as_ → Option z_av → Bool} {at_ : Nat → Nat → Bool} {Es Ds : List z_ce} {fu : Nat} {C : z_ce} (h : z_cok G md ns Q at_ Es Ds fu C = true) : z_cok (z_setS G s) md ns Q at_ Es Ds fu C = true := by
  unfold z_cok at h ⊢
  split at h
  · rename_i us hus
    rw [z_cwk_setS]
    exact h
  · cases h
theorem z_run_to {G : z_Pg} : ∀ (f d x : Nat) (q : z_S) (r : Option Value) (P' : z_H), z_run G f d x q = some (r, P') → ∃ q', z_To G d x q q' ∧ z_next G d x q' = some (.inl r) := by
  intro f
  induction f with
  | zero => intro d x q r P' h; cases h
  | succ f ih =>
    intro d x q r P' h
    unfold z_run at h
    split at h
    · cases h
    · rename_i r' hn
      cases h
      exact ⟨q, z_To_rf, hn⟩
    · rename_i q1 hn
      obtain ⟨q', h1, h2⟩ := ih d x q1 r P' h
      exact ⟨q', z_To_step hn h1, h2⟩
    · rename_i a hn
      split at h
      · rename_i o ho
        obtain ⟨q', h1, h2⟩ := ih _ _ _ _ _ h
        exact ⟨q', z_To_call hn ⟨f, ho⟩ h1, h2⟩
      · cases h
theorem z_next_end {G : z_Pg} {d x : Nat} {q : z_S} {v : Int32} (h : z_next G d x q = some (.inl (some (.int v)))) : ∃ i, z_cod G x q.1 = some i ∧ i.1 = .ireturn ∧ q.2.2.1 = [.int v] := by
  unfold z_next at h
  split at h
  · cases h
  · rename_i i hi
    split at h
    · split at h
      · split at h <;> cases h
      · split at h <;> cases h
    · split at h
      · rename_i r hr
        cases h
        refine ⟨i, hi, ?_⟩
        unfold z_ret at hr
        split at hr
        · split at hr <;> cases hr
        · rename_i e1 e2
          split at hr
          · split at hr
            · cases hr
              exact ⟨e1, e2⟩
            · cases hr
          · cases hr
        · split at hr <;> cases hr
        · rename_i e1 e2
          split at hr
          · split at hr
            · rename_i hA
              cases hr
              cases hA
            · cases hr
          · split at hr
            · rename_i hA
              cases hr
              cases hA
            · cases hr
          · cases hr
        · cases hr
      · split at h <;> cases h
/-- a value of an identity that a place tells -/
theorem z_idv {strs : z_Ss} {N : List Int} {al : Nat → Option Nat} {AH : List z_ac_} {P : z_H} {c a k : Nat} {A : z_ac_} {e : Nat} {lo hi : Int} (hH : z_gh strs N al AH P) (ha : al a = some c) (hA : AH[c]? = some A) (hn : A.2.2.1 = none) (he : A.2.2.2[e]? = some (.inl (k + 1, 0, 0, lo, hi))) : ∃ w, N[k + 1]? = some w ∧ lo ≤ w ∧ w ≤ hi := by
  obtain ⟨q, A', e1, e2, ⟨-, e3⟩, -⟩ := hH a c ha
  cases hA.symm.trans e2
  rw [hn] at e3
  obtain ⟨v, -, x, -, g1, g2, g3⟩ := z_all2.get e3 he
  rcases g3 with g3 | ⟨w, g3, g4, g5⟩
  · cases g3
  · have g4 : w + 0 ≤ x.toInt := g4
    have g5 : x.toInt ≤ w + 0 := g5
    exact ⟨w, g3, by have : lo ≤ x.toInt := g1; omega, by have : x.toInt ≤ hi := g2; omega⟩
end ZSET
