/-! A run to a place and a run to the end, from one start: the place lies on the way. -/
section ZTOGO
variable {G : z_Pg}
/-- a run to the end goes on from every place that the same start comes to -/
theorem yt_go {d x : Nat} {q q1 : z_S} {r : Option Value} {P' : z_H} (h : z_To G d x q q1) (k : z_Runs G d x q r P') : z_Runs G d x q1 r P' := by
  obtain ⟨n, h⟩ := h
  induction n generalizing q with
  | zero =>
    have h : q = q1 := h
    subst h
    exact k
  | succ n ih =>
    rcases h with h | ⟨c, h1, h2⟩ | ⟨y, as, rst, rv, P1, h1, h2, h3⟩
    · subst h
      exact k
    · obtain ⟨f, k⟩ := k
      cases f with
      | zero => cases k
      | succ f =>
        unfold z_run at k
        rw [h1] at k
        exact ih ⟨f, k⟩ h2
    · obtain ⟨f, k⟩ := k
      cases f with
      | zero => cases k
      | succ f =>
        unfold z_run at k
        rw [h1] at k
        dsimp only at k
        split at k
        · rename_i o h4
          obtain ⟨e1, e2⟩ := z_Runs_one h2 ⟨f, h4⟩
          subst e1
          subst e2
          exact ih ⟨f, k⟩ h3
        · cases k
/-- where nothing goes on, no run ends -/
theorem yt_no {d x : Nat} {q : z_S} {r : Option Value} {P' : z_H} (hn : z_next G d x q = none) (k : z_Runs G d x q r P') : False := by
  obtain ⟨f, k⟩ := k
  cases f with
  | zero => cases k
  | succ f =>
    unfold z_run at k
    rw [hn] at k
    cases k
/-- so what comes to a place where nothing goes on has no run to its end -/
theorem yt_stop {d x : Nat} {q : z_S} {Ψ : z_S → Prop} {r : Option Value} {P' : z_H} (h : z_Rh G d x Ψ q) (hn : ∀ q1, Ψ q1 → z_next G d x q1 = none) (k : z_Runs G d x q r P') : False := by
  obtain ⟨q1, h1, h2⟩ := h
  exact yt_no (hn q1 h2) (yt_go h1 k)
end ZTOGO
