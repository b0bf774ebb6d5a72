/-! Runs of the picture, put together from their ends; runs of a pile of frames. -/
section ZRUNS
variable {G : z_Pg}
theorem z_run_mono : ∀ {f d x : Nat} {q : z_S} {o : Option Value × z_H}, z_run G f d x q = some o → z_run G (f + 1) d x q = some o := by
  intro f
  induction f with
  | zero => intro d x q o h; cases h
  | succ f ih =>
    intro d x q o h
    unfold z_run at h ⊢
    split at h
    · cases h
    · exact h
    · exact ih h
    · split at h
      · rename_i o1 h1
        rw [ih h1]
        exact ih h
      · cases h
theorem z_run_le {f g d x : Nat} {q : z_S} {o : Option Value × z_H} (hfg : f ≤ g) (h : z_run G f d x q = some o) : z_run G g d x q = some o := by
  induction hfg with
  | refl => exact h
  | step _ ih => exact z_run_mono ih
theorem z_Runs_ret {d x : Nat} {q : z_S} {r : Option Value} (h : z_next G d x q = some (.inl r)) : z_Runs G d x q r q.2.2.2.1 := ⟨1, by unfold z_run; rw [h]⟩
theorem z_Runs_step {d x : Nat} {q q' : z_S} {r : Option Value} {P' : z_H} (h : z_next G d x q = some (.inr (.inl q'))) (k : z_Runs G d x q' r P') : z_Runs G d x q r P' := by
  obtain ⟨f, hf⟩ := k
  exact ⟨f + 1, by unfold z_run; rw [h]; exact hf⟩
theorem z_Runs_call {d x y : Nat} {as rst : List Value} {q : z_S} {r rv : Option Value} {P1 P' : z_H} (h : z_next G d x q = some (.inr (.inr (y, as, rst)))) (hc : z_Runs G (d - 1) y (0, lv_args 0 as, [], q.2.2.2.1, 0, 0) rv P1)
    (k : z_Runs G d x (q.1 + 3, q.2.1, rv.toList ++ rst, P1, q.2.2.2.2.1 + z_mc G y, q.2.2.2.2.2 + z_ms G y) r P') : z_Runs G d x q r P' := by
  obtain ⟨f1, h1⟩ := hc
  obtain ⟨f2, h2⟩ := k
  refine ⟨max f1 f2 + 1, ?_⟩
  unfold z_run
  rw [h]
  dsimp only
  rw [z_run_le (Nat.le_max_left f1 f2) h1]
  exact z_run_le (Nat.le_max_right f1 f2) h2
theorem z_Runs_one {d x : Nat} {q : z_S} {r r' : Option Value} {P P' : z_H} (h : z_Runs G d x q r P) (h' : z_Runs G d x q r' P') : r = r' ∧ P = P' := by
  obtain ⟨f, h⟩ := h
  obtain ⟨g, h'⟩ := h'
  have := (z_run_le (Nat.le_max_left f g) h).symm.trans (z_run_le (Nat.le_max_right f g) h')
  cases this
  exact ⟨rfl, rfl⟩
/-- a frame: method, pc, locals, stack, cells, slots -/
abbrev z_Fr : Type := Nat × Nat × z_L × List Value × Nat × Nat
def z_fs (f : z_Fr) (P : z_H) : z_S := (f.2.1, f.2.2.1, f.2.2.2.1, P, f.2.2.2.2.1, f.2.2.2.2.2)
/-- a frame behind its call of y -/
def z_fb (G : z_Pg) (g : z_Fr) (r : Option Value) (y : Nat) : z_Fr := (g.1, g.2.1 + 3, g.2.2.1, r.toList ++ g.2.2.2.1, g.2.2.2.2.1 + z_mc G y, g.2.2.2.2.2 + z_ms G y)
/-- the run of a pile: the top frame, then those below (each waits behind its call, its arguments taken) -/
def z_RF (G : z_Pg) : List z_Fr → z_Fr → Nat → z_H → Option Value → z_H → Prop
  | [], f, d, P, r, P' => z_Runs G d f.1 (z_fs f P) r P'
  | g :: rest, f, d, P, r, P' => ∃ r0 P0, z_Runs G d f.1 (z_fs f P) r0 P0 ∧ z_RF G rest (z_fb G g r0 f.1) (d + 1) P0 r P'
theorem z_RF_top {rest : List z_Fr} {f f' : z_Fr} {d : Nat} {P P1 P' : z_H} {r : Option Value} (he : f'.1 = f.1) (hk : ∀ r0 P0, z_Runs G d f'.1 (z_fs f' P1) r0 P0 → z_Runs G d f.1 (z_fs f P) r0 P0) (h : z_RF G rest f' d P1 r P') : z_RF G rest f d P r P' := by
  cases rest with
  | nil => exact hk _ _ h
  | cons g rest =>
    obtain ⟨r0, P0, h1, h2⟩ := h
    exact ⟨r0, P0, hk _ _ h1, by rw [← he]; exact h2⟩
theorem z_RF_step {rest : List z_Fr} {f : z_Fr} {q : z_S} {d : Nat} {P P' : z_H} {r : Option Value} (hn : z_next G d f.1 (z_fs f P) = some (.inr (.inl q))) (h : z_RF G rest (f.1, q.1, q.2.1, q.2.2.1, q.2.2.2.2.1, q.2.2.2.2.2) d q.2.2.2.1 r P') : z_RF G rest f d P r P' :=
  z_RF_top (f' := (f.1, q.1, q.2.1, q.2.2.1, q.2.2.2.2.1, q.2.2.2.2.2)) (P1 := q.2.2.2.1) rfl (fun _ _ k => z_Runs_step hn k) h
theorem z_RF_call {rest : List z_Fr} {f : z_Fr} {y d : Nat} {as rst : List Value} {P P' : z_H} {r : Option Value} (hd : 1 ≤ d) (hn : z_next G d f.1 (z_fs f P) = some (.inr (.inr (y, as, rst))))
    (h : z_RF G ((f.1, f.2.1, f.2.2.1, rst, f.2.2.2.2.1, f.2.2.2.2.2) :: rest) (y, 0, lv_args 0 as, [], 0, 0) (d - 1) P r P') : z_RF G rest f d P r P' := by
  obtain ⟨r0, P0, h1, h2⟩ := h
  rw [show d - 1 + 1 = d by omega] at h2
  exact z_RF_top (f' := z_fb G (f.1, f.2.1, f.2.2.1, rst, f.2.2.2.2.1, f.2.2.2.2.2) r0 y) rfl (fun _ _ k => z_Runs_call hn h1 k) h2
theorem z_RF_ret {rest : List z_Fr} {f g : z_Fr} {d : Nat} {P P' : z_H} {r r0 : Option Value} (hn : z_next G d f.1 (z_fs f P) = some (.inl r0)) (h : z_RF G rest (z_fb G g r0 f.1) (d + 1) P r P') : z_RF G (g :: rest) f d P r P' :=
  ⟨r0, P, z_Runs_ret hn, h⟩
theorem z_RF_end {f : z_Fr} {d : Nat} {P : z_H} {r0 : Option Value} (hn : z_next G d f.1 (z_fs f P) = some (.inl r0)) : z_RF G [] f d P r0 P := z_Runs_ret hn
end ZRUNS
