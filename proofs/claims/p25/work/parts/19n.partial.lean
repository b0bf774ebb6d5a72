/-! Runs that go to a place of their own frame; the two things that a walk is told to. -/
section ZPART
variable {G : z_Pg}
def z_tow (G : z_Pg) : Nat → Nat → Nat → z_S → z_S → Prop
  | 0, _, _, q, q' => q = q'
  | n + 1, d, x, q, q' => q = q' ∨ (∃ q1, z_next G d x q = some (.inr (.inl q1)) ∧ z_tow G n d x q1 q') ∨
      ∃ y as rst rv P1, z_next G d x q = some (.inr (.inr (y, as, rst))) ∧ z_Runs G (d - 1) y (0, lv_args 0 as, [], q.2.2.2.1, 0, 0) rv P1 ∧ z_tow G n d x (q.1 + 3, q.2.1, rv.toList ++ rst, P1, q.2.2.2.2.1 + z_mc G y, q.2.2.2.2.2 + z_ms G y) q'
/-- a run to a place of the same frame -/
def z_To (G : z_Pg) (d x : Nat) (q q' : z_S) : Prop := ∃ n, z_tow G n d x q q'
theorem z_To_rf {d x : Nat} {q : z_S} : z_To G d x q q := ⟨0, rfl⟩
theorem z_To_step {d x : Nat} {q q1 q' : z_S} (h : z_next G d x q = some (.inr (.inl q1))) (k : z_To G d x q1 q') : z_To G d x q q' := by
  obtain ⟨n, k⟩ := k
  exact ⟨n + 1, Or.inr (Or.inl ⟨q1, h, k⟩)⟩
theorem z_To_call {d x y : Nat} {as rst : List Value} {q q' : z_S} {rv : Option Value} {P1 : z_H} (h : z_next G d x q = some (.inr (.inr (y, as, rst)))) (hc : z_Runs G (d - 1) y (0, lv_args 0 as, [], q.2.2.2.1, 0, 0) rv P1)
    (k : z_To G d x (q.1 + 3, q.2.1, rv.toList ++ rst, P1, q.2.2.2.2.1 + z_mc G y, q.2.2.2.2.2 + z_ms G y) q') : z_To G d x q q' := by
  obtain ⟨n, k⟩ := k
  exact ⟨n + 1, Or.inr (Or.inr ⟨y, as, rst, rv, P1, h, hc, k⟩)⟩
/-- a pile of frames whose lowest comes to a place of Ψ -/
def z_PF (G : z_Pg) (Ψ : Nat → z_Fr → z_H → Prop) : List z_Fr → z_Fr → Nat → z_H → Prop
  | [], f, d, P => ∃ q', z_To G d f.1 (z_fs f P) q' ∧ Ψ d (f.1, q'.1, q'.2.1, q'.2.2.1, q'.2.2.2.2.1, q'.2.2.2.2.2) q'.2.2.2.1
  | g :: rest, f, d, P => ∃ r0 P0, z_Runs G d f.1 (z_fs f P) r0 P0 ∧ z_PF G Ψ rest (z_fb G g r0 f.1) (d + 1) P0
theorem z_PF_clo {Ψ : Nat → z_Fr → z_H → Prop} : z_Clo G (fun _ _ => false) (fun d f rest P => z_PF G Ψ rest f d P) := by
  refine ⟨?_, ?_, ?_, ?_⟩
  · intro d f rest P q hn h
    cases rest with
    | nil =>
      obtain ⟨q', h1, h2⟩ := h
      exact ⟨q', z_To_step hn h1, h2⟩
    | cons g rest =>
      obtain ⟨r0, P0, h1, h2⟩ := h
      exact ⟨r0, P0, z_Runs_step hn h1, h2⟩
  · intro d y f rest P as rst hd hn h
    obtain ⟨r0, P0, h1, h2⟩ := h
    rw [show d - 1 + 1 = d by omega] at h2
    cases rest with
    | nil =>
      obtain ⟨q', h3, h4⟩ := h2
      exact ⟨q', z_To_call hn h1 h3, h4⟩
    | cons g rest =>
      obtain ⟨r1, P1, h3, h4⟩ := h2
      exact ⟨r1, P1, z_Runs_call hn h1 h3, h4⟩
  · intro d f g rest P r0 hn h
    exact ⟨r0, P, z_Runs_ret hn, h⟩
  · intro d f P r0 S t N al _ hq
    cases hq
/-- the end: 1 -/
def z_Q1 (_ : z_as_) (t : Option z_av) : Bool := match t with
  | some (.inl u) => decide (z_lo u = 1) && decide (z_hi u = 1)
  | _ => false
theorem z_RF_clo : z_Clo G z_Q1 (fun d f rest P => ∃ P', z_RF G rest f d P (some (.int 1)) P') := by
  refine ⟨?_, ?_, ?_, ?_⟩
  · intro d f rest P q hn ⟨P', h⟩
    exact ⟨P', z_RF_step hn h⟩
  · intro d y f rest P as rst hd hn ⟨P', h⟩
    exact ⟨P', z_RF_call hd hn h⟩
  · intro d f g rest P r0 hn ⟨P', h⟩
    exact ⟨P', z_RF_ret hn h⟩
  · intro d f P r0 S t N al hn hq _ hg
    refine ⟨P, ?_⟩
    have : r0 = some (.int 1) := by
      unfold z_Q1 at hq
      split at hq
      · rename_i u
        rw [Bool.and_eq_true] at hq
        have h1 := of_decide_eq_true hq.1
        have h2 := of_decide_eq_true hq.2
        match r0, hg with
        | some v, hg =>
          obtain ⟨x, e, g1, g2, -⟩ := hg
          have hx : x.toInt = 1 := by omega
          have : x = 1 := by
            have h3 : x.toInt = (1 : Int32).toInt := by rw [hx]; decide
            exact Int32.toInt_inj.mp h3
          rw [e, this]
        | none, hg => exact hg.elim
      · cases hq
    subst this
    exact z_RF_end hn
end ZPART
