theorem yt_C17 {xs : List Int32} {d : Nat} {q1 : z_S} (h : q1.1 = 17 ∧ q1.2.2.1 = []) : z_next (z_G xs) d 184 q1 = none := by
  obtain ⟨pc, l, st, P, c, n⟩ := q1
  obtain ⟨h1, h2⟩ := h
  have h1 : pc = 17 := h1
  have h2 : st = [] := h2
  subst h1
  subst h2
  rfl
