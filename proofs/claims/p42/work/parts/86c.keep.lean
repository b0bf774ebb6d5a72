/-! An operation whose contracts part its one argument in three. -/
section ZKP3
variable {xs : List Int32}
theorem z_use_kp {y cell : Nat} (u0 : z_Use xs y cell [.inl (0, 0, 0, (-2147483648), (-1))] z_isi) (u1 : z_Use xs y cell [.inl (0, 0, 0, 0, 2)] z_isi) (u2 : z_Use xs y cell [.inl (0, 0, 0, 3, 2147483647)] z_isi) : z_Use xs y cell (List.replicate [1].length z_tI) z_isi := by
  intro al P a vs hI ha hl hvs
  have hvs : z_all2 (z_gv [0] al) [z_tI] vs := hvs
  match vs, hvs with
  | [v], hvs =>
    obtain ⟨⟨x, rfl, h1, h2, -⟩, -⟩ := hvs
    have h1 : -2147483648 ≤ x.toInt := h1
    have h2 : x.toInt ≤ 2147483647 := h2
    by_cases c1 : x.toInt ≤ -1
    · exact u0 hI ha hl ⟨⟨x, rfl, h1, c1, Or.inl rfl⟩, trivial⟩
    by_cases c2 : x.toInt ≤ 2
    · exact u1 hI ha hl ⟨⟨x, rfl, by show 0 ≤ x.toInt; omega, c2, Or.inl rfl⟩, trivial⟩
    · exact u2 hI ha hl ⟨⟨x, rfl, by show 3 ≤ x.toInt; omega, h2, Or.inl rfl⟩, trivial⟩
end ZKP3
