/-! A barn's text read, the reference, exactly: LINES. -/
section YMRD
variable {xs : List Int32} {d aM aB aK aW aZ aD aY aG aE m : Nat} {P : z_H} {F : Nat → Value} {bs kv wv zv dv mv gv ev : List Value} {T kd wt zs dr mn : Int → Int} {S : yb_S} {sz tp h w lim n nl we s lg k i p ya : Int} {l : z_L} {Ψ : z_S → Prop}
theorem ye_mbE (h4 : z_get l 4 = some (ye_v 0))
    (kk : z_Rh (z_G xs) d 191 Ψ (299, l, [], P, 0, 0)) : z_Rh (z_G xs) d 191 Ψ (47, l, [], P, 0, 0) := by
  refine z_r_ld (kk := z_isI) (ins := (.iload 4)) (len := 2) (t := 49) (i := 4) rfl rfl rfl rfl rfl (fun _ => rfl) h4 rfl ?_
  refine z_r_jm (ins := (.ifCond .eq 250)) (len := 3) (t := 299) rfl rfl rfl rfl (ye_iy (t := 299) rfl (by omega) (by omega) (by show (0 : Int) = 0; decide)) ?_
  exact kk
theorem ye_mbL {P0 : z_H} {F0 : Nat → Value} (fM : aM < z_far) (fB : aB < z_far) (hx : ye_tx T sz (-128) 127 bs) (hl : (lim = sz ∧ sz ≤ tp) ∨ (lim = tp ∧ tp < sz)) (hbl : lim ≤ 76 ∧ 0 ≤ sz ∧ sz ≤ 80 ∧ 0 ≤ tp ∧ tp ≤ 80) (fK : aK < z_far) (fW : aW < z_far) (fZ : aZ < z_far) (fD : aD < z_far) (fY : aY < z_far) (n01 : aK ≠ aW) (n02 : aK ≠ aZ) (n03 : aK ≠ aD) (n04 : aK ≠ aY) (n12 : aW ≠ aZ) (n13 : aW ≠ aD) (n14 : aW ≠ aY) (n23 : aZ ≠ aD) (n24 : aZ ≠ aY) (n34 : aD ≠ aY) (hd : 4 ≤ d) : ∀ (k : Nat) {n p nl : Int} {S : yb_S} {l : z_L} {P : z_H} {F : Nat → Value}, n + k = 76 → 0 ≤ n → 3 * n ≤ p → p ≤ lim → 0 ≤ S.1 → S.1 ≤ 10 → nl = yb_nl S.2.1 → z_get l 0 = some (.ref aM) → z_get l 1 = some (ye_v we) → z_get l 2 = some (ye_v nl) → z_get l 3 = some (ye_v n) → z_get l 4 = some (ye_v 1) → P[aM]? = some (10, ye_fl F) → F 0 = ye_v S.1 → F 1 = .ref aK → F 2 = .ref aW → F 3 = .ref aZ → F 4 = .ref aD → F 20 = .ref aY → F 15 = .ref aB → F 16 = ye_v sz → F 17 = ye_v tp → F 18 = ye_v p → F 19 = ye_v (-1) → P[aB]? = some (101, bs) → ye_MA aK aW aZ aD aY S P → ye_fk [0, 18, 19] F0 F → ye_oth [aM, aK, aW, aZ, aD, aY] P0 P →
    (∀ l P' F' (n' h' w' nl' s' : Int) (S' : yb_S), z_get l 0 = some (.ref aM) → z_get l 1 = some (ye_v we) → z_get l 2 = some (ye_v nl') → z_get l 3 = some (ye_v n') → P'[aM]? = some (10, ye_fl F') → ye_fk [0, 18, 19] F0 F' → F' 0 = ye_v s' → F' 18 = ye_v h' → F' 19 = ye_v w' → ye_MA aK aW aZ aD aY S' P' → ye_oth [aM, aK, aW, aZ, aD, aY] P0 P' → 0 ≤ h' ∧ h' ≤ lim ∧ -1 ≤ w' ∧ w' ≤ 80 ∧ 0 ≤ s' ∧ s' ≤ 10 → yb_ag S S' → (((yb_r T lim k n p S).1 = true ∧ w' = -1 ∧ lim ≤ h' ∧ h' = (yb_r T lim k n p S).2.2.1 ∧ n' = (yb_r T lim k n p S).2.1 ∧ S' = (yb_r T lim k n p S).2.2.2 ∧ s' = S'.1 ∧ nl' = yb_nl S'.2.1) ∨ ((yb_r T lim k n p S).1 = false ∧ w' = -1 ∧ h' < lim ∧ h' = (yb_r T lim k n p S).2.2.1) ∨ ((yb_r T lim k n p S).1 = false ∧ 0 ≤ w' ∧ w' = (yb_r T lim k n p S).2.2.1)) → z_Rh (z_G xs) d 191 Ψ (299, l, [], P', 0, 0)) → z_Rh (z_G xs) d 191 Ψ (47, l, [], P, 0, 0) := by
  intro k
  induction k with
  | zero =>
    intro n p nl S l P F i1 i0 pp pl
    omega
  | succ k ih =>
    intro n p nl S l P F i1 i0 pp pl s0 s1 en h0 h1 h2 h3 h4 hM k0 k1 k2 k3 k4 k20 k15 k16 k17 k18 k19 hB hMA hf ho kk
    obtain ⟨s, lg, kd, wt, zs, dr, mn⟩ := S
    have s0 : 0 ≤ s := s0
    have s1 : s ≤ 10 := s1
    obtain ⟨wb1, wb2, wb3⟩ := yb_l_bd (T := T) (lim := lim) (p := p) (s := s) pl
    have hBM : ∀ P', ye_oth [aM, aK, aW, aZ, aD, aY] P P' → P'[aB]? = some (101, bs) := fun P' ho' => by
      obtain ⟨kv, wv, zv, dv, mv, hK, hW, hZ, hD, hY, -⟩ := hMA
      exact ye_kp ho' (by simp only [List.mem_cons, List.not_mem_nil, or_false, not_or]; exact ⟨ye_ne hB hM (by decide), ye_ne hB hK (by decide), ye_ne hB hW (by decide), ye_ne hB hZ (by decide), ye_ne hB hD (by decide), ye_ne hB hY (by decide)⟩) hB
    refine ye_mbI (lg := lg) (kd := kd) (wt := wt) (zs := zs) (dr := dr) (mn := mn) hM fM k0 k1 k2 k3 k4 k20 k15 k16 k17 k18 k19 hB fB hx hl (by omega) hMA fK fW fZ fD fY n01 n02 n03 n04 n12 n13 n14 n23 n24 n34 h0 h1 h2 h3 h4 rfl ⟨s0, s1⟩ en hd ?_
    intro l P' F' b h' w' nl' s' S' g0 g1 g2 g3 g4 hM' hf' m0 m18 m19 hMA' ho' hh hc
    dsimp only at hc
    have hu : yb_r T lim (k + 1) n p (s, lg, kd, wt, zs, dr, mn) = (if (yb_l T lim p s).1 = true then (if lim ≤ (yb_l T lim p s).2 then (true, n + 1, (yb_l T lim p s).2, yb_nx T lim p (s, lg, kd, wt, zs, dr, mn)) else if T (yb_l T lim p s).2 = 59 then yb_r T lim k (n + 1) ((yb_l T lim p s).2 + 1) (yb_nx T lim p (s, lg, kd, wt, zs, dr, mn)) else (false, n + 1, (yb_l T lim p s).2, yb_nx T lim p (s, lg, kd, wt, zs, dr, mn))) else (false, n, (yb_l T lim p s).2, (s, lg, kd, wt, zs, dr, mn))) := rfl
    have hf2 := ye_fk_tr hf hf' (fun _ q => q)
    have ho2 := ye_oth_tr ho ho' (fun _ q => q)
    rcases hc with ⟨c1, c2, c3, c4, c5, hc⟩ | ⟨c1, c2, c3, c4⟩
    · have hag : yb_ag (s, lg, kd, wt, zs, dr, mn) S' := by rw [c3]; exact yb_ag_nx
      have hb := yb_nx_bd (T := T) (lim := lim) (p := p) (S := (s, lg, kd, wt, zs, dr, mn)) c1 s0 s1
      rcases hc with ⟨d1, d2, d3, d4⟩ | ⟨d1, d2, d3⟩
      · rw [if_pos c1, if_neg (by omega), if_pos d3, ← c3] at hu
        rw [hu] at kk
        rw [d1] at g4
        rw [c2] at m19
        rw [c4] at m0
        rw [← c3] at hb
        have := wb3 c1
        exact ih (by omega) (by omega) (by omega) (by omega) hb.1 hb.2.1 c5 g0 g1 g2 g3 g4 hM' m0 ((hf' 1 (by decide)).trans k1) ((hf' 2 (by decide)).trans k2) ((hf' 3 (by decide)).trans k3) ((hf' 4 (by decide)).trans k4) ((hf' 20 (by decide)).trans k20) ((hf' 15 (by decide)).trans k15) ((hf' 16 (by decide)).trans k16) ((hf' 17 (by decide)).trans k17) (by rw [m18, d4]) m19 (hBM P' ho') hMA' hf2 ho2 (fun l P2 F2 n2 h2 w2 nl2 s2 S2 z0 z1 z2 z3 z4 z5 z6 z7 z8 z9 y1 y2 y3 y4 => kk l P2 F2 n2 h2 w2 nl2 s2 S2 z0 z1 z2 z3 z4 z5 z6 z7 z8 z9 y1 y2 (yb_ag_tr hag y3) y4)
      · rw [d1] at g4
        by_cases he : lim ≤ (yb_l T lim p s).2
        · rw [if_pos c1, if_pos he, ← c3] at hu
          rw [hu] at kk
          exact ye_mbE g4 (kk l P' F' (n + 1) h' w' nl' s' S' g0 g1 g2 g3 hM' hf2 m0 m18 m19 hMA' ho2 hh hag (Or.inl ⟨rfl, c2, by omega, d3, rfl, rfl, c4, c5⟩))
        · rw [if_pos c1, if_neg he, if_neg (by omega)] at hu
          rw [hu] at kk
          exact ye_mbE g4 (kk l P' F' (n + 1) h' w' nl' s' S' g0 g1 g2 g3 hM' hf2 m0 m18 m19 hMA' ho2 hh hag (Or.inr (Or.inl ⟨rfl, c2, by omega, d3⟩)))
    · rw [if_neg (by rw [c1]; decide)] at hu
      rw [hu] at kk
      rw [c3] at g4
      exact ye_mbE g4 (kk l P' F' (n + 1) h' w' nl' s' S' g0 g1 g2 g3 hM' hf2 m0 m18 m19 hMA' ho2 hh (by rw [c4]; exact yb_ag_rf) (Or.inr (Or.inr ⟨rfl, by omega, c2⟩)))
end YMRD
