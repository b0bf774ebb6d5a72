/-! Contracts that call each other: a number of the start grows from call to call. -/
section ZFAM
/-- upper bounds of the first identities -/
def z_ubk (S : z_as_) : List (Nat × z_pc) → Nat → Option Int
  | [], _ => none
  | q :: r, k => bif Nat.beq q.1 k then (match z_plh S q.2 with
    | some t => bif Nat.beq t.1 k && (z_ile t.2.1 0 && z_ile 0 t.2.2.1) then (bif z_ile 0 t.2.1 && z_ile t.2.2.1 0 then some (z_hi t) else none) else none
    | none => none) else z_ubk S r k
theorem z_ubk_ok {strs : z_Ss} {N : List Int} {al : Nat → Option Nat} {S : z_as_} {f : z_Fr} {rest : List z_Fr} {P : z_H} (hS : z_gs strs N al S f rest P) : ∀ {bp : List (Nat × z_pc)} {k : Nat} {l : Int}, 1 ≤ k → z_ubk S bp k = some l → (N[k]?).getD 0 ≤ l
  | [], _, _, _, h => by cases h
  | p :: r, k, l, h1, h => by
    unfold z_ubk at h
    cases hb : Nat.beq p.1 k with
    | false => rw [hb] at h; exact z_ubk_ok hS h1 h
    | true =>
      rw [hb] at h
      cases ht : z_plh S p.2 with
      | none => rw [ht] at h; cases h
      | some t =>
        rw [ht] at h
        have h : (bif Nat.beq t.1 k && (z_ile t.2.1 0 && z_ile 0 t.2.2.1) then (bif z_ile 0 t.2.1 && z_ile t.2.2.1 0 then some (z_hi t) else none) else none) = some l := h
        cases hc : (Nat.beq t.1 k && (z_ile t.2.1 0 && z_ile 0 t.2.2.1)) with
        | false => rw [hc] at h; cases h
        | true =>
          rw [hc] at h
          have h : (bif z_ile 0 t.2.1 && z_ile t.2.2.1 0 then some (z_hi t) else none) = some l := h
          cases hd : (z_ile 0 t.2.1 && z_ile t.2.2.1 0) with
          | false => rw [hd] at h; cases h
          | true =>
            rw [hd] at h
            cases h
            simp only [Bool.and_eq_true] at hc hd
            have c1 := Nat.eq_of_beq_eq_true hc.1
            have c2 := z_ile_t hc.2.1
            have c3 := z_ile_t hc.2.2
            have c4 := z_ile_t hd.1
            have c5 := z_ile_t hd.2
            obtain ⟨-, v, v1, v2, v3⟩ := z_plh_ok ht hS
            rcases v3 with v3 | ⟨w, e1, e2, e3⟩
            · omega
            · rw [c1] at e1
              rw [e1]
              show w ≤ z_hi t
              omega
def z_cM (G : z_Pg) (ns : Nat) (J : (Nat → Option Nat) → z_H → Prop) (cap w r : Int) (c0 : Nat) (K : z_Kc) (M : Nat) : Prop := ∀ {N : List Int} {al : Nat → Option Nat} {l : z_L} {P : z_H} {d : Nat}, c0 + M ≤ d → z_gs (z_strs G) N al K.2.2.1 (K.1, 0, l, [], 0, 0) [] P → z_fr ns al → J al P → (cap - (N[1]?).getD 0) * w + r ≤ (M : Int) → z_prm G J N al K.2.2.2.2.1 d K.1 l P
theorem z_cM_mk {G0 : z_Pg} {s : z_Ss} {ns : Nat} {J : (Nat → Option Nat) → z_H → Prop} {W D : z_Ws} {T : z_Tg} {at_ : Nat → Nat → Bool} {Ds : List z_ce} {fu n B M c0 : Nat} {cap w r : Int} {Kint Kext : List z_Kc} {K : z_Kc} {C : z_ce} (hw : 0 ≤ w) (hJ : z_Jok J D) (hgp : z_Gap T J)
    (hext : ∀ K' ∈ Kext, z_cn (z_setS G0 s) ns J K')
    (hint : ∀ K' ∈ Kint, ∃ dl r' : Int, K'.2.2.2.2.2 = some (1, 1, dl) ∧ (K'.2.1 : Int) + (dl * w + r - r') = c0 ∧ 1 ≤ dl * w + r - r' ∧ 0 ≤ r' ∧ z_ubk K'.2.2.1 K'.2.2.2.1 1 = some cap ∧ ∀ M', M' < M → z_cM (z_setS G0 s) ns J cap w r' c0 K' M')
    (hall : (Ds.all fun C' => z_cok3 G0 W D T ns n (Kint ++ Kext) (z_QX (z_lbk K.2.2.1 K.2.2.2.1) n B W K.2.2.2.2.1) at_ [] Ds fu C') = true) (hD : z_wsub D W = true) (hC : Ds.head? = some C) (hK1 : C.1 = c0) (hK2 : C.2.1 = K.2.2.1) (hK3 : C.2.2.1 = K.2.2.2.1) (hn : K.2.2.1.2.2.2.1 = n) (hB : C.2.1.2.2.2.2.2 = B) : z_cM (z_setS G0 s) ns J cap w r c0 K M := by
  intro N al l P d hd hS hf hj hM
  have hlen : N.length = n := by rw [← hn]; exact hS.2.2.2.1.symm
  subst hlen
  have hKs : ∀ K' ∈ Kint ++ Kext, z_Kok (z_setS G0 s) ns J N (d - c0) K' := by
    intro K' hK'
    rcases List.mem_append.mp hK' with hK' | hK'
    · obtain ⟨dl, r', h1, h2, h3, h4, h5, h6⟩ := hint K' hK'
      intro N' al' l' P' d' hd' hS' hf' hj' hrk
      obtain ⟨v, w1, g1, g2, g3⟩ := hrk _ h1
      have g1 : N[1]? = some v := g1
      have g2 : N'[1]? = some w1 := g2
      have g3 : v + dl ≤ w1 := g3
      have hub := z_ubk_ok hS' (Nat.le_refl 1) h5
      rw [g2] at hub
      have hub : w1 ≤ cap := hub
      rw [g1] at hM
      have hM : (cap - v) * w + r ≤ (M : Int) := hM
      have m1 : (cap - w1) * w ≤ (cap - (v + dl)) * w := Int.mul_le_mul_of_nonneg_right (by omega) hw
      have m2 : (cap - (v + dl)) * w = (cap - v) * w - dl * w := by rw [← Int.sub_sub, Int.sub_mul]
      have m3 : 0 ≤ (cap - w1) * w := Int.mul_nonneg (by omega) hw
      have hlt : ((cap - w1) * w + r').toNat < M := by omega
      refine h6 _ hlt (d := d' + (d - c0)) (by omega) hS' hf' hj' ?_
      rw [g2]
      show (cap - w1) * w + r' ≤ _
      omega
    · exact z_cn_ok (hext K' hK')
  have := z_body (e := d - c0) (l := l) (y := K.1) (Es := []) hJ hD hgp hKs (fun D hD => by cases hD) (fun D hD => by cases hD) (fun C' hC' => by rw [hB, hK2, hK3]; exact z_cok3_setS (List.all_eq_true.mp hall C' hC')) (List.mem_of_mem_head? hC) (by rw [hK2]; exact hS) hf hj
  rw [hK1, show c0 + (d - c0) = d by omega] at this
  exact this
/-- from outside: at the depth of the greatest measure -/
theorem z_cM_cn {G : z_Pg} {ns : Nat} {J : (Nat → Option Nat) → z_H → Prop} {cap w r l0 : Int} {c0 M0 : Nat} {K : z_Kc} (h : z_cM G ns J cap w r c0 K M0) (hw : 0 ≤ w) (hb : z_lbk K.2.2.1 K.2.2.2.1 1 = some l0) (hl : 0 ≤ l0) (hM : cap * w + r ≤ (M0 : Int)) : z_cn G ns J (K.1, c0 + M0, K.2.2.1, K.2.2.2.1, K.2.2.2.2.1, none) := by
  intro N al l P d hd hS hf hj
  have h0 := z_lbk_ok hS (Nat.le_refl 1) hb
  have m1 : (cap - (N[1]?).getD 0) * w ≤ cap * w := Int.mul_le_mul_of_nonneg_right (by omega) hw
  exact h hd hS hf hj (by omega)
end ZFAM
