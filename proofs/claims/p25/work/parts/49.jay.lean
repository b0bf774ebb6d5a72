/-! What the cells of old keep beside their kinds: weights of SORTS told, codes with a gap. -/
section ZJAY
variable {al : Nat → Option Nat}
def z_codes : List Nat := [64, 67, 70, 73, 76]
def z_Jg (al : Nat → Option Nat) (P : z_H) : Prop := ∀ a c, al a = some c → z_nin c z_codes = true → a < z_far → ∀ p, P[a]? = some p → ∀ x : Int32, Value.int x ∈ p.2 → x.toInt ≤ 1007 ∨ 2000 ≤ x.toInt
def z_J (al : Nat → Option Nat) (P : z_H) : Prop := z_Jw al P ∧ z_Jg al P
/-- nothing of it may be written -/
def z_jd (D : z_Ws) : Bool := !z_win D 90 0 && ((z_wget D 92).isNone && z_codes.all fun c => (z_wget D c).isNone)
theorem z_wget_no {D : z_Ws} {c : Nat} (h : (z_wget D c).isNone = true) : z_wall D c = false ∧ ∀ e, z_win D c e = false := by
  rw [Option.isNone_iff_eq_none] at h
  unfold z_wall z_win
  rw [h]
  exact ⟨rfl, fun _ => rfl⟩
theorem z_Jok_d {D : z_Ws} (h : z_jd D = true) : z_Jok z_J D := by
  intro al al' P P' h1 h2 h3 ⟨j1, j2⟩
  unfold z_jd at h
  rw [Bool.and_eq_true, Bool.and_eq_true] at h
  obtain ⟨d1, d2, d3⟩ := h
  have d1 : z_win D 90 0 = false := by simpa using d1
  obtain ⟨d4, d5⟩ := z_wget_no d2
  have d6 : z_wall D 90 = false := by
    cases hw : z_wall D 90 with
    | false => rfl
    | true => rw [z_wall_win hw] at d1; cases d1
  refine ⟨fun a b ha hb hfa hfb => ?_, fun a c hac hc hfa p hp x hx => ?_⟩
  · have ha : al a = some 90 := by
      rcases h2 a _ ha with h | h
      · exact h
      · rw [d6] at h; cases h
    have hb : al b = some 92 := by
      rcases h2 b _ hb with h | h
      · exact h
      · rw [d4] at h; cases h
    obtain ⟨q, w, s, g1, g2, g3, g4⟩ := j1 a b ha hb hfa hfb
    obtain ⟨r, q', k1, k2, k3, k4, k5⟩ := h3 a _ ha hfa
    cases g1.symm.trans k1
    obtain ⟨r2, w', m1, m2, m3, m4, m5⟩ := h3 b _ hb hfb
    cases g2.symm.trans m1
    exact ⟨q', w', s, k2, m2, by rw [k5 0 d1]; exact g3, fun i hi => by rw [m5 i (d5 i)]; exact g4 i hi⟩
  · have hd := List.all_eq_true.mp d3 c (z_nin_ok hc)
    obtain ⟨d7, d8⟩ := z_wget_no hd
    have hac0 : al a = some c := by
      rcases h2 a _ hac with h | h
      · exact h
      · rw [d7] at h; cases h
    obtain ⟨q, q', k1, k2, k3, k4, k5⟩ := h3 a _ hac0 hfa
    cases k2.symm.trans hp
    have : p.2 = q.2 := List.ext_getElem? fun e => k5 e (d8 e)
    rw [this] at hx
    exact j2 a c hac0 hc hfa q k1 x hx
theorem z_gap_J {T : z_Tg} (h : ∀ c q, T.2.2.2.2.1 c = some q → z_nin c z_codes = true ∧ q = (1007, 2000)) : z_Gap T z_J := by
  refine ⟨fun {al P} hj a c q hac hq hfa p hp x hx => ?_, fun {al P} hj b c q hbc hq p hp x j hx => ?_, fun _ {al P} hj => hj.1⟩
  · obtain ⟨h1, h2⟩ := h c q hq
    subst h2
    exact hj.2 a c hac h1 hfa p hp x hx
  · obtain ⟨h1, h2⟩ := h c q hq
    subst h2
    have hnc : ∀ d, z_nin d z_codes = false → c ≠ d := fun d hd e => by rw [← e, h1] at hd; cases hd
    have hne : ∀ a d, al a = some d → z_nin d z_codes = false → b ≠ a := fun a d ha hd e => by
      rw [← e, hbc] at ha
      cases ha
      exact hnc _ hd rfl
    refine ⟨fun a b' ha hb' hfa hfb => ?_, fun a d had hd hfa p' hp' y hy => ?_⟩
    · obtain ⟨q, w, s, g1, g2, g3⟩ := hj.1 a b' ha hb' hfa hfb
      exact ⟨q, w, s, by rw [List.getElem?_set_ne (hne a 90 ha rfl)]; exact g1, by rw [List.getElem?_set_ne (hne b' 92 hb' rfl)]; exact g2, g3⟩
    · by_cases hba : b = a
      · subst hba
        rw [List.getElem?_set_self (List.getElem?_eq_some_iff.mp hp).1] at hp'
        cases hp'
        rcases List.mem_or_eq_of_mem_set hy with hy | hy
        · exact hj.2 b d had hd hfa p hp y hy
        · cases hy
          exact hx
      · rw [List.getElem?_set_ne hba] at hp'
        exact hj.2 a d had hd hfa p' hp' y hy
/-- the walk doesn't look at the far things -/
theorem z_kres_setS (G : z_Pg) (s : z_Ss) (W : z_Ws) (bd : z_bd) (iv : Nat → Option (Int × Int)) (S : z_as_) : z_kres (z_setS G s) W bd iv S = z_kres G W bd iv S := rfl
theorem z_kuse_setS (G : z_Pg) (s : z_Ss) (W : z_Ws) (ns g d : Nat) (S : z_as_) (K : z_Kc) : z_kuse (z_setS G s) W ns g d S K = z_kuse G W ns g d S K := by
  unfold z_kuse
  rw [z_kres_setS]
theorem z_kany_setS (G : z_Pg) (s : z_Ss) (W : z_Ws) (ns g d : Nat) (S : z_as_) : ∀ Ks : List z_Kc, z_kany (z_setS G s) W ns g d S Ks = z_kany G W ns g d S Ks
  | [] => rfl
  | K :: r => by
    unfold z_kany
    rw [z_kuse_setS, z_kany_setS G s W ns g d S r]
theorem z_suc3_setS (G : z_Pg) (s : z_Ss) (W D : z_Ws) (T : z_Tg) (ns g : Nat) (Ks : List z_Kc) (d x pc : Nat) (S : z_as_) : z_suc3 (z_setS G s) W D T ns g Ks d x pc S = z_suc3 G W D T ns g Ks d x pc S := by
  unfold z_suc3
  simp only [z_kany_setS]
  rfl
theorem z_fsuc3_setS (G : z_Pg) (s : z_Ss) (W D : z_Ws) (T : z_Tg) (ns g : Nat) (Ks : List z_Kc) (d : Nat) (S : z_as_) : z_fsuc3 (z_setS G s) W D T ns g Ks d S = z_fsuc3 G W D T ns g Ks d S := by
  rw [z_fsuc3_eq, z_fsuc3_eq, z_suc3_setS]
theorem z_cwk3_setS (G : z_Pg) (s : z_Ss) (W D : z_Ws) (T : z_Tg) (ns g : Nat) (Ks : List z_Kc) (Q : z_as_ → Option z_av → Bool) (at_ : Nat → Nat → Bool) (Es Ds : List z_ce) (us : List (Nat × Nat × Int)) : ∀ (f : Nat) (L : List (Nat × z_as_)), z_cwk3 (z_setS G s) W D T ns g Ks Q at_ Es Ds us f L = z_cwk3 G W D T ns g Ks Q at_ Es Ds us f L := by
  intro f
  induction f with
  | zero => intro L; cases L <;> rfl
  | succ f ih =>
    intro L
    cases L with
    | nil => rfl
    | cons x L =>
      unfold z_cwk3
      simp only [z_fsuc3_setS, ih]
theorem z_cok3_setS {G : z_Pg} {s : z_Ss} {W D : z_Ws} {T : z_Tg} {ns g : Nat} {Ks : List z_Kc} {Q : z_as_ → Option z_av → Bool} {at_ : Nat → Nat → Bool} {Es Ds : List z_ce} {fu : Nat} {C : z_ce} (h : z_cok3 G W D T ns g Ks Q at_ Es Ds fu C = true) : z_cok3 (z_setS G s) W D T ns g Ks Q at_ Es Ds fu C = true := by
  unfold z_cok3 at h ⊢
  split at h
  · rename_i us hus
    rw [z_cwk3_setS]
    exact h
  · cases h
/-- a contract out of its table -/
theorem z_cn_mk2 {G0 : z_Pg} {s : z_Ss} {ns : Nat} {J : (Nat → Option Nat) → z_H → Prop} {W D : z_Ws} {T : z_Tg} {at_ : Nat → Nat → Bool} {Ds : List z_ce} {fu n B : Nat} {Ks : List z_Kc} {K : z_Kc} {C : z_ce} (hJ : z_Jok J D) (hgp : z_Gap T J) (hKs : ∀ K' ∈ Ks, z_cn (z_setS G0 s) ns J K') (hall : (Ds.all fun C' => z_cok3 G0 W D T ns n Ks (z_QX (z_lbk K.2.2.1 K.2.2.2.1) n B W K.2.2.2.2.1) at_ [] Ds fu C') = true) (hD : z_wsub D W = true) (hC : Ds.head? = some C) (hK1 : C.1 = K.2.1) (hK2 : C.2.1 = K.2.2.1) (hK3 : C.2.2.1 = K.2.2.2.1) (hn : K.2.2.1.2.2.2.1 = n) (hB : C.2.1.2.2.2.2.2 = B) : z_cn (z_setS G0 s) ns J K :=
  z_cn_mk hJ hD hgp hKs hK1 hK2 hn (fun C' hC' => by rw [hB, hK2, hK3]; exact z_cok3_setS (List.all_eq_true.mp hall C' hC')) (List.mem_of_mem_head? hC)
theorem z_kn {α : Type} {p : α → Prop} : ∀ K ∈ ([] : List α), p K := fun K h => by cases h
theorem z_kc {α : Type} {p : α → Prop} {K : α} {Ks : List α} (h : p K) (k : ∀ K' ∈ Ks, p K') : ∀ K' ∈ K :: Ks, p K' := fun K' hK' => by
  rcases List.mem_cons.mp hK' with rfl | hK'
  · exact h
  · exact k K' hK'
end ZJAY
