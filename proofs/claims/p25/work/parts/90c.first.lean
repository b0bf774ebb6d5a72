/-! The law's start, put to use. -/
section ZLAW
def z_cvb (ns : Nat) : Value → z_av → Bool
  | .int x, .inl t => Nat.beq t.1 0 && (decide (z_lo t ≤ x.toInt) && decide (x.toInt ≤ z_hi t))
  | .ref a, .inr (.inr (_, [c])) => decide (a = z_far + c) && decide (c < ns)
  | _, _ => false
theorem z_cvb_ok {ns : Nat} {N : List Int} {al : Nat → Option Nat} (hf : z_fr ns al) {v : Value} {t : z_av} (h : z_cvb ns v t = true) : z_gv N al t v := by
  unfold z_cvb at h
  split at h
  · rename_i x t
    simp only [Bool.and_eq_true, decide_eq_true_eq] at h
    exact ⟨x, rfl, h.2.1, h.2.2, Or.inl (Nat.eq_of_beq_eq_true h.1)⟩
  · rename_i a nl c
    simp only [Bool.and_eq_true, decide_eq_true_eq] at h
    exact Or.inr ⟨a, c, rfl, by rw [h.1]; exact hf c h.2, List.mem_singleton_self _⟩
  · cases h
def z_cvl (ns : Nat) : List Value → List z_av → Bool
  | [], [] => true
  | v :: vs, t :: ts => z_cvb ns v t && z_cvl ns vs ts
  | _, _ => false
theorem z_cvl_ok {ns : Nat} {N : List Int} {al : Nat → Option Nat} (hf : z_fr ns al) : ∀ {vs : List Value} {ts : List z_av}, z_cvl ns vs ts = true → z_all2 (z_gv N al) ts vs
  | [], [], _ => trivial
  | v :: vs, t :: ts, h => by
    unfold z_cvl at h
    rw [Bool.and_eq_true] at h
    exact ⟨z_cvb_ok hf h.1, z_cvl_ok hf h.2⟩
  | [], _ :: _, h => by cases h
  | _ :: _, [], h => by cases h

def z_ckh (ns : Nat) (q : z_C) (A : z_ac_) : Bool := decide (A.1 = q.1) && (decide (A.2.1 = (true, false)) && (decide (A.2.2.1 = none) && z_cvl ns q.2 A.2.2.2))
theorem z_ckh_ok : (List.range 12).all (fun j => match z_fc (z_strl, []) j, z_Hs[j]? with | some q, some A => z_ckh 12 q A | _, _ => false) = true := by decide +kernel
def z_al0 (a : Nat) : Option Nat := if z_far ≤ a ∧ a < z_far + 12 then some (a - z_far) else none
theorem z_fr0 : z_fr 12 z_al0 := fun j hj => by
  unfold z_al0
  rw [if_pos ⟨Nat.le_add_right _ _, Nat.add_lt_add_left hj _⟩, Nat.add_sub_cancel_left]
theorem z_al0_get {a c : Nat} (h : z_al0 a = some c) : a = z_far + c ∧ c < 12 := by
  unfold z_al0 at h
  split at h
  · rename_i hr
    have h := Option.some.inj h
    subst h
    exact ⟨(Nat.add_sub_cancel' hr.1).symm, Nat.sub_lt_left_of_lt_add hr.1 hr.2⟩
  · cases h
theorem z_fclt {xl : List Int32} {j : Nat} (h : j < 12) : z_fc (z_strl, xl) j = z_fc (z_strl, []) j := by
  have h1 : j / 2 < z_strl.length := by
    show j / 2 < 6
    omega
  unfold z_fc
  show (match z_strl[j / 2]? with | some b => _ | none => _) = (match z_strl[j / 2]? with | some b => _ | none => _)
  rw [List.getElem?_eq_getElem h1]
theorem z_gh0 {xl : List Int32} : z_gh (z_strl, xl) [0] z_al0 z_Hs [] := by
  intro a c hac
  obtain ⟨ha, hc⟩ := z_al0_get hac
  subst ha
  rw [z_lkfj]
  have hk := List.all_eq_true.mp z_ckh_ok c (List.mem_range.mpr hc)
  split at hk
  · rename_i q A hq hA
    unfold z_ckh at hk
    simp only [Bool.and_eq_true, decide_eq_true_eq] at hk
    obtain ⟨k1, k2, k3, k4⟩ := hk
    refine ⟨q, A, (z_fclt hc).trans hq, hA, ⟨k1, ?_⟩, fun _ b hb' => (z_al0_get hb').1, fun hn9 => by rw [k2] at hn9; cases hn9⟩
    rw [k3]
    exact z_cvl_ok z_fr0 k4
  · cases hk
theorem z_G_set (xs : List Int32) : z_G xs = z_setS (z_G []) (z_strl, xs) := rfl
theorem z_start_run {xl : List Int32} : ∃ q', z_To (z_G xl) 800 290 (0, [(0, .ref (z_far + 12))], [], [], 0, 0) q' ∧ ∃ N al, z_gs (z_strs (z_G xl)) N al z_ES.2.1 (290, q'.1, q'.2.1, q'.2.2.1, q'.2.2.2.2.1, q'.2.2.2.2.2) [] q'.2.2.2.1 ∧ z_fr 12 al := by
  have hall : ∀ C ∈ [z_E00], z_cok (z_G xl) z_md 12 (fun _ _ => false) (fun x pc => Nat.beq x 290 && Nat.beq pc 23) [z_ES] [z_E00] 5000 C = true := fun C hC => by
    rw [List.mem_singleton] at hC
    subst hC
    rw [z_G_set]
    exact z_cok_setS z_E00_ok
  have h := z_cut_one (G := z_G xl) (Φ := fun d f rest P => z_PF (z_G xl) (fun d f P => ∃ N al, z_gs (z_strs (z_G xl)) N al z_ES.2.1 f [] P ∧ z_fr 12 al) rest f d P) (Es := [z_ES]) z_PF_clo (fun D hD N al f rest P hS hf => by
      rw [List.mem_singleton] at hD
      subst hD
      match rest, hS.2.1, hS with
      | [], _, hS => exact ⟨z_fs f P, z_To_rf, N, al, hS, hf⟩) hall (C := z_E00) (List.mem_singleton_self _) (N := [0]) (al := z_al0) (f := (290, 0, [(0, .ref (z_far + 12))], [], 0, 0)) (rest := []) (P := [])
    ⟨⟨rfl, rfl, fun i t h => (by cases h), trivial, rfl, rfl⟩, trivial, z_gh0, rfl, fun q hq => (by cases hq), Nat.le_refl _⟩ z_fr0
  obtain ⟨q', h1, N, al, h2, h3⟩ := h
  exact ⟨q', h1, N, al, h2, h3⟩
/-- the script's local stays -/
def z_n0 : Instr → Bool
  | .istore i | .lstore i | .astore i | .iinc i _ => Nat.ble 1 i
  | .istore_n i | .lstore_n i | .astore_n i => Nat.ble 1 i.val
  | _ => true
theorem z_loc_n0 {ins : Instr} {nL : Nat} {l l' : z_L} {st st' : List Value} {v : Value} (h : z_n0 ins = true) (hl : z_loc nL ins l st = some (l', st')) (hv : z_get l 0 = some v) (hc : v.category = 1) : z_get l' 0 = some v := by
  have s1 : ∀ {k : Value → Bool} {i : Nat}, 1 ≤ i → z_st1 k nL l i st = some (l', st') → z_get l' 0 = some v := by
    intro k i hi h
    obtain ⟨w, -, -, -, rfl⟩ := z_st1_spec h
    exact z_g1n hv (by omega) (Or.inr (by rw [hc]; decide))
  have s2 : ∀ {i : Nat}, 1 ≤ i → z_st2 nL l i st = some (l', st') → z_get l' 0 = some v := by
    intro i hi h
    unfold z_st2 at h
    split at h
    · split at h
      · cases h
        exact z_g2n hv (by omega) (by omega) (Or.inr (by rw [hc]; decide))
      · cases h
    · cases h
  have s3 : ∀ {k : Value → Bool} {i : Nat}, z_ld k l i st = some (l', st') → z_get l' 0 = some v := by
    intro k i h
    unfold z_ld at h
    split at h
    · split at h
      · cases h; exact hv
      · cases h
    · cases h
  unfold z_loc at hl
  unfold z_n0 at h
  split at hl
  · exact s3 hl
  · exact s3 hl
  · exact s3 hl
  · exact s3 hl
  · exact s3 hl
  · exact s3 hl
  · exact s1 (Nat.le_of_ble_eq_true h) hl
  · exact s1 (Nat.le_of_ble_eq_true h) hl
  · exact s1 (Nat.le_of_ble_eq_true h) hl
  · exact s1 (Nat.le_of_ble_eq_true h) hl
  · exact s2 (Nat.le_of_ble_eq_true h) hl
  · exact s2 (Nat.le_of_ble_eq_true h) hl
  · rename_i i n
    have h := Nat.le_of_ble_eq_true h
    unfold z_inc at hl
    split at hl
    · split at hl
      · cases hl
        exact z_g1n hv (by omega) (Or.inr (by rw [hc]; decide))
      · cases hl
    · cases hl
  · cases hl
theorem z_tow_n0 {G : z_Pg} {x : Nat} (hn : ∀ pc i, z_cod G x pc = some i → z_n0 i.1 = true) {v : Value} (hc : v.category = 1) : ∀ {n d : Nat} {q q' : z_S}, z_tow G n d x q q' → z_get q.2.1 0 = some v → z_get q'.2.1 0 = some v := by
  intro n
  induction n with
  | zero => intro d q q' h hv; have h : q = q' := h; subst h; exact hv
  | succ n ih =>
    intro d q q' h hv
    rcases h with h | ⟨q1, h1, h2⟩ | ⟨y, as, rst, rv, P1, h1, h2, h3⟩
    · subst h; exact hv
    · refine ih h2 ?_
      unfold z_next at h1
      split at h1
      · cases h1
      rename_i i hi
      have hni := hn _ _ hi
      split at h1
      · split at h1
        · split at h1 <;> cases h1
        · split at h1
          · rename_i q2 hq2
            cases h1
            unfold z_prim at hq2
            split at hq2
            · split at hq2
              · split at hq2
                · cases hq2; exact hv
                · cases hq2
              · cases hq2
            · split at hq2
              · split at hq2
                · split at hq2
                  · cases hq2; exact hv
                  · cases hq2
                · cases hq2
              · cases hq2
          · cases h1
      split at h1
      · cases h1
      split at h1
      · rename_i q2 hq2
        cases h1
        unfold z_step at hq2
        split at hq2
        · cases hq2; exact hv
        split at hq2
        · rename_i q3 hq3
          cases hq2
          exact z_loc_n0 hni hq3 hv hc
        split at hq2
        · cases hq2; exact hv
        split at hq2
        · cases hq2; exact hv
        split at hq2
        · cases hq2; exact hv
        split at hq2
        · unfold z_bump at hq2
          split at hq2
          · cases hq2; exact hv
          · cases hq2
        split at hq2
        · cases hq2; exact hv
        · cases hq2
      · cases h1
    · exact ih h3 hv
theorem z_bck_app2 {α : Type} {f : Nat → α → Bool} {a b : z_bm α} (ha : z_bck f a = true) (hb : z_bck f b = true) : z_bck f (a ++ b) = true := by
  unfold z_bck at ha hb ⊢
  rw [List.all_append, ha, hb]
  rfl
theorem z_law_n0 (xl : List Int32) : ∀ pc i, z_cod (z_G xl) 290 pc = some i → z_n0 i.1 = true := fun pc i hi => by
  have hi : z_bl z_code_290 pc = some i := hi
  exact z_bck_use (f := fun _ i => z_n0 i.1) (by decide +kernel : z_bck (fun _ i => z_n0 i.1) z_code_290 = true) hi
theorem z_Hi_le : (List.range 125).all (fun c => match z_Hi[c]?, z_H0c[c]? with | some A, some B => z_cle [] 1 126 A B | _, _ => false) = true := by decide +kernel
theorem z_Hi_len : z_Hi.length = 125 := by decide +kernel
theorem z_alc_le {strs : z_Ss} {N : List Int} {al : Nat → Option Nat} {AH : List z_ac_} {P : z_H} {m : Nat} (hH : z_gh strs N al AH P) (hm : AH.length ≤ m) : z_alc al m = al := by
  funext a
  unfold z_alc
  split
  · rename_i c hc
    obtain ⟨q, A, -, h2, -⟩ := hH a c hc
    have := (List.getElem?_eq_some_iff.mp h2).1
    rw [if_pos (by omega), hc]
  · rename_i hc
    exact hc.symm
theorem z_Hi_gh {strs : z_Ss} {N : List Int} {al : Nat → Option Nat} {P : z_H} (h : z_gh strs N al z_Hi P) : z_gh strs [0] al z_H0c P := by
  intro a c hac
  obtain ⟨q, A, e1, e2, e3, e4, e5⟩ := h a c hac
  have hc : c < 125 := by rw [← z_Hi_len]; exact (List.getElem?_eq_some_iff.mp e2).1
  have h2 := List.all_eq_true.mp z_Hi_le c (List.mem_range.mpr hc)
  rw [e2] at h2
  cases hB : z_H0c[c]? with
  | none => rw [hB] at h2; cases h2
  | some B =>
    rw [hB] at h2
    have h2 : z_cle [] 1 126 A B = true := h2
    obtain ⟨m1, m2, m3⟩ := z_cle_ok h2 e3
    rw [z_alc_le h (by rw [z_Hi_len]; decide)] at m1
    exact ⟨q, B, e1, rfl, m1, fun hs => e4 (m2 hs), fun hn => e5 (m3 hn)⟩
/-- at the start nothing is told -/
def z_zsm (A : z_ac_) : Bool := A.2.2.2.all fun t => match t with
  | .inl u => z_ile (z_hi u) 1007
  | _ => true
theorem z_Hi_codes : (z_codes.all fun c => match z_Hi[c]? with | some A => z_zsm A && A.2.1.2 | none => false) = true := by decide +kernel
theorem z_Hi_90 : (match z_Hi[90]? with | some A => (match (A.2.2.2[0]? : Option z_av) with | some (.inl u) => A.2.2.1.isNone && (z_ile (z_hi u) 0 && A.2.1.2) | _ => false) | none => false) = true := by decide +kernel
theorem z_Hi_92 : (match z_Hi[92]? with | some A => A.2.1.2 | none => false) = true := by decide +kernel
theorem z_Hi_J {strs : z_Ss} {N : List Int} {al : Nat → Option Nat} {P : z_H} (h : z_gh strs N al z_Hi P) : z_J al P := by
  refine ⟨fun a b ha hb fa fb => ?_, fun a c hac hc fa p hp x hx => ?_⟩
  · obtain ⟨q, A, k1, k2, ⟨-, k3⟩⟩ := z_gh_near h ha fa
    obtain ⟨w, B, j1, -, -⟩ := z_gh_near h hb fb
    have h9 := z_Hi_90
    rw [k2] at h9
    dsimp only at h9
    split at h9
    · rename_i u hu
      rw [Bool.and_eq_true, Bool.and_eq_true, Option.isNone_iff_eq_none] at h9
      rw [h9.1] at k3
      have k3 : z_all2 (z_gv N al) A.2.2.2 q.2 := k3
      obtain ⟨v, hv, hg⟩ := k3.get hu
      obtain ⟨s, rfl, s1, s2⟩ := z_int1 hg
      have := z_ile_t h9.2.1
      exact ⟨q, w, s, k1, j1, hv, fun i hi => by omega⟩
    · cases h9
  · obtain ⟨q, A, k1, k2, ⟨-, k3⟩⟩ := z_gh_near h hac fa
    cases k1.symm.trans hp
    have hcd := List.all_eq_true.mp z_Hi_codes c (z_nin_ok hc)
    rw [k2] at hcd
    have hcd : (z_zsm A && A.2.1.2) = true := hcd
    rw [Bool.and_eq_true] at hcd
    have hz := hcd.1
    unfold z_zsm at hz
    left
    obtain ⟨i, hi⟩ := List.getElem?_of_mem hx
    have key : ∀ t ∈ A.2.2.2, z_gv N al t (.int x) → x.toInt ≤ 1007 := fun t ht hg => by
      have hzt := List.all_eq_true.mp hz t ht
      match t, hg, hzt with
      | .inl u, ⟨y, e, g1, g2, _⟩, hzt =>
        cases e
        exact Int.le_trans g2 (z_ile_t hzt)
      | .inr (.inl u), ⟨y, e, _⟩, _ => cases e
      | .inr (.inr u), hg, _ =>
        rcases hg with ⟨e, -⟩ | ⟨a', c', e, -⟩ <;> cases e
    split at k3
    · have k3 : z_all2 (z_gv N al) A.2.2.2 p.2 := k3
      obtain ⟨t, ht, hg⟩ := k3.getb hi
      exact key t (List.mem_of_getElem? ht) hg
    · obtain ⟨-, t, ht, hall⟩ := k3
      exact key t (by rw [ht]; exact List.mem_singleton_self _) (hall _ hx)
theorem z_Hi_tp {strs : z_Ss} {N : List Int} {al : Nat → Option Nat} {P : z_H} {a c e : Nat} {v : Int} (hH : z_gh strs N al z_Hi P) (ha : al a = some c) (hv : -2147483648 ≤ v ∧ v < 2147483648) (hck : (match z_Hi[c]? with | some A => A.2.2.1.isNone && (A.2.1.2 && (match (A.2.2.2[e]? : Option z_av) with | some (.inl t) => z_ile v (z_lo t) && z_ile (z_hi t) v | _ => false)) | none => false) = true) : z_tp c e al P (ye_v v) := by
  split at hck
  rotate_left
  · cases hck
  rename_i A hA
  rw [Bool.and_eq_true, Bool.and_eq_true] at hck
  obtain ⟨k1, k2, k3⟩ := hck
  split at k3
  rotate_left
  · cases k3
  rename_i t ht
  rw [Bool.and_eq_true] at k3
  have k4 := z_ile_t k3.1
  have k5 := z_ile_t k3.2
  obtain ⟨h1, -, vs, h2, h3, -⟩ := z_plr hH ha hA k2
  obtain ⟨b, hb, hg⟩ := (h3 (Option.isNone_iff_eq_none.mp k1)).get ht
  obtain ⟨x, rfl, g1, g2, -⟩ := hg
  have hx0 : x = Int32.ofInt v := Int32.toInt_inj.mp (by rw [ye_to hv.1 hv.2]; omega)
  subst hx0
  exact ⟨a, _, ha, h1, h2, hb⟩
theorem z_Hi_ln {strs : z_Ss} {N : List Int} {al : Nat → Option Nat} {P : z_H} {a c m : Nat} (hH : z_gh strs N al z_Hi P) (ha : al a = some c) (hck : (match z_Hi[c]? with | some A => A.2.1.2 && (match A.2.2.1 with | some m' => Nat.beq m' m | none => Nat.beq A.2.2.2.length m) | none => false) = true) : ye_ct c al P (fun vs => vs.length = m) := by
  split at hck
  rotate_left
  · cases hck
  rename_i A hA
  rw [Bool.and_eq_true] at hck
  obtain ⟨k2, k3⟩ := hck
  obtain ⟨h1, -, vs, h2, h3, h4⟩ := z_plr hH ha hA k2
  refine ⟨a, _, ha, h1, h2, ?_⟩
  split at k3
  · rename_i m' hm'
    have := Nat.eq_of_beq_eq_true k3
    rw [← this]
    exact (h4 m' hm').1
  · rename_i hn
    have := Nat.eq_of_beq_eq_true k3
    rw [← this]
    exact (h3 hn).len.symm
theorem z_Hi_ref {strs : z_Ss} {N : List Int} {al : Nat → Option Nat} {P : z_H} {a c e cc : Nat} (hH : z_gh strs N al z_Hi P) (ha : al a = some c) (hck : (match z_Hi[c]? with | some A => A.2.2.1.isNone && (A.2.1.2 && (match (A.2.2.2[e]? : Option z_av) with | some (.inr (.inr (b, [c']))) => !b && Nat.beq c' cc | _ => false)) | none => false) = true) : ∃ b, al b = some cc := by
  split at hck
  rotate_left
  · cases hck
  rename_i A hA
  rw [Bool.and_eq_true, Bool.and_eq_true] at hck
  obtain ⟨k1, k2, k3⟩ := hck
  split at k3
  rotate_left
  · cases k3
  rename_i b0 c' ht
  rw [Bool.and_eq_true] at k3
  obtain ⟨k3, k4⟩ := k3
  have k4 := Nat.eq_of_beq_eq_true k4
  subst k4
  obtain ⟨h1, -, vs, h2, h3, -⟩ := z_plr hH ha hA k2
  obtain ⟨b, hb, hg⟩ := (h3 (Option.isNone_iff_eq_none.mp k1)).get ht
  rcases hg with ⟨-, hg⟩ | ⟨a', c2, -, h5, h6⟩
  · have hg : b0 = true := hg
    rw [hg] at k3
    cases k3
  · rw [List.mem_singleton.mp h6] at h5
    exact ⟨a', h5⟩
theorem z_tx00 {lo hi : Int} {vs : List Value} (h : vs.length = 80) : ye_tx (fun _ => 0) 0 lo hi vs := ⟨h, fun i h0 h1 => absurd h1 (by omega)⟩
def yc_X0 : yc_Y := 0
theorem z_Hi_rft {strs : z_Ss} {N : List Int} {al : Nat → Option Nat} {P : z_H} {a c e cc : Nat} (hH : z_gh strs N al z_Hi P) (ha : al a = some c) (hck : (match z_Hi[c]? with | some A => A.2.2.1.isNone && (A.2.1.2 && (match (A.2.2.2[e]? : Option z_av) with | some (.inr (.inr (b, [c']))) => !b && Nat.beq c' cc | _ => false)) | none => false) = true) : ∃ b, z_tp c e al P (.ref b) ∧ al b = some cc := by
  split at hck
  rotate_left
  · cases hck
  rename_i A hA
  rw [Bool.and_eq_true, Bool.and_eq_true] at hck
  obtain ⟨k1, k2, k3⟩ := hck
  split at k3
  rotate_left
  · cases k3
  rename_i b0 c' ht
  rw [Bool.and_eq_true] at k3
  obtain ⟨k3, k4⟩ := k3
  have k4 := Nat.eq_of_beq_eq_true k4
  subst k4
  obtain ⟨h1, -, vs, h2, h3, -⟩ := z_plr hH ha hA k2
  obtain ⟨b, hb, hg⟩ := (h3 (Option.isNone_iff_eq_none.mp k1)).get ht
  rcases hg with ⟨-, hg⟩ | ⟨a', c2, h4, h5, h6⟩
  · have hg : b0 = true := hg
    rw [hg] at k3
    cases k3
  · rw [List.mem_singleton.mp h6] at h5
    subst h4
    exact ⟨a', ⟨a, _, ha, h1, h2, hb⟩, h5⟩
theorem yc_XC_0 {strs : z_Ss} {N : List Int} {al : Nat → Option Nat} {P : z_H} {a : Nat} (hH : z_gh strs N al z_Hi P) (ha : al a = some 13) : yc_XC yc_X0 al P := by
  obtain ⟨bO, h1, h2⟩ := z_Hi_rft (e := 5) (cc := 53) hH ha (by decide +kernel)
  obtain ⟨bG, h3, h4⟩ := z_Hi_rft (e := 6) (cc := 57) hH ha (by decide +kernel)
  obtain ⟨a', q, k1, k2, k3, k4⟩ := z_Hi_tp (v := 0) (e := 3) hH h2 (by decide) (by decide +kernel)
  obtain ⟨-, u53, -⟩ := z_plr hH h2 (A := z_Hi.getD 53 (0, (false, false), none, [])) (by rfl) (by rfl)
  have := u53 rfl a' k1
  subst this
  refine ⟨a', bG, 53, h1, h3, fun q => ?_, Or.inl rfl, h2, k2, _, k3, k4⟩
  subst q
  cases h2.symm.trans h4
theorem yc_XM_0 {strs : z_Ss} {N : List Int} {al : Nat → Option Nat} {P : z_H} {a : Nat} (hH : z_gh strs N al z_Hi P) (ha : al a = some 90) : yc_XM yc_X0 al P := z_Hi_tp (v := 0) hH ha (by decide) (by decide +kernel)
/-- the law's loop, for the first time -/
theorem z_first {xl : List Int32} : ∃ q', z_To (z_G xl) 800 290 (0, [(0, .ref (z_far + 12))], [], [], 0, 0) q' ∧ ∃ l ax am ao P, q' = (23, l, [], P, 282, 6856) ∧ z_Lc l ax am ao 0 ∧ z_Is xl 0 ax am ao P 282 6856 := by
  obtain ⟨q', hto, N, al, hS, hf⟩ := z_start_run (xl := xl)
  have h0 : z_get q'.2.1 0 = some (.ref (z_far + 12)) := by
    obtain ⟨n, hto⟩ := hto
    exact z_tow_n0 (z_law_n0 xl) rfl hto rfl
  refine ⟨q', hto, ?_⟩
  obtain ⟨⟨a1, a2, a3, a4, a5, a6⟩, -, hH, -, -, hB⟩ := hS
  obtain ⟨pc, l, st, P, c, n⟩ := q'
  have a2 : 23 = pc := a2
  have a5 : 282 = c := a5
  have a6 : 6856 = n := a6
  subst a2; subst a5; subst a6
  have a4 : z_all2 (z_gv N al) [] st := a4
  match st, a4 with
  | [], _ =>
  obtain ⟨v, h1, g1⟩ := a3 1 _ rfl
  obtain ⟨ax, rfl, hax⟩ := z_ref1 g1
  obtain ⟨v, h2, g2⟩ := a3 2 _ rfl
  obtain ⟨am, rfl, ham⟩ := z_ref1 g2
  obtain ⟨v, h3, g3⟩ := a3 3 _ rfl
  obtain ⟨ao, rfl, hao⟩ := z_ref1 g3
  obtain ⟨v, h4, g4⟩ := a3 4 _ rfl
  obtain ⟨j, rfl, j1, j2⟩ := z_int1 g4
  have hj : j = 0 := Int32.toInt_inj.mp (Int.le_antisymm j2 j1)
  subst hj
  obtain ⟨a14, ha14⟩ := z_Hi_ref (e := 0) (cc := 14) hH hax (by decide +kernel)
  obtain ⟨a15, ha15⟩ := z_Hi_ref (e := 0) (cc := 15) hH ha14 (by decide +kernel)
  obtain ⟨a18, ha18⟩ := z_Hi_ref (e := 2) (cc := 18) hH hax (by decide +kernel)
  obtain ⟨a19, ha19⟩ := z_Hi_ref (e := 0) (cc := 19) hH ha18 (by decide +kernel)
  obtain ⟨a20, ha20⟩ := z_Hi_ref (e := 1) (cc := 20) hH ha18 (by decide +kernel)
  obtain ⟨a21, ha21⟩ := z_Hi_ref (e := 2) (cc := 21) hH ha18 (by decide +kernel)
  obtain ⟨a22, ha22⟩ := z_Hi_ref (e := 3) (cc := 22) hH ha18 (by decide +kernel)
  obtain ⟨a97, ha97⟩ := z_Hi_ref (e := 10) (cc := 97) hH ham (by decide +kernel)
  obtain ⟨a91, ha91⟩ := z_Hi_ref (e := 1) (cc := 91) hH ham (by decide +kernel)
  obtain ⟨a92, ha92⟩ := z_Hi_ref (e := 2) (cc := 92) hH ham (by decide +kernel)
  obtain ⟨a93, ha93⟩ := z_Hi_ref (e := 3) (cc := 93) hH ham (by decide +kernel)
  obtain ⟨a94, ha94⟩ := z_Hi_ref (e := 4) (cc := 94) hH ham (by decide +kernel)
  exact ⟨l, ax, am, ao, P, rfl, ⟨h0, h1, h2, h3, h4⟩, ⟨al, (((fun _ => 0, 0), (0, 12, fun _ => 0, fun _ => 0, fun _ => 0, fun _ => 0)), yc_X0), ⟨⟨z_Hi_gh hH, hf, z_Hi_J hH⟩, ⟨⟨⟨⟨Int.le_refl _, by show (0 : Int) ≤ 80; decide⟩, z_Hi_tp (v := 0) hH ha14 (by decide) (by decide +kernel), ye_ct_mono (z_Hi_ln (m := 80) hH ha15 (by decide +kernel)) fun _ => z_tx00⟩, ⟨⟨Int.le_refl _, by show (0 : Int) ≤ 10; decide⟩, z_Hi_tp (v := 0) hH ha18 (by decide) (by decide +kernel), z_Hi_tp (v := 12) hH ha18 (by decide) (by decide +kernel), (ye_ct_mono (z_Hi_ln (m := 10) hH ha19 (by decide +kernel)) fun vs hl => ⟨hl, fun i i0 i1 => absurd i1 (by show ¬ (i < 0); omega)⟩), (ye_ct_mono (z_Hi_ln (m := 10) hH ha20 (by decide +kernel)) fun vs hl => ⟨hl, fun i i0 i1 => absurd i1 (by show ¬ (i < 0); omega)⟩), (ye_ct_mono (z_Hi_ln (m := 10) hH ha21 (by decide +kernel)) fun vs hl => ⟨hl, fun i i0 i1 => absurd i1 (by show ¬ (i < 0); omega)⟩), (ye_ct_mono (z_Hi_ln (m := 10) hH ha22 (by decide +kernel)) fun vs hl => ⟨hl, fun i i0 i1 => absurd i1 (by show ¬ (i < 0); omega)⟩)⟩⟩, yc_XC_0 hH hax⟩, ⟨⟨⟨⟨Int.le_refl _, by show (0 : Int) ≤ 80; decide⟩, z_Hi_tp (v := 0) hH ham (by decide) (by decide +kernel), ye_ct_mono (z_Hi_ln (m := 80) hH ha97 (by decide +kernel)) fun _ => z_tx00⟩, ⟨⟨Int.le_refl _, by show (0 : Int) ≤ 10; decide⟩, z_Hi_tp (v := 0) hH ham (by decide) (by decide +kernel), z_Hi_tp (v := 12) hH ham (by decide) (by decide +kernel), (ye_ct_mono (z_Hi_ln (m := 10) hH ha91 (by decide +kernel)) fun vs hl => ⟨hl, fun i i0 i1 => absurd i1 (by show ¬ (i < 0); omega)⟩), (ye_ct_mono (z_Hi_ln (m := 10) hH ha92 (by decide +kernel)) fun vs hl => ⟨hl, fun i i0 i1 => absurd i1 (by show ¬ (i < 0); omega)⟩), (ye_ct_mono (z_Hi_ln (m := 10) hH ha93 (by decide +kernel)) fun vs hl => ⟨hl, fun i i0 i1 => absurd i1 (by show ¬ (i < 0); omega)⟩), (ye_ct_mono (z_Hi_ln (m := 10) hH ha94 (by decide +kernel)) fun vs hl => ⟨hl, fun i i0 i1 => absurd i1 (by show ¬ (i < 0); omega)⟩)⟩⟩, yc_XM_0 hH ham⟩⟩, hax, ham, hao⟩, hB, Nat.le_refl _, Nat.le_refl _⟩
end ZLAW
