section ZTO
variable {M : List (List z_Mr)} {PL : List z_Pl} {CT : List z_Ct} {FT : List (List FieldType)} {LW : List (List Nat)} {ac : List (Option Nat)} {aty : List FieldType} {rs : List (String × Nat × String × Nat)} {sels : List Cond} {gw aw : Nat × Nat × Nat × Nat × Nat} {strs : z_Ss}
theorem z_gw {w : Nat} {u : Cond} (h : z_isW w u = true) (hg : goodWord u = true) : u ∈ z_Ts sels := z_inT (z_isW_use h) hg
theorem z_cl_get {ci : Nat} {r : vw_C} (h : (z_cl0 CT)[ci]? = some r) : ∃ c, CT[ci]? = some c ∧ r = (c.1, fun k => c.2.getD k z_noF, c.2.length) := by
  unfold z_cl0 at h
  rw [List.getElem?_map] at h
  cases hc : CT[ci]? with
  | none => rw [hc] at h; cases h
  | some c => rw [hc] at h; exact ⟨c, rfl, (Option.some.inj h).symm⟩
theorem z_cl_put {ci : Nat} {c : z_Ct} (h : CT[ci]? = some c) : (z_cl0 CT)[ci]? = some (c.1, fun k => c.2.getD k z_noF, c.2.length) := by
  unfold z_cl0
  rw [List.getElem?_map, h]
  rfl
theorem z_getD {α : Type} {l : List α} {i : Nat} {a d : α} (h : l[i]? = some a) : l.getD i d = a := by simp [h]
theorem z_own {x : Nat} {q : z_Pl} (h3 : ∀ r ∈ M, ∀ q ∈ r, z_ckP PL CT q = true) (h : z_pl M PL x = some q) : q ∈ PL ∧ q.1 = (z_nm M x).cls := by
  unfold z_pl at h
  split at h
  · rename_i r hr
    obtain ⟨R, g1, g2⟩ := z_m2_mem hr
    have hp := h3 R g1 r g2
    unfold z_ckP at hp
    rw [Bool.and_eq_true, h] at hp
    refine ⟨List.mem_of_getElem? h, ?_⟩
    unfold z_nm
    rw [hr]
    exact of_decide_eq_true hp.1
  · cases h
theorem z_plf {β γ : Type} {x n : Nat} {f : z_Pl → z_bm β} {g : β → γ} {c : γ} (h : (match z_pl M PL x with | some q => (z_bl (f q) n).map g | none => none) = some c) : ∃ q v, z_pl M PL x = some q ∧ z_bl (f q) n = some v ∧ g v = c := by
  split at h
  · rename_i q hq
    obtain ⟨v, h1, h2⟩ := z_map_some h
    exact ⟨q, v, hq, h1, h2⟩
  · cases h
theorem z_lay_good (C : String) (T : u_T) (k : Nat) : goodWord (u_lay C T k) = true := by
  unfold u_lay
  split <;> rfl
set_option maxHeartbeats 4000000 in
theorem z_tab_ok (hcode : ∀ r ∈ M, ∀ q ∈ r, z_bck (z_okDec q.2.1) q.2.2.2.2.2.2.2.1 = true) (hck : z_ckAll M PL CT FT LW ac aty rs sels gw aw) :
    z_OK (z_mkG M PL CT FT ac strs) (z_nm M) (z_bt M) (z_cl0 CT) aty (z_Ts sels) z_Ns rs := by
  obtain ⟨h1, h2, h3, h4, h5⟩ := hck
  simp only [Bool.and_eq_true, decide_eq_true_eq] at h5
  obtain ⟨⟨⟨⟨⟨⟨⟨⟨⟨⟨⟨⟨⟨⟨⟨q1, q2⟩, q3⟩, q4⟩, q5⟩, q6⟩, q7⟩, q8⟩, q9⟩, q10⟩, q11⟩, g1⟩, g2⟩, g3⟩, g4⟩, g5⟩ := h5
  have hcls : ∀ ci c, CT[ci]? = some c → z_ckCl c (FT.getD ci []) (LW.getD ci []) = true := fun ci c hc => by
    have hlt := (List.getElem?_eq_some_iff.mp hc).1
    have := List.all_eq_true.mp h4 ci (List.mem_range.mpr hlt)
    rwa [z_getD hc] at this
  have hfld : ∀ ci c k, CT[ci]? = some c → k < c.2.length → parseFieldDescriptor (c.2.getD k z_noF).2.2.1 = some ((FT.getD ci []).getD k .int) ∧ u_lay c.1 (fun k => c.2.getD k z_noF) k ∈ z_Ts sels := fun ci c k hc hk => by
    have h := hcls ci c hc
    unfold z_ckCl at h
    rw [Bool.and_eq_true] at h
    have h := List.all_eq_true.mp h.1 k (List.mem_range.mpr hk)
    rw [Bool.and_eq_true] at h
    exact ⟨of_decide_eq_true h.1, z_gw h.2 (z_lay_good _ _ _)⟩
  have hat : ∀ i, i < 5 → aty[i]? = ([.boolean, .byte, .char, .int, .long] : List FieldType)[i]? := fun i hi => by
    rw [← q4, List.getElem?_take_of_lt hi]
  refine ⟨z_tab_code hcode, ?_, ?_, ?_, ⟨?_, ?_, ?_, ?_⟩, ?_, ?_⟩
  · -- fields
    intro x n ci k r hf hr
    obtain ⟨q, v, hq, hv, e⟩ := z_plf (f := fun q => q.2.1) (g := fun v => (v.1, v.2.1)) hf
    cases e
    obtain ⟨hqm, hown⟩ := z_own h3 hq
    have hc := h1 q hqm
    unfold z_ckPl at hc
    simp only [Bool.and_eq_true] at hc
    have hc := z_bck_use hc.1.1.1.1.1 hv
    obtain ⟨c, hcc, rfl⟩ := z_cl_get hr
    unfold z_ckF at hc
    have h98 : v.1 ≠ 98 := by
      have := (List.getElem?_eq_some_iff.mp hcc).1
      omega
    rw [if_neg h98, hcc, hown] at hc
    simp only [Bool.and_eq_true, decide_eq_true_eq, Bool.or_eq_true, Bool.not_eq_true'] at hc
    obtain ⟨hk, hw⟩ := hc
    refine ⟨hk, ?_, ?_⟩
    · rcases hw with hw | ⟨-, hw⟩
      · exact Or.inl (z_gw hw rfl)
      · split at hw
        · rename_i o m a b d host he
          obtain ⟨e1, e2, e3, e4, e5⟩ := of_decide_eq_true hw
          subst e1; subst e2; subst e3; subst e4; subst e5
          exact Or.inr ⟨host, z_inN he rfl⟩
        · cases hw
    · intro hfin hini
      rcases hw with hw | ⟨hw, -⟩
      · exact z_gw hw rfl
      · have : ((CT.getD v.1 ("", [])).2.getD v.2.1 z_noF).2.2.2 = true := hfin
        rw [z_getD hcc] at this
        rw [this] at hw
        have hi : (match z_m2 M x with | some r => r.2.2.2.2.1 | none => none) = some v.1 := hini
        split at hi
        · rename_i r9 hr9
          obtain ⟨R, m1, m2⟩ := z_m2_mem hr9
          have h := h3 R m1 r9 m2
          unfold z_ckP at h
          rw [hi] at h
          dsimp only at h
          rw [hcc, Bool.and_eq_true, Bool.and_eq_true] at h
          have enm : z_nm M x = r9.1 := by unfold z_nm; rw [hr9]
          have hd := of_decide_eq_true (List.all_eq_true.mp h.2.2 (c.2[v.2.1]) (List.getElem_mem hk))
          rcases hw with hw | hw
          · cases hw
          · rw [z_getD (List.getElem?_eq_getElem hk), enm] at hw
            exact absurd hd hw
        · cases hi
  · -- Strings' fields
    intro x n k hf
    obtain ⟨q, v, hq, hv, e⟩ := z_plf (f := fun q => q.2.1) (g := fun v => (v.1, v.2.1)) hf
    obtain ⟨e1, e2⟩ := Prod.mk.inj e
    obtain ⟨hqm, hown⟩ := z_own h3 hq
    have hc := h1 q hqm
    unfold z_ckPl at hc
    simp only [Bool.and_eq_true] at hc
    have hc := z_bck_use hc.1.1.1.1.1 hv
    unfold z_ckF at hc
    rw [if_pos e1, hown, e2] at hc
    simp only [Bool.and_eq_true, Bool.or_eq_true, beq_iff_eq] at hc
    rcases hc with ⟨a1, a2⟩ | ⟨a1, a2⟩
    · exact Or.inl ⟨a1, z_gw a2 rfl⟩
    · exact Or.inr ⟨a1, z_gw a2 rfl⟩
  · -- constants
    intro x ins v hv
    have key : ∀ n w, z_cs (z_mkG M PL CT FT ac strs) x n = some w → ∃ wi, z_ckC rs (z_nm M x).cls n (w, wi) = true := fun n w hw => by
      obtain ⟨q, u, hq, hu, e⟩ := z_plf (f := fun q => q.2.2.1) (g := fun v => v.1) hw
      obtain ⟨hqm, hown⟩ := z_own h3 hq
      have hc := h1 q hqm
      unfold z_ckPl at hc
      simp only [Bool.and_eq_true] at hc
      have hc := z_bck_use hc.1.1.1.1.2 hu
      rw [hown] at hc
      exact ⟨u.2, by rw [← e]; exact hc⟩
    have small : ∀ n w, n < 100000 → z_cs (z_mkG M PL CT FT ac strs) x n = some w → (∃ y, w = .int y ∧ Cond.constant (z_nm M x).cls n y ∈ z_Ts sels) ∨ (∃ y, w = .long y ∧ Cond.constantLong (z_nm M x).cls n y ∈ z_Ts sels) ∨ ∃ tx i, w = .ref (z_far + 2 * i) ∧ ((z_nm M x).cls, n, tx, i) ∈ rs := fun n w hn hw => by
      obtain ⟨wi, hc⟩ := key n w hw
      unfold z_ckC at hc
      rw [if_neg (by omega)] at hc
      split at hc
      · rename_i y e
        have e : w = .int y := e
        exact Or.inl ⟨y, e, z_gw hc rfl⟩
      · rename_i y e
        have e : w = .long y := e
        exact Or.inr (Or.inl ⟨y, e, z_gw hc rfl⟩)
      · rename_i k e
        have e : w = .ref k := e
        obtain ⟨r, hr, hd⟩ := List.any_eq_true.mp hc
        obtain ⟨d1, d2, d3⟩ := of_decide_eq_true hd
        refine Or.inr (Or.inr ⟨r.2.2.1, r.2.2.2, by rw [e, d3], ?_⟩)
        rw [← d1, ← d2]
        exact hr
      · cases hc
    cases ins
    case ldc n =>
      obtain ⟨hn, ho, hk⟩ := z_okv_spec hv
      rcases small n v hn ho with h | ⟨y, rfl, -⟩ | h
      · exact Or.inl h
      · cases hk
      · exact Or.inr h
    case ldc_w n =>
      obtain ⟨hn, ho, hk⟩ := z_okv_spec hv
      rcases small n v hn ho with h | ⟨y, rfl, -⟩ | ⟨tx, i, rfl, -⟩
      · exact h
      · cases hk
      · cases hk
    case ldc2_w n =>
      obtain ⟨hn, ho, hk⟩ := z_okv_spec hv
      rcases small n v hn ho with ⟨y, rfl, -⟩ | h | ⟨tx, i, rfl, -⟩
      · cases hk
      · exact h
      · cases hk
    case getstatic n =>
      obtain ⟨wi, hc⟩ := key (n + 100000) v hv
      unfold z_ckC at hc
      rw [if_pos (by omega)] at hc
      simp only [Bool.and_eq_true, decide_eq_true_eq, Nat.add_sub_cancel] at hc
      exact ⟨hc.1, z_gw hc.2 rfl⟩
    all_goals (cases hv)
  · -- classes
    intro x n q9 hf
    obtain ⟨q, v, hq, hv, e⟩ := z_plf (f := fun q => q.2.2.2.1) (g := fun v => (v.1, v.2.1)) hf
    subst e
    obtain ⟨hqm, hown⟩ := z_own h3 hq
    have hc := h1 q hqm
    unfold z_ckPl at hc
    simp only [Bool.and_eq_true] at hc
    have hc := z_bck_use hc.1.1.1.2 hv
    unfold z_ckL at hc
    rw [hown] at hc
    split at hc
    · cases hc
    · rename_i c hcc
      simp only [Bool.and_eq_true, decide_eq_true_eq] at hc
      obtain ⟨⟨⟨⟨a1, a2⟩, a3⟩, a4⟩, a5⟩ := hc
      refine ⟨_, z_cl_put hcc, ?_, fun k hk => ?_, z_gw a3 rfl, z_gw a4 rfl, z_gw a5 rfl⟩
      · show v.2.1.length = c.2.length
        rw [a2, List.length_map, a1]
      · show v.2.1[k]? = some (defaultValue ((FT.getD v.1 []).getD k .int))
        have hk : k < (FT.getD v.1 []).length := by rw [a1]; exact hk
        rw [a2, List.getElem?_map]
        generalize FT.getD v.1 [] = F at hk ⊢
        simp [hk]
  · -- arrays of objects
    intro x n i hf
    obtain ⟨q, v, hq, hv, e⟩ := z_plf (f := fun q => q.2.2.2.2.1) (g := fun v => v.1) hf
    subst e
    obtain ⟨hqm, hown⟩ := z_own h3 hq
    have hc := h1 q hqm
    unfold z_ckPl at hc
    simp only [Bool.and_eq_true] at hc
    have hc := z_bck_use hc.1.1.2 hv
    unfold z_ckA at hc
    rw [hown] at hc
    split at hc
    · rename_i C hC
      simp only [Bool.and_eq_true] at hc
      exact ⟨C, hC, z_gw hc.1 rfl, z_inN (z_isW_use hc.2) rfl⟩
    · cases hc
  · -- arrays of arrays
    intro x n q9 hf
    obtain ⟨q, v, hq, hv, e⟩ := z_plf (f := fun q => q.2.2.2.2.2.1) (g := fun v => (v.1, v.2.1)) hf
    subst e
    obtain ⟨hqm, hown⟩ := z_own h3 hq
    have hc := h1 q hqm
    unfold z_ckPl at hc
    simp only [Bool.and_eq_true] at hc
    have hc := z_bck_use hc.1.2 hv
    unfold z_ckM at hc
    rw [hown] at hc
    split at hc
    · rename_i t ht
      simp only [Bool.and_eq_true, decide_eq_true_eq] at hc
      exact ⟨t, ht, hc.1.1.1, hc.1.1.2, z_gw hc.1.2 rfl, z_inN (z_isW_use hc.2) rfl⟩
    · cases hc
  · -- words of the arrays of numbers
    intro i t hi ht
    rw [hat i hi] at ht
    match i, hi with
    | 0, _ => cases ht; exact z_gw q6 rfl
    | 1, _ => cases ht; exact z_gw q7 rfl
    | 2, _ => cases ht; exact z_gw q8 rfl
    | 3, _ => cases ht; exact z_gw q9 rfl
    | 4, _ => cases ht; exact z_gw q10 rfl
  · -- calls
    intro x n y kd hf
    obtain ⟨q, v, hq, hv, e⟩ := z_plf (f := fun q => q.2.2.2.2.2.2) (g := fun v => (v.1, v.2.1)) hf
    obtain ⟨e1, e2⟩ := Prod.mk.inj e
    obtain ⟨hqm, hown⟩ := z_own h3 hq
    have hc := h1 q hqm
    unfold z_ckPl at hc
    simp only [Bool.and_eq_true] at hc
    have hc := z_bck_use hc.2 hv
    unfold z_ckI at hc
    rw [hown, e1, e2] at hc
    by_cases hkd : kd < 3
    · rw [if_pos hkd] at hc
      split at hc
      · cases hc
      · rename_i r hr
        simp only [Bool.and_eq_true, beq_iff_eq] at hc
        obtain ⟨hk, hw⟩ := hc
        have enm : z_nm M y = r.1 := by unfold z_nm; rw [hr]
        have ebt : z_bt M y = r.2.1 := by unfold z_bt; rw [hr]
        have einf : z_inf (z_mkG M PL CT FT ac strs) y = r.2.2.1 := by
          show (match z_m2 M y with | some r => r.2.2.1 | none => (0, 0, 0, 0)) = _
          rw [hr]
        have erty : z_rty (z_mkG M PL CT FT ac strs) y = r.2.2.2.1 := by
          show (match z_m2 M y with | some r => r.2.2.2.1 | none => none) = _
          rw [hr]
        have ercv : z_rcv (z_mkG M PL CT FT ac strs) y = r.2.2.2.2.2.1 := by
          show (match z_m2 M y with | some r => r.2.2.2.2.2.1 | none => 0) = _
          rw [hr]
        obtain ⟨R, m1, m2⟩ := z_m2_mem hr
        have hcr := (h2 R m1 r m2).resolve_right (by omega)
        unfold z_ckR at hcr
        rw [← hk] at hcr
        simp only [Bool.and_eq_true, decide_eq_true_eq] at hcr
        obtain ⟨⟨⟨⟨⟨⟨c1, c2⟩, c3⟩, c4⟩, c5⟩, c6⟩, c7⟩ := hcr
        unfold z_nL z_na
        rw [enm, ebt, einf, erty, ercv]
        refine ⟨fun _ => ⟨c1, z_gw c2 rfl, z_gw c3 rfl, ⟨c4, c5⟩, c6, ?_⟩, fun h => ?_, fun h => ?_, fun h => ?_, fun h => by omega, fun h => by omega⟩
        · rw [Bool.or_eq_true] at hw
          rcases hw with hw | hw
          · exact Or.inl (z_gw hw rfl)
          · split at hw
            · rename_i o m9 y9 host he
              obtain ⟨d1, d2, d3⟩ := of_decide_eq_true hw
              subst d1; subst d2; subst d3
              exact Or.inr ⟨host, z_inN he rfl⟩
            · cases hw
        · rw [if_pos h] at c7
          exact z_gw c7 rfl
        · rw [if_neg (by omega), if_pos h] at c7
          simp only [Bool.and_eq_true] at c7
          obtain ⟨⟨a1, a2⟩, a3⟩ := c7
          refine ⟨z_gw a1 rfl, ?_, ?_⟩
          · split at a2
            · exact List.mem_append_left _ (List.mem_of_getElem? (of_decide_eq_true a2))
            · exact z_gw a2 rfl
          · split at a3
            · rename_i h98
              exact Or.inl ⟨h98, of_decide_eq_true a3⟩
            · rw [Bool.and_eq_true] at a3
              obtain ⟨b1, b2⟩ := a3
              refine Or.inr ⟨of_decide_eq_true b1, ?_⟩
              split at b2
              · rename_i c hcc
                exact ⟨_, z_cl_put hcc, of_decide_eq_true b2⟩
              · cases b2
        · rw [if_neg (by omega), if_neg (by omega)] at c7
          simp only [Bool.and_eq_true, decide_eq_true_eq] at c7
          exact ⟨c7.1.1, z_gw c7.1.2 rfl, c7.2⟩
    · rw [if_neg hkd] at hc
      refine ⟨fun h => absurd h hkd, fun h => by omega, fun h => by omega, fun h => by omega, fun h => ?_, fun h => ?_⟩
      · rw [if_pos h] at hc
        exact ⟨z_gw hc rfl, z_gw g1 rfl, z_gw g2 rfl⟩
      · rw [if_neg (by omega), if_pos h] at hc
        exact ⟨z_gw hc rfl, z_gw g3 rfl, z_gw g4 rfl, z_gw g5 rfl⟩
  · -- the rest
    refine ⟨by unfold z_cl0; rw [List.length_map]; exact q1, ?_, z_Ns_ok, ⟨hat 0 (by omega), hat 1 (by omega), hat 2 (by omega), hat 3 (by omega), hat 4 (by omega), ?_⟩, q3, ?_, ?_, ?_, ?_⟩
    · intro w hw
      rcases List.mem_append.mp hw with hw | hw
      · exact List.all_eq_true.mp q2 w hw
      · exact (List.mem_filter.mp hw).2
    · intro i t hi ht
      refine List.all_eq_true.mp q5 t ?_
      refine List.mem_of_getElem? (i := i - 5) ?_
      rw [List.getElem?_drop, show 5 + (i - 5) = i by omega]
      exact ht
    · intro ci r k hr hk
      obtain ⟨c, hcc, rfl⟩ := z_cl_get hr
      refine ⟨(hfld ci c k hcc hk).1, ?_⟩
      show ((CT.getD ci ("", [])).2.getD k z_noF).2.2.2 = _
      rw [z_getD hcc]
    · intro ci r hr
      obtain ⟨c, hcc, rfl⟩ := z_cl_get hr
      refine ⟨fun w hw => ?_, ⟨fun k => (FT.getD ci []).getD k .int, fun k hk => (hfld ci c k hcc hk).1⟩, fun a ha b hb hab => ?_⟩
      · obtain ⟨k, hk, rfl⟩ := List.mem_map.mp hw
        exact (hfld ci c k hcc (List.mem_range.mp hk)).2
      · have h := hcls ci c hcc
        unfold z_ckCl at h
        rw [Bool.and_eq_true] at h
        have hnd := of_decide_eq_true h.2
        have ha : a < c.2.length := ha
        have hb : b < c.2.length := hb
        intro he
        have he : (c.2.getD a z_noF).2.1 = (c.2.getD b z_noF).2.1 := he
        have hla : a < (c.2.map fun f => f.2.1).length := by rw [List.length_map]; exact ha
        have hlb : b < (c.2.map fun f => f.2.1).length := by rw [List.length_map]; exact hb
        have e9 : (c.2.map fun f => f.2.1)[a] = (c.2.map fun f => f.2.1)[b] := by simpa [ha, hb] using he
        rcases Nat.lt_or_gt_of_ne hab with h9 | h9
        · exact (List.pairwise_iff_getElem.mp hnd) a b hla hlb h9 e9
        · exact (List.pairwise_iff_getElem.mp hnd) b a hlb hla h9 e9.symm
    · intro i ci hi
      have hi : (ac[i]?).join = some ci := hi
      have hlt : i < ac.length := by
        cases hq : ac[i]? with
        | none => rw [hq] at hi; cases hi
        | some o => exact (List.getElem?_eq_some_iff.mp hq).1
      have h := List.all_eq_true.mp q11 i (List.mem_range.mpr hlt)
      rw [hi] at h
      dsimp only at h
      split at h
      · rename_i c hcc
        exact ⟨_, z_cl_put hcc, of_decide_eq_true h⟩
      · cases h
    · intro x ci r k hi hr hk
      obtain ⟨c, hcc, rfl⟩ := z_cl_get hr
      have hi : (match z_m2 M x with | some r => r.2.2.2.2.1 | none => none) = some ci := hi
      split at hi
      · rename_i r9 hr9
        obtain ⟨R, m1, m2⟩ := z_m2_mem hr9
        have h := h3 R m1 r9 m2
        unfold z_ckP at h
        rw [hi] at h
        dsimp only at h
        rw [hcc, Bool.and_eq_true, Bool.and_eq_true] at h
        have enm : z_nm M x = r9.1 := by unfold z_nm; rw [hr9]
        rw [enm]
        refine ⟨of_decide_eq_true h.2.1, ?_⟩
        have hk : k < c.2.length := hk
        show (c.2.getD k z_noF).1 = _
        have := List.all_eq_true.mp h.2.2 (c.2[k]) (List.getElem_mem hk)
        rw [z_getD (List.getElem?_eq_getElem hk)]
        exact of_decide_eq_true this
      · cases hi
end ZTO
