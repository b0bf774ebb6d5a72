/-! A contract out of a walk of its body. -/
section ZMKC
variable {al : Nat → Option Nat}
theorem z_gi_gh {N N0 : List Int} {t : z_tk} {v : Int} (h : ∀ k, 1 ≤ k → ∀ w, N[k]? = some w → N0[k]? = some w) (k : z_gi N t v) : z_gi N0 t v := by
  obtain ⟨k1, k2, k3⟩ := k
  refine ⟨k1, k2, ?_⟩
  rcases k3 with k3 | ⟨w, e, k4⟩
  · exact Or.inl k3
  · by_cases h0 : t.1 = 0
    · exact Or.inl h0
    · exact Or.inr ⟨w, h _ (by omega) w e, k4⟩
theorem z_gv_gh {N N0 : List Int} (h : ∀ k, 1 ≤ k → ∀ w, N[k]? = some w → N0[k]? = some w) : ∀ {t : z_av} {v : Value}, z_gv N al t v → z_gv N0 al t v
  | .inl _, _, ⟨x, e, k⟩ => ⟨x, e, z_gi_gh h k⟩
  | .inr (.inl _), _, ⟨x, e, k⟩ => ⟨x, e, z_gi_gh h k⟩
  | .inr (.inr _), _, k => k
theorem z_gc_gh {N N0 : List Int} (h : ∀ k, 1 ≤ k → ∀ w, N[k]? = some w → N0[k]? = some w) {A : z_ac_} {q : z_C} (k : z_gc N al A q) : z_gc N0 al A q := by
  obtain ⟨k1, k2⟩ := k
  refine ⟨k1, ?_⟩
  split at k2
  · exact k2.mono fun _ _ q => z_gv_gh h q
  · obtain ⟨h3, t, h4, h5⟩ := k2
    exact ⟨h3, t, h4, fun v hv => z_gv_gh h (h5 v hv)⟩
/-- an end is one of those that are told -/
def z_vlf (lb : Nat → Option Int) (g : Nat) (F : List (Nat × Nat × Int)) : z_av → z_av → Bool
  | .inl x, .inl t => z_ile (z_lo t) (z_lo x) && (z_ile (z_hi x) (z_hi t) && (Nat.ble 1 t.1 && (Nat.ble (t.1 + 1) g && ((match lb t.1 with
    | some l => z_ile (z_hi x) (l + t.2.2.1)
    | none => false) && ((Nat.beq x.1 t.1 && z_ile t.2.1 x.2.1) || (Nat.ble 1 x.1 && F.any fun q => Nat.beq q.1 t.1 && (Nat.beq q.2.1 x.1 && z_ile t.2.1 (q.2.2 + x.2.1))))))))
  | _, _ => false
theorem z_vlf_ok {lb : Nat → Option Int} {N0 N : List Int} {F : List (Nat × Nat × Int)} {u t : z_av} {v : Value} (hN : ∀ k, 1 ≤ k → k < N0.length → N[k]? = N0[k]?) (hlb : ∀ k l, 1 ≤ k → k < N0.length → lb k = some l → l ≤ (N0[k]?).getD 0) (hF : z_gx N F) (h : z_vlf lb N0.length F u t = true) (k : z_gv N al u v) : z_gv N0 al t v := by
  unfold z_vlf at h
  split at h
  · rename_i x t
    obtain ⟨w, e, hw⟩ := k
    simp only [Bool.and_eq_true, Bool.or_eq_true] at h
    obtain ⟨h1, h2, h3, h4, h5, h6⟩ := h
    have h1 := z_ile_t h1
    have h2 := z_ile_t h2
    have h3 := Nat.le_of_ble_eq_true h3
    have h4 := Nat.le_of_ble_eq_true h4
    obtain ⟨w1, w2, w3⟩ := hw
    split at h5
    · rename_i l hl
      have hlo := hlb _ _ h3 h4 hl
      have h5 := z_ile_t h5
      have hlt : t.1 < N0.length := h4
      rw [List.getElem?_eq_getElem hlt] at hlo
      have hlo : l ≤ N0[t.1] := hlo
      have hNk := hN _ h3 h4
      rw [List.getElem?_eq_getElem hlt] at hNk
      refine ⟨w, e, by omega, by omega, Or.inr ⟨N0[t.1], List.getElem?_eq_getElem hlt, ?_, by omega⟩⟩
      rcases h6 with ⟨h6, h7⟩ | ⟨h6, h7⟩
      · have h6 := Nat.eq_of_beq_eq_true h6
        have h7 := z_ile_t h7
        rcases w3 with w3 | ⟨a, e1, e2, e3⟩
        · omega
        · rw [h6, hNk] at e1
          cases e1
          omega
      · have h6 := Nat.le_of_ble_eq_true h6
        obtain ⟨q, hq, hc⟩ := List.any_eq_true.mp h7
        simp only [Bool.and_eq_true] at hc
        obtain ⟨c1, c2, c3⟩ := hc
        have c3 := z_ile_t c3
        obtain ⟨a, b, g1, g2, g3⟩ := hF q hq
        rw [Nat.eq_of_beq_eq_true c1, hNk] at g1
        cases g1
        rw [Nat.eq_of_beq_eq_true c2] at g2
        rcases w3 with w3 | ⟨a', e1, e2, e3⟩
        · omega
        · cases g2.symm.trans e1
          omega
    · cases h5
  · cases h
def z_qp (lb : Nat → Option Int) (F : List (Nat × Nat × Int)) (g m : Nat) (H : List z_ac_) (q : Nat × (z_ac_ ⊕ List (Nat × z_av))) : Bool := match H[q.1]?, q.2 with
  | some A, .inl A' => A.2.1.2 && z_cle (z_ghb g) g m A A'
  | some A, .inr ps => A.2.1.2 && (A.2.2.1.isNone && ps.all fun p => match A.2.2.2[p.1]? with
    | some u => z_vle (z_ghb g) g m u p.2 || z_vlf lb g F u p.2
    | none => false)
  | none, _ => false
def z_qr (g m : Nat) : Option z_av → Option z_av → Bool
  | none, none => true
  | some a, some b => z_vle (z_ghb g) g m a b
  | _, _ => false
def z_QX (lb : Nat → Option Int) (g B0 : Nat) (W : z_Ws) (Xs : List z_Xe) (S : z_as_) (t : Option z_av) : Bool := Xs.any fun X => z_qr g S.2.2.1.length t X.1 && (z_wsub W (z_xW X.2.1) && (Nat.ble S.2.2.2.2.2 (B0 + X.2.2) && X.2.1.all (z_qp lb S.2.2.2.2.1 g S.2.2.1.length S.2.2.1)))
theorem z_xget_mem : ∀ {X : z_Pt} {c : Nat} {o : z_ac_ ⊕ List (Nat × z_av)}, z_xget X c = some o → (c, o) ∈ X
  | [], _, _, h => by cases h
  | q :: r, c, o, h => by
    unfold z_xget at h
    cases hb : Nat.beq q.1 c with
    | true =>
      rw [hb] at h
      have h : some q.2 = some o := h
      cases h
      rw [← Nat.eq_of_beq_eq_true hb]
      exact List.mem_cons_self
    | false =>
      rw [hb] at h
      exact List.mem_cons_of_mem _ (z_xget_mem h)
theorem z_QX_ok {lb : Nat → Option Int} {G : z_Pg} {ns : Nat} {J : (Nat → Option Nat) → z_H → Prop} {W : z_Ws} {N0 : List Int} {al0 : Nat → Option Nat} {P0 : z_H} {B0 : Nat} {Xs : List z_Xe} {S : z_as_} {t : Option z_av} {N : List Int} {f : z_Fr} {P : z_H} {r0 : Option Value} (hlb : ∀ k l, 1 ≤ k → k < N0.length → lb k = some l → l ≤ (N0[k]?).getD 0) (h : z_QX lb N0.length B0 W Xs S t = true) (hS : z_gs (z_strs G) N al S f [] P) (hf : z_fr ns al) (hI : z_Iv J W N0 N0.length al0 P0 B0 N al P S.2.2.2.2.2) (hr : z_go_ N al t r0) :
    ∃ X ∈ Xs, J al P ∧ z_post N0 al0 P0 X r0 P al := by
  unfold z_QX at h
  obtain ⟨X, hX, hc⟩ := List.any_eq_true.mp h
  simp only [Bool.and_eq_true] at hc
  obtain ⟨h1, h2, h3, h4⟩ := hc
  obtain ⟨i1, i2, i3, i4, i5, i6, i7⟩ := hI
  have hal : z_alc al S.2.2.1.length = al := z_alc_id hS.2.2.1 rfl
  have hgh : ∀ k, 1 ≤ k → ∀ w, (z_bN N (z_ghb N0.length) N0.length)[k]? = some w → N0[k]? = some w := by
    intro k k1 w hw
    have hlt : k < N0.length := by
      have := (List.getElem?_eq_some_iff.mp hw).1
      simpa [z_bN] using this
    rw [z_bN_get hlt] at hw
    have hg := z_ghb_get (bd := []) k1 hlt
    rw [List.append_nil] at hg
    unfold z_bval at hw
    rw [hg] at hw
    rw [← i2 k k1 hlt]
    match k, k1 with
    | k + 1, _ =>
      have hw : some ((N[k + 1]?).getD 0 + 0) = some w := hw
      rw [← hw, List.getElem?_eq_getElem (by omega)]
      simp
  have hvle : ∀ {u v : z_av} {w : Value}, z_vle (z_ghb N0.length) N0.length S.2.2.1.length u v = true → z_gv N al u w → z_gv N0 al v w := fun hv k => by
    have := z_vle_ok hv k
    rw [hal] at this
    exact z_gv_gh hgh this
  refine ⟨X, hX, i6, i3, fun a c hac => (i4 a c hac).imp id fun k => z_wsub_all h2 k, z_same_sub h2 i5, ?_, fun c A' hx a hac => ?_, fun c ps hx a hac => ?_, by have := Nat.le_of_ble_eq_true h3; omega⟩
  · unfold z_qr at h1
    split at h1
    · rename_i e1
      rw [e1]
      match r0, hr with
      | none, _ => trivial
    · rename_i a b e1
      rw [e1]
      match r0, hr with
      | some w, hr => exact hvle h1 hr
    · cases h1
  · have hq := List.all_eq_true.mp h4 _ (z_xget_mem hx)
    unfold z_qp at hq
    obtain ⟨q, A, e1, e2, e3, e4, e5⟩ := hS.2.2.1 a c hac
    dsimp only at hq
    rw [e2] at hq
    have hq : (A.2.1.2 && z_cle (z_ghb N0.length) N0.length S.2.2.1.length A A') = true := hq
    rw [Bool.and_eq_true] at hq
    have hfar := e5 hq.1
    obtain ⟨m1, m2, m3⟩ := z_cle_ok hq.2 e3
    rw [hal] at m1
    unfold z_lk at e1
    rw [if_pos hfar] at e1
    exact ⟨hfar, ⟨q, e1, z_gc_gh hgh m1⟩, fun hs b hb => e4 (m2 hs) b hb⟩
  · have hq := List.all_eq_true.mp h4 _ (z_xget_mem hx)
    unfold z_qp at hq
    obtain ⟨q, A, e1, e2, e3, e4, e5⟩ := hS.2.2.1 a c hac
    dsimp only at hq
    rw [e2] at hq
    have hq : (A.2.1.2 && (A.2.2.1.isNone && ps.all fun p => match A.2.2.2[p.1]? with | some u => z_vle (z_ghb N0.length) N0.length S.2.2.1.length u p.2 || z_vlf lb N0.length S.2.2.2.2.1 u p.2 | none => false)) = true := hq
    rw [Bool.and_eq_true, Bool.and_eq_true, Option.isNone_iff_eq_none] at hq
    obtain ⟨q1, q2, q3⟩ := hq
    have hfar := e5 q1
    unfold z_lk at e1
    rw [if_pos hfar] at e1
    obtain ⟨-, e3⟩ := e3
    rw [q2] at e3
    have e3 : z_all2 (z_gv N al) A.2.2.2 q.2 := e3
    refine ⟨q, e1, fun e v hev => ?_⟩
    have h5 := List.all_eq_true.mp q3 _ hev
    dsimp only at h5
    split at h5
    · rename_i u hu
      obtain ⟨w, g1, g2⟩ := e3.get hu
      rw [Bool.or_eq_true] at h5
      rcases h5 with h5 | h5
      · exact ⟨w, g1, hvle h5 g2⟩
      · exact ⟨w, g1, z_vlf_ok i2 hlb hS.2.2.2.2.1 h5 g2⟩
    · cases h5
theorem z_RF_callrun {G : z_Pg} {d y : Nat} {f : z_Fr} {rest : List z_Fr} {P P1 P' : z_H} {as rst : List Value} {rv r : Option Value} (hn : z_next G d f.1 (z_fs f P) = some (.inr (.inr (y, as, rst)))) (hc : z_Runs G (d - 1) y (0, lv_args 0 as, [], P, 0, 0) rv P1) (h : z_RF G rest (z_fb G (f.1, f.2.1, f.2.2.1, rst, f.2.2.2.2.1, f.2.2.2.2.2) rv y) d P1 r P') : z_RF G rest f d P r P' :=
  z_RF_top (f' := z_fb G (f.1, f.2.1, f.2.2.1, rst, f.2.2.2.2.1, f.2.2.2.2.2) rv y) (P1 := P1) rfl (fun _ _ k => z_Runs_call hn hc k) h
theorem z_RF_clo5 {G : z_Pg} {T : Option Value → z_H → Prop} : z_Clo5 G (fun d f rest P => ∃ rv P', z_RF G rest f d P rv P' ∧ T rv P') := by
  refine ⟨?_, ?_, ?_, ?_⟩
  · intro d f rest P q hn ⟨rv, P', h, k⟩
    exact ⟨rv, P', z_RF_step hn h, k⟩
  · intro d y f rest P as rst hd hn ⟨rv, P', h, k⟩
    exact ⟨rv, P', z_RF_call hd hn h, k⟩
  · intro d f g rest P r0 hn ⟨rv, P', h, k⟩
    exact ⟨rv, P', z_RF_ret hn h, k⟩
  · intro d y f rest P P1 as rst rv hd hn hc ⟨rv', P', h, k⟩
    exact ⟨rv', P', z_RF_callrun hn hc h, k⟩
/-- lower bounds of the first identities -/
def z_lbk (S : z_as_) : List (Nat × z_pc) → Nat → Option Int
  | [], _ => none
  | q :: r, k => bif Nat.beq q.1 k then (match z_plh S q.2 with
    | some t => bif Nat.beq t.1 k && (z_ile t.2.1 0 && z_ile 0 t.2.2.1) then (bif z_ile 0 t.2.1 && z_ile t.2.2.1 0 then some (z_lo t) else none) else none
    | none => none) else z_lbk S r k
theorem z_lbk_ok {strs : z_Ss} {N : List Int} {S : z_as_} {f : z_Fr} {rest : List z_Fr} {P : z_H} (hS : z_gs strs N al S f rest P) : ∀ {bp : List (Nat × z_pc)} {k : Nat} {l : Int}, 1 ≤ k → z_lbk S bp k = some l → l ≤ (N[k]?).getD 0
  | [], _, _, _, h => by cases h
  | p :: r, k, l, h1, h => by
    unfold z_lbk at h
    cases hb : Nat.beq p.1 k with
    | false => rw [hb] at h; exact z_lbk_ok hS h1 h
    | true =>
      rw [hb] at h
      cases ht : z_plh S p.2 with
      | none => rw [ht] at h; cases h
      | some t =>
        rw [ht] at h
        have h : (bif Nat.beq t.1 k && (z_ile t.2.1 0 && z_ile 0 t.2.2.1) then (bif z_ile 0 t.2.1 && z_ile t.2.2.1 0 then some (z_lo t) else none) else none) = some l := h
        cases hc : (Nat.beq t.1 k && (z_ile t.2.1 0 && z_ile 0 t.2.2.1)) with
        | false => rw [hc] at h; cases h
        | true =>
          rw [hc] at h
          have h : (bif z_ile 0 t.2.1 && z_ile t.2.2.1 0 then some (z_lo t) else none) = some l := h
          cases hd : (z_ile 0 t.2.1 && z_ile t.2.2.1 0) with
          | false => rw [hd] at h; cases h
          | true =>
            rw [hd] at h
            cases h
            simp only [Bool.and_eq_true] at hc hd
            have c1 := Nat.eq_of_beq_eq_true hc.1
            have c2 := z_ile_t hc.2.1
            have c3 := z_ile_t hc.2.2
            have c4 := z_ile_t hd.1
            have c5 := z_ile_t hd.2
            obtain ⟨-, v, v1, v2, v3⟩ := z_plh_ok ht hS
            rcases v3 with v3 | ⟨w, e1, e2, e3⟩
            · omega
            · rw [c1] at e1
              rw [e1]
              show z_lo t ≤ w
              omega
/-- the run that a contract promises -/
def z_prm (G : z_Pg) (J : (Nat → Option Nat) → z_H → Prop) (N : List Int) (al : Nat → Option Nat) (Xs : List z_Xe) (d y : Nat) (l : z_L) (P : z_H) : Prop := ∃ rv P' al' X, X ∈ Xs ∧ z_Runs G d y (0, l, [], P, 0, 0) rv P' ∧ J al' P' ∧ z_post N al P X rv P' al'
/-- the body walked: the run is there -/
theorem z_body {G : z_Pg} {ns : Nat} {J : (Nat → Option Nat) → z_H → Prop} {W D : z_Ws} {T : z_Tg} {at_ : Nat → Nat → Bool} {Es Ds : List z_ce} {fu e : Nat} {Ks : List z_Kc} {Xs : List z_Xe} {C : z_ce} {N : List Int} {l : z_L} {P : z_H} {y : Nat} (hJ : z_Jok J D) (hD : z_wsub D W = true) (hgp : z_Gap T J) (hKs : ∀ K ∈ Ks, z_Kok G ns J N e K)
    (hEs : ∀ D ∈ Es, ∀ {N1 : List Int} {al1 : Nat → Option Nat} {f : z_Fr} {P1 : z_H}, z_gs (z_strs G) N1 al1 D.2.1 f [] P1 → z_fr ns al1 → z_Iv J W N N.length al P C.2.1.2.2.2.2.2 N1 al1 P1 D.2.1.2.2.2.2.2 → D.2.1.2.1 = [] → ∃ rv P' al' X, X ∈ Xs ∧ z_Runs G (D.1 + e) f.1 (z_fs f P1) rv P' ∧ J al' P' ∧ z_post N al P X rv P' al')
    (hE0 : ∀ D ∈ Es, D.2.1.2.1 = []) (hall : ∀ C' ∈ Ds, z_cok3 G W D T ns N.length Ks (z_QX (z_lbk C.2.1 C.2.2.1) N.length C.2.1.2.2.2.2.2 W Xs) at_ Es Ds fu C' = true) (hC : C ∈ Ds)
    (hS : z_gs (z_strs G) N al C.2.1 (y, 0, l, [], 0, 0) [] P) (hf : z_fr ns al) (hj : J al P) : z_prm G J N al Xs (C.1 + e) y l P := by
  have hI : z_Iv J W N N.length al P C.2.1.2.2.2.2.2 N al P C.2.1.2.2.2.2.2 := ⟨Nat.le_refl _, fun _ _ _ => rfl, fun _ _ k => k, fun _ _ k => Or.inl k, z_same_rf hS.2.2.1, hj, Nat.le_refl _⟩
  have hw := hall C hC
  unfold z_cok3 at hw
  split at hw
  · rename_i us hus
    have := z_cut3 (Φ := fun d f rest P1 => ∃ rv P', z_RF G rest f d P1 rv P' ∧ ∃ al' X, X ∈ Xs ∧ J al' P' ∧ z_post N al P X rv P' al') z_RF_clo5 hJ hD hgp hKs
      (fun {d f P1 r0 S t N1 al1} hn hq hS1 hf1 hI1 hr1 => by
        obtain ⟨X, h1, h2, h3⟩ := z_QX_ok (fun k l h1 _ h => z_lbk_ok hS h1 h) hq hS1 hf1 hI1 hr1
        exact ⟨r0, P1, z_RF_end hn, al1, X, h1, h2, h3⟩)
      (fun D hD {N1 al1 f rest P1} hS1 hf1 hI1 => by
        have hr : rest = [] := by
          have h2 := hS1.2.1
          rw [hE0 D hD] at h2
          match rest, h2 with
          | [], _ => rfl
        subst hr
        obtain ⟨rv, P', al', X, h1, h2, h3, h4⟩ := hEs D hD hS1 hf1 hI1 (hE0 D hD)
        exact ⟨rv, P', h2, al', X, h1, h3, h4⟩)
      hall _ C hC hus (Nat.le_refl _) hS hf hI
    obtain ⟨rv, P', h1, al', X, h2, h3, h4⟩ := this
    exact ⟨rv, P', al', X, h2, h1, h3, h4⟩
  · cases hw
/-- a contract that hangs on no measure -/
def z_cn (G : z_Pg) (ns : Nat) (J : (Nat → Option Nat) → z_H → Prop) (K : z_Kc) : Prop := ∀ {N : List Int} {al : Nat → Option Nat} {l : z_L} {P : z_H} {d : Nat}, K.2.1 ≤ d → z_gs (z_strs G) N al K.2.2.1 (K.1, 0, l, [], 0, 0) [] P → z_fr ns al → J al P → z_prm G J N al K.2.2.2.2.1 d K.1 l P
theorem z_cn_ok {G : z_Pg} {ns : Nat} {J : (Nat → Option Nat) → z_H → Prop} {K : z_Kc} {w0 : List Int} {e : Nat} (h : z_cn G ns J K) : z_Kok G ns J w0 e K := fun hd hS hf hj _ => h (Nat.le_trans hd (Nat.le_add_right _ _)) hS hf hj
theorem z_cn_mk {G : z_Pg} {ns : Nat} {J : (Nat → Option Nat) → z_H → Prop} {W D : z_Ws} {T : z_Tg} {at_ : Nat → Nat → Bool} {Ds : List z_ce} {fu n : Nat} {Ks : List z_Kc} {K : z_Kc} {C : z_ce} (hJ : z_Jok J D) (hD : z_wsub D W = true) (hgp : z_Gap T J) (hKs : ∀ K' ∈ Ks, z_cn G ns J K') (hK1 : C.1 = K.2.1) (hK2 : C.2.1 = K.2.2.1) (hn : K.2.2.1.2.2.2.1 = n)
    (hall : ∀ C' ∈ Ds, z_cok3 G W D T ns n Ks (z_QX (z_lbk C.2.1 C.2.2.1) n C.2.1.2.2.2.2.2 W K.2.2.2.2.1) at_ [] Ds fu C' = true) (hC : C ∈ Ds) : z_cn G ns J K := by
  intro N al l P d hd hS hf hj
  have hlen : N.length = n := by rw [← hn]; exact hS.2.2.2.1.symm
  subst hlen
  have := z_body (e := d - K.2.1) (l := l) (y := K.1) (Es := []) hJ hD hgp (fun K' hK' => z_cn_ok (hKs K' hK')) (fun D hD => by cases hD) (fun D hD => by cases hD) hall hC (by rw [hK2]; exact hS) hf hj
  rw [hK1, show K.2.1 + (d - K.2.1) = d by omega] at this
  exact this
end ZMKC
