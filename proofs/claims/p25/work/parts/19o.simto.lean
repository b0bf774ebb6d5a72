/-! The machine follows a partial run. -/
section ZSTO
variable {l : Launch}
variable {G : z_Pg} {nm : Nat → MethodName} {by_ : Nat → ByteArray} {cl : List vw_C} {aty : List FieldType} {Ts Ns : List Cond} {rs : List (String × Nat × String × Nat)} {D : va_G} {ta : Nat → ClassId} {ext : Nat → Nat} {base : Nat}
set_option maxHeartbeats 8000000 in
theorem z_simto (hOK : z_OK G nm by_ cl aty Ts Ns rs) : ∀ (n d x : Nat) (q q9 : z_S), z_tow G n d x q q9 → q.2.2.2.2.1 ≤ z_mc G x → q.2.2.2.2.2 ≤ z_ms G x →
  ∀ (p : Program) (e : Env) (s : State) (m : MethodId) (args : Array Value) (below : List Frame) (meth : Method) (c : Code) (R : Room) (H : Heap) (locs : List Loc) (ls : Array Slot) (Q : State → Prop),
    z_Cx G nm by_ cl aty Ts Ns rs D ta ext base p s m args meth c x → R.cells = z_mc G x → R.slots = z_ms G x → d ≤ R.frames → 100 * d ≤ R.locals → z_R D cl ta ext base q.2.2.2.1 H → va_S (fun q => base ≤ q) s.heap H locs → lv_has ls (z_nL G x) (z_cl ext base q.2.1) →
    (∀ H1 locs1 ls1, z_R D cl ta ext base q9.2.2.2.1 H1 → va_S (fun q => base ≤ q) s.heap H1 locs1 → lv_has ls1 (z_nL G x) (z_cl ext base q9.2.1) → q9.2.2.2.2.1 ≤ z_mc G x → q9.2.2.2.2.2 ≤ z_ms G x → W p l e R s m args below meth c H1 locs1 q9.2.2.2.2.1 q9.2.2.2.2.2 Q (F0 m q9.1 ls1 (q9.2.2.1.map (z_cv ext base)))) →
    W p l e R s m args below meth c H locs q.2.2.2.2.1 q.2.2.2.2.2 Q (F0 m q.1 ls (q.2.2.1.map (z_cv ext base))) := by
  intro n
  induction n with
  | zero =>
    intro d x q q9 h hmc hms p e s m args below meth c R H locs ls Q hC hRc hRs hRf hRl hR hS hl kk
    have h : q = q9 := h
    subst h
    exact kk H locs ls hR hS hl hmc hms
  | succ n ih =>
    intro d x q q9 h hmc hms p e s m args below meth c R H locs ls Q hC hRc hRs hRf hRl hR hS hl kk
    rcases h with h | ⟨q', hn, h⟩ | ⟨y, as, rst, rv, P1, hn, hcr, h⟩
    · subst h
      exact kk H locs ls hR hS hl hmc hms
    · -- a step
      obtain ⟨pc, ll, st, P, cn, sn⟩ := q
      have hOK' := hOK
      have hC' := hC
      obtain ⟨o1, -, -, -, -, o6, oL, og, oN, oa, oA, oF, oC, oac, oi⟩ := hOK'
      obtain ⟨hx, hb, hr, hml, hown, hts, hns, hK, hlk, hnm, hX, hbs⟩ := hC'
      have hsz : ls.size = z_nL G x := hl.1
      unfold z_next at hn
      split at hn
      · cases hn
      · rename_i i hi
        split at hn
        · rename_i yk hyk
          split at hn
          · split at hn <;> cases hn
          · split at hn
            · rename_i q2 hq2
              cases hn
              -- Object's constructor, arraycopy
              have hcall : ∃ n, (i.1 = .invokestatic n ∧ z_inv G x n = some yk ∧ yk.2 ≠ 3) ∨ (i.1 = .invokespecial n ∧ z_inv G x n = some yk ∧ yk.2 ≠ 5) := by
                unfold z_call at hyk
                split at hyk
                · rename_i n h3
                  unfold z_only at hyk
                  split at hyk
                  · rename_i q9 hq9
                    split at hyk
                    · rename_i h9
                      cases hyk
                      have : yk.2 = 1 := by simpa using h9
                      omega
                    · cases hyk
                  · cases hyk
                · rename_i n h3
                  unfold z_only at hyk
                  split at hyk
                  · rename_i q9 hq9
                    split at hyk
                    · rename_i h9
                      cases hyk
                      refine ⟨n, Or.inl ⟨h3, hq9, fun h4 => ?_⟩⟩
                      rw [h4] at h9
                      simp at h9
                    · cases hyk
                  · cases hyk
                · rename_i n h3
                  unfold z_only at hyk
                  split at hyk
                  · rename_i q9 hq9
                    split at hyk
                    · rename_i h9
                      cases hyk
                      refine ⟨n, Or.inr ⟨h3, hq9, fun h4 => ?_⟩⟩
                      rw [h4] at h9
                      simp at h9
                    · cases hyk
                  · cases hyk
                · cases hyk
              obtain ⟨n, hcall⟩ := hcall
              obtain ⟨hd, hlen⟩ := o1 x pc i hi
              unfold z_prim at hq2
              split at hq2
              · rename_i h3
                rcases hcall with ⟨-, -, h4⟩ | ⟨hins, hinv, -⟩
                · exact absurd h3 h4
                obtain ⟨-, -, -, -, w3, -⟩ := o6 x n yk.1 yk.2 hinv
                obtain ⟨w31, w32, w33⟩ := w3 h3
                dsimp only at hq2
                split at hq2
                · rename_i a r9
                  split at hq2
                  · rename_i h5
                    cases hq2
                    have hd : decode (by_ x) pc = .ok (.invokespecial n, 3) := by
                      rcases hlen with ⟨a1, a2, a3, a4, a5⟩ | hz
                      · rw [hins] at a5; cases a5
                      · rw [hins] at hz hd; rw [hd, hz]; rfl
                    obtain ⟨h51, h52⟩ := h5
                    have hc9 : ((r9.map (z_cv ext base)).map fun v => v.category).sum ≤ 8 := by rw [z_cat_cv]; exact h52
                    refine W.objInit hx hb hown (hts _ w31) (hts _ w32) (hts _ w33) (g := F0 m pc ls (z_cv ext base (.ref a) :: r9.map (z_cv ext base))) rfl (by rw [hml]; exact hsz) rfl hd (Nat.le_trans h51 hRf) (by show 2 * 0 + _ + 12 ≤ _; omega) ?_
                    exact ih d x (pc + 3, ll, r9, P, cn, sn) q9 h hmc hms p e s m args below meth c R H locs ls Q hC hRc hRs hRf hRl hR hS hl kk
                  · cases hq2
                · cases hq2
              · split at hq2
                · rename_i h3n h5
                  rcases hcall with ⟨hins, hinv, -⟩ | ⟨-, -, h4⟩
                  rotate_left
                  · exact absurd h5 h4
                  obtain ⟨-, -, -, -, -, w5⟩ := o6 x n yk.1 yk.2 hinv
                  obtain ⟨w51, w52, w53, w54⟩ := w5 h5
                  split at hq2
                  · rename_i q5 hq5
                    split at hq2
                    · rename_i h6
                      cases hq2
                      obtain ⟨h61, h62⟩ := h6
                      have hd : decode (by_ x) pc = .ok (.invokestatic n, 3) := by
                        rcases hlen with ⟨a1, a2, a3, a4, a5⟩ | hz
                        · rw [hins] at a5; cases a5
                        · rw [hins] at hz hd; rw [hd, hz]; rfl
                      have hn5 : nativeFrameWords "java/lang/System" "arraycopy" 5 + 11 ≤ 60 := by decide +kernel
                      refine z_sim_acp hx hb hml hown hK oa hR hS (fun _ h => h) (hts _ w51) (hts _ w52) (hts _ w53) (hts _ w54) hsz (Nat.le_trans h61 hRf) (by have : ((q5.1).map fun v => v.category).sum ≤ 8 := h62; omega) hd (st' := q5.1) (P' := q5.2) hq5 ?_
                      intro H1 locs1 g1 g2
                      exact ih d x (pc + 3, ll, q5.1, q5.2, cn, sn) q9 h hmc hms p e s m args below meth c R H1 locs1 ls Q hC hRc hRs hRf hRl g1 g2 hl kk
                    · cases hq2
                  · cases hq2
                · cases hq2
            · cases hn
        · split at hn
          · cases hn
          · split at hn
            · rename_i q2 hq2
              cases hn
              refine z_sim_step hOK hC hRc hRs hi hq2 hR hS hl ?_
              intro H1 locs1 ls1 g1 g2 g3
              have hbump : q'.2.2.2.2.1 ≤ z_mc G x ∧ q'.2.2.2.2.2 ≤ z_ms G x := by
                have hq3 := hq2
                unfold z_step at hq3
                split at hq3
                · cases hq3; exact ⟨hmc, hms⟩
                split at hq3
                · cases hq3; exact ⟨hmc, hms⟩
                split at hq3
                · cases hq3; exact ⟨hmc, hms⟩
                split at hq3
                · cases hq3; exact ⟨hmc, hms⟩
                split at hq3
                · cases hq3; exact ⟨hmc, hms⟩
                split at hq3
                · unfold z_bump at hq3
                  split at hq3
                  · rename_i h8
                    cases hq3
                    exact h8
                  · cases hq3
                split at hq3
                · cases hq3; exact ⟨hmc, hms⟩
                · cases hq3
              exact ih d x q' q9 h hbump.1 hbump.2 p e s m args below meth c R H1 locs1 ls1 Q hC hRc hRs hRf hRl g1 g2 g3 kk
            · cases hn
    · -- a call
      obtain ⟨pc, ll, st, P, cn, sn⟩ := q
      have hOK' := hOK
      have hC' := hC
      obtain ⟨o1, -, -, -, -, o6, oL, og, oN, oa, oA, oF, oC, oac, oi⟩ := hOK'
      obtain ⟨hx, hb, hr, hml, hown, hts, hns, hK, hlk, hnm, hX, hbs⟩ := hC'
      have hsz : ls.size = z_nL G x := hl.1
      unfold z_next at hn
      split at hn
      · cases hn
      · rename_i i hi
        split at hn
        rotate_left
        · split at hn
          · cases hn
          · split at hn <;> cases hn
        · rename_i yk hyk
          split at hn
          rotate_left
          · split at hn <;> cases hn
          · rename_i hkd
            split at hn
            rotate_left
            · cases hn
            · rename_i ar har
              cases hn
              · obtain ⟨fu, ho⟩ := hcr
                obtain ⟨y, kd⟩ := yk
                obtain ⟨as, rst⟩ := ar
                dsimp only at h ho hkd har
                obtain ⟨hst, hna, hd1, hc8, hnL, hca, hcm, hsm, hk1, hkat⟩ := z_args_spec har
                subst hst
                have hinv : ∃ n, z_inv G x n = some (y, kd) ∧ ((i.1 = .invokestatic n ∧ kd = 0) ∨ (i.1 = .invokevirtual n ∧ kd = 1) ∨ (i.1 = .invokespecial n ∧ kd = 2)) := by
                  unfold z_call at hyk
                  split at hyk
                  · rename_i n h3
                    unfold z_only at hyk
                    split at hyk
                    · rename_i q9 hq9
                      split at hyk
                      · rename_i h9
                        cases hyk
                        exact ⟨n, hq9, Or.inr (Or.inl ⟨h3, by simpa using h9⟩)⟩
                      · cases hyk
                    · cases hyk
                  · rename_i n h3
                    unfold z_only at hyk
                    split at hyk
                    · rename_i q9 hq9
                      split at hyk
                      · rename_i h9
                        cases hyk
                        refine ⟨n, hq9, Or.inl ⟨h3, ?_⟩⟩
                        simp at h9
                        omega
                      · cases hyk
                    · cases hyk
                  · rename_i n h3
                    unfold z_only at hyk
                    split at hyk
                    · rename_i q9 hq9
                      split at hyk
                      · rename_i h9
                        cases hyk
                        refine ⟨n, hq9, Or.inr (Or.inr ⟨h3, ?_⟩)⟩
                        simp at h9
                        omega
                      · cases hyk
                    · cases hyk
                  · cases hyk
                obtain ⟨n, hinv, hkind⟩ := hinv
                obtain ⟨w0, ws0, ws1, ws2, -, -⟩ := o6 x n y kd hinv
                obtain ⟨w01, w02, w03, w04, w05, w06⟩ := w0 hkd
                obtain ⟨hd, hlen⟩ := o1 x pc i hi
                have hM : Met l (nm y) (z_ws G nm by_ Ts y) (z_room G y (d - 1)) (z_Pc cl aty Ns (z_strs G) rs D ta ext base as P) (z_Qc cl D ta ext base rv P1) (z_mc G y) (z_ms G y) (fun q => base ≤ q) := z_met hOK (z_sim hOK fu) w01 hca ho
                have hblind : FrameBlind (z_Pc cl aty Ns (z_strs G) rs D ta ext base as P) := z_blind oN
                have hGood : GoodIn Ts (z_ws G nm by_ Ts y) := fun w hw => by
                  rcases List.mem_cons.mp hw with rfl | hw
                  · exact ⟨w02, good_of_word (og _ w02)⟩
                  · exact ⟨hw, good_of_word (og _ hw)⟩
                have hroom : (z_room G y (d - 1)).frames + 1 ≤ R.frames ∧ 8 + (z_nL G y + 11) + (z_room G y (d - 1)).locals ≤ R.locals := by
                  refine ⟨?_, ?_⟩
                  · show d - 1 + 1 ≤ _
                    omega
                  · show 8 + (z_nL G y + 11) + 100 * (d - 1) ≤ _
                    omega
                have hpre : ∀ U : State, U.heap = H → s.WarmedH U.vm → z_Pc cl aty Ns (z_strs G) rs D ta ext base as P (as.map (z_cv ext base)).toArray U := fun U hU hW =>
                  ⟨rfl, by rw [hU]; exact hR, z_K.moved hW.alike hK, fun w hw => oN w hw s U #[] hW (hns w hw), hX.on hW (fun a h1 h2 => by rw [hU]; exact hS.2.1 a h1 h2)⟩
                have hfix : CallFix p m c (by_ x) (z_nL G x) s args Ts (nm x).cls := ⟨hx, hb, hml, hown, hts⟩
                have hWd : 2 * (F0 m pc ls ((as.reverse ++ rst).map (z_cv ext base))).monitorRoom + ((rst.map (z_cv ext base)).map fun v => v.category).sum ≤ 8 := by
                  show 2 * 0 + _ ≤ 8
                  rw [z_cat_cv]
                  have : ((rst.map fun v => v.category)).sum ≤ 8 := hc8
                  omega
                have hfit : cn + z_mc G y ≤ R.cells ∧ sn + z_ms G y ≤ R.slots := by rw [hRc, hRs]; exact ⟨hcm, hsm⟩
                have back : ∀ aa, va_Run p l e R s m args below meth c H locs cn sn (z_mc G y) (z_ms G y) (F0 m pc ls ((as.reverse ++ rst).map (z_cv ext base))) (rst.map (z_cv ext base)) (z_Qc cl D ta ext base rv P1 aa) (fun q => base ≤ q) →
                    W p l e R s m args below meth c H locs cn sn Q (F0 m pc ls ((as.reverse ++ rst).map (z_cv ext base))) := fun aa hrun => by
                  refine z_sim_back hrun hS ?_
                  intro H1 locs1 g1 g2
                  have k9 := ih d x (pc + 3, ll, rv.toList ++ rst, P1, cn + z_mc G y, sn + z_ms G y) q9 h hcm hsm p e s m args below meth c R H1 locs1 ls Q hC hRc hRs hRf hRl g1 g2 hl kk
                  rw [z_toList_map] at k9
                  exact k9
                have hdec : ∀ ins, i.1 = ins → (∀ a1 a2 a3 a4, ins ≠ .tableswitch a1 a2 a3 a4) → z_len ins = 3 → decode (by_ x) pc = .ok (ins, 3) := fun ins h1 h2 h3 => by
                  rcases hlen with ⟨a1, a2, a3, a4, a5⟩ | hz
                  · rw [h1] at a5; exact absurd a5 (h2 _ _ _ _)
                  · rw [h1] at hz hd; rw [hd, hz, h3]
                have hstack : (as.reverse ++ rst).map (z_cv ext base) = (as.map (z_cv ext base)).reverse ++ rst.map (z_cv ext base) := by rw [List.map_append, List.map_reverse]
                rcases hkind with ⟨hins, rfl⟩ | ⟨hins, rfl⟩ | ⟨hins, rfl⟩
                · -- static
                  have hd3 := hdec _ hins (fun _ _ _ _ h => by cases h) rfl
                  have hlen3 : (as.map (z_cv ext base)).length = z_na G y := by rw [List.length_map]; exact hna
                  rcases w06 with w6 | ⟨host, w6⟩
                  · exact back _ (va_runS (n := z_na G y) hfix hM ⟨callB_of (z_na G y) hts hGood rfl rfl rfl (hts _ w03) (hts _ w6) ⟨w04.1, w04.2, w05⟩ hroom, hts _ (ws0 rfl)⟩ ⟨hblind, hpre⟩ rfl hlen3 hsz hstack hWd hd3 hfit)
                  · exact back _ (va_runSN (n := z_na G y) hfix hM ⟨va_cnB (z_na G y) hts hGood rfl rfl rfl (hns _ w6) (hts _ w03) ⟨w04.1, w04.2, w05⟩ hroom, hts _ (ws0 rfl), trivial⟩ ⟨hblind, hpre⟩ rfl hlen3 hsz hstack hWd hd3 hfit)
                · -- on an object
                  have hd3 := hdec _ hins (fun _ _ _ _ h => by cases h) rfl
                  obtain ⟨v1, v2, v3⟩ := ws1 rfl
                  have hat : z_at? G P y 1 as = true := hkat.elim (fun h => by cases h) id
                  unfold z_at? at hat
                  split at hat
                  rotate_left
                  · cases hat
                  · rename_i b As
                    rw [if_pos rfl] at hat
                    split at hat
                    rotate_left
                    · cases hat
                    · rename_i qb hqb
                      have hqt : qb.1 = z_rcv G y := by simpa using hat
                      have hlen3 : (As.map (z_cv ext base)).length = z_na G y - 1 := by
                        have : (Value.ref b :: As).length = z_na G y := hna
                        rw [List.length_map]
                        simp at this
                        omega
                      have hstk : ((Value.ref b :: As).reverse ++ rst).map (z_cv ext base) = (As.map (z_cv ext base)).reverse ++ z_cv ext base (.ref b) :: rst.map (z_cv ext base) := by
                        rw [hstack]; simp
                      obtain ⟨b', hb'⟩ : ∃ b', z_cv ext base (.ref b) = .ref b' := ⟨_, rfl⟩
                      have hrecv : ∃ cellB : Cell, H[b']? = some cellB ∧ cellB.vm.isStatics = false ∧ s.vm.findClass (nm y).cls = some cellB.cls := by
                        rcases z_lk_far hqb with hP | ⟨j, bb, hj, ⟨rfl, hq⟩ | ⟨rfl, hq⟩⟩ | ⟨-, hq⟩
                        rotate_left 3
                        · rw [hq] at hqt
                          rcases v3 with ⟨v31, -⟩ | ⟨v31, -⟩
                          · rw [v31] at hqt; cases hqt
                          · have : (103 : Nat) = z_rcv G y := hqt
                            omega
                        · rcases v3 with ⟨v31, v32⟩ | ⟨v31, r9, v32, v33⟩
                          · -- a near thing can't be a String
                            obtain ⟨r9, hr9, -⟩ := (hR.at hP).1 (by omega)
                            have := (List.getElem?_eq_some_iff.mp hr9).1
                            omega
                          · obtain ⟨r8, hr8, -, cell, g1, g2, g3, g4⟩ := (hR.at hP).1 (by omega)
                            have e1 := hR.near hP
                            rw [hb'] at e1
                            cases e1
                            refine ⟨cell, g1, by rw [g3]; rfl, ?_⟩
                            rw [g2, ← v33, hqt]
                            exact (hK.1 _ _ v32).2.1
                        · have hji : j < (z_strs G).1.length := (List.getElem?_eq_some_iff.mp hj).1
                          rcases v3 with ⟨v31, v32⟩ | ⟨v31, -⟩
                          · obtain ⟨cell, g1, g2, g3, -⟩ := (hX.1.1 j hji).1.kept hS.2.1
                            rw [z_cv_far] at hb'
                            cases hb'
                            exact ⟨cell, g1, g2, by rw [v32]; exact g3⟩
                          · rw [hq] at hqt
                            have : (98 : Nat) = z_rcv G y := hqt
                            omega
                        · rw [hq] at hqt
                          rcases v3 with ⟨v31, -⟩ | ⟨v31, -⟩
                          · rw [v31] at hqt; cases hqt
                          · have : (101 : Nat) = z_rcv G y := hqt
                            omega
                      rw [hb'] at hstk
                      have hpre' : ∀ U : State, U.heap = H → s.WarmedH U.vm → z_Pc cl aty Ns (z_strs G) rs D ta ext base (Value.ref b :: As) P (Value.ref b' :: As.map (z_cv ext base)).toArray U := fun U hU hW => by
                        have := hpre U hU hW
                        rw [List.map_cons, hb'] at this
                        exact this
                      rcases w06 with w6 | ⟨host, w6⟩
                      · exact back _ (va_runV (n := z_na G y - 1) hfix hM ⟨callB_of (z_na G y - 1) hts hGood rfl rfl rfl (hts _ w03) (hts _ w6) ⟨w04.1, w04.2, w05⟩ hroom, hts _ v1, hts _ v2⟩ ⟨hblind, hrecv, hpre'⟩ rfl hlen3 hsz hstk hWd hd3 hfit)
                      · exact back _ (va_runVN (n := z_na G y - 1) hfix hM ⟨va_cnB (z_na G y - 1) hts hGood rfl rfl rfl (hns _ w6) (hts _ w03) ⟨w04.1, w04.2, w05⟩ hroom, hts _ v1, hts _ v2⟩ ⟨hblind, hrecv, hpre'⟩ rfl hlen3 hsz hstk hWd hd3 hfit)
                · -- a constructor
                  have hd3 := hdec _ hins (fun _ _ _ _ h => by cases h) rfl
                  obtain ⟨v1, v2, v3⟩ := ws2 rfl
                  have hat : z_at? G P y 2 as = true := hkat.elim (fun h => by cases h) id
                  unfold z_at? at hat
                  split at hat
                  rotate_left
                  · cases hat
                  · rename_i b As
                    have hlen3 : (As.map (z_cv ext base)).length = z_na G y - 1 := by
                      have : (Value.ref b :: As).length = z_na G y := hna
                      rw [List.length_map]
                      simp at this
                      omega
                    have hstk : ((Value.ref b :: As).reverse ++ rst).map (z_cv ext base) = (As.map (z_cv ext base)).reverse ++ z_cv ext base (.ref b) :: rst.map (z_cv ext base) := by
                      rw [hstack]; simp
                    obtain ⟨b', hb'⟩ : ∃ b', z_cv ext base (.ref b) = .ref b' := ⟨_, rfl⟩
                    rw [hb'] at hstk
                    have hpre' : ∀ U : State, U.heap = H → s.WarmedH U.vm → z_Pc cl aty Ns (z_strs G) rs D ta ext base (Value.ref b :: As) P (Value.ref b' :: As.map (z_cv ext base)).toArray U := fun U hU hW => by
                      have := hpre U hU hW
                      rw [List.map_cons, hb'] at this
                      exact this
                    have hw9 : z_ws G nm by_ Ts y = Cond.code (nm y) (by_ y) (z_nL G y) none :: Ts := by unfold z_ws; rw [v3]
                    rcases w06 with w6 | ⟨host, w6⟩
                    · exact back _ (va_runI (n := z_na G y - 1) hfix hM ⟨callB_of (z_na G y - 1) hts hGood hw9 rfl rfl (hts _ w03) (hts _ w6) ⟨w04.1, w04.2, w05⟩ hroom, v1, hts _ v2⟩ ⟨hblind, hpre'⟩ rfl hlen3 hsz hstk hWd hd3 hfit)
                    · exact back _ (va_runIN (n := z_na G y - 1) hfix hM ⟨va_cnB (z_na G y - 1) hts hGood hw9 rfl rfl (hns _ w6) (hts _ w03) ⟨w04.1, w04.2, w05⟩ hroom, v1, hts _ v2⟩ ⟨hblind, hpre'⟩ rfl hlen3 hsz hstk hWd hd3 hfit)
end ZSTO
