section ZFIN
theorem z_bt_law : z_bt z_M 291 = code := rfl
theorem z_ns0 {w : Cond} (hw : w ∈ z_Ns) {s : State} {a : Array Value} (h : w.before a s = true) : w.before #[] s = true := by
  obtain ⟨-, hN⟩ := List.mem_filter.mp hw
  unfold z_isN at hN
  split at hN
  · exact va_Nw.of rfl h
  · exact va_Nw.of rfl h
  · exact va_AO.of h
  · exact h
  · cases hN
abbrev z_LCx (xl : List Int32) (D : va_G) (ta : Nat → ClassId) (ext : Nat → Nat) (p : Program) (s : State) (m : MethodId) (meth : Method) (c : Code) (b : Nat) : Prop :=
  z_Cx (z_G xl) (z_nm z_M) (z_bt z_M) (z_cl0 z_CT) z_atys (z_Ts (k2_sels lw_privs)) z_Ns z_rsl D ta ext s.heap.size p s m #[Value.ref b] meth c 291
variable {p : Program} {l : Launch} {e : Env} {s : State} {m : MethodId} {below : List Frame} {meth : Method} {c : Code} {b : Nat} {xl : List Int32} {D : va_G} {ta : Nat → ClassId} {ext : Nat → Nat}
theorem z_lawRun (hC : z_LCx xl D ta ext p s m meth c b) {f : z_Fr} (hf1 : f.1 = 291) {P P' : z_H} (hr : z_RF (z_G xl) [] f 800 P (some (.int 1)) P') (hc : f.2.2.2.2.1 ≤ z_mc (z_G xl) 291) (hs : f.2.2.2.2.2 ≤ z_ms (z_G xl) 291) {H : Heap} {locs : List Loc} {ls : Array Slot} (hR : z_R D (z_cl0 z_CT) ta ext s.heap.size P H) (hS : va_S (fun q => s.heap.size ≤ q) s.heap H locs) (hl : lv_has ls (z_nL (z_G xl) 291) (z_cl ext s.heap.size f.2.2.1)) :
    W p l e room_1 s m #[Value.ref b] below meth c H locs f.2.2.2.2.1 f.2.2.2.2.2 (lw_Z below #[Value.ref b] s) (F0 m f.2.1 ls (f.2.2.2.1.map (z_cv ext s.heap.size))) := by
  have hr : z_Runs (z_G xl) 800 f.1 (z_fs f P) (some (.int 1)) P' := hr
  rw [hf1] at hr
  obtain ⟨fu, hr⟩ := hr
  obtain ⟨q', ⟨n, hto⟩, hnx⟩ := z_run_to _ _ _ _ _ _ hr
  obtain ⟨hx, hb, hrt, hml, hown, hts, hns, hK, hlk, hnm, hX, hbs⟩ := id hC
  refine z_simto (z_prog_ok xl) n 800 291 (z_fs f P) q' hto hc hs p e s m _ below meth c room_1 H locs ls _ hC rfl rfl (Nat.le_of_ble_eq_true rfl) (Nat.le_of_ble_eq_true rfl) hR hS hl ?_
  intro H1 locs1 ls1 g1 g2 g3 g4 g5
  obtain ⟨i, hi, hins, hst⟩ := z_next_end hnx
  rw [hst]
  refine va_forget (fun q hq => g2.2.2 q hq) ?_
  have g4 : q'.2.2.2.2.1 ≤ 600002 := g4
  have g5 : q'.2.2.2.2.2 ≤ 7302232 := g5
  refine W.widen g4 g5 ?_
  obtain ⟨hd, hlen⟩ := (z_prog_ok xl).1 291 q'.1 i hi
  have h1 : i.2 = 1 := by
    rcases hlen with ⟨_, _, _, _, h⟩ | h
    · rw [hins] at h; cases h
    · rw [hins] at h; exact h
  rw [hins, h1] at hd
  exact lw_ret hx hb hrt hlk hd
theorem z_PF_mono {G : z_Pg} {Ψ Ψ' : Nat → z_Fr → z_H → Prop} (h : ∀ d f P, Ψ d f P → Ψ' d f P) : ∀ {rest : List z_Fr} {f : z_Fr} {d : Nat} {P : z_H}, z_PF G Ψ rest f d P → z_PF G Ψ' rest f d P
  | [], _, _, _, ⟨q', h1, h2⟩ => ⟨q', h1, h _ _ _ h2⟩
  | _ :: _, _, _, _, ⟨r0, P0, h1, h2⟩ => ⟨r0, P0, h1, z_PF_mono h h2⟩
/-- to a place of E; the old cells' numbers below K stay -/
def z_PA (G : z_Pg) (K : Nat) (E : z_ce) (al : Nat → Option Nat) (d : Nat) (f : z_Fr) (rest : List z_Fr) (P : z_H) : Prop :=
  z_PF G (fun d f P => d = E.1 ∧ ∃ N' al', z_gs (z_strs G) N' al' E.2.1 f [] P ∧ z_fr 13 al' ∧ ∀ a c, c < K → al a = some c → al' a = some c) rest f d P
theorem z_PA_clo {G : z_Pg} {K : Nat} {E : z_ce} : z_CloA G (fun _ _ => false) (z_PA G K E) := by
  refine ⟨?_, ?_, ?_, ?_, ?_⟩
  · intro al d f rest P q hn h
    exact z_PF_clo.1 hn h
  · intro al d y f rest P as rst hd hn h
    exact z_PF_clo.2.1 hd hn h
  · intro al d f g rest P r0 hn h
    exact z_PF_clo.2.2.1 hn h
  · intro d f P r0 S t N al _ hq
    cases hq
  · intro al al1 d f rest P hle h
    exact z_PF_mono (fun d f P ⟨h1, N', al', h2, h3, h4⟩ => ⟨h1, N', al', h2, h3, fun a c hc ha => h4 a c hc (hle a c ha)⟩) h
theorem z_run_toA {xs : List Int32} {at_ : Nat → Nat → Bool} {D0 E : z_ce} {K : Nat} (hok : z_cok (z_G []) z_md 13 (fun _ _ => false) at_ [E] [D0] 5000 D0 = true) (hE : E.2.1.2.1 = []) (hlE : K ≤ E.2.1.2.2.1.length) (hlD : K ≤ D0.2.1.2.2.1.length) {N : List Int} {al : Nat → Option Nat} {f : z_Fr} {P : z_H} (hS : z_gs (z_strs (z_G xs)) N al D0.2.1 f [] P) (hf : z_fr 13 al) :
    ∃ q', z_To (z_G xs) D0.1 f.1 (z_fs f P) q' ∧ D0.1 = E.1 ∧ ∃ N' al', z_gs (z_strs (z_G xs)) N' al' E.2.1 (f.1, q'.1, q'.2.1, q'.2.2.1, q'.2.2.2.2.1, q'.2.2.2.2.2) [] q'.2.2.2.1 ∧ z_fr 13 al' ∧ ∀ a c, c < K → al a = some c → al' a = some c := by
  have hall : ∀ C ∈ [D0], z_cok (z_G xs) z_md 13 (fun _ _ => false) at_ [E] [D0] 5000 C = true := fun C hC => by
    rw [List.mem_singleton] at hC
    subst hC
    rw [z_G_set]
    exact z_cok_setS hok
  refine z_cut_onA (Φ := z_PA (z_G xs) K E) z_PA_clo ?_ ?_ hall (List.mem_singleton_self _) hS hf
  · intro D9 hD9 N' al' f' rest P' hS' hf'
    rw [List.mem_singleton] at hD9
    subst hD9
    have h0 := hS'.2.1
    rw [hE] at h0
    match rest, h0, hS' with
    | [], _, hS' => exact ⟨z_fs f' P', z_To_rf, rfl, N', _, hS', hf', fun a c hc ha => z_alc_put ha (Nat.lt_of_lt_of_le hc hlE)⟩
  · intro D9 hD9 al' d' f' rest P' h
    rw [List.mem_singleton] at hD9
    subst hD9
    exact z_PF_mono (fun d f P ⟨h1, N', al2, h2, h3, h4⟩ => ⟨h1, N', al2, h2, h3, fun a c hc ha => h4 a c hc (z_alc_put ha (Nat.lt_of_lt_of_le hc hlD))⟩) h
theorem z_anyI {N : List Int} {al : Nat → Option Nat} (x : Int32) : z_gv N al (.inl (0, 0, 0, -2147483648, 2147483647)) (.int x) := by
  have h1 := x.le_toInt
  have h2 := x.toInt_lt
  exact ⟨x, rfl, by show (-2147483648 : Int) ≤ _; omega, by show _ ≤ (2147483647 : Int); omega, Or.inl rfl⟩
/-- what hangs on no identity, and on old cells alone -/
def z_mvv (K : Nat) : z_av → Bool
  | .inl t => Nat.beq t.1 0
  | .inr (.inl t) => Nat.beq t.1 0
  | .inr (.inr t) => t.2.all fun c => Nat.ble (c + 1) K
theorem z_mvv_ok {K : Nat} {N N' : List Int} {al al' : Nat → Option Nat} (hal : ∀ a c, c < K → al a = some c → al' a = some c) : ∀ {t : z_av} {v : Value}, z_mvv K t = true → z_gv N al t v → z_gv N' al' t v
  | .inl _, _, h, ⟨x, e, h1, h2, _⟩ => ⟨x, e, h1, h2, Or.inl (Nat.eq_of_beq_eq_true h)⟩
  | .inr (.inl _), _, h, ⟨x, e, h1, h2, _⟩ => ⟨x, e, h1, h2, Or.inl (Nat.eq_of_beq_eq_true h)⟩
  | .inr (.inr _), _, _, Or.inl h => Or.inl h
  | .inr (.inr t), _, h, Or.inr ⟨a, c, e, h1, h2⟩ => Or.inr ⟨a, c, e, hal a c (Nat.le_of_ble_eq_true (List.all_eq_true.mp h c h2)) h1, h2⟩
theorem z_gh_junk {strs : z_Ss} {N : List Int} {al : Nat → Option Nat} {AH : List z_ac_} {P Q : z_H} (h : z_gh strs N al AH P) : z_gh strs N al AH (P ++ Q) := by
  intro a c hac
  obtain ⟨q, A, h1, h2⟩ := h a c hac
  refine ⟨q, A, ?_, h2⟩
  unfold z_lk at h1 ⊢
  split
  · rename_i hlt
    rw [if_pos hlt] at h1
    rw [List.getElem?_append_left (List.getElem?_eq_some_iff.mp h1).1]
    exact h1
  · rename_i hlt
    rw [if_neg hlt] at h1
    exact h1
theorem z_H0len : (286 : Nat) ≤ z_H0.length := by decide +kernel
theorem z_H0_at13 : (z_H0[13]?).map (fun A => (A.1, A.2.1.2)) = some (0, true) := by decide +kernel
set_option maxHeartbeats 4000000 in
theorem z_exc6 (hl : l.stackTraces = false) (hC : z_LCx xl D ta ext p s m meth c b) (hT : z_TW s.heap.size s) {f : z_Fr} (hf1 : f.1 = 291) {P : z_H} {N : List Int} {al : Nat → Option Nat} (hS : z_gs (z_strs (z_G xl)) N al (z_D 390) f [] P) (hf : z_fr 13 al) (hc : f.2.2.2.2.1 ≤ z_mc (z_G xl) 291) (hs : f.2.2.2.2.2 ≤ z_ms (z_G xl) 291) {H : Heap} {locs : List Loc} {ls : Array Slot} (hR : z_R D (z_cl0 z_CT) ta ext s.heap.size P H) (hSv : va_S (fun q => s.heap.size ≤ q) s.heap H locs) (hl8 : lv_has ls (z_nL (z_G xl) 291) (z_cl ext s.heap.size f.2.2.1)) :
    W p l e room_1 s m #[Value.ref b] below meth c H locs f.2.2.2.2.1 f.2.2.2.2.2 (lw_Z below #[Value.ref b] s) (F0 m f.2.1 ls (f.2.2.2.1.map (z_cv ext s.heap.size))) := by
  obtain ⟨q', hto, -, N1, al1, hS1, hfr1, -⟩ := z_run_toA (xs := xl) (K := 286) z_kx6 rfl z_H0len z_H0len hS hf
  obtain ⟨n, hto⟩ := hto
  rw [hf1] at hto
  refine z_simto (z_prog_ok xl) n 800 291 (z_fs f P) q' hto hc hs p e s m _ below meth c room_1 H locs ls _ hC rfl rfl (Nat.le_of_ble_eq_true rfl) (Nat.le_of_ble_eq_true rfl) hR hSv hl8 ?_
  intro H1 locs1 ls1 g1 g2 g3 g4 g5
  obtain ⟨⟨k1, k2, k3, k4, k5, k6⟩, -, k7, k8, k9, k10⟩ := id hS1
  have k2 : 404 = q'.1 := k2
  have k5 : 282 = q'.2.2.2.2.1 := k5
  have k6 : 6856 = q'.2.2.2.2.2 := k6
  obtain ⟨pc', ll', st', P1, cn', sn'⟩ := q'
  dsimp only at k2 k3 k4 k5 k6 k7 k10 g1 g3 g4 g5 ⊢
  subst k2; subst k5; subst k6
  have k4 : z_all2 (z_gv N1 al1) [.inr (.inr (false, [285])), .inl ((3, 0, 0, -2147483648, 2147483647)), .inl ((2, 0, 0, -2147483648, 2147483647)), .inr (.inr (false, [13]))] st' := k4
  match st', k4 with
  | [_, _, _, _], ⟨ho, ⟨p1, e1, w1⟩, ⟨p0, e0, w0⟩, hx0, _⟩ =>
    subst e0; subst e1
    rcases ho with ⟨-, ho⟩ | ⟨o, co, eo, hao, -⟩
    · cases ho
    rcases id hx0 with ⟨-, hx1⟩ | ⟨x, cx, ex, hax, hcx⟩
    · cases hx1
    subst eo; subst ex
    have hcx : cx = 13 := by simpa using hcx
    subst hcx
    have hx1 : z_gv N1 al1 (.inr (.inr (false, [13]))) (.ref x) := Or.inr ⟨x, 13, rfl, hax, List.mem_singleton_self _⟩
    have hSy : z_gs (z_strs (z_G xl)) N1 al1 z_Dy6.2.1 (184, 0, lv_args 0 [.ref x, .int p0, .int p1], [], 0, 0) [] P1 :=
      ⟨⟨rfl, rfl, z_alv_ok (ts := [.inr (.inr (false, [13])), .inl (2, 0, 0, -2147483648, 2147483647), .inl (3, 0, 0, -2147483648, 2147483647)]) (i := 0) ⟨hx1, ⟨p0, rfl, w0⟩, ⟨p1, rfl, w1⟩, trivial⟩, trivial, rfl, rfl⟩, trivial, k7, k8, fun q hq => (by cases hq), k10⟩
    obtain ⟨q9, hto9, -, N2, al2, hS2, hfr2, hal⟩ := z_run_toA (xs := xl) (K := 286) z_ky6 rfl z_H0len z_H0len hSy hfr1
    obtain ⟨⟨-, n2, -, n4, n5, n6⟩, -, n7, n8, n9, n10⟩ := id hS2
    have n2 : 17 = q9.1 := n2
    have n5 : 0 = q9.2.2.2.2.1 := n5
    have n6 : 0 = q9.2.2.2.2.2 := n6
    have n4 : z_all2 (z_gv N2 al2) [] q9.2.2.1 := n4
    have hst9 : q9.2.2.1 = [] := by
      generalize q9.2.2.1 = w at n4
      match w, n4 with
      | [], _ => rfl
    obtain ⟨qx, Ax, x1, x2, x3, x4, x5⟩ := k7 x 13 hax
    have hA := z_H0_at13
    have x2 : z_H0[13]? = some Ax := x2
    rw [x2] at hA
    have hA := Option.some.inj hA
    have hA1 : Ax.1 = 0 := congrArg Prod.fst hA
    have hA2 : Ax.2.1.2 = true := congrArg Prod.snd hA
    have hPx : P1[x]? = some qx := by
      unfold z_lk at x1
      rw [if_pos (x5 hA2)] at x1
      exact x1
    obtain ⟨o', ho'⟩ : ∃ o', z_cv ext s.heap.size (.ref o) = .ref o' := ⟨_, rfl⟩
    have hM := z_hlp6 (l := l) hl (D := D) (ta := ta) (ext := ext) (base := s.heap.size) (o := o) (o' := o') hto9 n2.symm hst9 n5.symm n6.symm hPx (x3.1.symm.trans hA1) ho'
    obtain ⟨hx, hb, hrt, hml, hown, hts, hns, hK, hlk, hnm, hX, hbs⟩ := id hC
    obtain ⟨-, -, -, -, -, -, oL, og, oN, oa, oA, oF, oC, oac, oi⟩ := id (z_prog_ok xl)
    have hcw : Cond.codeWith ⟨"ChaffInTheWindLaw", "sort", "(LChaffInTheWind;II[J)I"⟩ method_3_code 5 (some .int) [(0, 10, 13, 13)] ∈ z_Ts (k2_sels lw_privs) := z_tbl_Ts (z_isw_tbl (i := 1119) (by decide +kernel)) rfl
    have hGood : GoodIn (z_Ts (k2_sels lw_privs)) (Cond.codeWith ⟨"ChaffInTheWindLaw", "sort", "(LChaffInTheWind;II[J)I"⟩ method_3_code 5 (some .int) [(0, 10, 13, 13)] :: z_Ts (k2_sels lw_privs)) := fun w hw => by
      rcases List.mem_cons.mp hw with rfl | hw
      · exact ⟨hcw, good_of_word (og _ hcw)⟩
      · exact ⟨hw, good_of_word (og _ hw)⟩
    refine z_backW (mc := 1) (ms := 6) (rest := []) (Nat.le_of_ble_eq_true rfl) (vx_runSW (n := 4) (own := "ChaffInTheWindLaw") (index := 53) (As := ([.ref x, .int p0, .int p1, .ref o] : List Value).map (z_cv ext s.heap.size)) ⟨hx, hb, hml, hown, hts⟩ hM
      ⟨⟨rfl, rfl, Nat.le_of_ble_eq_true rfl, by decide +kernel, pay_in hts hGood, List.mem_cons_self⟩, hts _ hcw, hts _ (z_tbl_Ts (z_isw_tbl (i := 0) (by decide +kernel)) rfl), ⟨by decide +kernel, by decide +kernel⟩, fun sig h => ?_, hts _ (z_tbl_Ts (z_isw_tbl (i := 1117) (by decide +kernel)) rfl), hts _ (z_tbl_Ts (z_isw_tbl (i := 1118) (by decide +kernel)) rfl)⟩
      ⟨z_blindX oN, fun U hU hW => ⟨⟨rfl, by rw [hU]; exact g1, z_K.moved hW.alike hK, fun w hw => oN w hw s U #[] hW (hns w hw), hX.on hW (fun a h1 h2 => by rw [hU]; exact g2.2.1 a h1 h2)⟩, hT.on hW (fun a h1 h2 => by rw [hU]; exact g2.2.1 a h1 h2), by rw [hU]; exact g2.1⟩⟩
      rfl rfl g3.1 rfl (Nat.le_of_ble_eq_true rfl) (by rw [z_bt_law]; show decode code 404 = Except.ok (Instr.invokestatic 53, 3); decide +kernel) ⟨Nat.le_of_ble_eq_true rfl, Nat.le_of_ble_eq_true rfl⟩) g2 (Nat.le_of_ble_eq_true rfl) ?_
    · have h2 : (parseMethodDescriptor "(LChaffInTheWind;II[J)I").map (fun d => d.parameters.length) = some 4 := by decide +kernel
      have h : parseMethodDescriptor "(LChaffInTheWind;II[J)I" = some sig := h
      rw [h] at h2
      exact (Option.some.inj h2).symm
    · intro nj H2 locs2 hlen hR2 hSv2
      have hSz : z_gs (z_strs (z_G xl)) N2 al2 z_Dz6.2.1 (291, 404 + 3, ll', [.int 1], 282 + 1, 6856 + 6) [] (q9.2.2.2.1 ++ List.replicate nj (99, [])) := by
        refine ⟨⟨rfl, rfl, fun i t h => ?_, ⟨⟨1, rfl, by decide, by decide, Or.inl rfl⟩, trivial⟩, rfl, rfl⟩, trivial, z_gh_junk n7, n8, fun q hq => (by cases hq), hlen⟩
        obtain ⟨v, h1, h2⟩ := k3 i t h
        refine ⟨v, h1, z_mvv_ok hal ?_ h2⟩
        have hmv : z_Dx6.2.1.1.2.2.1.all (fun q => z_mvv 286 q.2) = true := by decide +kernel
        exact List.all_eq_true.mp hmv _ (z_aget_mem h)
      have hall : ∀ C ∈ [z_Dz6], z_cok (z_G xl) z_md 13 z_Q1 (fun _ _ => false) [] [z_Dz6] 5000 C = true := fun C hC => by
        rw [List.mem_singleton] at hC
        subst hC
        rw [z_G_set]
        exact z_cok_setS z_kz6
      obtain ⟨P', hRF⟩ := z_cut_one (G := z_G xl) (Es := []) z_RF_clo (fun D hD => by cases hD) hall (C := z_Dz6) (List.mem_singleton_self _) hSz hfr2
      exact z_lawRun hC (f := (291, 404 + 3, ll', [.int 1], 282 + 1, 6856 + 6)) rfl hRF (Nat.le_of_ble_eq_true rfl) (Nat.le_of_ble_eq_true rfl) hR2 hSv2 g3
set_option maxHeartbeats 4000000 in
theorem z_exc26 (hl : l.stackTraces = false) (hC : z_LCx xl D ta ext p s m meth c b) (hT : z_TW s.heap.size s) {f : z_Fr} (hf1 : f.1 = 291) {P : z_H} {N : List Int} {al : Nat → Option Nat} (hS : z_gs (z_strs (z_G xl)) N al (z_D 1185) f [] P) (hf : z_fr 13 al) (hc : f.2.2.2.2.1 ≤ z_mc (z_G xl) 291) (hs : f.2.2.2.2.2 ≤ z_ms (z_G xl) 291) {H : Heap} {locs : List Loc} {ls : Array Slot} (hR : z_R D (z_cl0 z_CT) ta ext s.heap.size P H) (hSv : va_S (fun q => s.heap.size ≤ q) s.heap H locs) (hl8 : lv_has ls (z_nL (z_G xl) 291) (z_cl ext s.heap.size f.2.2.1)) :
    W p l e room_1 s m #[Value.ref b] below meth c H locs f.2.2.2.2.1 f.2.2.2.2.2 (lw_Z below #[Value.ref b] s) (F0 m f.2.1 ls (f.2.2.2.1.map (z_cv ext s.heap.size))) := by
  obtain ⟨q', hto, -, N1, al1, hS1, hfr1, -⟩ := z_run_toA (xs := xl) (K := 286) z_kx26 rfl z_H0len z_H0len hS hf
  obtain ⟨n, hto⟩ := hto
  rw [hf1] at hto
  refine z_simto (z_prog_ok xl) n 800 291 (z_fs f P) q' hto hc hs p e s m _ below meth c room_1 H locs ls _ hC rfl rfl (Nat.le_of_ble_eq_true rfl) (Nat.le_of_ble_eq_true rfl) hR hSv hl8 ?_
  intro H1 locs1 ls1 g1 g2 g3 g4 g5
  obtain ⟨⟨k1, k2, k3, k4, k5, k6⟩, -, k7, k8, k9, k10⟩ := id hS1
  have k2 : 1199 = q'.1 := k2
  have k5 : 282 = q'.2.2.2.2.1 := k5
  have k6 : 6856 = q'.2.2.2.2.2 := k6
  obtain ⟨pc', ll', st', P1, cn', sn'⟩ := q'
  dsimp only at k2 k3 k4 k5 k6 k7 k10 g1 g3 g4 g5 ⊢
  subst k2; subst k5; subst k6
  have k4 : z_all2 (z_gv N1 al1) [.inr (.inr (false, [285])), .inl ((3, 0, 0, -2147483648, 2147483647)), .inl ((2, 0, 0, -2147483648, 2147483647)), .inr (.inr (false, [13]))] st' := k4
  match st', k4 with
  | [_, _, _, _], ⟨ho, ⟨p1, e1, w1⟩, ⟨p0, e0, w0⟩, hx0, _⟩ =>
    subst e0; subst e1
    rcases ho with ⟨-, ho⟩ | ⟨o, co, eo, hao, -⟩
    · cases ho
    rcases id hx0 with ⟨-, hx1⟩ | ⟨x, cx, ex, hax, hcx⟩
    · cases hx1
    subst eo; subst ex
    have hcx : cx = 13 := by simpa using hcx
    subst hcx
    have hx1 : z_gv N1 al1 (.inr (.inr (false, [13]))) (.ref x) := Or.inr ⟨x, 13, rfl, hax, List.mem_singleton_self _⟩
    have hSy : z_gs (z_strs (z_G xl)) N1 al1 z_Dy26.2.1 (185, 0, lv_args 0 [.ref x, .int p0, .int p1], [], 0, 0) [] P1 :=
      ⟨⟨rfl, rfl, z_alv_ok (ts := [.inr (.inr (false, [13])), .inl (2, 0, 0, -2147483648, 2147483647), .inl (3, 0, 0, -2147483648, 2147483647)]) (i := 0) ⟨hx1, ⟨p0, rfl, w0⟩, ⟨p1, rfl, w1⟩, trivial⟩, trivial, rfl, rfl⟩, trivial, k7, k8, fun q hq => (by cases hq), k10⟩
    obtain ⟨q9, hto9, -, N2, al2, hS2, hfr2, hal⟩ := z_run_toA (xs := xl) (K := 286) z_ky26 rfl z_H0len z_H0len hSy hfr1
    obtain ⟨⟨-, n2, -, n4, n5, n6⟩, -, n7, n8, n9, n10⟩ := id hS2
    have n2 : 27 = q9.1 := n2
    have n5 : 0 = q9.2.2.2.2.1 := n5
    have n6 : 0 = q9.2.2.2.2.2 := n6
    have n4 : z_all2 (z_gv N2 al2) [] q9.2.2.1 := n4
    have hst9 : q9.2.2.1 = [] := by
      generalize q9.2.2.1 = w at n4
      match w, n4 with
      | [], _ => rfl
    obtain ⟨qx, Ax, x1, x2, x3, x4, x5⟩ := k7 x 13 hax
    have hA := z_H0_at13
    have x2 : z_H0[13]? = some Ax := x2
    rw [x2] at hA
    have hA := Option.some.inj hA
    have hA1 : Ax.1 = 0 := congrArg Prod.fst hA
    have hA2 : Ax.2.1.2 = true := congrArg Prod.snd hA
    have hPx : P1[x]? = some qx := by
      unfold z_lk at x1
      rw [if_pos (x5 hA2)] at x1
      exact x1
    obtain ⟨o', ho'⟩ : ∃ o', z_cv ext s.heap.size (.ref o) = .ref o' := ⟨_, rfl⟩
    have hM := z_hlp26 (l := l) hl (D := D) (ta := ta) (ext := ext) (base := s.heap.size) (o := o) (o' := o') hto9 n2.symm hst9 n5.symm n6.symm hPx (x3.1.symm.trans hA1) ho'
    obtain ⟨hx, hb, hrt, hml, hown, hts, hns, hK, hlk, hnm, hX, hbs⟩ := id hC
    obtain ⟨-, -, -, -, -, -, oL, og, oN, oa, oA, oF, oC, oac, oi⟩ := id (z_prog_ok xl)
    have hcw : Cond.codeWith ⟨"ChaffInTheWindLaw", "price", "(LChaffInTheWind;II[J)I"⟩ method_4_code 5 (some .int) [(0, 10, 13, 13)] ∈ z_Ts (k2_sels lw_privs) := z_tbl_Ts (z_isw_tbl (i := 1188) (by decide +kernel)) rfl
    have hGood : GoodIn (z_Ts (k2_sels lw_privs)) (Cond.codeWith ⟨"ChaffInTheWindLaw", "price", "(LChaffInTheWind;II[J)I"⟩ method_4_code 5 (some .int) [(0, 10, 13, 13)] :: z_Ts (k2_sels lw_privs)) := fun w hw => by
      rcases List.mem_cons.mp hw with rfl | hw
      · exact ⟨hcw, good_of_word (og _ hcw)⟩
      · exact ⟨hw, good_of_word (og _ hw)⟩
    refine z_backW (mc := 1) (ms := 6) (rest := []) (Nat.le_of_ble_eq_true rfl) (vx_runSW (n := 4) (own := "ChaffInTheWindLaw") (index := 141) (As := ([.ref x, .int p0, .int p1, .ref o] : List Value).map (z_cv ext s.heap.size)) ⟨hx, hb, hml, hown, hts⟩ hM
      ⟨⟨rfl, rfl, Nat.le_of_ble_eq_true rfl, by decide +kernel, pay_in hts hGood, List.mem_cons_self⟩, hts _ hcw, hts _ (z_tbl_Ts (z_isw_tbl (i := 0) (by decide +kernel)) rfl), ⟨by decide +kernel, by decide +kernel⟩, fun sig h => ?_, hts _ (z_tbl_Ts (z_isw_tbl (i := 1186) (by decide +kernel)) rfl), hts _ (z_tbl_Ts (z_isw_tbl (i := 1187) (by decide +kernel)) rfl)⟩
      ⟨z_blindX oN, fun U hU hW => ⟨⟨rfl, by rw [hU]; exact g1, z_K.moved hW.alike hK, fun w hw => oN w hw s U #[] hW (hns w hw), hX.on hW (fun a h1 h2 => by rw [hU]; exact g2.2.1 a h1 h2)⟩, hT.on hW (fun a h1 h2 => by rw [hU]; exact g2.2.1 a h1 h2), by rw [hU]; exact g2.1⟩⟩
      rfl rfl g3.1 rfl (Nat.le_of_ble_eq_true rfl) (by rw [z_bt_law]; show decode code 1199 = Except.ok (Instr.invokestatic 141, 3); decide +kernel) ⟨Nat.le_of_ble_eq_true rfl, Nat.le_of_ble_eq_true rfl⟩) g2 (Nat.le_of_ble_eq_true rfl) ?_
    · have h2 : (parseMethodDescriptor "(LChaffInTheWind;II[J)I").map (fun d => d.parameters.length) = some 4 := by decide +kernel
      have h : parseMethodDescriptor "(LChaffInTheWind;II[J)I" = some sig := h
      rw [h] at h2
      exact (Option.some.inj h2).symm
    · intro nj H2 locs2 hlen hR2 hSv2
      have hSz : z_gs (z_strs (z_G xl)) N2 al2 z_Dz26.2.1 (291, 1199 + 3, ll', [.int 1], 282 + 1, 6856 + 6) [] (q9.2.2.2.1 ++ List.replicate nj (99, [])) := by
        refine ⟨⟨rfl, rfl, fun i t h => ?_, ⟨⟨1, rfl, by decide, by decide, Or.inl rfl⟩, trivial⟩, rfl, rfl⟩, trivial, z_gh_junk n7, n8, fun q hq => (by cases hq), hlen⟩
        obtain ⟨v, h1, h2⟩ := k3 i t h
        refine ⟨v, h1, z_mvv_ok hal ?_ h2⟩
        have hmv : z_Dx26.2.1.1.2.2.1.all (fun q => z_mvv 286 q.2) = true := by decide +kernel
        exact List.all_eq_true.mp hmv _ (z_aget_mem h)
      have hall : ∀ C ∈ [z_Dz26], z_cok (z_G xl) z_md 13 z_Q1 (fun _ _ => false) [] [z_Dz26] 5000 C = true := fun C hC => by
        rw [List.mem_singleton] at hC
        subst hC
        rw [z_G_set]
        exact z_cok_setS z_kz26
      obtain ⟨P', hRF⟩ := z_cut_one (G := z_G xl) (Es := []) z_RF_clo (fun D hD => by cases hD) hall (C := z_Dz26) (List.mem_singleton_self _) hSz hfr2
      exact z_lawRun hC (f := (291, 1199 + 3, ll', [.int 1], 282 + 1, 6856 + 6)) rfl hRF (Nat.le_of_ble_eq_true rfl) (Nat.le_of_ble_eq_true rfl) hR2 hSv2 g3
set_option maxHeartbeats 4000000 in
theorem z_exc48 (hl : l.stackTraces = false) (hC : z_LCx xl D ta ext p s m meth c b) (hT : z_TW s.heap.size s) {f : z_Fr} (hf1 : f.1 = 291) {P : z_H} {N : List Int} {al : Nat → Option Nat} (hS : z_gs (z_strs (z_G xl)) N al (z_D 2010) f [] P) (hf : z_fr 13 al) (hc : f.2.2.2.2.1 ≤ z_mc (z_G xl) 291) (hs : f.2.2.2.2.2 ≤ z_ms (z_G xl) 291) {H : Heap} {locs : List Loc} {ls : Array Slot} (hR : z_R D (z_cl0 z_CT) ta ext s.heap.size P H) (hSv : va_S (fun q => s.heap.size ≤ q) s.heap H locs) (hl8 : lv_has ls (z_nL (z_G xl) 291) (z_cl ext s.heap.size f.2.2.1)) :
    W p l e room_1 s m #[Value.ref b] below meth c H locs f.2.2.2.2.1 f.2.2.2.2.2 (lw_Z below #[Value.ref b] s) (F0 m f.2.1 ls (f.2.2.2.1.map (z_cv ext s.heap.size))) := by
  obtain ⟨q', hto, -, N1, al1, hS1, hfr1, -⟩ := z_run_toA (xs := xl) (K := 286) z_kx48 rfl z_H0len z_H0len hS hf
  obtain ⟨n, hto⟩ := hto
  rw [hf1] at hto
  refine z_simto (z_prog_ok xl) n 800 291 (z_fs f P) q' hto hc hs p e s m _ below meth c room_1 H locs ls _ hC rfl rfl (Nat.le_of_ble_eq_true rfl) (Nat.le_of_ble_eq_true rfl) hR hSv hl8 ?_
  intro H1 locs1 ls1 g1 g2 g3 g4 g5
  obtain ⟨⟨k1, k2, k3, k4, k5, k6⟩, -, k7, k8, k9, k10⟩ := id hS1
  have k2 : 2018 = q'.1 := k2
  have k5 : 282 = q'.2.2.2.2.1 := k5
  have k6 : 6856 = q'.2.2.2.2.2 := k6
  obtain ⟨pc', ll', st', P1, cn', sn'⟩ := q'
  dsimp only at k2 k3 k4 k5 k6 k7 k10 g1 g3 g4 g5 ⊢
  subst k2; subst k5; subst k6
  have k4 : z_all2 (z_gv N1 al1) [.inr (.inr (false, [285])), .inl ((2, 0, 0, -2147483648, 2147483647)), .inr (.inr (false, [13]))] st' := k4
  match st', k4 with
  | [_, _, _], ⟨ho, ⟨p0, e0, w0⟩, hx0, _⟩ =>
    subst e0
    rcases ho with ⟨-, ho⟩ | ⟨o, co, eo, hao, -⟩
    · cases ho
    rcases id hx0 with ⟨-, hx1⟩ | ⟨x, cx, ex, hax, hcx⟩
    · cases hx1
    subst eo; subst ex
    have hcx : cx = 13 := by simpa using hcx
    subst hcx
    have hx1 : z_gv N1 al1 (.inr (.inr (false, [13]))) (.ref x) := Or.inr ⟨x, 13, rfl, hax, List.mem_singleton_self _⟩
    have hSy : z_gs (z_strs (z_G xl)) N1 al1 z_Dy48.2.1 (186, 0, lv_args 0 [.ref x, .int p0], [], 0, 0) [] P1 :=
      ⟨⟨rfl, rfl, z_alv_ok (ts := [.inr (.inr (false, [13])), .inl (2, 0, 0, -2147483648, 2147483647)]) (i := 0) ⟨hx1, ⟨p0, rfl, w0⟩, trivial⟩, trivial, rfl, rfl⟩, trivial, k7, k8, fun q hq => (by cases hq), k10⟩
    obtain ⟨q9, hto9, -, N2, al2, hS2, hfr2, hal⟩ := z_run_toA (xs := xl) (K := 286) z_ky48 rfl z_H0len z_H0len hSy hfr1
    obtain ⟨⟨-, n2, -, n4, n5, n6⟩, -, n7, n8, n9, n10⟩ := id hS2
    have n2 : 15 = q9.1 := n2
    have n5 : 0 = q9.2.2.2.2.1 := n5
    have n6 : 0 = q9.2.2.2.2.2 := n6
    have n4 : z_all2 (z_gv N2 al2) [] q9.2.2.1 := n4
    have hst9 : q9.2.2.1 = [] := by
      generalize q9.2.2.1 = w at n4
      match w, n4 with
      | [], _ => rfl
    obtain ⟨qx, Ax, x1, x2, x3, x4, x5⟩ := k7 x 13 hax
    have hA := z_H0_at13
    have x2 : z_H0[13]? = some Ax := x2
    rw [x2] at hA
    have hA := Option.some.inj hA
    have hA1 : Ax.1 = 0 := congrArg Prod.fst hA
    have hA2 : Ax.2.1.2 = true := congrArg Prod.snd hA
    have hPx : P1[x]? = some qx := by
      unfold z_lk at x1
      rw [if_pos (x5 hA2)] at x1
      exact x1
    obtain ⟨o', ho'⟩ : ∃ o', z_cv ext s.heap.size (.ref o) = .ref o' := ⟨_, rfl⟩
    have hM := z_hlp48 (l := l) hl (D := D) (ta := ta) (ext := ext) (base := s.heap.size) (o := o) (o' := o') hto9 n2.symm hst9 n5.symm n6.symm hPx (x3.1.symm.trans hA1) ho'
    obtain ⟨hx, hb, hrt, hml, hown, hts, hns, hK, hlk, hnm, hX, hbs⟩ := id hC
    obtain ⟨-, -, -, -, -, -, oL, og, oN, oa, oA, oF, oC, oac, oi⟩ := id (z_prog_ok xl)
    have hcw : Cond.codeWith ⟨"ChaffInTheWindLaw", "row", "(LChaffInTheWind;I[J)I"⟩ method_5_code 4 (some .int) [(0, 8, 11, 13)] ∈ z_Ts (k2_sels lw_privs) := z_tbl_Ts (z_isw_tbl (i := 1198) (by decide +kernel)) rfl
    have hGood : GoodIn (z_Ts (k2_sels lw_privs)) (Cond.codeWith ⟨"ChaffInTheWindLaw", "row", "(LChaffInTheWind;I[J)I"⟩ method_5_code 4 (some .int) [(0, 8, 11, 13)] :: z_Ts (k2_sels lw_privs)) := fun w hw => by
      rcases List.mem_cons.mp hw with rfl | hw
      · exact ⟨hcw, good_of_word (og _ hcw)⟩
      · exact ⟨hw, good_of_word (og _ hw)⟩
    refine z_backW (mc := 1) (ms := 6) (rest := []) (Nat.le_of_ble_eq_true rfl) (vx_runSW (n := 3) (own := "ChaffInTheWindLaw") (index := 229) (As := ([.ref x, .int p0, .ref o] : List Value).map (z_cv ext s.heap.size)) ⟨hx, hb, hml, hown, hts⟩ hM
      ⟨⟨rfl, rfl, Nat.le_of_ble_eq_true rfl, by decide +kernel, pay_in hts hGood, List.mem_cons_self⟩, hts _ hcw, hts _ (z_tbl_Ts (z_isw_tbl (i := 0) (by decide +kernel)) rfl), ⟨by decide +kernel, by decide +kernel⟩, fun sig h => ?_, hts _ (z_tbl_Ts (z_isw_tbl (i := 1196) (by decide +kernel)) rfl), hts _ (z_tbl_Ts (z_isw_tbl (i := 1197) (by decide +kernel)) rfl)⟩
      ⟨z_blindX oN, fun U hU hW => ⟨⟨rfl, by rw [hU]; exact g1, z_K.moved hW.alike hK, fun w hw => oN w hw s U #[] hW (hns w hw), hX.on hW (fun a h1 h2 => by rw [hU]; exact g2.2.1 a h1 h2)⟩, hT.on hW (fun a h1 h2 => by rw [hU]; exact g2.2.1 a h1 h2), by rw [hU]; exact g2.1⟩⟩
      rfl rfl g3.1 rfl (Nat.le_of_ble_eq_true rfl) (by rw [z_bt_law]; show decode code 2018 = Except.ok (Instr.invokestatic 229, 3); decide +kernel) ⟨Nat.le_of_ble_eq_true rfl, Nat.le_of_ble_eq_true rfl⟩) g2 (Nat.le_of_ble_eq_true rfl) ?_
    · have h2 : (parseMethodDescriptor "(LChaffInTheWind;I[J)I").map (fun d => d.parameters.length) = some 3 := by decide +kernel
      have h : parseMethodDescriptor "(LChaffInTheWind;I[J)I" = some sig := h
      rw [h] at h2
      exact (Option.some.inj h2).symm
    · intro nj H2 locs2 hlen hR2 hSv2
      have hSz : z_gs (z_strs (z_G xl)) N2 al2 z_Dz48.2.1 (291, 2018 + 3, ll', [.int 1], 282 + 1, 6856 + 6) [] (q9.2.2.2.1 ++ List.replicate nj (99, [])) := by
        refine ⟨⟨rfl, rfl, fun i t h => ?_, ⟨⟨1, rfl, by decide, by decide, Or.inl rfl⟩, trivial⟩, rfl, rfl⟩, trivial, z_gh_junk n7, n8, fun q hq => (by cases hq), hlen⟩
        obtain ⟨v, h1, h2⟩ := k3 i t h
        refine ⟨v, h1, z_mvv_ok hal ?_ h2⟩
        have hmv : z_Dx48.2.1.1.2.2.1.all (fun q => z_mvv 286 q.2) = true := by decide +kernel
        exact List.all_eq_true.mp hmv _ (z_aget_mem h)
      have hall : ∀ C ∈ [z_Dz48], z_cok (z_G xl) z_md 13 z_Q1 (fun _ _ => false) [] [z_Dz48] 5000 C = true := fun C hC => by
        rw [List.mem_singleton] at hC
        subst hC
        rw [z_G_set]
        exact z_cok_setS z_kz48
      obtain ⟨P', hRF⟩ := z_cut_one (G := z_G xl) (Es := []) z_RF_clo (fun D hD => by cases hD) hall (C := z_Dz48) (List.mem_singleton_self _) hSz hfr2
      exact z_lawRun hC (f := (291, 2018 + 3, ll', [.int 1], 282 + 1, 6856 + 6)) rfl hRF (Nat.le_of_ble_eq_true rfl) (Nat.le_of_ble_eq_true rfl) hR2 hSv2 g3
theorem z_noExc : ∀ pc ∈ z_pcs, pc ≠ 390 → pc ≠ 1185 → pc ≠ 2010 → ∀ {N : List Int} {al : Nat → Option Nat} {f : z_Fr} {P : z_H}, z_gs (z_strs (z_G xl)) N al (z_D pc) f [] P → z_fr 13 al → ∃ P', z_RF (z_G xl) [] f 800 P (some (.int 1)) P' := by
  intro pc hpc n1 n2 n3 N al f P hS hf
  unfold z_pcs at hpc
  simp only [List.mem_cons, List.not_mem_nil, or_false] at hpc
  rcases hpc with rfl | rfl | rfl | rfl | rfl | rfl | rfl | rfl | rfl | rfl | rfl | rfl | rfl | rfl | rfl | rfl | rfl | rfl | rfl | rfl | rfl | rfl | rfl | rfl | rfl | rfl | rfl | rfl | rfl | rfl | rfl | rfl | rfl | rfl | rfl | rfl | rfl | rfl | rfl | rfl | rfl | rfl | rfl | rfl | rfl | rfl | rfl | rfl | rfl | rfl
  · exact z_op_252 hS hf
  · exact z_op_277 hS hf
  · exact z_op_302 hS hf
  · exact z_op_315 hS hf
  · exact z_op_328 hS hf
  · exact z_op_353 hS hf
  · exact absurd rfl n1
  · exact z_op_458 hS hf
  · exact z_op_495 hS hf
  · exact z_op_532 hS hf
  · exact z_op_605 hS hf
  · exact z_op_642 hS hf
  · exact z_op_679 hS hf
  · exact z_op_692 hS hf
  · exact z_op_741 hS hf
  · exact z_op_778 hS hf
  · exact z_op_827 hS hf
  · exact z_op_876 hS hf
  · exact z_op_913 hS hf
  · exact z_op_926 hS hf
  · exact z_op_951 hS hf
  · exact z_op_988 hS hf
  · exact z_op_1025 hS hf
  · exact z_op_1062 hS hf
  · exact z_op_1123 hS hf
  · exact z_op_1148 hS hf
  · exact absurd rfl n2
  · exact z_op_1253 hS hf
  · exact z_op_1278 hS hf
  · exact z_op_1303 hS hf
  · exact z_op_1352 hS hf
  · exact z_op_1389 hS hf
  · exact z_op_1414 hS hf
  · exact z_op_1463 hS hf
  · exact z_op_1512 hS hf
  · exact z_op_1565 hS hf
  · exact z_op_1590 hS hf
  · exact z_op_1639 hS hf
  · exact z_op_1688 hS hf
  · exact z_op_1713 hS hf
  · exact z_op_1738 hS hf
  · exact z_op_1811 hS hf
  · exact z_op_1836 hS hf
  · exact z_op_1873 hS hf
  · exact z_op_1910 hS hf
  · exact z_op_1935 hS hf
  · exact z_op_1960 hS hf
  · exact z_op_1985 hS hf
  · exact absurd rfl n3
  · exact z_op_2065 hS hf
theorem z_badin : ∀ w ∈ z_bad, w ∈ lw_tbl := by decide +kernel
set_option maxHeartbeats 4000000 in
theorem whole_start {p : Program} {e : Env} {s : State} {m : MethodId} {below : List Frame} {meth : Method} {c : Code} (l : Launch) (hflags : l.flags = flags0) {b L : Nat} {xs : Nat → Int32} (hL : L ≤ 6) (C0 : lw_At p s m meth c b L xs) : W p l e room_1 s m #[Value.ref b] below meth c s.heap [] 0 0 (lw_Z below #[Value.ref b] s) (entryFrame m ([Value.ref b] : List Value).toArray 8) := by
  obtain ⟨hx, hb, hr, hml, hown, hts, hX, hbl, hlocks, hgv⟩ := id C0
  have hst : l.stackTraces = false := by
    unfold Launch.stackTraces
    rw [hflags]
    decide +kernel
  obtain ⟨-, -, -, -, -, -, oL, og, oN, oa, oA, oF, oC, oac, oi⟩ := id (z_prog_ok [])
  obtain ⟨D, ta, hK⟩ := z_startK hts oC
  obtain ⟨ext, x12, hX'⟩ := z_startX hts hgv hX hbl
  have hlen : ((List.range L).map xs).length = L := by simp
  generalize (List.range L).map xs = xl at hX' hlen
  have hA : ∀ a : Nat, a < s.heap.size → ¬ s.heap.size ≤ a := fun a ha => Nat.not_le.mpr ha
  have hT : z_TW s.heap.size s := ⟨vx_Zqof (args := #[Value.ref b]) (hts _ (by decide +kernel)) (hts _ (by decide +kernel)) (z_ci_use (w := Cond.isRef (.static Bundle.tN "UNASSIGNED_STACK" Bundle.steD)) (by decide +kernel) hgv) hA, vx_Zqof (args := #[Value.ref b]) (hts _ (by decide +kernel)) (hts _ (by decide +kernel)) (z_ci_use (w := Cond.isRef (.static Bundle.tN "SUPPRESSED_SENTINEL" Bundle.listD)) (by decide +kernel) hgv) hA, fun w hw => va_Nw.of (z_bad_tab hw) (hts w (z_badin w hw))⟩
  have hC : z_LCx xl D ta ext p s m meth c b := ⟨hx, hb, hr, hml, hown, fun w hw => hts w (z_tsub w hw), fun w hw => z_ns0 hw (hts w (z_nsub w hw)), hK, hlocks, fun h => absurd rfl h, hX', Nat.le_refl _⟩
  have hR0 : z_R D (z_cl0 z_CT) ta ext s.heap.size [] s.heap := ⟨rfl, Nat.zero_le _, fun k q h => by simp at h⟩
  have hl := lv_entry ([.ref b]) (n := 8) (Nat.le_of_ble_eq_true rfl)
  rw [lg_entry_eq]
  generalize (lg_sl ([.ref b]) ++ List.replicate (8 - (lg_sl ([.ref b])).length) Slot.unset).toArray = ls at hl ⊢
  have hl : lv_has ls 8 [(0, .ref b)] := hl
  have hcl : z_cl ext s.heap.size [(0, .ref (z_far + 12))] = [(0, .ref b)] := by
    show [(0, z_cv ext s.heap.size (.ref (z_far + 12)))] = _
    rw [z_cv_far, x12]
  have hl8 : lv_has ls (z_nL (z_G xl) 291) (z_cl ext s.heap.size [(0, .ref (z_far + 12))]) := by
    rw [hcl]
    exact hl
  by_cases h6 : L = 6
  · obtain ⟨q', ⟨n, hto⟩, -, pc, hpc, N, al, hS, hf⟩ := z_long_run (xl := xl) (hlen.trans h6)
    refine z_simto (z_prog_ok xl) n 800 291 (z_fs (291, 0, [(0, .ref (z_far + 12))], [], 0, 0) []) q' hto (Nat.zero_le _) (Nat.zero_le _) p e s m _ below meth c room_1 s.heap [] ls _ hC rfl rfl (Nat.le_of_ble_eq_true rfl) (Nat.le_of_ble_eq_true rfl) hR0 va_S.rf hl8 ?_
    intro H1 locs1 ls1 g1 g2 g3 g4 g5
    by_cases e1 : pc = 390
    · subst e1
      exact z_exc6 hst hC hT (f := (291, q'.1, q'.2.1, q'.2.2.1, q'.2.2.2.2.1, q'.2.2.2.2.2)) rfl hS hf g4 g5 g1 g2 g3
    by_cases e2 : pc = 1185
    · subst e2
      exact z_exc26 hst hC hT (f := (291, q'.1, q'.2.1, q'.2.2.1, q'.2.2.2.2.1, q'.2.2.2.2.2)) rfl hS hf g4 g5 g1 g2 g3
    by_cases e3 : pc = 2010
    · subst e3
      exact z_exc48 hst hC hT (f := (291, q'.1, q'.2.1, q'.2.2.1, q'.2.2.2.2.1, q'.2.2.2.2.2)) rfl hS hf g4 g5 g1 g2 g3
    obtain ⟨P', hRF⟩ := z_noExc pc hpc e1 e2 e3 hS hf
    exact z_lawRun hC (f := (291, q'.1, q'.2.1, q'.2.2.1, q'.2.2.2.2.1, q'.2.2.2.2.2)) rfl hRF g4 g5 g1 g2 g3
  · obtain ⟨P', hRF⟩ := z_short_run (xl := xl) (by omega)
    exact z_lawRun hC (f := (291, 0, [(0, .ref (z_far + 12))], [], 0, 0)) rfl hRF (Nat.zero_le _) (Nat.zero_le _) hR0 va_S.rf hl8
end ZFIN
