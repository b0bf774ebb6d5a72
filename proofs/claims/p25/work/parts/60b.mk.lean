/-! Contracts out of tables; the methods told by hand put in. -/
section ZMKX
theorem z_gapc (c : Nat) (q : Int × Int) (h : z_Tg0.2.2.2.2.1 c = some q) : z_nin c z_codes = true ∧ q = (1007, 2000) := by
  have h : (bif Nat.beq c 64 || Nat.beq c 67 || Nat.beq c 70 || Nat.beq c 73 || Nat.beq c 76 then some ((1007 : Int), (2000 : Int)) else none) = some q := h
  cases hb : (Nat.beq c 64 || Nat.beq c 67 || Nat.beq c 70 || Nat.beq c 73 || Nat.beq c 76) with
  | false => rw [hb] at h; cases h
  | true =>
    rw [hb] at h
    cases h
    refine ⟨?_, rfl⟩
    simp only [Bool.or_eq_true] at hb
    rcases hb with (((hb | hb) | hb) | hb) | hb <;> (rw [Nat.eq_of_beq_eq_true hb]; rfl)
theorem z_gpT : z_Gap z_Tg0 z_J := z_gap_J z_gapc
theorem z_gpB : z_Gap z_Tgb z_Jg := z_gap_Jg z_gapc rfl
theorem z_G_setS (xs : List Int32) : z_setS (z_G []) (z_strl, xs) = z_G xs := rfl
theorem z_mkN {xs : List Int32} {W D : z_Ws} {hs : List (Nat × Nat)} {n : Nat} {Ks : List z_Kc} {R : List (Nat × Nat × Int)} (K : z_Kc) (Ds : List z_ce) (hd : z_jd D = true) (hKs : ∀ K' ∈ Ks, z_cn (z_G xs) 12 z_J K') (hall : (Ds.all fun C => z_cok3 (z_G []) W D z_Tg0 12 n Ks (z_QX (z_lbk K.2.2.1 K.2.2.2.1) n 900000 W K.2.2.2.2.1) (z_atl hs) [] Ds 30000 C) = true) (hD : z_wsub D W = true) (hC : Ds.head? = some (K.2.1, K.2.2.1, K.2.2.2.1, R)) (hn : K.2.2.1.2.2.2.1 = n) (hB : K.2.2.1.2.2.2.2.2 = 900000) : z_cn (z_G xs) 12 z_J K := by
  have hKs' : ∀ K' ∈ Ks, z_cn (z_setS (z_G []) (z_strl, xs)) 12 z_J K' := hKs
  have h : z_cn (z_setS (z_G []) (z_strl, xs)) 12 z_J K := z_cn_mk2 (G0 := z_G []) (s := (z_strl, xs)) (K := K) (C := (K.2.1, K.2.2.1, K.2.2.2.1, R)) (z_Jok_d hd) z_gpT hKs' hall hD hC rfl rfl rfl hn hB
  exact @h
theorem z_mkM {xs : List Int32} {W D : z_Ws} {hs : List (Nat × Nat)} {n M c0 : Nat} {cap w r : Int} {Kint Kext : List z_Kc} {R : List (Nat × Nat × Int)} (K : z_Kc) (Ds : List z_ce) (hw : 0 ≤ w) (hd : z_jd D = true) (hext : ∀ K' ∈ Kext, z_cn (z_G xs) 12 z_J K')
    (hint : ∀ K' ∈ Kint, ∃ dl r' : Int, K'.2.2.2.2.2 = some (1, 1, dl) ∧ (K'.2.1 : Int) + (dl * w + r - r') = c0 ∧ 1 ≤ dl * w + r - r' ∧ 0 ≤ r' ∧ z_ubk K'.2.2.1 K'.2.2.2.1 1 = some cap ∧ ∀ M', M' < M → z_cM (z_G xs) 12 z_J cap w r' c0 K' M')
    (hall : (Ds.all fun C => z_cok3 (z_G []) W D z_Tg0 12 n (Kint ++ Kext) (z_QX (z_lbk K.2.2.1 K.2.2.2.1) n 900000 W K.2.2.2.2.1) (z_atl hs) [] Ds 30000 C) = true) (hD : z_wsub D W = true) (hC : Ds.head? = some (c0, K.2.2.1, K.2.2.2.1, R)) (hn : K.2.2.1.2.2.2.1 = n) (hB : K.2.2.1.2.2.2.2.2 = 900000) : z_cM (z_G xs) 12 z_J cap w r c0 K M := by
  have h : z_cM (z_setS (z_G []) (z_strl, xs)) 12 z_J cap w r c0 K M := z_cM_mk (G0 := z_G []) (s := (z_strl, xs)) (K := K) (M := M) (c0 := c0) (cap := cap) (w := w) (r := r) (C := (c0, K.2.2.1, K.2.2.2.1, R)) hw (z_Jok_d hd) z_gpT hext hint hall hD hC rfl rfl rfl hn hB
  exact @h
theorem z_acn {α : Type} {p : α → Bool} {a : α} {l : List α} (h : p a = true) (k : l.all p = true) : (a :: l).all p = true := by rw [List.all_cons, h, k]; rfl
theorem z_mkGJ {xs : List Int32} {W D : z_Ws} {hs : List (Nat × Nat)} {n : Nat} {Ks : List z_Kc} {R : List (Nat × Nat × Int)} (K : z_Kc) (Ds : List z_ce) (hd : z_jdg D = true) (hKs : ∀ K' ∈ Ks, z_cn (z_G xs) 12 z_Jg K') (hall : (Ds.all fun C => z_cok3 (z_G []) W D z_Tgb 12 n Ks (z_QX (z_lbk K.2.2.1 K.2.2.2.1) n 900000 W K.2.2.2.2.1) (z_atl hs) [] Ds 30000 C) = true) (hD : z_wsub D W = true) (hC : Ds.head? = some (K.2.1, K.2.2.1, K.2.2.2.1, R)) (hn : K.2.2.1.2.2.2.1 = n) (hB : K.2.2.1.2.2.2.2.2 = 900000) : z_cn (z_G xs) 12 z_Jg K := by
  have hKs' : ∀ K' ∈ Ks, z_cn (z_setS (z_G []) (z_strl, xs)) 12 z_Jg K' := hKs
  have h : z_cn (z_setS (z_G []) (z_strl, xs)) 12 z_Jg K := z_cn_mk2 (G0 := z_G []) (s := (z_strl, xs)) (K := K) (C := (K.2.1, K.2.2.1, K.2.2.2.1, R)) (z_Jok_g hd) z_gpB hKs' hall hD hC rfl rfl rfl hn hB
  exact @h
/-- a contract with a known end -/
theorem z_mkE {xs : List Int32} {W D : z_Ws} {hs : List (Nat × Nat)} {n : Nat} {Ks : List z_Kc} {R : List (Nat × Nat × Int)} {E : z_ce} (K : z_Kc) (Ds : List z_ce) (hd : z_jd D = true) (hKs : ∀ K' ∈ Ks, z_cn (z_G xs) 12 z_J K') (hall : (Ds.all fun C => z_cok3 (z_G []) W D z_Tg0 12 n Ks (z_QX (z_lbk K.2.2.1 K.2.2.2.1) n 900000 W K.2.2.2.2.1) (z_atl hs) [E] Ds 30000 C) = true) (hD : z_wsub D W = true) (hC : Ds.head? = some (K.2.1, K.2.2.1, K.2.2.2.1, R)) (hn : K.2.2.1.2.2.2.1 = n) (hB : K.2.2.1.2.2.2.2.2 = 900000) (hE0 : E.2.1.2.1 = [])
    (hEs : ∀ {N : List Int} {al : Nat → Option Nat} {P : z_H} {e : Nat} {N1 : List Int} {al1 : Nat → Option Nat} {f : z_Fr} {P1 : z_H}, N.length = n → z_gs (z_strs (z_G xs)) N1 al1 E.2.1 f [] P1 → z_fr 12 al1 → z_Iv z_J W N N.length al P 900000 N1 al1 P1 E.2.1.2.2.2.2.2 → ∃ rv P' al' X, X ∈ K.2.2.2.2.1 ∧ z_Runs (z_G xs) (E.1 + e) f.1 (z_fs f P1) rv P' ∧ z_J al' P' ∧ z_post N al P X rv P' al') : z_cn (z_G xs) 12 z_J K := by
  intro N al l P d hd' hS hf hj
  have hlen : N.length = n := by rw [← hn]; exact hS.2.2.2.1.symm
  subst hlen
  have := z_body (G := z_G xs) (e := d - K.2.1) (l := l) (y := K.1) (Es := [E]) (C := (K.2.1, K.2.2.1, K.2.2.2.1, R)) (Ds := Ds) (fu := 30000) (at_ := z_atl hs) (Xs := K.2.2.2.2.1) (z_Jok_d hd) hD z_gpT (fun K' hK' => z_cn_ok (hKs K' hK'))
    (fun D hD N1 al1 f P1 hS1 hf1 hI1 _ => by
      rw [List.mem_singleton] at hD
      subst hD
      have hI1 : z_Iv z_J W N N.length al P K.2.2.1.2.2.2.2.2 N1 al1 P1 D.2.1.2.2.2.2.2 := hI1
      rw [hB] at hI1
      exact hEs rfl hS1 hf1 hI1)
    (fun D hD => by rw [List.mem_singleton] at hD; subst hD; exact hE0)
    (fun C' hC' => by
      have h := z_cok3_setS (s := (z_strl, xs)) (List.all_eq_true.mp hall C' hC')
      show z_cok3 (z_G xs) W D z_Tg0 12 N.length Ks (z_QX (z_lbk K.2.2.1 K.2.2.2.1) N.length K.2.2.1.2.2.2.2.2 W K.2.2.2.2.1) (z_atl hs) [E] Ds 30000 C' = true
      rw [hB]
      exact h) (List.mem_of_mem_head? hC) hS hf hj
  have h1 : z_prm (z_G xs) z_J N al K.2.2.2.2.1 (K.2.1 + (d - K.2.1)) K.1 l P := this
  rw [show K.2.1 + (d - K.2.1) = d by omega] at h1
  exact h1
/-- from a place near the end -/
theorem z_endp {xs : List Int32} {W D : z_Ws} {n : Nat} {Ks : List z_Kc} {N : List Int} {al : Nat → Option Nat} {P : z_H} {e : Nat} (K : z_Kc) (Z : z_ce) (hd : z_jd D = true) (hKs : ∀ K' ∈ Ks, z_cn (z_G xs) 12 z_J K') (hall : z_cok3 (z_G []) W D z_Tg0 12 n Ks (z_QX (z_lbk K.2.2.1 K.2.2.2.1) n 900000 W K.2.2.2.2.1) (z_atl []) [] [Z] 30000 Z = true) (hD : z_wsub D W = true) (hb : K.2.2.2.1 = []) (hN : N.length = n) {N1 : List Int} {al1 : Nat → Option Nat} {f : z_Fr} {P1 : z_H} (hS : z_gs (z_strs (z_G xs)) N1 al1 Z.2.1 f [] P1) (hf : z_fr 12 al1) (hI : z_Iv z_J W N N.length al P 900000 N1 al1 P1 Z.2.1.2.2.2.2.2) : ∃ rv P' al' X, X ∈ K.2.2.2.2.1 ∧ z_Runs (z_G xs) (Z.1 + e) f.1 (z_fs f P1) rv P' ∧ z_J al' P' ∧ z_post N al P X rv P' al' := by
  subst hN
  refine z_atp (G := z_G xs) (Ds := [Z]) (B0 := 900000) (lb := z_lbk K.2.2.1 K.2.2.2.1) (at_ := z_atl []) (fu := 30000) (z_Jok_d hd) hD z_gpT (fun K' hK' => z_cn_ok (hKs K' hK')) (fun k l h1 h2 h3 => ?_) (fun C' hC' => ?_) (List.mem_singleton_self _) hS hf hI
  · rw [hb] at h3
    cases h3
  · rw [List.mem_singleton] at hC'
    subst hC'
    exact z_cok3_setS (s := (z_strl, xs)) hall
theorem z_idvv {a b : Int32} {st : List Value} (hb : b ≠ 0) : z_pure .idiv (.int b :: .int a :: st) = some (.int (a / b) :: st) := by
  show z_i2d (fun x y => .int (x / y)) (.int b :: .int a :: st) = _
  unfold z_i2d
  dsimp only
  rw [if_neg hb]
def z_isri : Option z_av → Bool
  | some (.inl _) => true
  | _ => false
theorem z_isri_ok {N : List Int} {al : Nat → Option Nat} {o : Option z_av} {rv : Option Value} (h : z_isri o = true) (k : z_go_ N al o rv) : ∃ v : Int32, rv = some (.int v) := by
  unfold z_isri at h
  split at h
  · match rv, k with
    | some w, k =>
      obtain ⟨x, e, -⟩ := k
      exact ⟨x, by rw [e]⟩
  · cases h
theorem z_call_S {G : z_Pg} {s : z_Ss} {x : Nat} {ins : Instr} : z_call (z_setS G s) x ins = z_call G x ins := rfl
theorem z_hv_ro (xs : List Int32) : z_rom (z_G xs) (fun x => Nat.beq x 209) := by
  intro x pc i hx hi
  have hx := Nat.eq_of_beq_eq_true hx
  subst hx
  have hi : z_bl z_code_209 pc = some i := hi
  have h := z_bck_use (f := fun _ i => z_roi i.1 && (z_call (z_G []) 209 i.1).isNone) (by decide +kernel : z_bck (fun _ i => z_roi i.1 && (z_call (z_G []) 209 i.1).isNone) z_code_209 = true) hi
  rw [Bool.and_eq_true, Option.isNone_iff_eq_none] at h
  refine ⟨h.1, fun yk hyk => ?_⟩
  have : z_call (z_G xs) 209 i.1 = none := by rw [← z_G_setS xs, z_call_S]; exact h.2
  rw [this] at hyk
  cases hyk
/-- ofHeap, where it divides -/
theorem z_hofHeap {xs : List Int32} {Km K0 : z_Kc} {E Z : z_ce} {H : List z_ac_} {LE : List (Nat × z_av)} {A : z_ac_} {Xs : List z_Xe} {W : z_Ws} {N : List Int} {al : Nat → Option Nat} {P : z_H} {e : Nat} {N1 : List Int} {al1 : Nat → Option Nat} {f : z_Fr} {P1 : z_H} (hm : z_cn (z_G xs) 12 z_J Km) (h0 : z_cn (z_G xs) 12 z_J K0)
    (em : Km.2.2.1 = ((209, 0, [(0, .inr (.inr (false, [90]))), (1, .inl (0, 0, 0, (-1), (-1)))], [], 0, 0), [], H, 1, [], 900000)) (ym : Km.1 = 209) (e0 : K0.2.2.1 = ((209, 0, [(0, .inr (.inr (false, [90]))), (1, .inl (0, 0, 0, 0, 0))], [], 0, 0), [], H, 1, [], 900000)) (y0 : K0.1 = 209) (rm : (Km.2.2.2.2.1.all fun X => z_isri X.1) = true) (r0 : (K0.2.2.2.2.1.all fun X => z_isri X.1) = true)
    (eE : E.2.1 = ((208, 211, LE, [], 0, 0), [], H, 1, [], 900000)) (eL : z_aget LE 0 = some (.inr (.inr (false, [90])))) (eZ : Z.2.1 = ((208, 237, [], [.inl (0, 0, 0, -2147483648, 2147483647)], 0, 0), [], H, 1, [], 900000)) (eD : E.1 = Z.1) (dm : Nat.ble (Km.2.1 + 1) E.1 = true) (d0 : Nat.ble (K0.2.1 + 1) E.1 = true) (hA : H[90]? = some A) (A1 : A.1 = 10) (A2 : A.2.1 = (true, true))
    (hS : z_gs (z_strs (z_G xs)) N1 al1 E.2.1 f [] P1) (hf : z_fr 12 al1) (hI : z_Iv z_J W N N.length al P 900000 N1 al1 P1 E.2.1.2.2.2.2.2)
    (hend : ∀ {f' : z_Fr}, z_gs (z_strs (z_G xs)) N1 al1 Z.2.1 f' [] P1 → ∃ rv P' al' X, X ∈ Xs ∧ z_Runs (z_G xs) (Z.1 + e) f'.1 (z_fs f' P1) rv P' ∧ z_J al' P' ∧ z_post N al P X rv P' al') : ∃ rv P' al' X, X ∈ Xs ∧ z_Runs (z_G xs) (E.1 + e) f.1 (z_fs f P1) rv P' ∧ z_J al' P' ∧ z_post N al P X rv P' al' := by
  have dm := Nat.le_of_ble_eq_true dm
  have d0 := Nat.le_of_ble_eq_true d0
  rw [eE] at hS hI
  obtain ⟨⟨a1, a2, a3, a4, a5, a6⟩, -, hH, hlen, -, hB⟩ := id hS
  obtain ⟨fy, fpc, fl, fst, fc, fn⟩ := f
  have a1 : 208 = fy := a1
  have a2 : 211 = fpc := a2
  have a5 : 0 = fc := a5
  have a6 : 0 = fn := a6
  subst a1; subst a2; subst a5; subst a6
  match fst, a4 with
  | [], _ =>
  obtain ⟨v, hv0, hv⟩ := a3 0 _ eL
  obtain ⟨aM, rfl, haM⟩ := z_ref1 hv
  have hv0 : z_get fl 0 = some (.ref aM) := hv0
  obtain ⟨fM, -, vs, hM, -, -⟩ := z_plr hH haM hA (by rw [A2])
  rw [A1] at hM
  have hj := hI.2.2.2.2.2.1
  have hB : P1.length ≤ 900000 := hB
  have hlen : 1 = N1.length := hlen
  -- a call of heavyOf
  have call : ∀ (K : z_Kc) (c : Int32) (cI : Int), c.toInt = cI → z_cn (z_G xs) 12 z_J K → K.2.2.1 = ((209, 0, [(0, .inr (.inr (false, [90]))), (1, .inl (0, 0, 0, cI, cI))], [], 0, 0), [], H, 1, [], 900000) → K.1 = 209 → (K.2.2.2.2.1.all fun X => z_isri X.1) = true → K.2.1 + 1 ≤ E.1 → ∃ u : Int32, z_Runs (z_G xs) (E.1 + e - 1) 209 (0, lv_args 0 [.ref aM, .int c], [], P1, 0, 0) (some (.int u)) P1 := by
    intro K c cI hc hK eK yK rK dK
    have hg : z_gs (z_strs (z_G xs)) N1 al1 K.2.2.1 (K.1, 0, lv_args 0 [.ref aM, .int c], [], 0, 0) [] P1 := by
      rw [eK, yK]
      refine ⟨⟨rfl, rfl, fun i t ht => ?_, trivial, rfl, rfl⟩, trivial, hH, hlen, fun q hq => (by cases hq), hB⟩
      have ht : (if (0 : Nat) == i then some (.inr (.inr (false, [90]))) else if (1 : Nat) == i then some (.inl (0, 0, 0, cI, cI)) else none) = some t := ht
      split at ht
      · rename_i hi
        cases ht
        have hi : 0 = i := by simpa using hi
        subst hi
        exact ⟨.ref aM, rfl, Or.inr ⟨aM, 90, rfl, haM, List.mem_singleton_self _⟩⟩
      · split at ht
        · rename_i hi
          cases ht
          have hi : 1 = i := by simpa using hi
          subst hi
          exact ⟨.int c, rfl, c, rfl, by show cI ≤ _; omega, by show _ ≤ cI; omega, Or.inl rfl⟩
        · cases ht
    obtain ⟨rv, P', al', X, hX, hr, -, hp⟩ := hK (d := E.1 + e - 1) (by omega) hg hf hj
    obtain ⟨u, hu⟩ := z_isri_ok (List.all_eq_true.mp rK X hX) hp.2.2.2.1
    rw [yK] at hr
    have hP : P' = P1 := z_ro_runs (z_hv_ro xs) (show Nat.beq 209 209 = true from rfl) hr
    rw [hu, hP] at hr
    exact ⟨u, hr⟩
  obtain ⟨u1, hr1⟩ := call Km (Int32.ofInt (-1)) (-1) rfl hm em ym rm dm
  obtain ⟨u2, hr2⟩ := call K0 (Int32.ofInt 0) 0 rfl h0 e0 y0 r0 d0
  have hd : 1 ≤ E.1 + e := by omega
  have args : ∀ (c : Int32) (st : List Value), z_cat st ≤ 8 → z_args (z_G xs) (E.1 + e) 209 1 208 (.int c :: .ref aM :: st) P1 0 0 = some ([.ref aM, .int c], st) := fun c st hst => z_argsv rfl rfl (by show Nat.ble 2 (st.length + 2) = true; exact Nat.ble_eq.mpr (Nat.le_add_left 2 _)) hd hst rfl (Nat.le_of_ble_eq_true rfl) (Nat.le_refl _) (Nat.le_refl _) (Or.inr (Nat.le_of_ble_eq_true rfl)) (Or.inr (z_atv (z_lkn fM hM) rfl))
  have key : z_Rh (z_G xs) (E.1 + e) 208 (fun q => ∃ (l : z_L) (v : Int32), q = (237, l, [.int v], P1, 0, 0)) (211, fl, [], P1, 0, 0) := by
    refine z_r_ld (ins := (.aload_n 0)) (len := 1) (t := 212) (i := 0) rfl rfl rfl rfl rfl (fun _ => rfl) hv0 rfl ?_
    refine z_r_pu (ins := (.iconst (-1))) (len := 1) (t := 213) rfl rfl rfl rfl rfl ?_
    refine z_r_ca (ins := .invokevirtual 234) (y := 209) (t := 216) (kd := 1) rfl rfl (by decide) (args _ [] (by decide)) rfl rfl rfl hr1 ?_
    by_cases hu : u1 = 0
    · refine z_r_jm (ins := (.ifCond .ne 7)) (len := 3) (t := 219) rfl rfl rfl rfl (z_ifn (t := 223) rfl (by rw [z_c_ne, hu]; rfl)) ?_
      refine z_r_pu (ins := (.iconst 0)) (len := 1) (t := 220) rfl rfl rfl rfl rfl ?_
      refine z_r_jm (ins := (.goto 17)) (len := 3) (t := 237) rfl rfl rfl rfl (z_gty rfl) ?_
      exact z_rh_end ⟨_, _, rfl⟩
    · refine z_r_jm (ins := (.ifCond .ne 7)) (len := 3) (t := 223) rfl rfl rfl rfl (z_ify (t := 223) rfl (by rw [z_c_ne]; exact decide_eq_true (fun q => hu (Int32.toInt_inj.mp q)))) ?_
      refine z_r_ld (ins := (.aload_n 0)) (len := 1) (t := 224) (i := 0) rfl rfl rfl rfl rfl (fun _ => rfl) hv0 rfl ?_
      refine z_r_pu (ins := (.iconst 0)) (len := 1) (t := 225) rfl rfl rfl rfl rfl ?_
      refine z_r_ca (ins := .invokevirtual 234) (y := 209) (t := 228) (kd := 1) rfl rfl (by decide) (args _ [] (by decide)) rfl rfl rfl hr2 ?_
      refine z_r_pu (ins := (.bipush 100)) (len := 2) (t := 230) rfl rfl rfl rfl rfl ?_
      refine z_r_pu (ins := .imul) (len := 1) (t := 231) rfl rfl rfl rfl rfl ?_
      refine z_r_ld (ins := (.aload_n 0)) (len := 1) (t := 232) (i := 0) rfl rfl rfl rfl rfl (fun _ => rfl) hv0 rfl ?_
      refine z_r_pu (ins := (.iconst (-1))) (len := 1) (t := 233) rfl rfl rfl rfl rfl ?_
      refine z_r_ca (ins := .invokevirtual 234) (y := 209) (t := 236) (kd := 1) rfl rfl (by decide) (args _ [_] (Nat.le_of_ble_eq_true rfl)) rfl rfl rfl hr1 ?_
      refine z_r_pu (ins := .idiv) (len := 1) (t := 237) rfl rfl rfl rfl (z_idvv hu) ?_
      exact z_rh_end ⟨_, _, rfl⟩
  obtain ⟨q1, hto, l, v, rfl⟩ := key
  have hZ : z_gs (z_strs (z_G xs)) N1 al1 Z.2.1 (208, 237, l, [.int v], 0, 0) [] P1 := by
    rw [eZ]
    have b1 := v.le_toInt
    have b2 := v.toInt_lt
    exact ⟨⟨rfl, rfl, fun i t ht => (by cases ht), ⟨⟨v, rfl, by show (-2147483648 : Int) ≤ _; omega, by show _ ≤ (2147483647 : Int); omega, Or.inl rfl⟩, trivial⟩, rfl, rfl⟩, trivial, hH, hlen, fun q hq => (by cases hq), hB⟩
  obtain ⟨rv, P', al', X, hX, hr, k1, k2⟩ := hend hZ
  rw [← eD] at hr
  exact ⟨rv, P', al', X, hX, z_To_runs hto hr, k1, k2⟩
end ZMKX
