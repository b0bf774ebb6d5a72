/-! Measures that fall by what is known of two numbers. -/
section ZMEA
variable {N : List Int}
/-- less by a fact -/
def z_tcf (F : List (Nat × Nat × Int)) (bd : z_bd) (n : Nat) (u w : Nat × Nat × Int) : Bool := match z_bget bd w.2.1 with
  | some (j + 1, e) => Nat.beq u.1 w.1 && (Nat.ble (w.2.1 + 1) n && (bif Nat.beq u.1 2 then F.any fun q => Nat.beq q.1 (j + 1) && (Nat.beq q.2.1 u.2.1 && z_ile (e - w.2.2 - q.2.2 + 1) (-u.2.2))
      else Nat.beq u.1 1 && F.any fun q => Nat.beq q.1 u.2.1 && (Nat.beq q.2.1 (j + 1) && z_ile (w.2.2 - q.2.2 - e + 1) u.2.2)))
  | _ => false
theorem z_tcf_ok {F : List (Nat × Nat × Int)} {bd : z_bd} {n : Nat} {u w : Nat × Nat × Int} (hF : z_gx N F) (h : z_tcf F bd n u w = true) : z_tv (z_bN N bd n) w < z_tv N u := by
  obtain ⟨u1, u2, u3⟩ := u
  obtain ⟨w1, w2, w3⟩ := w
  unfold z_tcf at h
  dsimp only at h
  split at h
  · rename_i j e hb
    rw [Bool.and_eq_true, Bool.and_eq_true] at h
    obtain ⟨h1, h2, h3⟩ := h
    have h1 := Nat.eq_of_beq_eq_true h1
    have h2 := Nat.le_of_ble_eq_true h2
    subst h1
    have hv : ((z_bN N bd n)[w2]?).getD 0 = (N[j + 1]?).getD 0 + e := by
      rw [z_bN_get h2]
      show z_bval N bd w2 = _
      unfold z_bval
      rw [hb]
    cases hk : Nat.beq u1 2 with
    | true =>
      rw [hk] at h3
      have hk := Nat.eq_of_beq_eq_true hk
      subst hk
      obtain ⟨q, hq, hc⟩ := List.any_eq_true.mp h3
      simp only [Bool.and_eq_true] at hc
      obtain ⟨c1, c2, c3⟩ := hc
      obtain ⟨a, b, e1, e2, e3⟩ := hF q hq
      rw [Nat.eq_of_beq_eq_true c1] at e1
      rw [Nat.eq_of_beq_eq_true c2] at e2
      have c3 := z_ile_t c3
      show ((z_bN N bd n)[w2]?).getD 0 - w3 < (N[u2]?).getD 0 - u3
      rw [hv, e1, e2]
      show a + e - w3 < b - u3
      omega
    | false =>
      rw [hk] at h3
      have h3 : (Nat.beq u1 1 && F.any fun q => Nat.beq q.1 u2 && (Nat.beq q.2.1 (j + 1) && z_ile (w3 - q.2.2 - e + 1) u3)) = true := h3
      rw [Bool.and_eq_true] at h3
      have hk1 := Nat.eq_of_beq_eq_true h3.1
      subst hk1
      obtain ⟨q, hq, hc⟩ := List.any_eq_true.mp h3.2
      simp only [Bool.and_eq_true] at hc
      obtain ⟨c1, c2, c3⟩ := hc
      obtain ⟨a, b, e1, e2, e3⟩ := hF q hq
      rw [Nat.eq_of_beq_eq_true c1] at e1
      rw [Nat.eq_of_beq_eq_true c2] at e2
      have c3 := z_ile_t c3
      show w3 - ((z_bN N bd n)[w2]?).getD 0 < u3 - (N[u2]?).getD 0
      rw [hv, e1, e2]
      show w3 - (b + e) < u3 - a
      omega
  · cases h
def z_mlt3 (F : List (Nat × Nat × Int)) (bd : z_bd) (n : Nat) : List (Nat × Nat × Int) → List (Nat × Nat × Int) → Bool
  | u :: us, w :: ws => match z_tc2 bd n u w with
    | 0 => Nat.beq us.length ws.length
    | 1 => z_mlt3 F bd n us ws
    | _ => z_tcf F bd n u w && Nat.beq us.length ws.length
  | _, _ => false
theorem z_mlt3_len {F : List (Nat × Nat × Int)} {bd : z_bd} {n : Nat} : ∀ {us ws : List (Nat × Nat × Int)}, z_mlt3 F bd n us ws = true → us.length = ws.length
  | [], _, h => by cases h
  | _ :: _, [], h => by cases h
  | u :: us, w :: ws, h => by
    unfold z_mlt3 at h
    split at h
    · show us.length + 1 = ws.length + 1
      rw [Nat.eq_of_beq_eq_true h]
    · show us.length + 1 = ws.length + 1
      rw [z_mlt3_len h]
    · rw [Bool.and_eq_true] at h
      show us.length + 1 = ws.length + 1
      rw [Nat.eq_of_beq_eq_true h.2]
theorem z_mlt3_ok {F : List (Nat × Nat × Int)} {bd : z_bd} {n : Nat} (hF : z_gx N F) : ∀ {us ws : List (Nat × Nat × Int)}, (∀ u ∈ us, u.1 ≤ 2) → (∀ u ∈ us, 0 ≤ z_tv N u ∧ z_tv N u < (z_mB : Int)) → (∀ w ∈ ws, 0 ≤ z_tv (z_bN N bd n) w ∧ z_tv (z_bN N bd n) w < (z_mB : Int)) → z_mlt3 F bd n us ws = true → z_num (z_bN N bd n) ws < z_num N us
  | [], _, _, _, _, h => by cases h
  | _ :: _, [], _, _, _, h => by cases h
  | u :: us, w :: ws, h0, h1, h2, h => by
    have hlen : us.length = ws.length := by
      have := z_mlt3_len h
      simpa using this
    unfold z_mlt3 at h
    obtain ⟨k0, k1⟩ := z_tc2_ok (N := N) (bd := bd) (n := n) (u := u) (w := w) (h0 u List.mem_cons_self)
    have hu := h1 u List.mem_cons_self
    have hw := h2 w List.mem_cons_self
    have less : z_tv (z_bN N bd n) w < z_tv N u → (z_tv (z_bN N bd n) w).toNat * z_mB ^ ws.length + z_num (z_bN N bd n) ws < (z_tv N u).toNat * z_mB ^ us.length + z_num N us := fun hlt => by
      have h5 := z_num_lt (N := z_bN N bd n) (us := ws) fun x hx => h2 x (List.mem_cons_of_mem _ hx)
      have h6 : (z_tv (z_bN N bd n) w).toNat + 1 ≤ (z_tv N u).toNat := by omega
      have h7 := Nat.mul_le_mul_right (z_mB ^ ws.length) h6
      rw [Nat.add_mul, Nat.one_mul] at h7
      rw [hlen]
      omega
    show (z_tv (z_bN N bd n) w).toNat * z_mB ^ ws.length + z_num (z_bN N bd n) ws < (z_tv N u).toNat * z_mB ^ us.length + z_num N us
    split at h
    · rename_i e
      exact less (k0 e)
    · rename_i e
      have heq := k1 e
      rw [hlen, heq]
      have := z_mlt3_ok hF (fun x hx => h0 x (List.mem_cons_of_mem _ hx)) (fun x hx => h1 x (List.mem_cons_of_mem _ hx)) (fun x hx => h2 x (List.mem_cons_of_mem _ hx)) h
      omega
    · rw [Bool.and_eq_true] at h
      exact less (z_tcf_ok hF h.1)
variable {strs : z_Ss} {al : Nat → Option Nat}
/-- is the cell there? the top frame's first local is it -/
def z_hr (S : z_as_) (c : Nat) : Bool := match z_aget S.1.2.2.1 0 with
  | some (.inr (.inr (false, [c']))) => Nat.beq c' c
  | _ => false
theorem z_hr_ok {S : z_as_} {c : Nat} {f : z_Fr} {rest : List z_Fr} {P : z_H} (h : z_hr S c = true) (hS : z_gs strs N al S f rest P) : ∃ a, al a = some c := by
  unfold z_hr at h
  split at h
  · rename_i c' hc
    obtain ⟨w, -, g⟩ := hS.1.2.2.1 _ _ hc
    rcases g with ⟨-, g⟩ | ⟨a, d, -, ha, hd⟩
    · cases g
    · have hd : d = c' := by simpa using hd
      rw [hd, Nat.eq_of_beq_eq_true h] at ha
      exact ⟨a, ha⟩
  · cases h
def z_plh (S : z_as_) (p : z_pc) : Option z_tk := bif Nat.beq p.1 0 || (Nat.beq p.1 1 && z_hr S p.2.1) then z_plc S p else none
theorem z_plh_ok {S : z_as_} {p : z_pc} {t : z_tk} {f : z_Fr} {rest : List z_Fr} {P : z_H} (h : z_plh S p = some t) (hS : z_gs strs N al S f rest P) : z_plc S p = some t ∧ ∃ x : Int, z_gi N t x := by
  unfold z_plh at h
  cases hb : (Nat.beq p.1 0 || (Nat.beq p.1 1 && z_hr S p.2.1)) with
  | false => rw [hb] at h; cases h
  | true =>
    rw [hb] at h
    have h : z_plc S p = some t := h
    rw [Bool.or_eq_true, Bool.and_eq_true] at hb
    refine ⟨h, ?_⟩
    rcases hb with hb | hb
    · exact z_plc_ok (Nat.eq_of_beq_eq_true hb) h hS
    · obtain ⟨a, ha⟩ := z_hr_ok hb.2 hS
      obtain ⟨q, A, e1, e2, ⟨e3, e4⟩, -⟩ := hS.2.2.1 a _ ha
      unfold z_plc at h
      rw [Nat.eq_of_beq_eq_true hb.1] at h
      have h : (match S.2.2.1[p.2.1]? with | some A => (match A.2.2.1 with | none => (match A.2.2.2[p.2.2]? with | some v => z_avt v | none => none) | some _ => none) | none => none) = some t := h
      rw [e2] at h
      dsimp only at h
      split at h
      · rename_i hn
        rw [hn] at e4
        have e4 : z_all2 (z_gv N al) A.2.2.2 q.2 := e4
        split at h
        · rename_i v hv
          obtain ⟨w, -, g⟩ := e4.get hv
          exact z_avt_ok h g
        · cases h
      · cases h
/-- the interval of a bound place -/
def z_ivk (S : z_as_) : List (Nat × z_pc) → Nat → Option (Int × Int)
  | [], _ => none
  | q :: r, k => bif Nat.beq q.1 k then (match z_plh S q.2 with
    | some t => bif z_xt t then some (z_lo t, z_hi t) else none
    | none => none) else z_ivk S r k
def z_bh (S : z_as_) (p : z_pc) : Nat × Int := match z_plc S p with
  | some t => if t.1 ≠ 0 ∧ t.2.1 = t.2.2.1 then (t.1, t.2.1) else (0, z_lo t)
  | none => (0, 0)
def z_bvo (N : List Int) : Option (Nat × Int) → Int
  | some (0, c) => c
  | some (j + 1, e) => (N[j + 1]?).getD 0 + e
  | none => 0
theorem z_bval_o {bd : z_bd} {k : Nat} : z_bval N bd k = z_bvo N (z_bget bd k) := by
  unfold z_bval z_bvo
  split <;> rename_i h <;> rw [h]
theorem z_bind_get {S : z_as_} {q : Nat × z_pc} {r : List (Nat × z_pc)} {k : Nat} : z_bget (z_bind S (q :: r)) k = bif Nat.beq q.1 k then some (z_bh S q.2) else z_bget (z_bind S r) k := by
  have e0 : z_bind S (q :: r) = (match z_plc S q.2 with | some t => (if t.1 ≠ 0 ∧ t.2.1 = t.2.2.1 then (q.1, t.1, t.2.1) else (q.1, 0, z_lo t)) | none => (q.1, 0, 0)) :: z_bind S r := rfl
  rw [e0]
  unfold z_bh
  generalize z_bind S r = br
  cases z_plc S q.2 with
  | none => rfl
  | some t =>
    by_cases h : t.1 ≠ 0 ∧ t.2.1 = t.2.2.1
    · show z_bget ((if t.1 ≠ 0 ∧ t.2.1 = t.2.2.1 then (q.1, t.1, t.2.1) else (q.1, 0, z_lo t)) :: br) k = bif Nat.beq q.1 k then some (if t.1 ≠ 0 ∧ t.2.1 = t.2.2.1 then (t.1, t.2.1) else (0, z_lo t)) else z_bget br k
      rw [if_pos h, if_pos h]
      rfl
    · show z_bget ((if t.1 ≠ 0 ∧ t.2.1 = t.2.2.1 then (q.1, t.1, t.2.1) else (q.1, 0, z_lo t)) :: br) k = bif Nat.beq q.1 k then some (if t.1 ≠ 0 ∧ t.2.1 = t.2.2.1 then (t.1, t.2.1) else (0, z_lo t)) else z_bget br k
      rw [if_neg h, if_neg h]
      rfl
theorem z_ivk_ok {S : z_as_} {f : z_Fr} {rest : List z_Fr} {P : z_H} (hS : z_gs strs N al S f rest P) : ∀ {bp : List (Nat × z_pc)}, z_ivo N (z_bind S bp) (z_ivk S bp)
  | [], k, q, h => by cases h
  | p :: r, k, q, h => by
    rw [z_bval_o, z_bind_get]
    unfold z_ivk at h
    cases hb : Nat.beq p.1 k with
    | false =>
      rw [hb] at h
      have := z_ivk_ok hS (bp := r) k q h
      rw [z_bval_o] at this
      exact this
    | true =>
      rw [hb] at h
      cases ht : z_plh S p.2 with
      | none => rw [ht] at h; cases h
      | some t =>
        rw [ht] at h
        cases hx : z_xt t with
        | false =>
          have h : (bif z_xt t then some (z_lo t, z_hi t) else none) = some q := h
          rw [hx] at h
          cases h
        | true =>
          have h : (bif z_xt t then some (z_lo t, z_hi t) else none) = some q := h
          rw [hx] at h
          cases h
          obtain ⟨h1, v, h2⟩ := z_plh_ok ht hS
          obtain ⟨w, e1, e2⟩ := z_xt_eq hx h2
          unfold z_xt at hx
          simp only [Bool.and_eq_true, decide_eq_true_eq] at hx
          have hbh : z_bh S p.2 = (t.1, t.2.1) := by
            unfold z_bh
            rw [h1]
            show (if t.1 ≠ 0 ∧ t.2.1 = t.2.2.1 then (t.1, t.2.1) else (0, z_lo t)) = _
            rw [if_pos hx]
          show z_lo t ≤ z_bvo N (some (z_bh S p.2)) ∧ z_bvo N (some (z_bh S p.2)) ≤ z_hi t
          rw [hbh]
          obtain ⟨k1, k2, -⟩ := h2
          cases ht1 : t.1 with
          | zero => exact absurd ht1 hx.1
          | succ j =>
            show z_lo t ≤ (N[j + 1]?).getD 0 + t.2.1 ∧ (N[j + 1]?).getD 0 + t.2.1 ≤ z_hi t
            rw [← ht1, e1]
            show z_lo t ≤ w + t.2.1 ∧ w + t.2.1 ≤ z_hi t
            omega
/-- measures, of cells too -/
def z_ptk3 (T : z_as_) : List (Nat × z_pc) → Nat → Option z_tk
  | [], _ => none
  | q :: r, k => bif Nat.beq q.1 k then z_plh T q.2 else z_ptk3 T r k
theorem z_ptk3_ok {S : z_as_} {t : z_tk} {f : z_Fr} {rest : List z_Fr} {P : z_H} (hS : z_gs strs N al S f rest P) : ∀ {l : List (Nat × z_pc)} {k : Nat}, z_ptk3 S l k = some t → ∃ x : Int, z_gi N t x
  | [], _, h => by cases h
  | q :: r, k, h => by
    unfold z_ptk3 at h
    cases hb : Nat.beq q.1 k with
    | true =>
      rw [hb] at h
      exact (z_plh_ok h hS).2
    | false =>
      rw [hb] at h
      exact z_ptk3_ok hS h
def z_mt3 (C : z_ce) (q : Nat × Nat × Int) : Option (Nat × Nat × Int) := match q.1 with
  | 0 => if q.2.1 < z_mB then some (0, 0, (q.2.1 : Int)) else none
  | 1 => match z_ptk3 C.2.1 C.2.2.1 q.2.1 with
    | some t => if t.1 = q.2.1 ∧ q.2.1 ≠ 0 ∧ t.2.1 = 0 ∧ t.2.2.1 = 0 ∧ z_hi t ≤ q.2.2 ∧ q.2.2 - z_lo t < (z_mB : Int) then some (1, q.2.1, q.2.2) else none
    | none => none
  | _ => match z_ptk3 C.2.1 C.2.2.1 q.2.1 with
    | some t => if t.1 = q.2.1 ∧ q.2.1 ≠ 0 ∧ t.2.1 = 0 ∧ t.2.2.1 = 0 ∧ q.2.2 ≤ z_lo t ∧ z_hi t - q.2.2 < (z_mB : Int) then some (2, q.2.1, q.2.2) else none
    | none => none
theorem z_mt3_ok {C : z_ce} {q : Nat × Nat × Int} {u : Nat × Nat × Int} {f : z_Fr} {rest : List z_Fr} {P : z_H} (h : z_mt3 C q = some u) (hS : z_gs strs N al C.2.1 f rest P) : (0 ≤ z_tv N u ∧ z_tv N u < (z_mB : Int)) ∧ (u.1 = 0 ∨ ∃ w, N[u.2.1]? = some w) ∧ u.1 ≤ 2 := by
  unfold z_mt3 at h
  split at h
  · split at h
    · rename_i hq
      cases h
      exact ⟨by show 0 ≤ (q.2.1 : Int) ∧ (q.2.1 : Int) < _; omega, Or.inl rfl, Nat.zero_le _⟩
    · cases h
  · split at h
    · rename_i t ht
      split at h
      · rename_i hc
        cases h
        obtain ⟨x, h1, h2, h3⟩ := z_ptk3_ok hS ht
        obtain ⟨c1, c2, c3, c4, c5, c6⟩ := hc
        rcases h3 with h3 | ⟨w, e1, e2, e3⟩
        · omega
        · rw [c1] at e1
          have : w = x := by omega
          refine ⟨?_, Or.inr ⟨w, e1⟩, Nat.le_of_ble_eq_true rfl⟩
          show 0 ≤ q.2.2 - (N[q.2.1]?).getD 0 ∧ q.2.2 - (N[q.2.1]?).getD 0 < _
          rw [e1]
          show 0 ≤ q.2.2 - w ∧ q.2.2 - w < _
          omega
      · cases h
    · cases h
  · split at h
    · rename_i t ht
      split at h
      · rename_i hc
        cases h
        obtain ⟨x, h1, h2, h3⟩ := z_ptk3_ok hS ht
        obtain ⟨c1, c2, c3, c4, c5, c6⟩ := hc
        rcases h3 with h3 | ⟨w, e1, e2, e3⟩
        · omega
        · rw [c1] at e1
          have : w = x := by omega
          refine ⟨?_, Or.inr ⟨w, e1⟩, Nat.le_of_ble_eq_true rfl⟩
          show 0 ≤ (N[q.2.1]?).getD 0 - q.2.2 ∧ (N[q.2.1]?).getD 0 - q.2.2 < _
          rw [e1]
          show 0 ≤ w - q.2.2 ∧ w - q.2.2 < _
          omega
      · cases h
    · cases h
def z_mts3 (C : z_ce) : List (Nat × Nat × Int) → Option (List (Nat × Nat × Int))
  | [] => some []
  | q :: r => match z_mt3 C q, z_mts3 C r with
    | some u, some us => some (u :: us)
    | _, _ => none
theorem z_mts3_ok {C : z_ce} {f : z_Fr} {rest : List z_Fr} {P : z_H} (hS : z_gs strs N al C.2.1 f rest P) : ∀ {l : List (Nat × Nat × Int)} {us : List (Nat × Nat × Int)}, z_mts3 C l = some us → ∀ u ∈ us, (0 ≤ z_tv N u ∧ z_tv N u < (z_mB : Int)) ∧ (u.1 = 0 ∨ ∃ w, N[u.2.1]? = some w) ∧ u.1 ≤ 2
  | [], us, h, u, hu => by cases h; cases hu
  | q :: r, us, h, u, hu => by
    unfold z_mts3 at h
    split at h
    · rename_i a as h1 h2
      cases h
      rcases List.mem_cons.mp hu with rfl | hu
      · exact z_mt3_ok h1 hS
      · exact z_mts3_ok hS h2 u hu
    · cases h
/-- one state below another, with numbers that are told plainly too -/
def z_ivc (bd : z_bd) (iv : Nat → Option (Int × Int)) (k : Nat) : Option (Int × Int) := match z_bget bd k with
  | some (0, c) => some (c, c)
  | _ => iv k
theorem z_ivc_ok {bd : z_bd} {iv : Nat → Option (Int × Int)} (hiv : z_ivo N bd iv) : z_ivo N bd (z_ivc bd iv) := by
  intro k q h
  unfold z_ivc at h
  split at h
  · rename_i c hc
    cases h
    rw [z_bval_o, hc]
    exact ⟨Int.le_refl _, Int.le_refl _⟩
  · exact hiv k q h
def z_xle3 (bd : z_bd) (iv : Nat → Option (Int × Int)) (n : Nat) (F : List (Nat × Nat × Int)) (q : Nat × Nat × Int) : Bool := z_xle bd n F q || (Nat.ble (q.1 + 1) n && (Nat.ble (q.2.1 + 1) n && match z_ivc bd iv q.1, z_ivc bd iv q.2.1 with
  | some x, some y => z_ile (x.2 + q.2.2) y.1
  | _, _ => false))
theorem z_xle3_ok {bd : z_bd} {iv : Nat → Option (Int × Int)} {n : Nat} {F : List (Nat × Nat × Int)} {q : Nat × Nat × Int} (hiv : z_ivo N bd iv) (h : z_xle3 bd iv n F q = true) (k : z_gx N F) : ∃ a b, (z_bN N bd n)[q.1]? = some a ∧ (z_bN N bd n)[q.2.1]? = some b ∧ a + q.2.2 ≤ b := by
  unfold z_xle3 at h
  rw [Bool.or_eq_true] at h
  rcases h with h | h
  · exact z_xle_ok h k
  · simp only [Bool.and_eq_true] at h
    obtain ⟨h1, h2, h3⟩ := h
    refine ⟨_, _, z_bN_get (Nat.le_of_ble_eq_true h1), z_bN_get (Nat.le_of_ble_eq_true h2), ?_⟩
    split at h3
    · rename_i x y hx hy
      have e1 := z_ivc_ok hiv _ _ hx
      have e2 := z_ivc_ok hiv _ _ hy
      have := z_ile_t h3
      omega
    · cases h3
def z_nof (t : z_as_) : z_as_ := (t.1, t.2.1, t.2.2.1, t.2.2.2.1, [], t.2.2.2.2.2)
def z_sle3 (bd : z_bd) (iv : Nat → Option (Int × Int)) (ns : Nat) (s t : z_as_) : Bool := z_sle bd ns s (z_nof t) && t.2.2.2.2.1.all (z_xle3 bd iv t.2.2.2.1 s.2.2.2.2.1)
theorem z_sle3_ok {bd : z_bd} {iv : Nat → Option (Int × Int)} {ns : Nat} {s t : z_as_} {f : z_Fr} {rest : List z_Fr} {P : z_H} (hiv : z_ivo N bd iv) (h : z_sle3 bd iv ns s t = true) (k : z_gs strs N al s f rest P) (hf : z_fr ns al) :
    z_gs strs (z_bN N bd t.2.2.2.1) (z_alc al t.2.2.1.length) t f rest P ∧ z_fr ns (z_alc al t.2.2.1.length) := by
  unfold z_sle3 at h
  rw [Bool.and_eq_true] at h
  obtain ⟨k1, k2⟩ := z_sle_ok h.1 k hf
  obtain ⟨g1, g2, g3, g4, -, g6⟩ := k1
  exact ⟨⟨g1, g2, g3, g4, fun q hq => z_xle3_ok hiv (List.all_eq_true.mp h.2 q hq) k.2.2.2.2.1, g6⟩, k2⟩
end ZMEA
