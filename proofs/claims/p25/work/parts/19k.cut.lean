/-! One abstract state held against another: what the first stands for, the second stands for too. -/
section ZCUT
/-- what an identity of the second state is in the first: (0, c): the number c; (j, e): the value of the identity j, and e more -/
abbrev z_bd : Type := List (Nat × Nat × Int)
def z_bget : z_bd → Nat → Option (Nat × Int)
  | [], _ => none
  | q :: r, k => bif Nat.beq q.1 k then some q.2 else z_bget r k
def z_bval (N : List Int) (bd : z_bd) (k : Nat) : Int := match z_bget bd k with
  | some (0, c) => c
  | some (j + 1, e) => (N[j + 1]?).getD 0 + e
  | none => 0
def z_bN (N : List Int) (bd : z_bd) (n : Nat) : List Int := (List.range n).map (z_bval N bd)
theorem z_bN_get {N : List Int} {bd : z_bd} {n k : Nat} (h : k < n) : (z_bN N bd n)[k]? = some (z_bval N bd k) := by
  unfold z_bN
  rw [List.getElem?_map, List.getElem?_range h]
  rfl
def z_ile (a b : Int) : Bool := decide (a ≤ b)
/-- a number's token below another's -/
def z_tle (bd : z_bd) (n : Nat) (s t : z_tk) : Bool := z_ile (z_lo t) (z_lo s) && (z_ile (z_hi s) (z_hi t) && (Nat.beq t.1 0 || (Nat.ble (t.1 + 1) n && match z_bget bd t.1 with
  | some (0, c) => z_ile (c + t.2.1) (z_lo s) && z_ile (z_hi s) (c + t.2.2.1)
  | some (j + 1, e) => Nat.beq (j + 1) s.1 && (z_ile (e + t.2.1) s.2.1 && z_ile s.2.2.1 (e + t.2.2.1))
  | none => false)))
theorem z_tle_ok {bd : z_bd} {n : Nat} {s t : z_tk} {N : List Int} {v : Int} (h : z_tle bd n s t = true) (hs : z_gi N s v) : z_gi (z_bN N bd n) t v := by
  unfold z_tle z_ile at h
  simp only [Bool.and_eq_true, Bool.or_eq_true, decide_eq_true_eq] at h
  obtain ⟨h1, h2, h3⟩ := h
  obtain ⟨s1, s2, s3⟩ := hs
  refine ⟨Int.le_trans h1 s1, Int.le_trans s2 h2, h3.imp (fun h => Nat.eq_of_beq_eq_true h) ?_⟩
  rintro ⟨h4, h5⟩
  have h4 := Nat.le_of_ble_eq_true h4
  refine ⟨z_bval N bd t.1, z_bN_get h4, ?_⟩
  unfold z_bval
  split at h5
  · rename_i c hc
    simp only [Bool.and_eq_true, decide_eq_true_eq] at h5
    exact ⟨Int.le_trans h5.1 s1, Int.le_trans s2 h5.2⟩
  · rename_i j e hj
    simp only [Bool.and_eq_true, decide_eq_true_eq] at h5
    obtain ⟨h6, h7, h8⟩ := h5
    have h6 := Nat.eq_of_beq_eq_true h6
    rcases s3 with s3 | ⟨w, e1, e2, e3⟩
    · omega
    · rw [← h6] at e1
      show (N[j + 1]?).getD 0 + e + t.2.1 ≤ v ∧ v ≤ (N[j + 1]?).getD 0 + e + t.2.2.1
      rw [e1]
      show w + e + t.2.1 ≤ v ∧ v ≤ w + e + t.2.2.1
      omega
  · cases h5
/-- the cells of the second state are the first ones of the first -/
def z_alc (al : Nat → Option Nat) (m : Nat) (a : Nat) : Option Nat := match al a with
  | some c => if c < m then some c else none
  | none => none
theorem z_alc_get {al : Nat → Option Nat} {m a c : Nat} (h : z_alc al m a = some c) : al a = some c ∧ c < m := by
  unfold z_alc at h
  split at h
  · rename_i c' hc
    split at h
    · rename_i hl
      cases h
      exact ⟨hc, hl⟩
    · cases h
  · cases h
theorem z_alc_put {al : Nat → Option Nat} {m a c : Nat} (h : al a = some c) (hl : c < m) : z_alc al m a = some c := by
  unfold z_alc
  rw [h]
  dsimp only
  rw [if_pos hl]
def z_nin (c : Nat) : List Nat → Bool
  | [] => false
  | d :: r => bif Nat.beq c d then true else z_nin c r
theorem z_nin_ok {c : Nat} : ∀ {l : List Nat}, z_nin c l = true → c ∈ l
  | [], h => by cases h
  | d :: r, h => by
    unfold z_nin at h
    cases hb : Nat.beq c d with
    | true => rw [Nat.eq_of_beq_eq_true hb]; exact List.mem_cons_self
    | false =>
      rw [hb] at h
      exact List.mem_cons_of_mem _ (z_nin_ok h)
def z_vle (bd : z_bd) (n m : Nat) : z_av → z_av → Bool
  | .inl s, .inl t => z_tle bd n s t
  | .inr (.inl s), .inr (.inl t) => z_tle bd n s t
  | .inr (.inr s), .inr (.inr t) => (!s.1 || t.1) && s.2.all fun c => z_nin c t.2 && Nat.ble (c + 1) m
  | _, _ => false
theorem z_vle_ok {bd : z_bd} {n m : Nat} {N : List Int} {al : Nat → Option Nat} : ∀ {s t : z_av} {v : Value}, z_vle bd n m s t = true → z_gv N al s v → z_gv (z_bN N bd n) (z_alc al m) t v
  | .inl _, .inl _, _, h, ⟨x, e, k⟩ => ⟨x, e, z_tle_ok h k⟩
  | .inr (.inl _), .inr (.inl _), _, h, ⟨x, e, k⟩ => ⟨x, e, z_tle_ok h k⟩
  | .inr (.inr s), .inr (.inr t), v, h, k => by
    have h : ((!s.1 || t.1) && s.2.all fun c => z_nin c t.2 && Nat.ble (c + 1) m) = true := h
    rw [Bool.and_eq_true] at h
    obtain ⟨h1, h2⟩ := h
    rcases k with ⟨k1, k2⟩ | ⟨a, c, k1, k2, k3⟩
    · rw [k2] at h1
      exact Or.inl ⟨k1, by simpa using h1⟩
    · have h3 := List.all_eq_true.mp h2 c k3
      rw [Bool.and_eq_true] at h3
      exact Or.inr ⟨a, c, k1, z_alc_put k2 (Nat.le_of_ble_eq_true h3.2), z_nin_ok h3.1⟩
  | .inl _, .inr _, _, h, _ => by cases h
  | .inr (.inl _), .inl _, _, h, _ => by cases h
  | .inr (.inr _), .inl _, _, h, _ => by cases h
  | .inr (.inl _), .inr (.inr _), _, h, _ => by cases h
  | .inr (.inr _), .inr (.inl _), _, h, _ => by cases h
def z_lle (f : z_av → z_av → Bool) : List z_av → List z_av → Bool
  | [], [] => true
  | s :: ss, t :: ts => match f s t with
    | true => z_lle f ss ts
    | false => false
  | _, _ => false
theorem z_lle_ok {bd : z_bd} {n m : Nat} {N : List Int} {al : Nat → Option Nat} : ∀ {ss ts : List z_av} {vs : List Value}, z_lle (z_vle bd n m) ss ts = true → z_all2 (z_gv N al) ss vs → z_all2 (z_gv (z_bN N bd n) (z_alc al m)) ts vs
  | [], [], [], _, _ => trivial
  | s :: ss, t :: ts, v :: vs, h, ⟨k1, k2⟩ => by
    unfold z_lle at h
    split at h
    · rename_i h1
      exact ⟨z_vle_ok h1 k1, z_lle_ok h k2⟩
    · cases h
  | [], [], _ :: _, _, k => k.elim
  | _ :: _, _, [], _, k => k.elim
  | [], _ :: _, _, h, _ => by cases h
  | _ :: _, [], _ :: _, h, _ => by cases h
def z_cle (bd : z_bd) (n m : Nat) (s t : z_ac_) : Bool := Nat.beq s.1 t.1 && ((s.2.1.1 || !t.2.1.1) && ((s.2.1.2 || !t.2.1.2) && match s.2.2.1, t.2.2.1 with
  | none, none => z_lle (z_vle bd n m) s.2.2.2 t.2.2.2
  | some k, some k' => Nat.beq k k' && match s.2.2.2, t.2.2.2 with
    | [u], [w] => z_vle bd n m u w
    | _, _ => false
  | none, some k' => Nat.beq s.2.2.2.length k' && match t.2.2.2 with
    | [w] => s.2.2.2.all fun u => z_vle bd n m u w
    | _ => false
  | some _, none => false))
theorem z_all2.mem {α β : Type} {R : α → β → Prop} : ∀ {as : List α} {bs : List β} {b : β}, z_all2 R as bs → b ∈ bs → ∃ a ∈ as, R a b
  | _ :: _, _ :: _, b, ⟨h1, h2⟩, hb => by
    rcases List.mem_cons.mp hb with rfl | hb
    · exact ⟨_, List.mem_cons_self, h1⟩
    · obtain ⟨a, ha, h3⟩ := h2.mem hb
      exact ⟨a, List.mem_cons_of_mem _ ha, h3⟩
  | [], [], _, _, hb => by cases hb
  | [], _ :: _, _, h, _ => h.elim
  | _ :: _, [], _, h, _ => h.elim
theorem z_cle_ok {bd : z_bd} {n m : Nat} {N : List Int} {al : Nat → Option Nat} {s t : z_ac_} {q : z_C} (h : z_cle bd n m s t = true) (k : z_gc N al s q) : z_gc (z_bN N bd n) (z_alc al m) t q ∧ (t.2.1.1 = true → s.2.1.1 = true) ∧ (t.2.1.2 = true → s.2.1.2 = true) := by
  unfold z_cle at h
  simp only [Bool.and_eq_true] at h
  obtain ⟨h1, h2, h3, h4⟩ := h
  have fl : ∀ a b : Bool, (a || !b) = true → b = true → a = true := by decide
  refine ⟨⟨(Nat.eq_of_beq_eq_true h1).symm.trans k.1, ?_⟩, fl _ _ h2, fl _ _ h3⟩
  obtain ⟨-, k⟩ := k
  split at h4
  · rename_i e1 e2
    rw [e1] at k
    rw [e2]
    exact z_lle_ok h4 k
  · rename_i k1 k2 e1 e2
    rw [e1] at k
    rw [e2]
    rw [Bool.and_eq_true] at h4
    obtain ⟨h5, h6⟩ := h4
    obtain ⟨g1, u, g2, g3⟩ := k
    split at h6
    · rename_i u' w e3 e4
      rw [e3] at g2
      cases g2
      exact ⟨g1.trans (Nat.eq_of_beq_eq_true h5), w, e4, fun v hv => z_vle_ok h6 (g3 v hv)⟩
    · cases h6
  · rename_i k2 e1 e2
    rw [e1] at k
    rw [e2]
    rw [Bool.and_eq_true] at h4
    obtain ⟨h5, h6⟩ := h4
    split at h6
    · rename_i w e4
      refine ⟨?_, w, e4, fun v hv => ?_⟩
      · rw [← z_all2.len k]
        exact Nat.eq_of_beq_eq_true h5
      · obtain ⟨u, hu, g⟩ := z_all2.mem k hv
        exact z_vle_ok (List.all_eq_true.mp h6 u hu) g
    · cases h6
  · cases h4
def z_hle (f : z_ac_ → z_ac_ → Bool) : List z_ac_ → List z_ac_ → Bool
  | _, [] => true
  | s :: ss, t :: ts => match f s t with
    | true => z_hle f ss ts
    | false => false
  | [], _ :: _ => false
theorem z_hle_get {f : z_ac_ → z_ac_ → Bool} : ∀ {ss ts : List z_ac_} {c : Nat} {t : z_ac_}, z_hle f ss ts = true → ts[c]? = some t → ∃ s, ss[c]? = some s ∧ f s t = true
  | _, [], c, t, _, e => by simp at e
  | s :: ss, t' :: ts, 0, t, h, e => by
    cases e
    unfold z_hle at h
    split at h
    · rename_i h1
      exact ⟨s, rfl, h1⟩
    · cases h
  | s :: ss, t' :: ts, c + 1, t, h, e => by
    unfold z_hle at h
    split at h
    · obtain ⟨s', g1, g2⟩ := z_hle_get h (c := c) (by simpa using e)
      exact ⟨s', by simpa using g1, g2⟩
    · cases h
  | [], _ :: _, _, _, h, _ => by cases h
def z_fle (bd : z_bd) (n m : Nat) (s t : z_af) : Bool := Nat.beq s.1 t.1 && (Nat.beq s.2.1 t.2.1 && ((t.2.2.1.all fun q => match z_aget s.2.2.1 q.1 with
  | some u => z_vle bd n m u q.2
  | none => false) && (z_lle (z_vle bd n m) s.2.2.2.1 t.2.2.2.1 && (Nat.beq s.2.2.2.2.1 t.2.2.2.2.1 && Nat.beq s.2.2.2.2.2 t.2.2.2.2.2))))
theorem z_aget_mem : ∀ {L : List (Nat × z_av)} {i : Nat} {t : z_av}, z_aget L i = some t → (i, t) ∈ L
  | [], _, _, h => by cases h
  | q :: r, i, t, h => by
    unfold z_aget at h
    split at h
    · rename_i e
      have e' : q.1 = i := by simpa using e
      cases h
      rw [← e']
      exact List.mem_cons_self
    · exact List.mem_cons_of_mem _ (z_aget_mem h)
theorem z_fle_ok {bd : z_bd} {n m : Nat} {N : List Int} {al : Nat → Option Nat} {s t : z_af} {f : z_Fr} (h : z_fle bd n m s t = true) (k : z_gf_ N al s f) : z_gf_ (z_bN N bd n) (z_alc al m) t f := by
  unfold z_fle at h
  simp only [Bool.and_eq_true] at h
  obtain ⟨h1, h2, h3, h4, h5, h6⟩ := h
  obtain ⟨k1, k2, k3, k4, k5, k6⟩ := k
  refine ⟨(Nat.eq_of_beq_eq_true h1).symm.trans k1, (Nat.eq_of_beq_eq_true h2).symm.trans k2, fun i w e => ?_, z_lle_ok h4 k4, (Nat.eq_of_beq_eq_true h5).symm.trans k5, (Nat.eq_of_beq_eq_true h6).symm.trans k6⟩
  have h7 := List.all_eq_true.mp h3 _ (z_aget_mem e)
  dsimp only at h7
  split at h7
  · rename_i u hu
    obtain ⟨v, g1, g2⟩ := k3 i u hu
    exact ⟨v, g1, z_vle_ok h7 g2⟩
  · cases h7
def z_rle (f : z_af → z_af → Bool) : List z_af → List z_af → Bool
  | [], [] => true
  | s :: ss, t :: ts => f s t && z_rle f ss ts
  | _, _ => false
theorem z_rle_ok {bd : z_bd} {n m : Nat} {N : List Int} {al : Nat → Option Nat} : ∀ {ss ts : List z_af} {fs : List z_Fr}, z_rle (z_fle bd n m) ss ts = true → z_all2 (z_gf_ N al) ss fs → z_all2 (z_gf_ (z_bN N bd n) (z_alc al m)) ts fs
  | [], [], [], _, _ => trivial
  | s :: ss, t :: ts, f :: fs, h, ⟨k1, k2⟩ => by
    unfold z_rle at h
    rw [Bool.and_eq_true] at h
    exact ⟨z_fle_ok h.1 k1, z_rle_ok h.2 k2⟩
  | [], [], _ :: _, _, k => k.elim
  | _ :: _, _, [], _, k => k.elim
  | [], _ :: _, _, h, _ => by cases h
  | _ :: _, [], _ :: _, h, _ => by cases h
/-- what the second state holds of two identities, the first holds -/
def z_xle (bd : z_bd) (n : Nat) (F : List (Nat × Nat × Int)) (q : Nat × Nat × Int) : Bool := Nat.ble (q.1 + 1) n && (Nat.ble (q.2.1 + 1) n && match z_bget bd q.1, z_bget bd q.2.1 with
  | some (i + 1, a), some (j + 1, b) => F.any fun p => Nat.beq p.1 (i + 1) && (Nat.beq p.2.1 (j + 1) && z_ile (a + q.2.2) (p.2.2 + b))
  | _, _ => false)
theorem z_xle_ok {bd : z_bd} {n : Nat} {F : List (Nat × Nat × Int)} {q : Nat × Nat × Int} {N : List Int} (h : z_xle bd n F q = true) (k : z_gx N F) : ∃ a b, (z_bN N bd n)[q.1]? = some a ∧ (z_bN N bd n)[q.2.1]? = some b ∧ a + q.2.2 ≤ b := by
  unfold z_xle at h
  simp only [Bool.and_eq_true] at h
  obtain ⟨h1, h2, h3⟩ := h
  refine ⟨_, _, z_bN_get (Nat.le_of_ble_eq_true h1), z_bN_get (Nat.le_of_ble_eq_true h2), ?_⟩
  split at h3
  · rename_i i a j b e1 e2
    obtain ⟨p, hp, hd⟩ := List.any_eq_true.mp h3
    simp only [Bool.and_eq_true] at hd
    obtain ⟨d1, d2, d3⟩ := hd
    obtain ⟨u, v, g1, g2, g3⟩ := k p hp
    rw [Nat.eq_of_beq_eq_true d1] at g1
    rw [Nat.eq_of_beq_eq_true d2] at g2
    have d3 : a + q.2.2 ≤ p.2.2 + b := of_decide_eq_true d3
    have f1 : z_bval N bd q.1 = u + a := by
      unfold z_bval
      rw [e1]
      show (N[i + 1]?).getD 0 + a = _
      rw [g1]
      rfl
    have f2 : z_bval N bd q.2.1 = v + b := by
      unfold z_bval
      rw [e2]
      show (N[j + 1]?).getD 0 + b = _
      rw [g2]
      rfl
    rw [f1, f2]
    omega
  · cases h3
def z_sle (bd : z_bd) (ns : Nat) (s t : z_as_) : Bool := Nat.ble ns t.2.2.1.length && (z_fle bd t.2.2.2.1 t.2.2.1.length s.1 t.1 && (z_rle (z_fle bd t.2.2.2.1 t.2.2.1.length) s.2.1 t.2.1 && (z_hle (z_cle bd t.2.2.2.1 t.2.2.1.length) s.2.2.1 t.2.2.1 && (t.2.2.2.2.1.all (z_xle bd t.2.2.2.1 s.2.2.2.2.1) && Nat.ble s.2.2.2.2.2 t.2.2.2.2.2))))
theorem z_sle_ok {bd : z_bd} {ns : Nat} {s t : z_as_} {strs : z_Ss} {N : List Int} {al : Nat → Option Nat} {f : z_Fr} {rest : List z_Fr} {P : z_H} (h : z_sle bd ns s t = true) (k : z_gs strs N al s f rest P) (hf : z_fr ns al) :
    z_gs strs (z_bN N bd t.2.2.2.1) (z_alc al t.2.2.1.length) t f rest P ∧ z_fr ns (z_alc al t.2.2.1.length) := by
  unfold z_sle at h
  simp only [Bool.and_eq_true] at h
  obtain ⟨h0, h1, h2, h3, h4, h5⟩ := h
  obtain ⟨k1, k2, k3, k4, k5, k6⟩ := k
  refine ⟨⟨z_fle_ok h1 k1, z_rle_ok h2 k2, fun a c hac => ?_, by simp [z_bN], fun q hq => ?_, Nat.le_trans k6 (Nat.le_of_ble_eq_true h5)⟩, fun j hj => z_alc_put (hf j hj) (Nat.lt_of_lt_of_le hj (Nat.le_of_ble_eq_true h0))⟩
  · obtain ⟨g1, g2⟩ := z_alc_get hac
    obtain ⟨q, A, e1, e2, e3, e4, e5⟩ := k3 a c g1
    obtain ⟨A', e6, e7⟩ := z_hle_get h3 (List.getElem?_eq_getElem g2)
    cases e2.symm.trans e6
    obtain ⟨m1, m2, m3⟩ := z_cle_ok e7 e3
    exact ⟨q, _, e1, List.getElem?_eq_getElem g2, m1, fun hs b hb => e4 (m2 hs) b (z_alc_get hb).1, fun hn => e5 (m3 hn)⟩
  · exact z_xle_ok (List.all_eq_true.mp h4 q hq) k5
end ZCUT
