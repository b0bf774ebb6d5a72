/-! The walk with contracts: one step. -/
section ZSU3
variable {N : List Int} {al : Nat → Option Nat}
/-- a property of piles of frames that a run carries backwards, calls in one too -/
def z_Clo5 (G : z_Pg) (Φ : Nat → z_Fr → List z_Fr → z_H → Prop) : Prop :=
  (∀ {d : Nat} {f : z_Fr} {rest : List z_Fr} {P : z_H} {q : z_S}, z_next G d f.1 (z_fs f P) = some (.inr (.inl q)) → Φ d (f.1, q.1, q.2.1, q.2.2.1, q.2.2.2.2.1, q.2.2.2.2.2) rest q.2.2.2.1 → Φ d f rest P) ∧
  (∀ {d y : Nat} {f : z_Fr} {rest : List z_Fr} {P : z_H} {as rst : List Value}, 1 ≤ d → z_next G d f.1 (z_fs f P) = some (.inr (.inr (y, as, rst))) → Φ (d - 1) (y, 0, lv_args 0 as, [], 0, 0) ((f.1, f.2.1, f.2.2.1, rst, f.2.2.2.2.1, f.2.2.2.2.2) :: rest) P → Φ d f rest P) ∧
  (∀ {d : Nat} {f g : z_Fr} {rest : List z_Fr} {P : z_H} {r0 : Option Value}, z_next G d f.1 (z_fs f P) = some (.inl r0) → Φ (d + 1) (z_fb G g r0 f.1) rest P → Φ d f (g :: rest) P) ∧
  (∀ {d y : Nat} {f : z_Fr} {rest : List z_Fr} {P P1 : z_H} {as rst : List Value} {rv : Option Value}, 1 ≤ d → z_next G d f.1 (z_fs f P) = some (.inr (.inr (y, as, rst))) → z_Runs G (d - 1) y (0, lv_args 0 as, [], P, 0, 0) rv P1 → Φ d (z_fb G (f.1, f.2.1, f.2.2.1, rst, f.2.2.2.2.1, f.2.2.2.2.2) rv y) rest P1 → Φ d f rest P)
/-- a contract: method, depth, start, where its identities stand, ends, a number that must have grown (its identity, the one of old, by how much) -/
abbrev z_Kc : Type := Nat × Nat × z_as_ × List (Nat × z_pc) × List z_Xe × Option (Nat × Nat × Int)
def z_Kok (G : z_Pg) (ns : Nat) (J : (Nat → Option Nat) → z_H → Prop) (w0 : List Int) (e : Nat) (K : z_Kc) : Prop :=
  ∀ {N : List Int} {al : Nat → Option Nat} {l : z_L} {P : z_H} {d : Nat}, K.2.1 ≤ d → z_gs (z_strs G) N al K.2.2.1 (K.1, 0, l, [], 0, 0) [] P → z_fr ns al → J al P → (∀ r, K.2.2.2.2.2 = some r → ∃ v w, w0[r.2.1]? = some v ∧ N[r.1]? = some w ∧ v + r.2.2 ≤ w) →
    ∃ rv P' al' X, X ∈ K.2.2.2.2.1 ∧ z_Runs G (d + e) K.1 (0, l, [], P, 0, 0) rv P' ∧ J al' P' ∧ z_post N al P X rv P' al'
def z_rkb (F : List (Nat × Nat × Int)) (g : Nat) (bd : z_bd) (n : Nat) : Option (Nat × Nat × Int) → Bool
  | none => true
  | some r => Nat.ble (r.1 + 1) n && (Nat.ble 1 r.2.1 && (Nat.ble (r.2.1 + 1) g && match z_bget bd r.1 with
    | some (j, e) => (Nat.beq j r.2.1 && z_ile r.2.2 e) || (Nat.ble 1 j && F.any fun q => Nat.beq q.1 r.2.1 && (Nat.beq q.2.1 j && z_ile r.2.2 (q.2.2 + e)))
    | none => false))
/-- the state behind a call, by one end -/
def z_kres (G : z_Pg) (W : z_Ws) (bd : z_bd) (iv : Nat → Option (Int × Int)) (S : z_as_) (X : z_Xe) : Option z_as_ := match S.2.1 with
  | [] => none
  | g0 :: rest => bif z_wsub (z_xW X.2.1) W then (match z_ptc bd iv S.2.2.2.1 X.2.1 S.2.2.1 with
    | some R => match X.1 with
      | none => some (z_afb G g0 none S.1.1, rest, R, S.2.2.2.1, S.2.2.2.2.1, S.2.2.2.2.2 + X.2.2)
      | some v => some (z_afb G g0 (some (z_newv S.2.2.2.1 (z_subv bd iv S.2.2.2.1 v)).1) S.1.1, rest, R, (z_newv S.2.2.2.1 (z_subv bd iv S.2.2.2.1 v)).2, S.2.2.2.2.1, S.2.2.2.2.2 + X.2.2)
    | none => none) else none
def z_mapo {α β : Type} (f : α → Option β) : List α → Option (List β)
  | [] => some []
  | a :: r => match f a with
    | some b => match z_mapo f r with
      | some bs => some (b :: bs)
      | none => none
    | none => none
theorem z_mapo_mem {α β : Type} {f : α → Option β} : ∀ {l : List α} {r : List β} {a : α}, z_mapo f l = some r → a ∈ l → ∃ b ∈ r, f a = some b
  | [], _, _, _, h => by cases h
  | x :: l, r, a, h, hm => by
    unfold z_mapo at h
    split at h
    · rename_i b hb
      split at h
      · rename_i bs hbs
        cases h
        rcases List.mem_cons.mp hm with hm | hm
        · subst hm
          exact ⟨b, List.mem_cons_self, hb⟩
        · obtain ⟨b', h1, h2⟩ := z_mapo_mem hbs hm
          exact ⟨b', List.mem_cons_of_mem _ h1, h2⟩
      · cases h
    · cases h
def z_kuse (G : z_Pg) (W : z_Ws) (ns g d : Nat) (S : z_as_) (K : z_Kc) : Option (List z_as_) := bif Nat.beq K.1 S.1.1 && (Nat.ble K.2.1 d && (K.2.2.1.2.1.isEmpty && (Nat.beq S.1.2.1 0 && (S.1.2.2.2.1.isEmpty && (Nat.beq S.1.2.2.2.2.1 0 && (Nat.beq S.1.2.2.2.2.2 0 && (Nat.beq S.2.2.1.length K.2.2.1.2.2.1.length && (z_sle3 (z_bind S K.2.2.2.1) (z_ivk S K.2.2.2.1) ns (S.1, [], S.2.2) K.2.2.1 && z_rkb S.2.2.2.2.1 g (z_bind S K.2.2.2.1) K.2.2.1.2.2.2.1 K.2.2.2.2.2))))))))
  then z_mapo (z_kres G W (z_bind S K.2.2.2.1) (z_ivk S K.2.2.2.1) S) K.2.2.2.2.1 else none
def z_kany (G : z_Pg) (W : z_Ws) (ns g d : Nat) (S : z_as_) : List z_Kc → Option (List z_as_)
  | [] => none
  | K :: r => match z_kuse G W ns g d S K with
    | some Rs => some Rs
    | none => z_kany G W ns g d S r
theorem z_kany_mem {G : z_Pg} {W : z_Ws} {ns g d : Nat} {S : z_as_} {Rs : List z_as_} : ∀ {Ks : List z_Kc}, z_kany G W ns g d S Ks = some Rs → ∃ K ∈ Ks, z_kuse G W ns g d S K = some Rs
  | [], h => by cases h
  | K :: r, h => by
    unfold z_kany at h
    split at h
    · rename_i hk
      cases h
      exact ⟨K, List.mem_cons_self, hk⟩
    · obtain ⟨K', h1, h2⟩ := z_kany_mem h
      exact ⟨K', List.mem_cons_of_mem _ h1, h2⟩
theorem z_alc_id {strs : z_Ss} {AH : List z_ac_} {P : z_H} {m : Nat} (hH : z_gh strs N al AH P) (hm : AH.length = m) : z_alc al m = al := by
  funext a
  unfold z_alc
  split
  · rename_i c hc
    obtain ⟨q, A, -, h2, -⟩ := hH a c hc
    rw [if_pos (by rw [← hm]; exact (List.getElem?_eq_some_iff.mp h2).1), hc]
  · rename_i hc
    exact hc.symm
theorem z_ptc_in {bd : z_bd} {iv : Nat → Option (Int × Int)} {n : Nat} : ∀ {X : z_Pt} {H R : List z_ac_}, z_ptc bd iv n X H = some R → ∀ {c : Nat} {o : z_ac_ ⊕ List (Nat × z_av)}, z_xget X c = some o → c < H.length
  | [], _, _, _, _, _, h => by cases h
  | (c0, .inl A') :: r, H, R, h, c, o, ho => by
    unfold z_ptc at h
    split at h
    · rename_i A0 hA0 hx
      have ho : (bif Nat.beq c0 c then some (Sum.inl A') else z_xget r c) = some o := ho
      cases hc : Nat.beq c0 c with
      | true => rw [← Nat.eq_of_beq_eq_true hc]; exact (List.getElem?_eq_some_iff.mp hA0).1
      | false =>
        rw [hc] at ho
        cases hb : A0.2.1.2 with
        | false => rw [hb] at h; cases h
        | true =>
          rw [hb] at h
          have := z_ptc_in (H := H.set c0 (z_subc bd iv n A')) h ho
          simpa using this
    · cases h
  | (c0, .inr ps) :: r, H, R, h, c, o, ho => by
    unfold z_ptc at h
    split at h
    · rename_i A0 hA0 hx
      have ho : (bif Nat.beq c0 c then some (Sum.inr ps) else z_xget r c) = some o := ho
      cases hc : Nat.beq c0 c with
      | true => rw [← Nat.eq_of_beq_eq_true hc]; exact (List.getElem?_eq_some_iff.mp hA0).1
      | false =>
        rw [hc] at ho
        cases hb : (A0.2.1.2 && A0.2.2.1.isNone) with
        | false => rw [hb] at h; cases h
        | true =>
          rw [hb] at h
          have := z_ptc_in (H := H.set c0 (A0.1, A0.2.1, none, z_sets bd iv n ps 0 A0.2.2.2)) h ho
          simpa using this
    · cases h
/-- what is meant by: from here all is well -/
def z_all3 (G : z_Pg) (ns : Nat) (J : (Nat → Option Nat) → z_H → Prop) (W : z_Ws) (w0 : List Int) (g : Nat) (al0 : Nat → Option Nat) (P0 : z_H) (B0 : Nat) (Φ : Nat → z_Fr → List z_Fr → z_H → Prop) (N0 : List Int) (L : List (Nat × z_as_)) : Prop :=
  ∀ x ∈ L, ∀ {N : List Int} {al : Nat → Option Nat} {f : z_Fr} {rest : List z_Fr} {P : z_H}, (∃ X, N = N0 ++ X) → z_gs (z_strs G) N al x.2 f rest P → z_fr ns al → z_Iv J W w0 g al0 P0 B0 N al P x.2.2.2.2.2.2 → Φ x.1 f rest P
theorem z_bvo_pos {N : List Int} {j : Nat} {e : Int} (h : 1 ≤ j) : z_bvo N (some (j, e)) = (N[j]?).getD 0 + e := by
  cases j with
  | zero => omega
  | succ j => rfl
/-- a contract used -/
theorem z_kuse_ok {G : z_Pg} {ns : Nat} {J : (Nat → Option Nat) → z_H → Prop} {W : z_Ws} {w0 : List Int} {g : Nat} {al0 : Nat → Option Nat} {P0 : z_H} {B0 e : Nat} {Φ : Nat → z_Fr → List z_Fr → z_H → Prop} (hΦ : z_Clo5 G Φ) {K : z_Kc} (hK : z_Kok G ns J w0 e K) {d y : Nat} {S : z_as_} {f : z_Fr} {rest : List z_Fr} {P : z_H} {as rst : List Value} {Rs : List z_as_}
    (h : z_kuse G W ns g (d - 1) S K = some Rs) (hd : 1 ≤ d) (hn : z_next G (d + e) f.1 (z_fs f P) = some (.inr (.inr (y, as, rst)))) (hS : z_gs (z_strs G) N al S (y, 0, lv_args 0 as, [], 0, 0) ((f.1, f.2.1, f.2.2.1, rst, f.2.2.2.2.1, f.2.2.2.2.2) :: rest) P) (hf : z_fr ns al) (hI : z_Iv J W w0 g al0 P0 B0 N al P S.2.2.2.2.2)
    (hgo : z_all3 G ns J W w0 g al0 P0 B0 (fun d => Φ (d + e)) N (Rs.map fun R => (d, R))) : Φ (d + e) f rest P := by
  unfold z_kuse at h
  cases hb : Nat.beq K.1 S.1.1 && (Nat.ble K.2.1 (d - 1) && (K.2.2.1.2.1.isEmpty && (Nat.beq S.1.2.1 0 && (S.1.2.2.2.1.isEmpty && (Nat.beq S.1.2.2.2.2.1 0 && (Nat.beq S.1.2.2.2.2.2 0 && (Nat.beq S.2.2.1.length K.2.2.1.2.2.1.length && (z_sle3 (z_bind S K.2.2.2.1) (z_ivk S K.2.2.2.1) ns (S.1, [], S.2.2) K.2.2.1 && z_rkb S.2.2.2.2.1 g (z_bind S K.2.2.2.1) K.2.2.1.2.2.2.1 K.2.2.2.2.2)))))))) with
  | false => rw [hb] at h; cases h
  | true =>
    rw [hb] at h
    have h : z_mapo (z_kres G W (z_bind S K.2.2.2.1) (z_ivk S K.2.2.2.1) S) K.2.2.2.2.1 = some Rs := h
    simp only [Bool.and_eq_true] at hb
    obtain ⟨b1, b2, b3, -, -, -, -, b8, b9, b10⟩ := hb
    have b1 := Nat.eq_of_beq_eq_true b1
    have b2 := Nat.le_of_ble_eq_true b2
    have b8 := Nat.eq_of_beq_eq_true b8
    obtain ⟨s1, s2, s3, s4, s5, s6⟩ := id hS
    have hy : S.1.1 = y := s1.1
    have hS1 : z_gs (z_strs G) N al (S.1, [], S.2.2) (y, 0, lv_args 0 as, [], 0, 0) [] P := ⟨s1, trivial, s3, s4, s5, s6⟩
    obtain ⟨k1, k2⟩ := z_sle3_ok (z_ivk_ok hS) b9 hS1 hf
    rw [z_alc_id s3 b8] at k1 k2
    have hrk : ∀ r, K.2.2.2.2.2 = some r → ∃ v w, w0[r.2.1]? = some v ∧ (z_bN N (z_bind S K.2.2.2.1) K.2.2.1.2.2.2.1)[r.1]? = some w ∧ v + r.2.2 ≤ w := by
      intro r hr
      rw [hr] at b10
      unfold z_rkb at b10
      simp only [Bool.and_eq_true] at b10
      obtain ⟨r1, r2, r3, r4⟩ := b10
      have r1 := Nat.le_of_ble_eq_true r1
      have r2 := Nat.le_of_ble_eq_true r2
      have r3 := Nat.le_of_ble_eq_true r3
      split at r4
      · rename_i j e' he
        obtain ⟨i1, i2, -⟩ := hI
        have hlt : r.2.1 < N.length := Nat.lt_of_lt_of_le r3 i1
        refine ⟨N[r.2.1], _, (i2 _ r2 r3).symm.trans (List.getElem?_eq_getElem hlt), z_bN_get r1, ?_⟩
        rw [z_bval_o, he]
        rw [Bool.or_eq_true, Bool.and_eq_true, Bool.and_eq_true] at r4
        rcases r4 with ⟨r5, r6⟩ | ⟨r5, r6⟩
        · have r5 := Nat.eq_of_beq_eq_true r5
          have r6 := z_ile_t r6
          rw [r5, z_bvo_pos r2, List.getElem?_eq_getElem hlt]
          show N[r.2.1] + r.2.2 ≤ N[r.2.1] + e'
          omega
        · have r5 := Nat.le_of_ble_eq_true r5
          obtain ⟨q, hq, hc⟩ := List.any_eq_true.mp r6
          simp only [Bool.and_eq_true] at hc
          obtain ⟨c1, c2, c3⟩ := hc
          have c3 := z_ile_t c3
          obtain ⟨a, b, g1, g2, g3⟩ := s5 q hq
          rw [Nat.eq_of_beq_eq_true c1, List.getElem?_eq_getElem hlt] at g1
          cases g1
          rw [Nat.eq_of_beq_eq_true c2] at g2
          rw [z_bvo_pos r5, g2]
          show N[r.2.1] + r.2.2 ≤ b + e'
          omega
      · cases r4
    obtain ⟨rv, P', al', X, g1, g2, g3, g4⟩ := hK b2 (by rw [b1, hy]; exact k1) k2 hI.2.2.2.2.2.1 hrk
    obtain ⟨R, hR, hres⟩ := z_mapo_mem h g1
    unfold z_kres at hres
    split at hres
    · cases hres
    rename_i g0 grest hg0
    cases hw : z_wsub (z_xW X.2.1) W with
    | false => rw [hw] at hres; cases hres
    | true =>
    rw [hw] at hres
    have hres : (match z_ptc (z_bind S K.2.2.2.1) (z_ivk S K.2.2.2.1) S.2.2.2.1 X.2.1 S.2.2.1 with | some R => (match X.1 with | none => some (z_afb G g0 none S.1.1, grest, R, S.2.2.2.1, S.2.2.2.2.1, S.2.2.2.2.2 + X.2.2) | some v => some (z_afb G g0 (some (z_newv S.2.2.2.1 (z_subv (z_bind S K.2.2.2.1) (z_ivk S K.2.2.2.1) S.2.2.2.1 v)).1) S.1.1, grest, R, (z_newv S.2.2.2.1 (z_subv (z_bind S K.2.2.2.1) (z_ivk S K.2.2.2.1) S.2.2.2.1 v)).2, S.2.2.2.2.1, S.2.2.2.2.2 + X.2.2)) | none => none) = some R := hres
    split at hres
    rotate_left
    · cases hres
    rename_i RH hRH
    rw [s4] at hRH hres
    have hiv := z_ivk_ok (bp := K.2.2.2.1) hS
    have hgh := z_ptc_gh hiv hRH s3 g4 (fun c A' hx => z_ptc_in hRH hx)
    obtain ⟨p1, p2, p3, p4, p5, p6, p7⟩ := g4
    have hle : z_le N N al al' := ⟨⟨[], by simp⟩, p1⟩
    rw [hg0] at s2
    obtain ⟨⟨f1, f2, f3, f4, f5, f6⟩, s2⟩ := s2
    have hP' : P'.length ≤ S.2.2.2.2.2 + X.2.2 := by omega
    have hI' : ∀ Y, z_Iv J W w0 g al0 P0 B0 (N ++ Y) al' P' (S.2.2.2.2.2 + X.2.2) := fun Y => by
      obtain ⟨i1, i2, i3, i4, i5, i6, i7⟩ := hI
      refine ⟨by rw [List.length_append]; omega, fun k k1 k2 => ?_, fun a c hac => p1 a c (i3 a c hac), fun a c hac => ?_, z_same_tr i5 (z_same_al i3 (z_same_sub hw p3)), g3, by omega⟩
      · rw [List.getElem?_append_left (by omega)]
        exact i2 k k1 k2
      · rcases p2 a c hac with h | h
        · exact i4 a c h
        · exact Or.inr (z_wsub_all hw h)
    have hrun : z_Runs G (d + e - 1) y (0, lv_args 0 as, [], P, 0, 0) rv P' := by
      rw [show d + e - 1 = d - 1 + e by omega]
      rw [b1, hy] at g2
      exact g2
    refine hΦ.2.2.2 (by omega) hn hrun ?_
    have hres : (match X.1 with | none => some (z_afb G g0 none S.1.1, grest, RH, N.length, S.2.2.2.2.1, S.2.2.2.2.2 + X.2.2) | some v => some (z_afb G g0 (some (z_newv N.length (z_subv (z_bind S K.2.2.2.1) (z_ivk S K.2.2.2.1) N.length v)).1) S.1.1, grest, RH, (z_newv N.length (z_subv (z_bind S K.2.2.2.1) (z_ivk S K.2.2.2.1) N.length v)).2, S.2.2.2.2.1, S.2.2.2.2.2 + X.2.2)) = some R := hres
    split at hres
    · rename_i hx1
      cases hres
      rw [hx1] at p4
      match rv, p4 with
      | none, _ =>
        refine hgo (d, _) (List.mem_map.mpr ⟨_, hR, rfl⟩) (N := N) (al := al') ⟨[], by simp⟩ ?_ (fun j hj => p1 _ _ (hf j hj)) (by have := hI' []; rwa [List.append_nil] at this)
        refine ⟨⟨f1, congrArg (· + 3) f2, fun i t q => ?_, f4.mono fun _ _ q => q.mono hle, ?_, ?_⟩, s2.mono fun _ _ q => q.mono hle, hgh, rfl, s5, hP'⟩
        · obtain ⟨v, q1, q2⟩ := f3 i t q
          exact ⟨v, q1, q2.mono hle⟩
        · show g0.2.2.2.2.1 + z_mc G S.1.1 = f.2.2.2.2.1 + z_mc G y
          rw [f5, hy]
        · show g0.2.2.2.2.2 + z_ms G S.1.1 = f.2.2.2.2.2 + z_ms G y
          rw [f6, hy]
    · rename_i v hx1
      cases hres
      rw [hx1] at p4
      match rv, p4 with
      | some w, p4 =>
        have p4 : z_gv (z_bN N (z_bind S K.2.2.2.1) K.2.2.1.2.2.2.1) al' v w := p4
        obtain ⟨N', ⟨⟨Y, rfl⟩, -⟩, n1, n2⟩ := z_newv_gv (z_subv_gv hiv p4)
        have hle' : z_le N (N ++ Y) al al' := ⟨⟨Y, rfl⟩, p1⟩
        refine hgo (d, _) (List.mem_map.mpr ⟨_, hR, rfl⟩) (N := N ++ Y) (al := al') ⟨Y, rfl⟩ ?_ (fun j hj => p1 _ _ (hf j hj)) (hI' Y)
        refine ⟨⟨f1, congrArg (· + 3) f2, fun i t q => ?_, ⟨n1, f4.mono fun _ _ q => q.mono hle'⟩, ?_, ?_⟩, s2.mono fun _ _ q => q.mono hle', hgh.mono ⟨Y, rfl⟩, n2, s5.mono ⟨Y, rfl⟩, hP'⟩
        · obtain ⟨v, q1, q2⟩ := f3 i t q
          exact ⟨v, q1, q2.mono hle'⟩
        · show g0.2.2.2.2.1 + z_mc G S.1.1 = f.2.2.2.2.1 + z_mc G y
          rw [f5, hy]
        · show g0.2.2.2.2.2 + z_ms G S.1.1 = f.2.2.2.2.2 + z_ms G y
          rw [f6, hy]
/-- Object's own constructor, arraycopy -/
def z_wac (W : z_Ws) : List z_av → Bool
  | _ :: _ :: .inr (.inr cs) :: _ => cs.2.all fun c => z_wall W c
  | _ => false
def z_aprim3 (W : z_Ws) (kd d : Nat) (S : z_as_) : Option z_as_ := if kd = 5 then (match z_wac W S.1.2.2.2.1 with
    | true => match z_aprim kd d S with
      | some S' => some S'
      | none => match z_acy3 W S.2.2.1 S.1.2.2.2.1 with
        | some q => if 1 ≤ d ∧ z_acs q.1 ≤ 8 then some (z_hp (z_go S (S.1.2.1 + 3) S.1.2.2.1 q.1) q.2) else none
        | none => none
    | false => none)
  else z_aprim kd d S
theorem z_prim_P {kd d pc : Nat} {l : z_L} {st : List Value} {P : z_H} {c n : Nat} {q : z_S} (h : z_prim kd d pc l st P c n = some q) : (kd = 3 ∧ q.2.2.2.1 = P) ∨ (kd = 5 ∧ ∃ st', z_acp P st = some (st', q.2.2.2.1)) := by
  unfold z_prim at h
  split at h
  · rename_i hk
    split at h
    · split at h
      · cases h
        exact Or.inl ⟨hk, rfl⟩
      · cases h
    · cases h
  · split at h
    · rename_i hk
      split at h
      · rename_i q' hq
        split at h
        · cases h
          exact Or.inr ⟨hk, q'.1, hq⟩
        · cases h
      · cases h
    · cases h
theorem z_aprim3_ok {G : z_Pg} {W : z_Ws} {kd d : Nat} {S S' : z_as_} {f : z_Fr} {rest : List z_Fr} {P : z_H} (h : z_aprim3 W kd d S = some S') (hS : z_gs (z_strs G) N al S f rest P) :
    ∃ q, z_prim kd d f.2.1 f.2.2.1 f.2.2.2.1 P f.2.2.2.2.1 f.2.2.2.2.2 = some q ∧ z_gs (z_strs G) N al S' (f.1, q.1, q.2.1, q.2.2.1, q.2.2.2.2.1, q.2.2.2.2.2) rest q.2.2.2.1 ∧ z_same W al P q.2.2.2.1 ∧ q.2.2.2.1.length = P.length ∧ S'.2.2.2.2.2 = S.2.2.2.2.2 := by
  have hB : ∀ {S'}, z_aprim kd d S = some S' → S'.2.2.2.2.2 = S.2.2.2.2.2 := by
    intro S' h
    unfold z_aprim at h
    split at h
    · split at h
      · split at h
        · cases h; rfl
        · cases h
      · cases h
    · split at h
      · split at h
        · split at h
          · cases h; rfl
          · cases h
        · cases h
      · cases h
  have hacp : z_wac W S.1.2.2.2.1 = true → ∀ {st' P'}, z_acp P f.2.2.2.1 = some (st', P') → z_same W al P P' ∧ P'.length = P.length := by
    intro hw st' P' hz
    unfold z_wac at hw
    split at hw
    · rename_i n dp cs r hst
      have a4 := hS.1.2.2.2.1
      rw [hst] at a4
      exact z_acp_same hw hz hS.2.2.1 a4
    · cases hw
  unfold z_aprim3 at h
  split at h
  · rename_i hk
    split at h
    · rename_i hw
      split at h
      · rename_i S1 hS1
        cases h
        obtain ⟨q, g1, g2⟩ := z_aprim_ok (G := G) hS1 hS
        rcases z_prim_P g1 with ⟨h3, -⟩ | ⟨-, st', hz⟩
        · omega
        · obtain ⟨m1, m2⟩ := hacp hw hz
          exact ⟨q, g1, g2, m1, m2, hB hS1⟩
      · split at h
        · rename_i q hq
          split at h
          · rename_i hc
            cases h
            obtain ⟨⟨a1, a2, a3, a4, a5, a6⟩, b1, b2, b3, b4, b5⟩ := id hS
            obtain ⟨st', P', g1, g2, g3, g4, g5⟩ := z_acy3_ok (ast' := q.1) (AH' := q.2) hq b2 a4
            refine ⟨(f.2.1 + 3, f.2.2.1, st', P', f.2.2.2.2.1, f.2.2.2.2.2), ?_, ⟨⟨a1, congrArg (· + 3) a2, a3, g2, a5, a6⟩, b1, g3, b3, b4, by show P'.length ≤ S.2.2.2.2.2; rw [g5]; exact b5⟩, g4, g5, rfl⟩
            unfold z_prim
            rw [if_neg (by omega), if_pos hk, g1]
            dsimp only
            rw [if_pos ⟨hc.1, by rw [z_acs_eq g2]; exact hc.2⟩]
          · cases h
        · cases h
    · cases h
  · rename_i hk
    obtain ⟨q, g1, g2⟩ := z_aprim_ok (G := G) h hS
    rcases z_prim_P g1 with ⟨-, hP⟩ | ⟨h5, -⟩
    · exact ⟨q, g1, g2, by rw [hP]; exact z_same_rf hS.2.2.1, by rw [hP], hB h⟩
    · exact absurd h5 hk
/-- answers that are bytes, too -/
def z_ret3 (rt : Option FieldType) (ins : Instr) (st : List z_av) : Option (Option z_av) := match z_aret rt ins st with
  | some r => some r
  | none => match ins, rt, st with
    | .ireturn, some .byte, [.inl t] => bif z_ile (-128) (z_lo t) && z_ile (z_hi t) 127 then some (some (.inl t)) else none
    | _, _, _ => none
theorem z_ret3_ok {rt : Option FieldType} {ins : Instr} {ast : List z_av} {st : List Value} {r : Option z_av} (h : z_ret3 rt ins ast = some r) (hs : z_all2 (z_gv N al) ast st) : ∃ v, z_ret rt ins st = some v ∧ z_go_ N al r v := by
  unfold z_ret3 at h
  split at h
  · rename_i r' hr
    cases h
    exact z_aret_ok hr hs
  · split at h
    · rename_i t hne
      cases hb : (z_ile (-128) (z_lo t) && z_ile (z_hi t) 127) with
      | false => rw [hb] at h; cases h
      | true =>
        rw [hb] at h
        cases h
        rw [Bool.and_eq_true] at hb
        have h1 := z_ile_t hb.1
        have h2 := z_ile_t hb.2
        match st, hs with
        | [_], ⟨⟨x, e, hx⟩, _⟩ =>
          subst e
          refine ⟨some (.int x), ?_, ⟨x, rfl, hx⟩⟩
          have g1 := hx.1
          have g2 := hx.2.1
          have hn : narrow .byte (.int x) = .int x := by
            show Value.int x.toInt8.toInt32 = Value.int x
            congr 1
            refine Int32.toInt_inj.mp ?_
            rw [Int8.toInt_toInt32, Int32.toInt_toInt8]
            unfold Int.bmod
            simp only [Nat.reducePow]
            omega
          unfold z_ret
          dsimp only
          rw [if_pos hn]
    · cases h
/-- a number out of a row with a gap -/
def z_gpc (gp : Nat → Option (Int × Int)) : List Nat → Option (Int × Int)
  | [] => none
  | [c] => gp c
  | c :: r => match gp c, z_gpc gp r with
    | some q, some p => bif z_ile q.1 p.1 && (z_ile p.1 q.1 && (z_ile q.2 p.2 && z_ile p.2 q.2)) then some q else none
    | _, _ => none
theorem z_gpc_ok {gp : Nat → Option (Int × Int)} : ∀ {cs : List Nat} {q : Int × Int}, z_gpc gp cs = some q → ∀ c ∈ cs, gp c = some q
  | [], _, h, _, hc => by cases hc
  | [c], q, h, c', hc => by
    rw [List.mem_singleton] at hc
    subst hc
    exact h
  | c :: c2 :: r, q, h, c', hc => by
    have h : (match gp c, z_gpc gp (c2 :: r) with | some q, some p => (bif z_ile q.1 p.1 && (z_ile p.1 q.1 && (z_ile q.2 p.2 && z_ile p.2 q.2)) then some q else none) | _, _ => none) = some q := h
    split at h
    · rename_i q1 p1 h1 h2
      cases hb : (z_ile q1.1 p1.1 && (z_ile p1.1 q1.1 && (z_ile q1.2 p1.2 && z_ile p1.2 q1.2))) with
      | false => rw [hb] at h; cases h
      | true =>
        rw [hb] at h
        cases h
        simp only [Bool.and_eq_true] at hb
        have e : q = p1 := Prod.ext (by have := z_ile_t hb.1; have := z_ile_t hb.2.1; omega) (by have := z_ile_t hb.2.2.1; have := z_ile_t hb.2.2.2; omega)
        rcases List.mem_cons.mp hc with hc | hc
        · rw [hc]; exact h1
        · rw [e]; exact z_gpc_ok h2 c' hc
    · cases h
def z_gld (gp : Nat → Option (Int × Int)) (S : z_as_) (len : Nat) : Option (List z_as_) := match S.1.2.2.2.1 with
  | .inl i :: .inr (.inr (false, cs)) :: r => match z_gpc gp cs, z_arl (fun t => t == 103) z_akI S.2.2.1 (.inl i :: .inr (.inr (false, cs)) :: r) with
    | some q, some (.inl t :: r') => bif cs.all fun c => match S.2.2.1[c]? with
        | some A => A.2.1.2
        | none => false
      then some [z_pu S (S.1.2.1 + len) S.1.2.2.1 (.inl (0, 0, 0, z_lo t, min (z_hi t) q.1) :: r'), z_pu S (S.1.2.1 + len) S.1.2.2.1 (.inl (0, 0, 0, max (z_lo t) q.2, z_hi t) :: r')] else none
    | _, _ => none
  | _ => none
/-- weights of sorts told: the cells 90 and 92 -/
def z_Jw (al : Nat → Option Nat) (P : z_H) : Prop := ∀ a b, al a = some 90 → al b = some 92 → a < z_far → b < z_far → ∃ q w s, P[a]? = some q ∧ P[b]? = some w ∧ q.2[0]? = some (Value.int s) ∧ ∀ i : Nat, (i : Int) < s.toInt → ∃ x, w.2[i]? = some (Value.int x) ∧ 1 ≤ x.toInt
/-- the gaps are there, and a number beside them may be written; where the flag stands, weights of sorts told are there -/
def z_Gap (T : z_Tg) (J : (Nat → Option Nat) → z_H → Prop) : Prop := (∀ {al : Nat → Option Nat} {P : z_H}, J al P → ∀ a c q, al a = some c → T.2.2.2.2.1 c = some q → a < z_far → ∀ p, P[a]? = some p → ∀ x : Int32, Value.int x ∈ p.2 → x.toInt ≤ q.1 ∨ q.2 ≤ x.toInt) ∧
  (∀ {al : Nat → Option Nat} {P : z_H}, J al P → ∀ b c q, al b = some c → T.2.2.2.2.1 c = some q → ∀ p, P[b]? = some p → ∀ (x : Int32) (j : Nat), (x.toInt ≤ q.1 ∨ q.2 ≤ x.toInt) → J al (P.set b (p.1, p.2.set j (.int x)))) ∧
  ((T.2.2.2.2.2 777).isSome = true → ∀ {al : Nat → Option Nat} {P : z_H}, J al P → z_Jw al P)
theorem z_gld_ok {G : z_Pg} {T : z_Tg} {J : (Nat → Option Nat) → z_H → Prop} (hgp : z_Gap T J) {S : z_as_} {len : Nat} {Ss : List z_as_} {f : z_Fr} {rest : List z_Fr} {P : z_H} (h : z_gld T.2.2.2.2.1 S len = some Ss) (hS : z_gs (z_strs G) N al S f rest P) (hj : J al P) :
    ∃ q, z_step G f.1 .iaload len f.2.1 f.2.2.1 f.2.2.2.1 P f.2.2.2.2.1 f.2.2.2.2.2 = some q ∧ ∃ S' ∈ Ss, ∃ X, z_gs (z_strs G) (N ++ X) al S' (f.1, q.1, q.2.1, q.2.2.1, q.2.2.2.2.1, q.2.2.2.2.2) rest q.2.2.2.1 ∧ q.2.2.2.1 = P ∧ S'.2.2.2.2.2 = S.2.2.2.2.2 := by
  obtain ⟨⟨a1, a2, a3, a4, a5, a6⟩, b1, b2, b3, b4, b5⟩ := id hS
  unfold z_gld at h
  split at h
  rotate_left
  · cases h
  rename_i i cs r hst
  split at h
  rotate_left
  · cases h
  rename_i g t r' hg ht
  cases hnr : (cs.all fun c => match S.2.2.1[c]? with | some A => A.2.1.2 | none => false) with
  | false => rw [hnr] at h; cases h
  | true =>
  rw [hnr] at h
  cases h
  rw [hst] at a4
  have hst2 : z_all2 (z_gv N al) (.inl i :: .inr (.inr (false, cs)) :: r) f.2.2.2.1 := a4
  obtain ⟨j, a, rr, q, v, e, g1, g2, g3, g4, g5, g6⟩ := z_arl_ok (t := fun t => t == 103) (k := z_isI) (fun h1 h2 => z_akI_ok h1 h2) ht b2 hst2
  have g2 : q.1 = 103 := by simpa using g2
  obtain ⟨⟨x, ex, hx⟩, g7⟩ := g6
  subst ex
  rw [e] at hst2
  have hac : ∃ c, al a = some c ∧ c ∈ cs := by
    obtain ⟨-, hr, -⟩ := hst2
    rcases hr with ⟨hr, -⟩ | ⟨a', c, ha, hac, hc⟩
    · cases hr
    · cases ha
      exact ⟨c, hac, hc⟩
  obtain ⟨c, hac, hc⟩ := hac
  have hgc := z_gpc_ok hg c hc
  obtain ⟨q', A, e1, e2, -, -, e5⟩ := b2 a c hac
  have hnc := List.all_eq_true.mp hnr c hc
  rw [e2] at hnc
  have hfar := e5 hnc
  have hPa : P[a]? = some q := by
    unfold z_lk at g1
    rw [if_pos hfar] at g1
    exact g1
  have hgap := hgp.1 hj a c _ hac hgc hfar q hPa x (List.mem_of_getElem? g4)
  have hstep : z_step G f.1 .iaload len f.2.1 f.2.2.1 f.2.2.2.1 P f.2.2.2.2.1 f.2.2.2.2.2 = some (f.2.1 + len, f.2.2.1, .int x :: rr, P, f.2.2.2.2.1, f.2.2.2.2.2) := by
    unfold z_step
    rw [z_no0 (by decide), z_no1 (by decide), z_no2 (by decide)]
    have : z_rd (z_fld G f.1) (z_nA G) (z_lk (z_strs G) P) .iaload f.2.2.2.1 = some (.int x :: rr) := by
      rw [e]
      show z_al 103 z_isI (z_lk (z_strs G) P) (.int j :: .ref a :: rr) = some (.int x :: rr)
      unfold z_al
      dsimp only
      rw [g1]
      dsimp only
      rw [if_pos ⟨g2, g3⟩, g4]
      dsimp only
      rw [if_pos g5]
    rw [this]
  refine ⟨_, hstep, ?_⟩
  have hx1 := hx.1
  have hx2 := hx.2.1
  rcases hgap with hgap | hgap
  · obtain ⟨N', ⟨⟨X, rfl⟩, -⟩, g9⟩ := z_pu_gs (t := f.2.1 + len) (r := .inl (0, 0, 0, z_lo t, min (z_hi t) g.1) :: r') (r' := .int x :: rr) hS a3 ⟨⟨x, rfl, hx1, by show x.toInt ≤ min (z_hi t) g.1; omega, Or.inl rfl⟩, g7⟩
    exact ⟨_, List.mem_cons_self, X, by rw [a2]; exact g9, rfl, z_pu_B⟩
  · obtain ⟨N', ⟨⟨X, rfl⟩, -⟩, g9⟩ := z_pu_gs (t := f.2.1 + len) (r := .inl (0, 0, 0, max (z_lo t) g.2, z_hi t) :: r') (r' := .int x :: rr) hS a3 ⟨⟨x, rfl, by show max (z_lo t) g.2 ≤ x.toInt; omega, hx2, Or.inl rfl⟩, g7⟩
    exact ⟨_, List.mem_cons_of_mem _ List.mem_cons_self, X, by rw [a2]; exact g9, rfl, z_pu_B⟩
/-- a number beside the gap, written -/
def z_gst (G : z_Pg) (W : z_Ws) (ns : Nat) (gp : Nat → Option (Int × Int)) (S : z_as_) (len : Nat) : Option (List z_as_) := match S.1.2.2.2.1 with
  | .inl t :: .inl _ :: .inr (.inr (false, cs)) :: _ => match z_gpc gp cs with
    | some q => bif z_ile (z_hi t) q.1 || z_ile q.2 (z_lo t) then z_astp3 G W ns S .iastore len else none
    | none => none
  | _ => none
theorem z_gst_ok {G : z_Pg} {ns : Nat} {W : z_Ws} {T : z_Tg} {J : (Nat → Option Nat) → z_H → Prop} (hgp : z_Gap T J) {S : z_as_} {len : Nat} {Ss : List z_as_} {f : z_Fr} {rest : List z_Fr} {P : z_H} (h : z_gst G W ns T.2.2.2.2.1 S len = some Ss) (hS : z_gs (z_strs G) N al S f rest P) (hf : z_fr ns al) (hj : J al P) :
    ∃ q, z_step G f.1 .iastore len f.2.1 f.2.2.1 f.2.2.2.1 P f.2.2.2.2.1 f.2.2.2.2.2 = some q ∧ ∃ S' ∈ Ss, ∃ X, z_gs (z_strs G) (N ++ X) al S' (f.1, q.1, q.2.1, q.2.2.1, q.2.2.2.2.1, q.2.2.2.2.2) rest q.2.2.2.1 ∧ z_same W al P q.2.2.2.1 ∧ q.2.2.2.1.length = P.length ∧ S'.2.2.2.2.2 = S.2.2.2.2.2 ∧ J al q.2.2.2.1 := by
  have hst := hS.1.2.2.2.1
  unfold z_gst at h
  split at h
  rotate_left
  · cases h
  rename_i t i cs r hst0
  rw [hst0] at hst
  split at h
  rotate_left
  · cases h
  rename_i g hg
  cases hb : (z_ile (z_hi t) g.1 || z_ile g.2 (z_lo t)) with
  | false => rw [hb] at h; cases h
  | true =>
  rw [hb] at h
  have h : z_astp3 G W ns S .iastore len = some Ss := h
  obtain ⟨q, k1, S', k2, X, k3, k4, k5, k6⟩ := z_astp3_ok h hS hf
  refine ⟨q, k1, S', k2, X, k3, k4, k5, k6, ?_⟩
  unfold z_step at k1
  rw [z_no0 (by decide), z_no1 (by decide), z_no2 (by decide), z_no3 (by decide)] at k1
  have hw : ∀ st, z_wr (z_fld G f.1) (z_fty G) (z_fin G) (z_ini G f.1) (z_ac G) P .iastore st = z_as 103 (fun x => x) P st := fun st => rfl
  rw [hw] at k1
  match hfs : f.2.2.2.1, hst with
  | _ :: _ :: _ :: st, ⟨⟨x, e1, hx⟩, ⟨j, e2, hj2⟩, Or.inr ⟨b, c, e3, hb2, hc⟩, h4⟩ =>
    subst e1; subst e2; subst e3
    rw [hfs] at k1
    have hgc := z_gpc_ok hg c hc
    unfold z_as at k1
    dsimp only at k1
    cases hP : P[b]? with
    | none =>
      rw [hP] at k1
      have k1 : (none : Option z_S) = some q := k1
      cases k1
    | some p =>
      rw [hP] at k1
      dsimp only at k1
      by_cases hcc : p.1 = 103 ∧ 0 ≤ j.toInt ∧ j.toNatClampNeg < p.2.length
      · rw [if_pos hcc] at k1
        cases k1
        have := hgp.2.1 hj b c g hb2 hgc p hP x j.toNatClampNeg (by
          rw [Bool.or_eq_true] at hb
          have h1 := hx.1
          have h2 := hx.2.1
          rcases hb with hb | hb
          · have := z_ile_t hb; exact Or.inl (by omega)
          · have := z_ile_t hb; exact Or.inr (by omega))
        rw [hcc.1] at this
        exact this
      · rw [if_neg hcc] at k1
        have k1 : (none : Option z_S) = some q := k1
        cases k1
/-- is x below y? by what is known of their names -/
def z_ltq (F : List (Nat × Nat × Int)) (x y : z_tk) : Bool := !Nat.beq x.1 0 && (!Nat.beq y.1 0 && F.any fun q => Nat.beq q.1 x.1 && (Nat.beq q.2.1 y.1 && decide (x.2.2.1 < y.2.1 + q.2.2)))
theorem z_ltq_ok {F : List (Nat × Nat × Int)} {x y : z_tk} {a b : Int} (h : z_ltq F x y = true) (hF : z_gx N F) (hx : z_gi N x a) (hy : z_gi N y b) : a < b := by
  unfold z_ltq at h
  rw [Bool.and_eq_true, Bool.and_eq_true] at h
  obtain ⟨h1, h2, h3⟩ := h
  obtain ⟨q, hq, hq2⟩ := List.any_eq_true.mp h3
  rw [Bool.and_eq_true, Bool.and_eq_true, decide_eq_true_eq] at hq2
  obtain ⟨q1, q2, q3⟩ := hq2
  obtain ⟨u, v, g1, g2, g3⟩ := hF q hq
  rw [Nat.eq_of_beq_eq_true q1] at g1
  rw [Nat.eq_of_beq_eq_true q2] at g2
  have nz : ∀ {n : Nat}, (!Nat.beq n 0) = true → n ≠ 0 := fun h e => by rw [e] at h; cases h
  obtain ⟨-, -, hx⟩ := hx
  obtain ⟨-, -, hy⟩ := hy
  rcases hx with hx | ⟨w, e, hx1, hx2⟩
  · exact absurd hx (nz h1)
  rcases hy with hy | ⟨w', e', hy1, hy2⟩
  · exact absurd hy (nz h2)
  rw [g1] at e
  rw [g2] at e'
  cases e
  cases e'
  omega
/-- the weight of a sort told -/
def z_wld (S : z_as_) (len : Nat) : Option (List z_as_) := match S.1.2.2.2.1 with
  | .inl i :: .inr (.inr (false, [c])) :: r => bif Nat.beq c 92 && z_hr S 90 then (match z_arl (fun t => t == 103) z_akI S.2.2.1 (.inl i :: .inr (.inr (false, [c])) :: r), S.2.2.1[90]?, S.2.2.1[92]? with
    | some (.inl t :: r'), some A, some B => (match A.2.2.1, A.2.2.2 with
      | none, .inl s :: _ => bif z_ltq S.2.2.2.2.1 i s && (A.2.1.2 && B.2.1.2) then some [z_pu S (S.1.2.1 + len) S.1.2.2.1 (.inl (0, 0, 0, max (z_lo t) 1, z_hi t) :: r')] else none
      | _, _ => none)
    | _, _, _ => none) else none
  | _ => none
theorem z_wld_ok {G : z_Pg} {S : z_as_} {len : Nat} {Ss : List z_as_} {f : z_Fr} {rest : List z_Fr} {P : z_H} (h : z_wld S len = some Ss) (hS : z_gs (z_strs G) N al S f rest P) (hj : z_Jw al P) :
    ∃ q, z_step G f.1 .iaload len f.2.1 f.2.2.1 f.2.2.2.1 P f.2.2.2.2.1 f.2.2.2.2.2 = some q ∧ ∃ S' ∈ Ss, ∃ X, z_gs (z_strs G) (N ++ X) al S' (f.1, q.1, q.2.1, q.2.2.1, q.2.2.2.2.1, q.2.2.2.2.2) rest q.2.2.2.1 ∧ q.2.2.2.1 = P ∧ S'.2.2.2.2.2 = S.2.2.2.2.2 := by
  obtain ⟨⟨a1, a2, a3, a4, a5, a6⟩, b1, b2, b3, b4, b5⟩ := id hS
  unfold z_wld at h
  split at h
  rotate_left
  · cases h
  rename_i i c r hst
  cases hcb : (Nat.beq c 92 && z_hr S 90) with
  | false => rw [hcb] at h; cases h
  | true =>
  rw [hcb] at h
  rw [Bool.and_eq_true] at hcb
  have hc92 := Nat.eq_of_beq_eq_true hcb.1
  subst hc92
  obtain ⟨a0, ha0⟩ := z_hr_ok hcb.2 hS
  have h : (match z_arl (fun t => t == 103) z_akI S.2.2.1 (.inl i :: .inr (.inr (false, [92])) :: r), S.2.2.1[90]?, S.2.2.1[92]? with
    | some (.inl t :: r'), some A, some B => (match A.2.2.1, A.2.2.2 with
      | none, .inl s :: _ => bif z_ltq S.2.2.2.2.1 i s && (A.2.1.2 && B.2.1.2) then some [z_pu S (S.1.2.1 + len) S.1.2.2.1 (.inl (0, 0, 0, max (z_lo t) 1, z_hi t) :: r')] else none
      | _, _ => none)
    | _, _, _ => none) = some Ss := h
  split at h
  rotate_left
  · cases h
  rename_i t r' A B ht hA hB
  split at h
  rotate_left
  · cases h
  rename_i s rs hn hs
  cases hq : (z_ltq S.2.2.2.2.1 i s && (A.2.1.2 && B.2.1.2)) with
  | false => rw [hq] at h; cases h
  | true =>
  rw [hq] at h
  cases h
  rw [Bool.and_eq_true, Bool.and_eq_true] at hq
  obtain ⟨hlt, hnA, hnB⟩ := hq
  rw [hst] at a4
  have hst2 : z_all2 (z_gv N al) (.inl i :: .inr (.inr (false, [92])) :: r) f.2.2.2.1 := a4
  obtain ⟨j, a, rr, q, v, e, g1, g2, g3, g4, g5, g6⟩ := z_arl_ok (t := fun t => t == 103) (k := z_isI) (fun h1 h2 => z_akI_ok h1 h2) ht b2 hst2
  have g2 : q.1 = 103 := by simpa using g2
  obtain ⟨⟨x, ex, hx⟩, g7⟩ := g6
  subst ex
  rw [e] at hst2
  obtain ⟨⟨j', ej, hji⟩, hr, -⟩ := hst2
  cases ej
  have hac : al a = some 92 := by
    rcases hr with ⟨hr, -⟩ | ⟨a', c, ha, hac, hc⟩
    · cases hr
    · cases ha
      have hc : c = 92 := by simpa using hc
      rw [← hc]
      exact hac
  obtain ⟨q0, A', d1, d2, ⟨d3, d4⟩, -, d5⟩ := b2 a0 90 ha0
  cases hA.symm.trans d2
  have hf0 := d5 hnA
  obtain ⟨q1, B', e1, e2, -, -, e5⟩ := b2 a 92 hac
  cases hB.symm.trans e2
  have hf1 := e5 hnB
  rw [hn, hs] at d4
  have d4 : z_all2 (z_gv N al) (.inl s :: rs) q0.2 := d4
  have hPa : P[a]? = some q := by
    unfold z_lk at g1
    rw [if_pos hf1] at g1
    exact g1
  have hP0 : P[a0]? = some q0 := by
    unfold z_lk at d1
    rw [if_pos hf0] at d1
    exact d1
  obtain ⟨p0, w, sv, j1, j2, j3, j4⟩ := hj a0 a ha0 hac hf0 hf1
  cases hP0.symm.trans j1
  cases hPa.symm.trans j2
  match hq0 : q0.2, d4 with
  | y :: ys, ⟨⟨sx, esx, hsx⟩, _⟩ =>
  rw [hq0] at j3
  subst esx
  have j3 : some (Value.int sx) = some (Value.int sv) := j3
  cases j3
  have hlt2 := z_ltq_ok hlt b4 hji hsx
  obtain ⟨x', k1, k2⟩ := j4 j.toNatClampNeg (by
    have : ((j.toNatClampNeg : Nat) : Int) = j.toInt := by show ((j.toInt.toNat : Nat) : Int) = j.toInt; omega
    rw [this]
    exact hlt2)
  rw [g4] at k1
  cases k1
  have hstep : z_step G f.1 .iaload len f.2.1 f.2.2.1 f.2.2.2.1 P f.2.2.2.2.1 f.2.2.2.2.2 = some (f.2.1 + len, f.2.2.1, .int x :: rr, P, f.2.2.2.2.1, f.2.2.2.2.2) := by
    unfold z_step
    rw [z_no0 (by decide), z_no1 (by decide), z_no2 (by decide)]
    have : z_rd (z_fld G f.1) (z_nA G) (z_lk (z_strs G) P) .iaload f.2.2.2.1 = some (.int x :: rr) := by
      rw [e]
      show z_al 103 z_isI (z_lk (z_strs G) P) (.int j :: .ref a :: rr) = some (.int x :: rr)
      unfold z_al
      dsimp only
      rw [g1]
      dsimp only
      rw [if_pos ⟨g2, g3⟩, g4]
      dsimp only
      rw [if_pos g5]
    rw [this]
  refine ⟨_, hstep, ?_⟩
  have hx1 := hx.1
  have hx2 := hx.2.1
  obtain ⟨N', ⟨⟨X, rfl⟩, -⟩, g9⟩ := z_pu_gs (t := f.2.1 + len) (r := .inl (0, 0, 0, max (z_lo t) 1, z_hi t) :: r') (r' := .int x :: rr) hS a3 ⟨⟨x, rfl, by show max (z_lo t) 1 ≤ x.toInt; omega, hx2, Or.inl rfl⟩, g7⟩
  exact ⟨_, List.mem_singleton_self _, X, by rw [a2]; exact g9, rfl, z_pu_B⟩
/-- a number read: by its gap, by the sorts told -/
def z_ild (T : z_Tg) (S : z_as_) (len : Nat) : Option (List z_as_) := match (bif (T.2.2.2.2.2 777).isSome then z_wld S len else none) with
  | some Ss => some Ss
  | none => z_gld T.2.2.2.2.1 S len
theorem z_ild_ok {G : z_Pg} {T : z_Tg} {J : (Nat → Option Nat) → z_H → Prop} (hgp : z_Gap T J) {S : z_as_} {len : Nat} {Ss : List z_as_} {f : z_Fr} {rest : List z_Fr} {P : z_H} (h : z_ild T S len = some Ss) (hS : z_gs (z_strs G) N al S f rest P) (hj : J al P) :
    ∃ q, z_step G f.1 .iaload len f.2.1 f.2.2.1 f.2.2.2.1 P f.2.2.2.2.1 f.2.2.2.2.2 = some q ∧ ∃ S' ∈ Ss, ∃ X, z_gs (z_strs G) (N ++ X) al S' (f.1, q.1, q.2.1, q.2.2.1, q.2.2.2.2.1, q.2.2.2.2.2) rest q.2.2.2.1 ∧ q.2.2.2.1 = P ∧ S'.2.2.2.2.2 = S.2.2.2.2.2 := by
  unfold z_ild at h
  split at h
  · rename_i Ss' hw
    cases h
    cases hb : (T.2.2.2.2.2 777).isSome with
    | false => rw [hb] at hw; cases hw
    | true =>
      rw [hb] at hw
      exact z_wld_ok hw hS (hgp.2.2 hb hj)
  · exact z_gld_ok hgp h hS hj
/-- what comes next -/
def z_suc3 (G : z_Pg) (W D : z_Ws) (T : z_Tg) (ns g : Nat) (Ks : List z_Kc) (d x pc : Nat) (S : z_as_) : Option (Option z_av ⊕ List (Nat × z_as_)) := match z_cod G x pc with
  | none => none
  | some i => match z_pre T (z_fld G x) ((z_call G x i.1).map fun yk => yk.1) x pc S i.1 with
    | some Ss => some (.inr (Ss.map fun S' => (d, S')))
    | none => match z_call G x i.1 with
      | some yk => if yk.2 < 3 then match z_aargs G d yk.1 yk.2 S with
          | some S' => match z_kany G W ns g (d - 1) S' Ks with
            | some Rs => some (.inr (Rs.map fun R => (d, R)))
            | none => some (.inr [(d - 1, S')])
          | none => none
        else match z_aprim3 D yk.2 d S with
          | some S' => some (.inr [(d, S')])
          | none => none
      | none => if z_isr i.1 then match z_ret3 (z_rty G x) i.1 S.1.2.2.2.1 with
          | some r => match S.2.1 with
            | [] => some (.inl r)
            | g0 :: rest => some (.inr [(d + 1, (z_afb G g0 r x, rest, S.2.2))])
          | none => none
        else match (if i.2 = 1 then z_lz S (z_cod G x (pc + 1)) i.1 else none) with
          | some Ss => some (.inr (Ss.map fun S' => (d, S')))
          | none => match (if i.2 = 3 then z_nws G D T.2.2.2.2.2 S i.1 else none) with
            | some S' => some (.inr [(d, S')])
            | none => match (match i.1 with | .iaload => z_ild T S i.2 | _ => none) with
              | some Ss => some (.inr (Ss.map fun S' => (d, S')))
              | none => match (match i.1 with | .iastore => z_gst G W ns T.2.2.2.2.1 S i.2 | _ => none) with
                | some Ss => some (.inr (Ss.map fun S' => (d, S')))
                | none => match z_astp3 G D ns S i.1 i.2 with
                  | some Ss => some (.inr (Ss.map fun S' => (d, S')))
                  | none => none
theorem z_next_up {G : z_Pg} {d e x : Nat} {q : z_S} {o : Option Value ⊕ (z_S ⊕ (Nat × List Value × List Value))} (h : z_next G d x q = some o) : z_next G (d + e) x q = some o := by
  have hargs : ∀ {y kd : Nat} {st : List Value} {P : z_H} {c n : Nat} {r : List Value × List Value}, z_args G d y kd x st P c n = some r → z_args G (d + e) y kd x st P c n = some r := by
    intro y kd st P c n r h
    unfold z_args at h ⊢
    dsimp only at h ⊢
    split at h
    · rename_i hc
      rw [if_pos ⟨hc.1, by omega, hc.2.2⟩]
      exact h
    · cases h
  have hprim : ∀ {kd pc : Nat} {l : z_L} {st : List Value} {P : z_H} {c n : Nat} {r : z_S}, z_prim kd d pc l st P c n = some r → z_prim kd (d + e) pc l st P c n = some r := by
    intro kd pc l st P c n r h
    unfold z_prim at h ⊢
    split at h
    · rename_i hk
      rw [if_pos hk]
      split at h
      · split at h
        · rename_i hc
          rw [if_pos ⟨by omega, hc.2⟩]
          exact h
        · cases h
      · cases h
    · rename_i hk
      rw [if_neg hk]
      split at h
      · rename_i hk5
        rw [if_pos hk5]
        split at h
        · rename_i q' hq'
          split at h
          · rename_i hc
            rw [if_pos ⟨by omega, hc.2⟩]
            exact h
          · cases h
        · cases h
      · cases h
  unfold z_next at h ⊢
  split at h
  · cases h
  · split at h
    · split at h
      · rename_i hlt
        rw [if_pos hlt]
        split at h
        · rename_i ar har
          rw [hargs har]
          exact h
        · cases h
      · rename_i hlt
        rw [if_neg hlt]
        split at h
        · rename_i q' hq'
          rw [hprim hq']
          exact h
        · cases h
    · exact h
end ZSU3
