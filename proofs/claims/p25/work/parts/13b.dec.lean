/-! Decoding, byte by byte over a list: what the bytes of an instruction are. -/
section ZDEC
theorem yd_pos {α : Type} {l r : List α} {p : Nat} {b : α} (h : l.drop p = b :: r) : ∃ hp : p < l.length, l[p] = b ∧ l.drop (p + 1) = r := by
  have hp : p < l.length := by
    rcases Nat.lt_or_ge p l.length with k | k
    · exact k
    · rw [List.drop_of_length_le k] at h
      cases h
  refine ⟨hp, ?_⟩
  rw [List.drop_eq_getElem_cons hp] at h
  injection h with h1 h2
  exact ⟨h1, h2⟩
theorem yd_u1 {c : ByteArray} {p : Nat} {b : UInt8} {r : List UInt8} (h : c.data.toList.drop p = b :: r) : (Jvm.ClassFile.Reader.u1 : Jvm.ClassFile.Decoder Nat) c p = .ok (b.toNat, p + 1) ∧ c.data.toList.drop (p + 1) = r := by
  obtain ⟨hp, h1, h2⟩ := yd_pos h
  refine ⟨?_, h2⟩
  have hp' : p < c.size := hp
  show (dite (p < c.size) (fun h => (do set (p + 1); pure (c[p]'h).toNat : Jvm.ClassFile.Decoder Nat)) (fun _ => throw (Jvm.ClassFile.HasTruncated.truncated p))) c p = _
  rw [dif_pos hp']
  show Except.ok ((c[p]'hp').toNat, p + 1) = _
  have h1 : c[p]'hp' = b := h1
  rw [h1]
theorem yd_b {α β : Type} {x : Jvm.ClassFile.Decoder α} {f : α → Jvm.ClassFile.Decoder β} {c : ByteArray} {p p' : Nat} {a : α} (h : x c p = .ok (a, p')) : (x >>= f) c p = f a c p' := by
  show Except.bind (x c p) (fun q => f q.1 c q.2) = _
  rw [h]
  rfl
theorem yd_m {α β : Type} {x : Jvm.ClassFile.Decoder α} {f : α → β} {c : ByteArray} {p p' : Nat} {a : α} (h : x c p = .ok (a, p')) : (f <$> x) c p = .ok (f a, p') := by
  show Except.bind (x c p) (fun q => Except.ok (f q.1, q.2)) = _
  rw [h]
  rfl
theorem yd_D {c : ByteArray} {p q n : Nat} {I : Instr} (h : Jvm.ClassFile.Decoder.instr p c p = .ok (I, q)) (hq : q - p = n) : decode c p = .ok (I, n) := by
  subst hq
  show Except.bind (Jvm.ClassFile.Decoder.instr p c p) (fun q => Except.ok (q.1, q.2 - p)) = _
  rw [h]
  rfl
theorem yd_u2 {c : ByteArray} {p : Nat} {b d : UInt8} {r : List UInt8} (h : c.data.toList.drop p = b :: d :: r) : (Jvm.ClassFile.Reader.u2 : Jvm.ClassFile.Decoder Nat) c p = .ok (b.toNat * 256 + d.toNat, p + 2) ∧ c.data.toList.drop (p + 2) = r := by
  obtain ⟨e1, h1⟩ := yd_u1 h
  obtain ⟨e2, h2⟩ := yd_u1 h1
  refine ⟨?_, h2⟩
  unfold Jvm.ClassFile.Reader.u2
  exact (yd_b e1).trans ((yd_b e2).trans rfl)
theorem yd_s1 {c : ByteArray} {p : Nat} {b : UInt8} {r : List UInt8} (h : c.data.toList.drop p = b :: r) : (Jvm.ClassFile.Reader.s1 : Jvm.ClassFile.Decoder Int) c p = .ok (Jvm.ClassFile.Reader.signed 8 b.toNat, p + 1) := by
  unfold Jvm.ClassFile.Reader.s1
  exact yd_m (yd_u1 h).1
theorem yd_s2 {c : ByteArray} {p : Nat} {b d : UInt8} {r : List UInt8} (h : c.data.toList.drop p = b :: d :: r) : (Jvm.ClassFile.Reader.s2 : Jvm.ClassFile.Decoder Int) c p = .ok (Jvm.ClassFile.Reader.signed 16 (b.toNat * 256 + d.toNat), p + 2) := by
  unfold Jvm.ClassFile.Reader.s2
  exact yd_m (yd_u2 h).1
def yd_1 (bs : List UInt8) (op n : Nat) : Bool := match bs with
  | b :: _ => Nat.beq b.toNat op && Nat.beq n 1
  | _ => false
def yd_2 (bs : List UInt8) (op k n : Nat) : Bool := match bs with
  | b :: d :: _ => Nat.beq b.toNat op && (Nat.beq d.toNat k && Nat.beq n 2)
  | _ => false
def yd_2s (bs : List UInt8) (op : Nat) (k : Int) (n : Nat) : Bool := match bs with
  | b :: d :: _ => Nat.beq b.toNat op && (decide (Jvm.ClassFile.Reader.signed 8 d.toNat = k) && Nat.beq n 2)
  | _ => false
def yd_3 (bs : List UInt8) (op k n : Nat) : Bool := match bs with
  | b :: d :: e :: _ => Nat.beq b.toNat op && (Nat.beq (d.toNat * 256 + e.toNat) k && Nat.beq n 3)
  | _ => false
def yd_3s (bs : List UInt8) (op : Nat) (k : Int) (n : Nat) : Bool := match bs with
  | b :: d :: e :: _ => Nat.beq b.toNat op && (decide (Jvm.ClassFile.Reader.signed 16 (d.toNat * 256 + e.toNat) = k) && Nat.beq n 3)
  | _ => false
def yd_3i (bs : List UInt8) (op k : Nat) (v : Int) (n : Nat) : Bool := match bs with
  | b :: d :: e :: _ => Nat.beq b.toNat op && (Nat.beq d.toNat k && (decide (Jvm.ClassFile.Reader.signed 8 e.toNat = v) && Nat.beq n 3))
  | _ => false
def yd_4 (bs : List UInt8) (op k m n : Nat) : Bool := match bs with
  | b :: d :: e :: f :: _ => Nat.beq b.toNat op && (Nat.beq (d.toNat * 256 + e.toNat) k && (Nat.beq f.toNat m && Nat.beq n 4))
  | _ => false
variable {c : ByteArray} {p op k m n : Nat} {v : Int} {bs : List UInt8}
theorem yd_1i (h : yd_1 bs op n = true) (hs : c.data.toList.drop p = bs) : n = 1 ∧ (Jvm.ClassFile.Reader.u1 : Jvm.ClassFile.Decoder Nat) c p = .ok (op, p + 1) := by
  unfold yd_1 at h
  split at h
  · rw [Bool.and_eq_true] at h
    have e := (yd_u1 hs).1
    rw [Nat.eq_of_beq_eq_true h.1] at e
    exact ⟨Nat.eq_of_beq_eq_true h.2, e⟩
  · cases h
theorem yd_2i (h : yd_2 bs op k n = true) (hs : c.data.toList.drop p = bs) : n = 2 ∧ (Jvm.ClassFile.Reader.u1 : Jvm.ClassFile.Decoder Nat) c p = .ok (op, p + 1) ∧ (Jvm.ClassFile.Reader.u1 : Jvm.ClassFile.Decoder Nat) c (p + 1) = .ok (k, p + 2) := by
  unfold yd_2 at h
  split at h
  · rw [Bool.and_eq_true, Bool.and_eq_true] at h
    obtain ⟨e, h1⟩ := yd_u1 hs
    have e1 := (yd_u1 h1).1
    rw [Nat.eq_of_beq_eq_true h.1] at e
    rw [Nat.eq_of_beq_eq_true h.2.1] at e1
    exact ⟨Nat.eq_of_beq_eq_true h.2.2, e, e1⟩
  · cases h
theorem yd_2si (h : yd_2s bs op v n = true) (hs : c.data.toList.drop p = bs) : n = 2 ∧ (Jvm.ClassFile.Reader.u1 : Jvm.ClassFile.Decoder Nat) c p = .ok (op, p + 1) ∧ (Jvm.ClassFile.Reader.s1 : Jvm.ClassFile.Decoder Int) c (p + 1) = .ok (v, p + 2) := by
  unfold yd_2s at h
  split at h
  · rw [Bool.and_eq_true, Bool.and_eq_true] at h
    obtain ⟨e, h1⟩ := yd_u1 hs
    have e1 := yd_s1 h1
    rw [Nat.eq_of_beq_eq_true h.1] at e
    rw [of_decide_eq_true h.2.1] at e1
    exact ⟨Nat.eq_of_beq_eq_true h.2.2, e, e1⟩
  · cases h
theorem yd_3j (h : yd_3 bs op k n = true) (hs : c.data.toList.drop p = bs) : n = 3 ∧ (Jvm.ClassFile.Reader.u1 : Jvm.ClassFile.Decoder Nat) c p = .ok (op, p + 1) ∧ (Jvm.ClassFile.Reader.u2 : Jvm.ClassFile.Decoder Nat) c (p + 1) = .ok (k, p + 3) := by
  unfold yd_3 at h
  split at h
  · rw [Bool.and_eq_true, Bool.and_eq_true] at h
    obtain ⟨e, h1⟩ := yd_u1 hs
    have e1 := (yd_u2 h1).1
    rw [Nat.eq_of_beq_eq_true h.1] at e
    rw [Nat.eq_of_beq_eq_true h.2.1] at e1
    exact ⟨Nat.eq_of_beq_eq_true h.2.2, e, e1⟩
  · cases h
theorem yd_3si (h : yd_3s bs op v n = true) (hs : c.data.toList.drop p = bs) : n = 3 ∧ (Jvm.ClassFile.Reader.u1 : Jvm.ClassFile.Decoder Nat) c p = .ok (op, p + 1) ∧ (Jvm.ClassFile.Reader.s2 : Jvm.ClassFile.Decoder Int) c (p + 1) = .ok (v, p + 3) := by
  unfold yd_3s at h
  split at h
  · rw [Bool.and_eq_true, Bool.and_eq_true] at h
    obtain ⟨e, h1⟩ := yd_u1 hs
    have e1 := yd_s2 h1
    rw [Nat.eq_of_beq_eq_true h.1] at e
    rw [of_decide_eq_true h.2.1] at e1
    exact ⟨Nat.eq_of_beq_eq_true h.2.2, e, e1⟩
  · cases h
theorem yd_3ii (h : yd_3i bs op k v n = true) (hs : c.data.toList.drop p = bs) : n = 3 ∧ (Jvm.ClassFile.Reader.u1 : Jvm.ClassFile.Decoder Nat) c p = .ok (op, p + 1) ∧ (Jvm.ClassFile.Reader.u1 : Jvm.ClassFile.Decoder Nat) c (p + 1) = .ok (k, p + 2) ∧ (Jvm.ClassFile.Reader.s1 : Jvm.ClassFile.Decoder Int) c (p + 2) = .ok (v, p + 3) := by
  unfold yd_3i at h
  split at h
  · rw [Bool.and_eq_true, Bool.and_eq_true, Bool.and_eq_true] at h
    obtain ⟨e, h1⟩ := yd_u1 hs
    obtain ⟨e1, h2⟩ := yd_u1 h1
    have e2 := yd_s1 h2
    rw [Nat.eq_of_beq_eq_true h.1] at e
    rw [Nat.eq_of_beq_eq_true h.2.1] at e1
    rw [of_decide_eq_true h.2.2.1] at e2
    exact ⟨Nat.eq_of_beq_eq_true h.2.2.2, e, e1, e2⟩
  · cases h
theorem yd_4i (h : yd_4 bs op k m n = true) (hs : c.data.toList.drop p = bs) : n = 4 ∧ (Jvm.ClassFile.Reader.u1 : Jvm.ClassFile.Decoder Nat) c p = .ok (op, p + 1) ∧ (Jvm.ClassFile.Reader.u2 : Jvm.ClassFile.Decoder Nat) c (p + 1) = .ok (k, p + 3) ∧ (Jvm.ClassFile.Reader.u1 : Jvm.ClassFile.Decoder Nat) c (p + 3) = .ok (m, p + 4) := by
  unfold yd_4 at h
  split at h
  · rw [Bool.and_eq_true, Bool.and_eq_true, Bool.and_eq_true] at h
    obtain ⟨e, h1⟩ := yd_u1 hs
    obtain ⟨e1, h2⟩ := yd_u2 h1
    have e2 := (yd_u1 h2).1
    rw [Nat.eq_of_beq_eq_true h.1] at e
    rw [Nat.eq_of_beq_eq_true h.2.1] at e1
    rw [Nat.eq_of_beq_eq_true h.2.2.1] at e2
    exact ⟨Nat.eq_of_beq_eq_true h.2.2.2, e, e1, e2⟩
  · cases h
theorem yd_t_50 (e : (Jvm.ClassFile.Reader.u1 : Jvm.ClassFile.Decoder Nat) c p = .ok (50, p + 1)) : Jvm.ClassFile.Decoder.instr p c p = .ok (.aaload, p + 1) := by
  unfold Jvm.ClassFile.Decoder.instr
  exact (yd_b e).trans rfl
theorem yd_t_83 (e : (Jvm.ClassFile.Reader.u1 : Jvm.ClassFile.Decoder Nat) c p = .ok (83, p + 1)) : Jvm.ClassFile.Decoder.instr p c p = .ok (.aastore, p + 1) := by
  unfold Jvm.ClassFile.Decoder.instr
  exact (yd_b e).trans rfl
theorem yd_t_176 (e : (Jvm.ClassFile.Reader.u1 : Jvm.ClassFile.Decoder Nat) c p = .ok (176, p + 1)) : Jvm.ClassFile.Decoder.instr p c p = .ok (.areturn, p + 1) := by
  unfold Jvm.ClassFile.Decoder.instr
  exact (yd_b e).trans rfl
theorem yd_t_190 (e : (Jvm.ClassFile.Reader.u1 : Jvm.ClassFile.Decoder Nat) c p = .ok (190, p + 1)) : Jvm.ClassFile.Decoder.instr p c p = .ok (.arraylength, p + 1) := by
  unfold Jvm.ClassFile.Decoder.instr
  exact (yd_b e).trans rfl
theorem yd_t_191 (e : (Jvm.ClassFile.Reader.u1 : Jvm.ClassFile.Decoder Nat) c p = .ok (191, p + 1)) : Jvm.ClassFile.Decoder.instr p c p = .ok (.athrow, p + 1) := by
  unfold Jvm.ClassFile.Decoder.instr
  exact (yd_b e).trans rfl
theorem yd_t_51 (e : (Jvm.ClassFile.Reader.u1 : Jvm.ClassFile.Decoder Nat) c p = .ok (51, p + 1)) : Jvm.ClassFile.Decoder.instr p c p = .ok (.baload, p + 1) := by
  unfold Jvm.ClassFile.Decoder.instr
  exact (yd_b e).trans rfl
theorem yd_t_84 (e : (Jvm.ClassFile.Reader.u1 : Jvm.ClassFile.Decoder Nat) c p = .ok (84, p + 1)) : Jvm.ClassFile.Decoder.instr p c p = .ok (.bastore, p + 1) := by
  unfold Jvm.ClassFile.Decoder.instr
  exact (yd_b e).trans rfl
theorem yd_t_52 (e : (Jvm.ClassFile.Reader.u1 : Jvm.ClassFile.Decoder Nat) c p = .ok (52, p + 1)) : Jvm.ClassFile.Decoder.instr p c p = .ok (.caload, p + 1) := by
  unfold Jvm.ClassFile.Decoder.instr
  exact (yd_b e).trans rfl
theorem yd_t_85 (e : (Jvm.ClassFile.Reader.u1 : Jvm.ClassFile.Decoder Nat) c p = .ok (85, p + 1)) : Jvm.ClassFile.Decoder.instr p c p = .ok (.castore, p + 1) := by
  unfold Jvm.ClassFile.Decoder.instr
  exact (yd_b e).trans rfl
theorem yd_t_89 (e : (Jvm.ClassFile.Reader.u1 : Jvm.ClassFile.Decoder Nat) c p = .ok (89, p + 1)) : Jvm.ClassFile.Decoder.instr p c p = .ok (.dup, p + 1) := by
  unfold Jvm.ClassFile.Decoder.instr
  exact (yd_b e).trans rfl
theorem yd_t_92 (e : (Jvm.ClassFile.Reader.u1 : Jvm.ClassFile.Decoder Nat) c p = .ok (92, p + 1)) : Jvm.ClassFile.Decoder.instr p c p = .ok (.dup2, p + 1) := by
  unfold Jvm.ClassFile.Decoder.instr
  exact (yd_b e).trans rfl
theorem yd_t_90 (e : (Jvm.ClassFile.Reader.u1 : Jvm.ClassFile.Decoder Nat) c p = .ok (90, p + 1)) : Jvm.ClassFile.Decoder.instr p c p = .ok (.dup_x1, p + 1) := by
  unfold Jvm.ClassFile.Decoder.instr
  exact (yd_b e).trans rfl
theorem yd_t_145 (e : (Jvm.ClassFile.Reader.u1 : Jvm.ClassFile.Decoder Nat) c p = .ok (145, p + 1)) : Jvm.ClassFile.Decoder.instr p c p = .ok (.i2b, p + 1) := by
  unfold Jvm.ClassFile.Decoder.instr
  exact (yd_b e).trans rfl
theorem yd_t_146 (e : (Jvm.ClassFile.Reader.u1 : Jvm.ClassFile.Decoder Nat) c p = .ok (146, p + 1)) : Jvm.ClassFile.Decoder.instr p c p = .ok (.i2c, p + 1) := by
  unfold Jvm.ClassFile.Decoder.instr
  exact (yd_b e).trans rfl
theorem yd_t_133 (e : (Jvm.ClassFile.Reader.u1 : Jvm.ClassFile.Decoder Nat) c p = .ok (133, p + 1)) : Jvm.ClassFile.Decoder.instr p c p = .ok (.i2l, p + 1) := by
  unfold Jvm.ClassFile.Decoder.instr
  exact (yd_b e).trans rfl
theorem yd_t_147 (e : (Jvm.ClassFile.Reader.u1 : Jvm.ClassFile.Decoder Nat) c p = .ok (147, p + 1)) : Jvm.ClassFile.Decoder.instr p c p = .ok (.i2s, p + 1) := by
  unfold Jvm.ClassFile.Decoder.instr
  exact (yd_b e).trans rfl
theorem yd_t_96 (e : (Jvm.ClassFile.Reader.u1 : Jvm.ClassFile.Decoder Nat) c p = .ok (96, p + 1)) : Jvm.ClassFile.Decoder.instr p c p = .ok (.iadd, p + 1) := by
  unfold Jvm.ClassFile.Decoder.instr
  exact (yd_b e).trans rfl
theorem yd_t_46 (e : (Jvm.ClassFile.Reader.u1 : Jvm.ClassFile.Decoder Nat) c p = .ok (46, p + 1)) : Jvm.ClassFile.Decoder.instr p c p = .ok (.iaload, p + 1) := by
  unfold Jvm.ClassFile.Decoder.instr
  exact (yd_b e).trans rfl
theorem yd_t_126 (e : (Jvm.ClassFile.Reader.u1 : Jvm.ClassFile.Decoder Nat) c p = .ok (126, p + 1)) : Jvm.ClassFile.Decoder.instr p c p = .ok (.iand, p + 1) := by
  unfold Jvm.ClassFile.Decoder.instr
  exact (yd_b e).trans rfl
theorem yd_t_79 (e : (Jvm.ClassFile.Reader.u1 : Jvm.ClassFile.Decoder Nat) c p = .ok (79, p + 1)) : Jvm.ClassFile.Decoder.instr p c p = .ok (.iastore, p + 1) := by
  unfold Jvm.ClassFile.Decoder.instr
  exact (yd_b e).trans rfl
theorem yd_t_108 (e : (Jvm.ClassFile.Reader.u1 : Jvm.ClassFile.Decoder Nat) c p = .ok (108, p + 1)) : Jvm.ClassFile.Decoder.instr p c p = .ok (.idiv, p + 1) := by
  unfold Jvm.ClassFile.Decoder.instr
  exact (yd_b e).trans rfl
theorem yd_t_104 (e : (Jvm.ClassFile.Reader.u1 : Jvm.ClassFile.Decoder Nat) c p = .ok (104, p + 1)) : Jvm.ClassFile.Decoder.instr p c p = .ok (.imul, p + 1) := by
  unfold Jvm.ClassFile.Decoder.instr
  exact (yd_b e).trans rfl
theorem yd_t_116 (e : (Jvm.ClassFile.Reader.u1 : Jvm.ClassFile.Decoder Nat) c p = .ok (116, p + 1)) : Jvm.ClassFile.Decoder.instr p c p = .ok (.ineg, p + 1) := by
  unfold Jvm.ClassFile.Decoder.instr
  exact (yd_b e).trans rfl
theorem yd_t_128 (e : (Jvm.ClassFile.Reader.u1 : Jvm.ClassFile.Decoder Nat) c p = .ok (128, p + 1)) : Jvm.ClassFile.Decoder.instr p c p = .ok (.ior, p + 1) := by
  unfold Jvm.ClassFile.Decoder.instr
  exact (yd_b e).trans rfl
theorem yd_t_112 (e : (Jvm.ClassFile.Reader.u1 : Jvm.ClassFile.Decoder Nat) c p = .ok (112, p + 1)) : Jvm.ClassFile.Decoder.instr p c p = .ok (.irem, p + 1) := by
  unfold Jvm.ClassFile.Decoder.instr
  exact (yd_b e).trans rfl
theorem yd_t_172 (e : (Jvm.ClassFile.Reader.u1 : Jvm.ClassFile.Decoder Nat) c p = .ok (172, p + 1)) : Jvm.ClassFile.Decoder.instr p c p = .ok (.ireturn, p + 1) := by
  unfold Jvm.ClassFile.Decoder.instr
  exact (yd_b e).trans rfl
theorem yd_t_120 (e : (Jvm.ClassFile.Reader.u1 : Jvm.ClassFile.Decoder Nat) c p = .ok (120, p + 1)) : Jvm.ClassFile.Decoder.instr p c p = .ok (.ishl, p + 1) := by
  unfold Jvm.ClassFile.Decoder.instr
  exact (yd_b e).trans rfl
theorem yd_t_122 (e : (Jvm.ClassFile.Reader.u1 : Jvm.ClassFile.Decoder Nat) c p = .ok (122, p + 1)) : Jvm.ClassFile.Decoder.instr p c p = .ok (.ishr, p + 1) := by
  unfold Jvm.ClassFile.Decoder.instr
  exact (yd_b e).trans rfl
theorem yd_t_100 (e : (Jvm.ClassFile.Reader.u1 : Jvm.ClassFile.Decoder Nat) c p = .ok (100, p + 1)) : Jvm.ClassFile.Decoder.instr p c p = .ok (.isub, p + 1) := by
  unfold Jvm.ClassFile.Decoder.instr
  exact (yd_b e).trans rfl
theorem yd_t_124 (e : (Jvm.ClassFile.Reader.u1 : Jvm.ClassFile.Decoder Nat) c p = .ok (124, p + 1)) : Jvm.ClassFile.Decoder.instr p c p = .ok (.iushr, p + 1) := by
  unfold Jvm.ClassFile.Decoder.instr
  exact (yd_b e).trans rfl
theorem yd_t_130 (e : (Jvm.ClassFile.Reader.u1 : Jvm.ClassFile.Decoder Nat) c p = .ok (130, p + 1)) : Jvm.ClassFile.Decoder.instr p c p = .ok (.ixor, p + 1) := by
  unfold Jvm.ClassFile.Decoder.instr
  exact (yd_b e).trans rfl
theorem yd_t_136 (e : (Jvm.ClassFile.Reader.u1 : Jvm.ClassFile.Decoder Nat) c p = .ok (136, p + 1)) : Jvm.ClassFile.Decoder.instr p c p = .ok (.l2i, p + 1) := by
  unfold Jvm.ClassFile.Decoder.instr
  exact (yd_b e).trans rfl
theorem yd_t_97 (e : (Jvm.ClassFile.Reader.u1 : Jvm.ClassFile.Decoder Nat) c p = .ok (97, p + 1)) : Jvm.ClassFile.Decoder.instr p c p = .ok (.ladd, p + 1) := by
  unfold Jvm.ClassFile.Decoder.instr
  exact (yd_b e).trans rfl
theorem yd_t_47 (e : (Jvm.ClassFile.Reader.u1 : Jvm.ClassFile.Decoder Nat) c p = .ok (47, p + 1)) : Jvm.ClassFile.Decoder.instr p c p = .ok (.laload, p + 1) := by
  unfold Jvm.ClassFile.Decoder.instr
  exact (yd_b e).trans rfl
theorem yd_t_80 (e : (Jvm.ClassFile.Reader.u1 : Jvm.ClassFile.Decoder Nat) c p = .ok (80, p + 1)) : Jvm.ClassFile.Decoder.instr p c p = .ok (.lastore, p + 1) := by
  unfold Jvm.ClassFile.Decoder.instr
  exact (yd_b e).trans rfl
theorem yd_t_148 (e : (Jvm.ClassFile.Reader.u1 : Jvm.ClassFile.Decoder Nat) c p = .ok (148, p + 1)) : Jvm.ClassFile.Decoder.instr p c p = .ok (.lcmp, p + 1) := by
  unfold Jvm.ClassFile.Decoder.instr
  exact (yd_b e).trans rfl
theorem yd_t_109 (e : (Jvm.ClassFile.Reader.u1 : Jvm.ClassFile.Decoder Nat) c p = .ok (109, p + 1)) : Jvm.ClassFile.Decoder.instr p c p = .ok (.ldiv, p + 1) := by
  unfold Jvm.ClassFile.Decoder.instr
  exact (yd_b e).trans rfl
theorem yd_t_105 (e : (Jvm.ClassFile.Reader.u1 : Jvm.ClassFile.Decoder Nat) c p = .ok (105, p + 1)) : Jvm.ClassFile.Decoder.instr p c p = .ok (.lmul, p + 1) := by
  unfold Jvm.ClassFile.Decoder.instr
  exact (yd_b e).trans rfl
theorem yd_t_113 (e : (Jvm.ClassFile.Reader.u1 : Jvm.ClassFile.Decoder Nat) c p = .ok (113, p + 1)) : Jvm.ClassFile.Decoder.instr p c p = .ok (.lrem, p + 1) := by
  unfold Jvm.ClassFile.Decoder.instr
  exact (yd_b e).trans rfl
theorem yd_t_173 (e : (Jvm.ClassFile.Reader.u1 : Jvm.ClassFile.Decoder Nat) c p = .ok (173, p + 1)) : Jvm.ClassFile.Decoder.instr p c p = .ok (.lreturn, p + 1) := by
  unfold Jvm.ClassFile.Decoder.instr
  exact (yd_b e).trans rfl
theorem yd_t_101 (e : (Jvm.ClassFile.Reader.u1 : Jvm.ClassFile.Decoder Nat) c p = .ok (101, p + 1)) : Jvm.ClassFile.Decoder.instr p c p = .ok (.lsub, p + 1) := by
  unfold Jvm.ClassFile.Decoder.instr
  exact (yd_b e).trans rfl
theorem yd_t_87 (e : (Jvm.ClassFile.Reader.u1 : Jvm.ClassFile.Decoder Nat) c p = .ok (87, p + 1)) : Jvm.ClassFile.Decoder.instr p c p = .ok (.pop, p + 1) := by
  unfold Jvm.ClassFile.Decoder.instr
  exact (yd_b e).trans rfl
theorem yd_t_177 (e : (Jvm.ClassFile.Reader.u1 : Jvm.ClassFile.Decoder Nat) c p = .ok (177, p + 1)) : Jvm.ClassFile.Decoder.instr p c p = .ok (.return_, p + 1) := by
  unfold Jvm.ClassFile.Decoder.instr
  exact (yd_b e).trans rfl
theorem yd_t_2 (e : (Jvm.ClassFile.Reader.u1 : Jvm.ClassFile.Decoder Nat) c p = .ok (2, p + 1)) : Jvm.ClassFile.Decoder.instr p c p = .ok (.iconst (-1), p + 1) := by
  unfold Jvm.ClassFile.Decoder.instr
  exact (yd_b e).trans rfl
theorem yd_t_3 (e : (Jvm.ClassFile.Reader.u1 : Jvm.ClassFile.Decoder Nat) c p = .ok (3, p + 1)) : Jvm.ClassFile.Decoder.instr p c p = .ok (.iconst 0, p + 1) := by
  unfold Jvm.ClassFile.Decoder.instr
  exact (yd_b e).trans rfl
theorem yd_t_4 (e : (Jvm.ClassFile.Reader.u1 : Jvm.ClassFile.Decoder Nat) c p = .ok (4, p + 1)) : Jvm.ClassFile.Decoder.instr p c p = .ok (.iconst 1, p + 1) := by
  unfold Jvm.ClassFile.Decoder.instr
  exact (yd_b e).trans rfl
theorem yd_t_5 (e : (Jvm.ClassFile.Reader.u1 : Jvm.ClassFile.Decoder Nat) c p = .ok (5, p + 1)) : Jvm.ClassFile.Decoder.instr p c p = .ok (.iconst 2, p + 1) := by
  unfold Jvm.ClassFile.Decoder.instr
  exact (yd_b e).trans rfl
theorem yd_t_6 (e : (Jvm.ClassFile.Reader.u1 : Jvm.ClassFile.Decoder Nat) c p = .ok (6, p + 1)) : Jvm.ClassFile.Decoder.instr p c p = .ok (.iconst 3, p + 1) := by
  unfold Jvm.ClassFile.Decoder.instr
  exact (yd_b e).trans rfl
theorem yd_t_7 (e : (Jvm.ClassFile.Reader.u1 : Jvm.ClassFile.Decoder Nat) c p = .ok (7, p + 1)) : Jvm.ClassFile.Decoder.instr p c p = .ok (.iconst 4, p + 1) := by
  unfold Jvm.ClassFile.Decoder.instr
  exact (yd_b e).trans rfl
theorem yd_t_8 (e : (Jvm.ClassFile.Reader.u1 : Jvm.ClassFile.Decoder Nat) c p = .ok (8, p + 1)) : Jvm.ClassFile.Decoder.instr p c p = .ok (.iconst 5, p + 1) := by
  unfold Jvm.ClassFile.Decoder.instr
  exact (yd_b e).trans rfl
theorem yd_t_9 (e : (Jvm.ClassFile.Reader.u1 : Jvm.ClassFile.Decoder Nat) c p = .ok (9, p + 1)) : Jvm.ClassFile.Decoder.instr p c p = .ok (.lconst 0, p + 1) := by
  unfold Jvm.ClassFile.Decoder.instr
  exact (yd_b e).trans rfl
theorem yd_t_10 (e : (Jvm.ClassFile.Reader.u1 : Jvm.ClassFile.Decoder Nat) c p = .ok (10, p + 1)) : Jvm.ClassFile.Decoder.instr p c p = .ok (.lconst 1, p + 1) := by
  unfold Jvm.ClassFile.Decoder.instr
  exact (yd_b e).trans rfl
theorem yd_t_42 (e : (Jvm.ClassFile.Reader.u1 : Jvm.ClassFile.Decoder Nat) c p = .ok (42, p + 1)) : Jvm.ClassFile.Decoder.instr p c p = .ok (.aload_n 0, p + 1) := by
  unfold Jvm.ClassFile.Decoder.instr
  exact (yd_b e).trans rfl
theorem yd_t_43 (e : (Jvm.ClassFile.Reader.u1 : Jvm.ClassFile.Decoder Nat) c p = .ok (43, p + 1)) : Jvm.ClassFile.Decoder.instr p c p = .ok (.aload_n 1, p + 1) := by
  unfold Jvm.ClassFile.Decoder.instr
  exact (yd_b e).trans rfl
theorem yd_t_44 (e : (Jvm.ClassFile.Reader.u1 : Jvm.ClassFile.Decoder Nat) c p = .ok (44, p + 1)) : Jvm.ClassFile.Decoder.instr p c p = .ok (.aload_n 2, p + 1) := by
  unfold Jvm.ClassFile.Decoder.instr
  exact (yd_b e).trans rfl
theorem yd_t_45 (e : (Jvm.ClassFile.Reader.u1 : Jvm.ClassFile.Decoder Nat) c p = .ok (45, p + 1)) : Jvm.ClassFile.Decoder.instr p c p = .ok (.aload_n 3, p + 1) := by
  unfold Jvm.ClassFile.Decoder.instr
  exact (yd_b e).trans rfl
theorem yd_t_26 (e : (Jvm.ClassFile.Reader.u1 : Jvm.ClassFile.Decoder Nat) c p = .ok (26, p + 1)) : Jvm.ClassFile.Decoder.instr p c p = .ok (.iload_n 0, p + 1) := by
  unfold Jvm.ClassFile.Decoder.instr
  exact (yd_b e).trans rfl
theorem yd_t_27 (e : (Jvm.ClassFile.Reader.u1 : Jvm.ClassFile.Decoder Nat) c p = .ok (27, p + 1)) : Jvm.ClassFile.Decoder.instr p c p = .ok (.iload_n 1, p + 1) := by
  unfold Jvm.ClassFile.Decoder.instr
  exact (yd_b e).trans rfl
theorem yd_t_28 (e : (Jvm.ClassFile.Reader.u1 : Jvm.ClassFile.Decoder Nat) c p = .ok (28, p + 1)) : Jvm.ClassFile.Decoder.instr p c p = .ok (.iload_n 2, p + 1) := by
  unfold Jvm.ClassFile.Decoder.instr
  exact (yd_b e).trans rfl
theorem yd_t_29 (e : (Jvm.ClassFile.Reader.u1 : Jvm.ClassFile.Decoder Nat) c p = .ok (29, p + 1)) : Jvm.ClassFile.Decoder.instr p c p = .ok (.iload_n 3, p + 1) := by
  unfold Jvm.ClassFile.Decoder.instr
  exact (yd_b e).trans rfl
theorem yd_t_30 (e : (Jvm.ClassFile.Reader.u1 : Jvm.ClassFile.Decoder Nat) c p = .ok (30, p + 1)) : Jvm.ClassFile.Decoder.instr p c p = .ok (.lload_n 0, p + 1) := by
  unfold Jvm.ClassFile.Decoder.instr
  exact (yd_b e).trans rfl
theorem yd_t_31 (e : (Jvm.ClassFile.Reader.u1 : Jvm.ClassFile.Decoder Nat) c p = .ok (31, p + 1)) : Jvm.ClassFile.Decoder.instr p c p = .ok (.lload_n 1, p + 1) := by
  unfold Jvm.ClassFile.Decoder.instr
  exact (yd_b e).trans rfl
theorem yd_t_32 (e : (Jvm.ClassFile.Reader.u1 : Jvm.ClassFile.Decoder Nat) c p = .ok (32, p + 1)) : Jvm.ClassFile.Decoder.instr p c p = .ok (.lload_n 2, p + 1) := by
  unfold Jvm.ClassFile.Decoder.instr
  exact (yd_b e).trans rfl
theorem yd_t_33 (e : (Jvm.ClassFile.Reader.u1 : Jvm.ClassFile.Decoder Nat) c p = .ok (33, p + 1)) : Jvm.ClassFile.Decoder.instr p c p = .ok (.lload_n 3, p + 1) := by
  unfold Jvm.ClassFile.Decoder.instr
  exact (yd_b e).trans rfl
theorem yd_t_59 (e : (Jvm.ClassFile.Reader.u1 : Jvm.ClassFile.Decoder Nat) c p = .ok (59, p + 1)) : Jvm.ClassFile.Decoder.instr p c p = .ok (.istore_n 0, p + 1) := by
  unfold Jvm.ClassFile.Decoder.instr
  exact (yd_b e).trans rfl
theorem yd_t_60 (e : (Jvm.ClassFile.Reader.u1 : Jvm.ClassFile.Decoder Nat) c p = .ok (60, p + 1)) : Jvm.ClassFile.Decoder.instr p c p = .ok (.istore_n 1, p + 1) := by
  unfold Jvm.ClassFile.Decoder.instr
  exact (yd_b e).trans rfl
theorem yd_t_61 (e : (Jvm.ClassFile.Reader.u1 : Jvm.ClassFile.Decoder Nat) c p = .ok (61, p + 1)) : Jvm.ClassFile.Decoder.instr p c p = .ok (.istore_n 2, p + 1) := by
  unfold Jvm.ClassFile.Decoder.instr
  exact (yd_b e).trans rfl
theorem yd_t_62 (e : (Jvm.ClassFile.Reader.u1 : Jvm.ClassFile.Decoder Nat) c p = .ok (62, p + 1)) : Jvm.ClassFile.Decoder.instr p c p = .ok (.istore_n 3, p + 1) := by
  unfold Jvm.ClassFile.Decoder.instr
  exact (yd_b e).trans rfl
theorem yd_t_63 (e : (Jvm.ClassFile.Reader.u1 : Jvm.ClassFile.Decoder Nat) c p = .ok (63, p + 1)) : Jvm.ClassFile.Decoder.instr p c p = .ok (.lstore_n 0, p + 1) := by
  unfold Jvm.ClassFile.Decoder.instr
  exact (yd_b e).trans rfl
theorem yd_t_64 (e : (Jvm.ClassFile.Reader.u1 : Jvm.ClassFile.Decoder Nat) c p = .ok (64, p + 1)) : Jvm.ClassFile.Decoder.instr p c p = .ok (.lstore_n 1, p + 1) := by
  unfold Jvm.ClassFile.Decoder.instr
  exact (yd_b e).trans rfl
theorem yd_t_65 (e : (Jvm.ClassFile.Reader.u1 : Jvm.ClassFile.Decoder Nat) c p = .ok (65, p + 1)) : Jvm.ClassFile.Decoder.instr p c p = .ok (.lstore_n 2, p + 1) := by
  unfold Jvm.ClassFile.Decoder.instr
  exact (yd_b e).trans rfl
theorem yd_t_66 (e : (Jvm.ClassFile.Reader.u1 : Jvm.ClassFile.Decoder Nat) c p = .ok (66, p + 1)) : Jvm.ClassFile.Decoder.instr p c p = .ok (.lstore_n 3, p + 1) := by
  unfold Jvm.ClassFile.Decoder.instr
  exact (yd_b e).trans rfl
theorem yd_t_75 (e : (Jvm.ClassFile.Reader.u1 : Jvm.ClassFile.Decoder Nat) c p = .ok (75, p + 1)) : Jvm.ClassFile.Decoder.instr p c p = .ok (.astore_n 0, p + 1) := by
  unfold Jvm.ClassFile.Decoder.instr
  exact (yd_b e).trans rfl
theorem yd_t_76 (e : (Jvm.ClassFile.Reader.u1 : Jvm.ClassFile.Decoder Nat) c p = .ok (76, p + 1)) : Jvm.ClassFile.Decoder.instr p c p = .ok (.astore_n 1, p + 1) := by
  unfold Jvm.ClassFile.Decoder.instr
  exact (yd_b e).trans rfl
theorem yd_t_77 (e : (Jvm.ClassFile.Reader.u1 : Jvm.ClassFile.Decoder Nat) c p = .ok (77, p + 1)) : Jvm.ClassFile.Decoder.instr p c p = .ok (.astore_n 2, p + 1) := by
  unfold Jvm.ClassFile.Decoder.instr
  exact (yd_b e).trans rfl
theorem yd_t_78 (e : (Jvm.ClassFile.Reader.u1 : Jvm.ClassFile.Decoder Nat) c p = .ok (78, p + 1)) : Jvm.ClassFile.Decoder.instr p c p = .ok (.astore_n 3, p + 1) := by
  unfold Jvm.ClassFile.Decoder.instr
  exact (yd_b e).trans rfl
theorem yd_t_25 (e : (Jvm.ClassFile.Reader.u1 : Jvm.ClassFile.Decoder Nat) c p = .ok (25, p + 1)) (e1 : (Jvm.ClassFile.Reader.u1 : Jvm.ClassFile.Decoder Nat) c (p + 1) = .ok (k, p + 2)) : Jvm.ClassFile.Decoder.instr p c p = .ok (.aload k, p + 2) := by
  unfold Jvm.ClassFile.Decoder.instr
  exact (yd_b e).trans ((yd_b e1).trans rfl)
theorem yd_t_58 (e : (Jvm.ClassFile.Reader.u1 : Jvm.ClassFile.Decoder Nat) c p = .ok (58, p + 1)) (e1 : (Jvm.ClassFile.Reader.u1 : Jvm.ClassFile.Decoder Nat) c (p + 1) = .ok (k, p + 2)) : Jvm.ClassFile.Decoder.instr p c p = .ok (.astore k, p + 2) := by
  unfold Jvm.ClassFile.Decoder.instr
  exact (yd_b e).trans ((yd_b e1).trans rfl)
theorem yd_t_21 (e : (Jvm.ClassFile.Reader.u1 : Jvm.ClassFile.Decoder Nat) c p = .ok (21, p + 1)) (e1 : (Jvm.ClassFile.Reader.u1 : Jvm.ClassFile.Decoder Nat) c (p + 1) = .ok (k, p + 2)) : Jvm.ClassFile.Decoder.instr p c p = .ok (.iload k, p + 2) := by
  unfold Jvm.ClassFile.Decoder.instr
  exact (yd_b e).trans ((yd_b e1).trans rfl)
theorem yd_t_54 (e : (Jvm.ClassFile.Reader.u1 : Jvm.ClassFile.Decoder Nat) c p = .ok (54, p + 1)) (e1 : (Jvm.ClassFile.Reader.u1 : Jvm.ClassFile.Decoder Nat) c (p + 1) = .ok (k, p + 2)) : Jvm.ClassFile.Decoder.instr p c p = .ok (.istore k, p + 2) := by
  unfold Jvm.ClassFile.Decoder.instr
  exact (yd_b e).trans ((yd_b e1).trans rfl)
theorem yd_t_22 (e : (Jvm.ClassFile.Reader.u1 : Jvm.ClassFile.Decoder Nat) c p = .ok (22, p + 1)) (e1 : (Jvm.ClassFile.Reader.u1 : Jvm.ClassFile.Decoder Nat) c (p + 1) = .ok (k, p + 2)) : Jvm.ClassFile.Decoder.instr p c p = .ok (.lload k, p + 2) := by
  unfold Jvm.ClassFile.Decoder.instr
  exact (yd_b e).trans ((yd_b e1).trans rfl)
theorem yd_t_55 (e : (Jvm.ClassFile.Reader.u1 : Jvm.ClassFile.Decoder Nat) c p = .ok (55, p + 1)) (e1 : (Jvm.ClassFile.Reader.u1 : Jvm.ClassFile.Decoder Nat) c (p + 1) = .ok (k, p + 2)) : Jvm.ClassFile.Decoder.instr p c p = .ok (.lstore k, p + 2) := by
  unfold Jvm.ClassFile.Decoder.instr
  exact (yd_b e).trans ((yd_b e1).trans rfl)
theorem yd_t_18 (e : (Jvm.ClassFile.Reader.u1 : Jvm.ClassFile.Decoder Nat) c p = .ok (18, p + 1)) (e1 : (Jvm.ClassFile.Reader.u1 : Jvm.ClassFile.Decoder Nat) c (p + 1) = .ok (k, p + 2)) : Jvm.ClassFile.Decoder.instr p c p = .ok (.ldc k, p + 2) := by
  unfold Jvm.ClassFile.Decoder.instr
  exact (yd_b e).trans ((yd_b e1).trans rfl)
theorem yd_t_16 (e : (Jvm.ClassFile.Reader.u1 : Jvm.ClassFile.Decoder Nat) c p = .ok (16, p + 1)) (e1 : (Jvm.ClassFile.Reader.s1 : Jvm.ClassFile.Decoder Int) c (p + 1) = .ok (v, p + 2)) : Jvm.ClassFile.Decoder.instr p c p = .ok (.bipush v, p + 2) := by
  unfold Jvm.ClassFile.Decoder.instr
  exact (yd_b e).trans ((yd_b e1).trans rfl)
theorem yd_t_189 (e : (Jvm.ClassFile.Reader.u1 : Jvm.ClassFile.Decoder Nat) c p = .ok (189, p + 1)) (e1 : (Jvm.ClassFile.Reader.u2 : Jvm.ClassFile.Decoder Nat) c (p + 1) = .ok (k, p + 3)) : Jvm.ClassFile.Decoder.instr p c p = .ok (.anewarray k, p + 3) := by
  unfold Jvm.ClassFile.Decoder.instr
  exact (yd_b e).trans ((yd_b e1).trans rfl)
theorem yd_t_180 (e : (Jvm.ClassFile.Reader.u1 : Jvm.ClassFile.Decoder Nat) c p = .ok (180, p + 1)) (e1 : (Jvm.ClassFile.Reader.u2 : Jvm.ClassFile.Decoder Nat) c (p + 1) = .ok (k, p + 3)) : Jvm.ClassFile.Decoder.instr p c p = .ok (.getfield k, p + 3) := by
  unfold Jvm.ClassFile.Decoder.instr
  exact (yd_b e).trans ((yd_b e1).trans rfl)
theorem yd_t_178 (e : (Jvm.ClassFile.Reader.u1 : Jvm.ClassFile.Decoder Nat) c p = .ok (178, p + 1)) (e1 : (Jvm.ClassFile.Reader.u2 : Jvm.ClassFile.Decoder Nat) c (p + 1) = .ok (k, p + 3)) : Jvm.ClassFile.Decoder.instr p c p = .ok (.getstatic k, p + 3) := by
  unfold Jvm.ClassFile.Decoder.instr
  exact (yd_b e).trans ((yd_b e1).trans rfl)
theorem yd_t_183 (e : (Jvm.ClassFile.Reader.u1 : Jvm.ClassFile.Decoder Nat) c p = .ok (183, p + 1)) (e1 : (Jvm.ClassFile.Reader.u2 : Jvm.ClassFile.Decoder Nat) c (p + 1) = .ok (k, p + 3)) : Jvm.ClassFile.Decoder.instr p c p = .ok (.invokespecial k, p + 3) := by
  unfold Jvm.ClassFile.Decoder.instr
  exact (yd_b e).trans ((yd_b e1).trans rfl)
theorem yd_t_184 (e : (Jvm.ClassFile.Reader.u1 : Jvm.ClassFile.Decoder Nat) c p = .ok (184, p + 1)) (e1 : (Jvm.ClassFile.Reader.u2 : Jvm.ClassFile.Decoder Nat) c (p + 1) = .ok (k, p + 3)) : Jvm.ClassFile.Decoder.instr p c p = .ok (.invokestatic k, p + 3) := by
  unfold Jvm.ClassFile.Decoder.instr
  exact (yd_b e).trans ((yd_b e1).trans rfl)
theorem yd_t_182 (e : (Jvm.ClassFile.Reader.u1 : Jvm.ClassFile.Decoder Nat) c p = .ok (182, p + 1)) (e1 : (Jvm.ClassFile.Reader.u2 : Jvm.ClassFile.Decoder Nat) c (p + 1) = .ok (k, p + 3)) : Jvm.ClassFile.Decoder.instr p c p = .ok (.invokevirtual k, p + 3) := by
  unfold Jvm.ClassFile.Decoder.instr
  exact (yd_b e).trans ((yd_b e1).trans rfl)
theorem yd_t_20 (e : (Jvm.ClassFile.Reader.u1 : Jvm.ClassFile.Decoder Nat) c p = .ok (20, p + 1)) (e1 : (Jvm.ClassFile.Reader.u2 : Jvm.ClassFile.Decoder Nat) c (p + 1) = .ok (k, p + 3)) : Jvm.ClassFile.Decoder.instr p c p = .ok (.ldc2_w k, p + 3) := by
  unfold Jvm.ClassFile.Decoder.instr
  exact (yd_b e).trans ((yd_b e1).trans rfl)
theorem yd_t_19 (e : (Jvm.ClassFile.Reader.u1 : Jvm.ClassFile.Decoder Nat) c p = .ok (19, p + 1)) (e1 : (Jvm.ClassFile.Reader.u2 : Jvm.ClassFile.Decoder Nat) c (p + 1) = .ok (k, p + 3)) : Jvm.ClassFile.Decoder.instr p c p = .ok (.ldc_w k, p + 3) := by
  unfold Jvm.ClassFile.Decoder.instr
  exact (yd_b e).trans ((yd_b e1).trans rfl)
theorem yd_t_187 (e : (Jvm.ClassFile.Reader.u1 : Jvm.ClassFile.Decoder Nat) c p = .ok (187, p + 1)) (e1 : (Jvm.ClassFile.Reader.u2 : Jvm.ClassFile.Decoder Nat) c (p + 1) = .ok (k, p + 3)) : Jvm.ClassFile.Decoder.instr p c p = .ok (.new k, p + 3) := by
  unfold Jvm.ClassFile.Decoder.instr
  exact (yd_b e).trans ((yd_b e1).trans rfl)
theorem yd_t_181 (e : (Jvm.ClassFile.Reader.u1 : Jvm.ClassFile.Decoder Nat) c p = .ok (181, p + 1)) (e1 : (Jvm.ClassFile.Reader.u2 : Jvm.ClassFile.Decoder Nat) c (p + 1) = .ok (k, p + 3)) : Jvm.ClassFile.Decoder.instr p c p = .ok (.putfield k, p + 3) := by
  unfold Jvm.ClassFile.Decoder.instr
  exact (yd_b e).trans ((yd_b e1).trans rfl)
theorem yd_t_167 (e : (Jvm.ClassFile.Reader.u1 : Jvm.ClassFile.Decoder Nat) c p = .ok (167, p + 1)) (e1 : (Jvm.ClassFile.Reader.s2 : Jvm.ClassFile.Decoder Int) c (p + 1) = .ok (v, p + 3)) : Jvm.ClassFile.Decoder.instr p c p = .ok (.goto v, p + 3) := by
  unfold Jvm.ClassFile.Decoder.instr
  exact (yd_b e).trans ((yd_b e1).trans rfl)
theorem yd_t_198 (e : (Jvm.ClassFile.Reader.u1 : Jvm.ClassFile.Decoder Nat) c p = .ok (198, p + 1)) (e1 : (Jvm.ClassFile.Reader.s2 : Jvm.ClassFile.Decoder Int) c (p + 1) = .ok (v, p + 3)) : Jvm.ClassFile.Decoder.instr p c p = .ok (.ifnull v, p + 3) := by
  unfold Jvm.ClassFile.Decoder.instr
  exact (yd_b e).trans ((yd_b e1).trans rfl)
theorem yd_t_17 (e : (Jvm.ClassFile.Reader.u1 : Jvm.ClassFile.Decoder Nat) c p = .ok (17, p + 1)) (e1 : (Jvm.ClassFile.Reader.s2 : Jvm.ClassFile.Decoder Int) c (p + 1) = .ok (v, p + 3)) : Jvm.ClassFile.Decoder.instr p c p = .ok (.sipush v, p + 3) := by
  unfold Jvm.ClassFile.Decoder.instr
  exact (yd_b e).trans ((yd_b e1).trans rfl)
theorem yd_t_153 (e : (Jvm.ClassFile.Reader.u1 : Jvm.ClassFile.Decoder Nat) c p = .ok (153, p + 1)) (e1 : (Jvm.ClassFile.Reader.s2 : Jvm.ClassFile.Decoder Int) c (p + 1) = .ok (v, p + 3)) : Jvm.ClassFile.Decoder.instr p c p = .ok (.ifCond .eq v, p + 3) := by
  unfold Jvm.ClassFile.Decoder.instr
  exact (yd_b e).trans ((yd_b e1).trans rfl)
theorem yd_t_159 (e : (Jvm.ClassFile.Reader.u1 : Jvm.ClassFile.Decoder Nat) c p = .ok (159, p + 1)) (e1 : (Jvm.ClassFile.Reader.s2 : Jvm.ClassFile.Decoder Int) c (p + 1) = .ok (v, p + 3)) : Jvm.ClassFile.Decoder.instr p c p = .ok (.if_icmp .eq v, p + 3) := by
  unfold Jvm.ClassFile.Decoder.instr
  exact (yd_b e).trans ((yd_b e1).trans rfl)
theorem yd_t_154 (e : (Jvm.ClassFile.Reader.u1 : Jvm.ClassFile.Decoder Nat) c p = .ok (154, p + 1)) (e1 : (Jvm.ClassFile.Reader.s2 : Jvm.ClassFile.Decoder Int) c (p + 1) = .ok (v, p + 3)) : Jvm.ClassFile.Decoder.instr p c p = .ok (.ifCond .ne v, p + 3) := by
  unfold Jvm.ClassFile.Decoder.instr
  exact (yd_b e).trans ((yd_b e1).trans rfl)
theorem yd_t_160 (e : (Jvm.ClassFile.Reader.u1 : Jvm.ClassFile.Decoder Nat) c p = .ok (160, p + 1)) (e1 : (Jvm.ClassFile.Reader.s2 : Jvm.ClassFile.Decoder Int) c (p + 1) = .ok (v, p + 3)) : Jvm.ClassFile.Decoder.instr p c p = .ok (.if_icmp .ne v, p + 3) := by
  unfold Jvm.ClassFile.Decoder.instr
  exact (yd_b e).trans ((yd_b e1).trans rfl)
theorem yd_t_155 (e : (Jvm.ClassFile.Reader.u1 : Jvm.ClassFile.Decoder Nat) c p = .ok (155, p + 1)) (e1 : (Jvm.ClassFile.Reader.s2 : Jvm.ClassFile.Decoder Int) c (p + 1) = .ok (v, p + 3)) : Jvm.ClassFile.Decoder.instr p c p = .ok (.ifCond .lt v, p + 3) := by
  unfold Jvm.ClassFile.Decoder.instr
  exact (yd_b e).trans ((yd_b e1).trans rfl)
theorem yd_t_161 (e : (Jvm.ClassFile.Reader.u1 : Jvm.ClassFile.Decoder Nat) c p = .ok (161, p + 1)) (e1 : (Jvm.ClassFile.Reader.s2 : Jvm.ClassFile.Decoder Int) c (p + 1) = .ok (v, p + 3)) : Jvm.ClassFile.Decoder.instr p c p = .ok (.if_icmp .lt v, p + 3) := by
  unfold Jvm.ClassFile.Decoder.instr
  exact (yd_b e).trans ((yd_b e1).trans rfl)
theorem yd_t_156 (e : (Jvm.ClassFile.Reader.u1 : Jvm.ClassFile.Decoder Nat) c p = .ok (156, p + 1)) (e1 : (Jvm.ClassFile.Reader.s2 : Jvm.ClassFile.Decoder Int) c (p + 1) = .ok (v, p + 3)) : Jvm.ClassFile.Decoder.instr p c p = .ok (.ifCond .ge v, p + 3) := by
  unfold Jvm.ClassFile.Decoder.instr
  exact (yd_b e).trans ((yd_b e1).trans rfl)
theorem yd_t_162 (e : (Jvm.ClassFile.Reader.u1 : Jvm.ClassFile.Decoder Nat) c p = .ok (162, p + 1)) (e1 : (Jvm.ClassFile.Reader.s2 : Jvm.ClassFile.Decoder Int) c (p + 1) = .ok (v, p + 3)) : Jvm.ClassFile.Decoder.instr p c p = .ok (.if_icmp .ge v, p + 3) := by
  unfold Jvm.ClassFile.Decoder.instr
  exact (yd_b e).trans ((yd_b e1).trans rfl)
theorem yd_t_157 (e : (Jvm.ClassFile.Reader.u1 : Jvm.ClassFile.Decoder Nat) c p = .ok (157, p + 1)) (e1 : (Jvm.ClassFile.Reader.s2 : Jvm.ClassFile.Decoder Int) c (p + 1) = .ok (v, p + 3)) : Jvm.ClassFile.Decoder.instr p c p = .ok (.ifCond .gt v, p + 3) := by
  unfold Jvm.ClassFile.Decoder.instr
  exact (yd_b e).trans ((yd_b e1).trans rfl)
theorem yd_t_163 (e : (Jvm.ClassFile.Reader.u1 : Jvm.ClassFile.Decoder Nat) c p = .ok (163, p + 1)) (e1 : (Jvm.ClassFile.Reader.s2 : Jvm.ClassFile.Decoder Int) c (p + 1) = .ok (v, p + 3)) : Jvm.ClassFile.Decoder.instr p c p = .ok (.if_icmp .gt v, p + 3) := by
  unfold Jvm.ClassFile.Decoder.instr
  exact (yd_b e).trans ((yd_b e1).trans rfl)
theorem yd_t_158 (e : (Jvm.ClassFile.Reader.u1 : Jvm.ClassFile.Decoder Nat) c p = .ok (158, p + 1)) (e1 : (Jvm.ClassFile.Reader.s2 : Jvm.ClassFile.Decoder Int) c (p + 1) = .ok (v, p + 3)) : Jvm.ClassFile.Decoder.instr p c p = .ok (.ifCond .le v, p + 3) := by
  unfold Jvm.ClassFile.Decoder.instr
  exact (yd_b e).trans ((yd_b e1).trans rfl)
theorem yd_t_164 (e : (Jvm.ClassFile.Reader.u1 : Jvm.ClassFile.Decoder Nat) c p = .ok (164, p + 1)) (e1 : (Jvm.ClassFile.Reader.s2 : Jvm.ClassFile.Decoder Int) c (p + 1) = .ok (v, p + 3)) : Jvm.ClassFile.Decoder.instr p c p = .ok (.if_icmp .le v, p + 3) := by
  unfold Jvm.ClassFile.Decoder.instr
  exact (yd_b e).trans ((yd_b e1).trans rfl)
theorem yd_t_132 (e : (Jvm.ClassFile.Reader.u1 : Jvm.ClassFile.Decoder Nat) c p = .ok (132, p + 1)) (e1 : (Jvm.ClassFile.Reader.u1 : Jvm.ClassFile.Decoder Nat) c (p + 1) = .ok (k, p + 2)) (e2 : (Jvm.ClassFile.Reader.s1 : Jvm.ClassFile.Decoder Int) c (p + 2) = .ok (v, p + 3)) : Jvm.ClassFile.Decoder.instr p c p = .ok (.iinc k v, p + 3) := by
  unfold Jvm.ClassFile.Decoder.instr
  exact (yd_b e).trans ((yd_b e1).trans ((yd_b e2).trans rfl))
theorem yd_t_188_4 (e : (Jvm.ClassFile.Reader.u1 : Jvm.ClassFile.Decoder Nat) c p = .ok (188, p + 1)) (e1 : (Jvm.ClassFile.Reader.u1 : Jvm.ClassFile.Decoder Nat) c (p + 1) = .ok (4, p + 2)) : Jvm.ClassFile.Decoder.instr p c p = .ok (.newarray .boolean, p + 2) := by
  unfold Jvm.ClassFile.Decoder.instr
  refine (yd_b e).trans ?_
  show Jvm.ClassFile.Decoder.newarray p c (p + 1) = _
  unfold Jvm.ClassFile.Decoder.newarray
  exact (yd_b e1).trans rfl
theorem yd_t_188_5 (e : (Jvm.ClassFile.Reader.u1 : Jvm.ClassFile.Decoder Nat) c p = .ok (188, p + 1)) (e1 : (Jvm.ClassFile.Reader.u1 : Jvm.ClassFile.Decoder Nat) c (p + 1) = .ok (5, p + 2)) : Jvm.ClassFile.Decoder.instr p c p = .ok (.newarray .char, p + 2) := by
  unfold Jvm.ClassFile.Decoder.instr
  refine (yd_b e).trans ?_
  show Jvm.ClassFile.Decoder.newarray p c (p + 1) = _
  unfold Jvm.ClassFile.Decoder.newarray
  exact (yd_b e1).trans rfl
theorem yd_t_188_8 (e : (Jvm.ClassFile.Reader.u1 : Jvm.ClassFile.Decoder Nat) c p = .ok (188, p + 1)) (e1 : (Jvm.ClassFile.Reader.u1 : Jvm.ClassFile.Decoder Nat) c (p + 1) = .ok (8, p + 2)) : Jvm.ClassFile.Decoder.instr p c p = .ok (.newarray .byte, p + 2) := by
  unfold Jvm.ClassFile.Decoder.instr
  refine (yd_b e).trans ?_
  show Jvm.ClassFile.Decoder.newarray p c (p + 1) = _
  unfold Jvm.ClassFile.Decoder.newarray
  exact (yd_b e1).trans rfl
theorem yd_t_188_9 (e : (Jvm.ClassFile.Reader.u1 : Jvm.ClassFile.Decoder Nat) c p = .ok (188, p + 1)) (e1 : (Jvm.ClassFile.Reader.u1 : Jvm.ClassFile.Decoder Nat) c (p + 1) = .ok (9, p + 2)) : Jvm.ClassFile.Decoder.instr p c p = .ok (.newarray .short, p + 2) := by
  unfold Jvm.ClassFile.Decoder.instr
  refine (yd_b e).trans ?_
  show Jvm.ClassFile.Decoder.newarray p c (p + 1) = _
  unfold Jvm.ClassFile.Decoder.newarray
  exact (yd_b e1).trans rfl
theorem yd_t_188_10 (e : (Jvm.ClassFile.Reader.u1 : Jvm.ClassFile.Decoder Nat) c p = .ok (188, p + 1)) (e1 : (Jvm.ClassFile.Reader.u1 : Jvm.ClassFile.Decoder Nat) c (p + 1) = .ok (10, p + 2)) : Jvm.ClassFile.Decoder.instr p c p = .ok (.newarray .int, p + 2) := by
  unfold Jvm.ClassFile.Decoder.instr
  refine (yd_b e).trans ?_
  show Jvm.ClassFile.Decoder.newarray p c (p + 1) = _
  unfold Jvm.ClassFile.Decoder.newarray
  exact (yd_b e1).trans rfl
theorem yd_t_188_11 (e : (Jvm.ClassFile.Reader.u1 : Jvm.ClassFile.Decoder Nat) c p = .ok (188, p + 1)) (e1 : (Jvm.ClassFile.Reader.u1 : Jvm.ClassFile.Decoder Nat) c (p + 1) = .ok (11, p + 2)) : Jvm.ClassFile.Decoder.instr p c p = .ok (.newarray .long, p + 2) := by
  unfold Jvm.ClassFile.Decoder.instr
  refine (yd_b e).trans ?_
  show Jvm.ClassFile.Decoder.newarray p c (p + 1) = _
  unfold Jvm.ClassFile.Decoder.newarray
  exact (yd_b e1).trans rfl
theorem yd_t_197 (e : (Jvm.ClassFile.Reader.u1 : Jvm.ClassFile.Decoder Nat) c p = .ok (197, p + 1)) (e1 : (Jvm.ClassFile.Reader.u2 : Jvm.ClassFile.Decoder Nat) c (p + 1) = .ok (k, p + 3)) (e2 : (Jvm.ClassFile.Reader.u1 : Jvm.ClassFile.Decoder Nat) c (p + 3) = .ok (2, p + 4)) : Jvm.ClassFile.Decoder.instr p c p = .ok (.multianewarray k 2, p + 4) := by
  unfold Jvm.ClassFile.Decoder.instr
  refine (yd_b e).trans ?_
  show Jvm.ClassFile.Decoder.multianewarray p c (p + 1) = _
  unfold Jvm.ClassFile.Decoder.multianewarray
  exact (yd_b e1).trans ((yd_b e2).trans rfl)
def yd_cc : Jvm.ClassFile.Cond → Nat
  | .eq => 0
  | .ne => 1
  | .lt => 2
  | .ge => 3
  | .gt => 4
  | .le => 5
def yd_ck (bs : List UInt8) (n : Nat) : Instr → Bool
  | .aaload => yd_1 bs 50 n
  | .aastore => yd_1 bs 83 n
  | .areturn => yd_1 bs 176 n
  | .arraylength => yd_1 bs 190 n
  | .athrow => yd_1 bs 191 n
  | .baload => yd_1 bs 51 n
  | .bastore => yd_1 bs 84 n
  | .caload => yd_1 bs 52 n
  | .castore => yd_1 bs 85 n
  | .dup => yd_1 bs 89 n
  | .dup2 => yd_1 bs 92 n
  | .dup_x1 => yd_1 bs 90 n
  | .i2b => yd_1 bs 145 n
  | .i2c => yd_1 bs 146 n
  | .i2l => yd_1 bs 133 n
  | .i2s => yd_1 bs 147 n
  | .iadd => yd_1 bs 96 n
  | .iaload => yd_1 bs 46 n
  | .iand => yd_1 bs 126 n
  | .iastore => yd_1 bs 79 n
  | .idiv => yd_1 bs 108 n
  | .imul => yd_1 bs 104 n
  | .ineg => yd_1 bs 116 n
  | .ior => yd_1 bs 128 n
  | .irem => yd_1 bs 112 n
  | .ireturn => yd_1 bs 172 n
  | .ishl => yd_1 bs 120 n
  | .ishr => yd_1 bs 122 n
  | .isub => yd_1 bs 100 n
  | .iushr => yd_1 bs 124 n
  | .ixor => yd_1 bs 130 n
  | .l2i => yd_1 bs 136 n
  | .ladd => yd_1 bs 97 n
  | .laload => yd_1 bs 47 n
  | .lastore => yd_1 bs 80 n
  | .lcmp => yd_1 bs 148 n
  | .ldiv => yd_1 bs 109 n
  | .lmul => yd_1 bs 105 n
  | .lrem => yd_1 bs 113 n
  | .lreturn => yd_1 bs 173 n
  | .lsub => yd_1 bs 101 n
  | .pop => yd_1 bs 87 n
  | .return_ => yd_1 bs 177 n
  | .iconst i => yd_1 bs (i + 3).toNat n && (decide (-1 ≤ i) && decide (i ≤ 5))
  | .lconst i => yd_1 bs (9 + i.val) n
  | .aload_n i => yd_1 bs (42 + i.val) n
  | .iload_n i => yd_1 bs (26 + i.val) n
  | .lload_n i => yd_1 bs (30 + i.val) n
  | .istore_n i => yd_1 bs (59 + i.val) n
  | .lstore_n i => yd_1 bs (63 + i.val) n
  | .astore_n i => yd_1 bs (75 + i.val) n
  | .aload k => yd_2 bs 25 k n
  | .astore k => yd_2 bs 58 k n
  | .iload k => yd_2 bs 21 k n
  | .istore k => yd_2 bs 54 k n
  | .lload k => yd_2 bs 22 k n
  | .lstore k => yd_2 bs 55 k n
  | .ldc k => yd_2 bs 18 k n
  | .bipush v => yd_2s bs 16 v n
  | .anewarray k => yd_3 bs 189 k n
  | .getfield k => yd_3 bs 180 k n
  | .getstatic k => yd_3 bs 178 k n
  | .invokespecial k => yd_3 bs 183 k n
  | .invokestatic k => yd_3 bs 184 k n
  | .invokevirtual k => yd_3 bs 182 k n
  | .ldc2_w k => yd_3 bs 20 k n
  | .ldc_w k => yd_3 bs 19 k n
  | .new k => yd_3 bs 187 k n
  | .putfield k => yd_3 bs 181 k n
  | .goto v => yd_3s bs 167 v n
  | .ifnull v => yd_3s bs 198 v n
  | .sipush v => yd_3s bs 17 v n
  | .ifCond cc v => yd_3s bs (153 + yd_cc cc) v n
  | .if_icmp cc v => yd_3s bs (159 + yd_cc cc) v n
  | .iinc k v => yd_3i bs 132 k v n
  | .newarray .boolean => yd_2 bs 188 4 n
  | .newarray .char => yd_2 bs 188 5 n
  | .newarray .byte => yd_2 bs 188 8 n
  | .newarray .short => yd_2 bs 188 9 n
  | .newarray .int => yd_2 bs 188 10 n
  | .newarray .long => yd_2 bs 188 11 n
  | .multianewarray k 2 => yd_4 bs 197 k 2 n
  | _ => false
set_option maxHeartbeats 4000000 in
theorem yd_ck_ok {I : Instr} (h : yd_ck bs n I = true) (hs : c.data.toList.drop p = bs) : decode c p = .ok (I, n) ∧ Nat.beq n (z_len I) = true := by
  unfold yd_ck at h
  split at h
  · obtain ⟨rfl, e⟩ := yd_1i h hs
    exact ⟨yd_D (yd_t_50 e) (by omega), rfl⟩
  · obtain ⟨rfl, e⟩ := yd_1i h hs
    exact ⟨yd_D (yd_t_83 e) (by omega), rfl⟩
  · obtain ⟨rfl, e⟩ := yd_1i h hs
    exact ⟨yd_D (yd_t_176 e) (by omega), rfl⟩
  · obtain ⟨rfl, e⟩ := yd_1i h hs
    exact ⟨yd_D (yd_t_190 e) (by omega), rfl⟩
  · obtain ⟨rfl, e⟩ := yd_1i h hs
    exact ⟨yd_D (yd_t_191 e) (by omega), rfl⟩
  · obtain ⟨rfl, e⟩ := yd_1i h hs
    exact ⟨yd_D (yd_t_51 e) (by omega), rfl⟩
  · obtain ⟨rfl, e⟩ := yd_1i h hs
    exact ⟨yd_D (yd_t_84 e) (by omega), rfl⟩
  · obtain ⟨rfl, e⟩ := yd_1i h hs
    exact ⟨yd_D (yd_t_52 e) (by omega), rfl⟩
  · obtain ⟨rfl, e⟩ := yd_1i h hs
    exact ⟨yd_D (yd_t_85 e) (by omega), rfl⟩
  · obtain ⟨rfl, e⟩ := yd_1i h hs
    exact ⟨yd_D (yd_t_89 e) (by omega), rfl⟩
  · obtain ⟨rfl, e⟩ := yd_1i h hs
    exact ⟨yd_D (yd_t_92 e) (by omega), rfl⟩
  · obtain ⟨rfl, e⟩ := yd_1i h hs
    exact ⟨yd_D (yd_t_90 e) (by omega), rfl⟩
  · obtain ⟨rfl, e⟩ := yd_1i h hs
    exact ⟨yd_D (yd_t_145 e) (by omega), rfl⟩
  · obtain ⟨rfl, e⟩ := yd_1i h hs
    exact ⟨yd_D (yd_t_146 e) (by omega), rfl⟩
  · obtain ⟨rfl, e⟩ := yd_1i h hs
    exact ⟨yd_D (yd_t_133 e) (by omega), rfl⟩
  · obtain ⟨rfl, e⟩ := yd_1i h hs
    exact ⟨yd_D (yd_t_147 e) (by omega), rfl⟩
  · obtain ⟨rfl, e⟩ := yd_1i h hs
    exact ⟨yd_D (yd_t_96 e) (by omega), rfl⟩
  · obtain ⟨rfl, e⟩ := yd_1i h hs
    exact ⟨yd_D (yd_t_46 e) (by omega), rfl⟩
  · obtain ⟨rfl, e⟩ := yd_1i h hs
    exact ⟨yd_D (yd_t_126 e) (by omega), rfl⟩
  · obtain ⟨rfl, e⟩ := yd_1i h hs
    exact ⟨yd_D (yd_t_79 e) (by omega), rfl⟩
  · obtain ⟨rfl, e⟩ := yd_1i h hs
    exact ⟨yd_D (yd_t_108 e) (by omega), rfl⟩
  · obtain ⟨rfl, e⟩ := yd_1i h hs
    exact ⟨yd_D (yd_t_104 e) (by omega), rfl⟩
  · obtain ⟨rfl, e⟩ := yd_1i h hs
    exact ⟨yd_D (yd_t_116 e) (by omega), rfl⟩
  · obtain ⟨rfl, e⟩ := yd_1i h hs
    exact ⟨yd_D (yd_t_128 e) (by omega), rfl⟩
  · obtain ⟨rfl, e⟩ := yd_1i h hs
    exact ⟨yd_D (yd_t_112 e) (by omega), rfl⟩
  · obtain ⟨rfl, e⟩ := yd_1i h hs
    exact ⟨yd_D (yd_t_172 e) (by omega), rfl⟩
  · obtain ⟨rfl, e⟩ := yd_1i h hs
    exact ⟨yd_D (yd_t_120 e) (by omega), rfl⟩
  · obtain ⟨rfl, e⟩ := yd_1i h hs
    exact ⟨yd_D (yd_t_122 e) (by omega), rfl⟩
  · obtain ⟨rfl, e⟩ := yd_1i h hs
    exact ⟨yd_D (yd_t_100 e) (by omega), rfl⟩
  · obtain ⟨rfl, e⟩ := yd_1i h hs
    exact ⟨yd_D (yd_t_124 e) (by omega), rfl⟩
  · obtain ⟨rfl, e⟩ := yd_1i h hs
    exact ⟨yd_D (yd_t_130 e) (by omega), rfl⟩
  · obtain ⟨rfl, e⟩ := yd_1i h hs
    exact ⟨yd_D (yd_t_136 e) (by omega), rfl⟩
  · obtain ⟨rfl, e⟩ := yd_1i h hs
    exact ⟨yd_D (yd_t_97 e) (by omega), rfl⟩
  · obtain ⟨rfl, e⟩ := yd_1i h hs
    exact ⟨yd_D (yd_t_47 e) (by omega), rfl⟩
  · obtain ⟨rfl, e⟩ := yd_1i h hs
    exact ⟨yd_D (yd_t_80 e) (by omega), rfl⟩
  · obtain ⟨rfl, e⟩ := yd_1i h hs
    exact ⟨yd_D (yd_t_148 e) (by omega), rfl⟩
  · obtain ⟨rfl, e⟩ := yd_1i h hs
    exact ⟨yd_D (yd_t_109 e) (by omega), rfl⟩
  · obtain ⟨rfl, e⟩ := yd_1i h hs
    exact ⟨yd_D (yd_t_105 e) (by omega), rfl⟩
  · obtain ⟨rfl, e⟩ := yd_1i h hs
    exact ⟨yd_D (yd_t_113 e) (by omega), rfl⟩
  · obtain ⟨rfl, e⟩ := yd_1i h hs
    exact ⟨yd_D (yd_t_173 e) (by omega), rfl⟩
  · obtain ⟨rfl, e⟩ := yd_1i h hs
    exact ⟨yd_D (yd_t_101 e) (by omega), rfl⟩
  · obtain ⟨rfl, e⟩ := yd_1i h hs
    exact ⟨yd_D (yd_t_87 e) (by omega), rfl⟩
  · obtain ⟨rfl, e⟩ := yd_1i h hs
    exact ⟨yd_D (yd_t_177 e) (by omega), rfl⟩
  · rename_i i
    rw [Bool.and_eq_true, Bool.and_eq_true, decide_eq_true_eq, decide_eq_true_eq] at h
    obtain ⟨h, h1, h2⟩ := h
    obtain ⟨rfl, e⟩ := yd_1i h hs
    refine ⟨yd_D (q := p + 1) ?_ (by omega), rfl⟩
    have hi : i = -1 ∨ i = 0 ∨ i = 1 ∨ i = 2 ∨ i = 3 ∨ i = 4 ∨ i = 5 := by omega
    rcases hi with rfl | rfl | rfl | rfl | rfl | rfl | rfl
    · exact yd_t_2 e
    · exact yd_t_3 e
    · exact yd_t_4 e
    · exact yd_t_5 e
    · exact yd_t_6 e
    · exact yd_t_7 e
    · exact yd_t_8 e
  · rename_i i
    obtain ⟨rfl, e⟩ := yd_1i h hs
    refine ⟨yd_D (q := p + 1) ?_ (by omega), rfl⟩
    obtain ⟨i, hi⟩ := i
    have hi2 : i = 0 ∨ i = 1 := by omega
    rcases hi2 with rfl | rfl
    · exact yd_t_9 e
    · exact yd_t_10 e
  · rename_i i
    obtain ⟨rfl, e⟩ := yd_1i h hs
    refine ⟨yd_D (q := p + 1) ?_ (by omega), rfl⟩
    obtain ⟨i, hi⟩ := i
    have hi2 : i = 0 ∨ i = 1 ∨ i = 2 ∨ i = 3 := by omega
    rcases hi2 with rfl | rfl | rfl | rfl
    · exact yd_t_42 e
    · exact yd_t_43 e
    · exact yd_t_44 e
    · exact yd_t_45 e
  · rename_i i
    obtain ⟨rfl, e⟩ := yd_1i h hs
    refine ⟨yd_D (q := p + 1) ?_ (by omega), rfl⟩
    obtain ⟨i, hi⟩ := i
    have hi2 : i = 0 ∨ i = 1 ∨ i = 2 ∨ i = 3 := by omega
    rcases hi2 with rfl | rfl | rfl | rfl
    · exact yd_t_26 e
    · exact yd_t_27 e
    · exact yd_t_28 e
    · exact yd_t_29 e
  · rename_i i
    obtain ⟨rfl, e⟩ := yd_1i h hs
    refine ⟨yd_D (q := p + 1) ?_ (by omega), rfl⟩
    obtain ⟨i, hi⟩ := i
    have hi2 : i = 0 ∨ i = 1 ∨ i = 2 ∨ i = 3 := by omega
    rcases hi2 with rfl | rfl | rfl | rfl
    · exact yd_t_30 e
    · exact yd_t_31 e
    · exact yd_t_32 e
    · exact yd_t_33 e
  · rename_i i
    obtain ⟨rfl, e⟩ := yd_1i h hs
    refine ⟨yd_D (q := p + 1) ?_ (by omega), rfl⟩
    obtain ⟨i, hi⟩ := i
    have hi2 : i = 0 ∨ i = 1 ∨ i = 2 ∨ i = 3 := by omega
    rcases hi2 with rfl | rfl | rfl | rfl
    · exact yd_t_59 e
    · exact yd_t_60 e
    · exact yd_t_61 e
    · exact yd_t_62 e
  · rename_i i
    obtain ⟨rfl, e⟩ := yd_1i h hs
    refine ⟨yd_D (q := p + 1) ?_ (by omega), rfl⟩
    obtain ⟨i, hi⟩ := i
    have hi2 : i = 0 ∨ i = 1 ∨ i = 2 ∨ i = 3 := by omega
    rcases hi2 with rfl | rfl | rfl | rfl
    · exact yd_t_63 e
    · exact yd_t_64 e
    · exact yd_t_65 e
    · exact yd_t_66 e
  · rename_i i
    obtain ⟨rfl, e⟩ := yd_1i h hs
    refine ⟨yd_D (q := p + 1) ?_ (by omega), rfl⟩
    obtain ⟨i, hi⟩ := i
    have hi2 : i = 0 ∨ i = 1 ∨ i = 2 ∨ i = 3 := by omega
    rcases hi2 with rfl | rfl | rfl | rfl
    · exact yd_t_75 e
    · exact yd_t_76 e
    · exact yd_t_77 e
    · exact yd_t_78 e
  · obtain ⟨rfl, e, e1⟩ := yd_2i h hs
    exact ⟨yd_D (yd_t_25 e e1) (by omega), rfl⟩
  · obtain ⟨rfl, e, e1⟩ := yd_2i h hs
    exact ⟨yd_D (yd_t_58 e e1) (by omega), rfl⟩
  · obtain ⟨rfl, e, e1⟩ := yd_2i h hs
    exact ⟨yd_D (yd_t_21 e e1) (by omega), rfl⟩
  · obtain ⟨rfl, e, e1⟩ := yd_2i h hs
    exact ⟨yd_D (yd_t_54 e e1) (by omega), rfl⟩
  · obtain ⟨rfl, e, e1⟩ := yd_2i h hs
    exact ⟨yd_D (yd_t_22 e e1) (by omega), rfl⟩
  · obtain ⟨rfl, e, e1⟩ := yd_2i h hs
    exact ⟨yd_D (yd_t_55 e e1) (by omega), rfl⟩
  · obtain ⟨rfl, e, e1⟩ := yd_2i h hs
    exact ⟨yd_D (yd_t_18 e e1) (by omega), rfl⟩
  · obtain ⟨rfl, e, e1⟩ := yd_2si h hs
    exact ⟨yd_D (yd_t_16 e e1) (by omega), rfl⟩
  · obtain ⟨rfl, e, e1⟩ := yd_3j h hs
    exact ⟨yd_D (yd_t_189 e e1) (by omega), rfl⟩
  · obtain ⟨rfl, e, e1⟩ := yd_3j h hs
    exact ⟨yd_D (yd_t_180 e e1) (by omega), rfl⟩
  · obtain ⟨rfl, e, e1⟩ := yd_3j h hs
    exact ⟨yd_D (yd_t_178 e e1) (by omega), rfl⟩
  · obtain ⟨rfl, e, e1⟩ := yd_3j h hs
    exact ⟨yd_D (yd_t_183 e e1) (by omega), rfl⟩
  · obtain ⟨rfl, e, e1⟩ := yd_3j h hs
    exact ⟨yd_D (yd_t_184 e e1) (by omega), rfl⟩
  · obtain ⟨rfl, e, e1⟩ := yd_3j h hs
    exact ⟨yd_D (yd_t_182 e e1) (by omega), rfl⟩
  · obtain ⟨rfl, e, e1⟩ := yd_3j h hs
    exact ⟨yd_D (yd_t_20 e e1) (by omega), rfl⟩
  · obtain ⟨rfl, e, e1⟩ := yd_3j h hs
    exact ⟨yd_D (yd_t_19 e e1) (by omega), rfl⟩
  · obtain ⟨rfl, e, e1⟩ := yd_3j h hs
    exact ⟨yd_D (yd_t_187 e e1) (by omega), rfl⟩
  · obtain ⟨rfl, e, e1⟩ := yd_3j h hs
    exact ⟨yd_D (yd_t_181 e e1) (by omega), rfl⟩
  · obtain ⟨rfl, e, e1⟩ := yd_3si h hs
    exact ⟨yd_D (yd_t_167 e e1) (by omega), rfl⟩
  · obtain ⟨rfl, e, e1⟩ := yd_3si h hs
    exact ⟨yd_D (yd_t_198 e e1) (by omega), rfl⟩
  · obtain ⟨rfl, e, e1⟩ := yd_3si h hs
    exact ⟨yd_D (yd_t_17 e e1) (by omega), rfl⟩
  · rename_i cc v
    obtain ⟨rfl, e, e1⟩ := yd_3si h hs
    refine ⟨yd_D (q := p + 3) ?_ (by omega), rfl⟩
    cases cc
    · exact yd_t_153 e e1
    · exact yd_t_154 e e1
    · exact yd_t_155 e e1
    · exact yd_t_156 e e1
    · exact yd_t_157 e e1
    · exact yd_t_158 e e1
  · rename_i cc v
    obtain ⟨rfl, e, e1⟩ := yd_3si h hs
    refine ⟨yd_D (q := p + 3) ?_ (by omega), rfl⟩
    cases cc
    · exact yd_t_159 e e1
    · exact yd_t_160 e e1
    · exact yd_t_161 e e1
    · exact yd_t_162 e e1
    · exact yd_t_163 e e1
    · exact yd_t_164 e e1
  · obtain ⟨rfl, e, e1, e2⟩ := yd_3ii h hs
    exact ⟨yd_D (yd_t_132 e e1 e2) (by omega), rfl⟩
  · obtain ⟨rfl, e, e1⟩ := yd_2i h hs
    exact ⟨yd_D (yd_t_188_4 e e1) (by omega), rfl⟩
  · obtain ⟨rfl, e, e1⟩ := yd_2i h hs
    exact ⟨yd_D (yd_t_188_5 e e1) (by omega), rfl⟩
  · obtain ⟨rfl, e, e1⟩ := yd_2i h hs
    exact ⟨yd_D (yd_t_188_8 e e1) (by omega), rfl⟩
  · obtain ⟨rfl, e, e1⟩ := yd_2i h hs
    exact ⟨yd_D (yd_t_188_9 e e1) (by omega), rfl⟩
  · obtain ⟨rfl, e, e1⟩ := yd_2i h hs
    exact ⟨yd_D (yd_t_188_10 e e1) (by omega), rfl⟩
  · obtain ⟨rfl, e, e1⟩ := yd_2i h hs
    exact ⟨yd_D (yd_t_188_11 e e1) (by omega), rfl⟩
  · obtain ⟨rfl, e, e1, e2⟩ := yd_4i h hs
    exact ⟨yd_D (yd_t_197 e e1 e2) (by omega), rfl⟩
  · cases h
theorem yd_okDec {i : Instr × Nat} (h : decode c p = .ok (i.1, i.2) ∧ Nat.beq i.2 (z_len i.1) = true) : z_okDec c p i = true := by
  obtain ⟨ins, n⟩ := i
  obtain ⟨h1, h2⟩ := h
  have h2 : n = z_len ins := Nat.eq_of_beq_eq_true h2
  have h1 : decode c p = .ok (ins, n) := h1
  unfold z_okDec
  rw [h1]
  show (decide ((ins, n) = (ins, n)) && _) = true
  rw [decide_eq_true (rfl : (ins, n) = (ins, n)), Bool.true_and]
  split
  · rfl
  · exact beq_iff_eq.mpr h2
def yd_sw : Instr → Bool
  | .tableswitch _ _ _ _ => true
  | _ => false
def yd_go (c : ByteArray) : Nat → List UInt8 → List (Nat × (Instr × Nat)) → Bool
  | _, _, [] => true
  | p, bs, (q, i) :: es => Nat.beq p q && ((bif yd_sw i.1 then z_okDec c q i else yd_ck bs i.2 i.1) && yd_go c (p + i.2) (bs.drop i.2) es)
theorem yd_go_ok : ∀ {es : List (Nat × (Instr × Nat))} {p : Nat} {bs : List UInt8}, c.data.toList.drop p = bs → yd_go c p bs es = true → ∀ q ∈ es, z_okDec c q.1 q.2 = true
  | [], _, _, _, _, q, hq => by cases hq
  | (q0, i) :: es, p, bs, hs, h, q, hq => by
    unfold yd_go at h
    rw [Bool.and_eq_true, Bool.and_eq_true] at h
    obtain ⟨h1, h2, h3⟩ := h
    have h1 := Nat.eq_of_beq_eq_true h1
    subst h1
    rcases List.mem_cons.mp hq with rfl | hq
    · show z_okDec c p i = true
      by_cases k : yd_sw i.1 = true
      · rw [k] at h2
        exact h2
      · rw [Bool.not_eq_true] at k
        rw [k] at h2
        exact yd_okDec (yd_ck_ok h2 hs)
    · exact yd_go_ok (by first | (rw [← hs, List.drop_drop]; done) | (rw [← hs, List.drop_drop, Nat.add_comm]; done)) h3 q hq
theorem yd_all {mm : z_bm (Instr × Nat)} (h : yd_go c 0 c.data.toList (mm.flatMap fun b => b.2) = true) : z_bck (z_okDec c) mm = true := by
  unfold z_bck
  refine List.all_eq_true.mpr fun b hb => List.all_eq_true.mpr fun q hq => ?_
  exact yd_go_ok List.drop_zero h q (List.mem_flatMap.mpr ⟨b, hb, hq⟩)
/-- a row of methods -/
theorem yd_row {r : List z_Mr} (h : (r.all fun q => yd_go q.2.1 0 q.2.1.data.toList (q.2.2.2.2.2.2.2.1.flatMap fun b => b.2)) = true) : ∀ q ∈ r, z_bck (z_okDec q.2.1) q.2.2.2.2.2.2.2.1 = true := fun q hq => yd_all (List.all_eq_true.mp h q hq)
def yd_leq : List UInt8 → List UInt8 → Bool
  | [], [] => true
  | a :: as, b :: bs => Nat.beq a.toNat b.toNat && yd_leq as bs
  | _, _ => false
theorem yd_leq_ok : ∀ {a b : List UInt8}, yd_leq a b = true → a = b
  | [], [], _ => rfl
  | [], _ :: _, h => by cases h
  | _ :: _, [], h => by cases h
  | a :: as, b :: bs, h => by
    unfold yd_leq at h
    rw [Bool.and_eq_true] at h
    rw [UInt8.toNat_inj.mp (Nat.eq_of_beq_eq_true h.1), yd_leq_ok h.2]
def yd_same : Cond → Cond → Bool
  | .code y b n t, .code y' b' n' t' => decide (y = y') && (yd_leq b.data.toList b'.data.toList && (Nat.beq n n' && decide (t = t')))
  | _, _ => false
theorem yd_same_ok {a b : Cond} (h : yd_same a b = true) : a = b := by
  unfold yd_same at h
  split at h
  · rename_i y b n t y' b' n' t'
    rw [Bool.and_eq_true, Bool.and_eq_true, Bool.and_eq_true] at h
    obtain ⟨h1, h2, h3, h4⟩ := h
    have e1 := of_decide_eq_true h1
    have e2 : b = b' := ByteArray.ext (Array.ext' (yd_leq_ok h2))
    have e3 := Nat.eq_of_beq_eq_true h3
    have e4 := of_decide_eq_true h4
    rw [e1, e2, e3, e4]
  · cases h
def yd_is (w : Nat) (u : Cond) : Bool := match tables_1[w]? with
  | some u' => yd_same u' u
  | none => false
theorem yd_is_ok {w : Nat} {u : Cond} (h : yd_is w u = true) : z_isW w u = true := by
  unfold yd_is at h
  split at h
  · rename_i u' hu
    rw [yd_same_ok h] at hu
    exact decide_eq_true hu
  · cases h
def yd_k (CT : List z_Ct) (sels : List Cond) (r : z_Mr) : Bool := z_isW r.2.2.2.2.2.2.2.2.2.2.1 (.initialized r.1.cls) && decide (r.1.cls ≠ "java/lang/invoke/MethodHandle") && decide (r.1.cls ≠ "java/lang/invoke/VarHandle") &&
  (if r.2.2.2.2.2.2.2.2.1 = 0 then z_isW r.2.2.2.2.2.2.2.2.2.2.2.1 (.static r.1)
   else if r.2.2.2.2.2.2.2.2.1 = 1 then z_isW r.2.2.2.2.2.2.2.2.2.2.2.1 (.instanceMethod r.1) && (if 100000 ≤ r.2.2.2.2.2.2.2.2.2.2.2.2 then decide (sels[r.2.2.2.2.2.2.2.2.2.2.2.2 - 100000]? = some (.selects r.1.cls r.1 r.1)) else z_isW r.2.2.2.2.2.2.2.2.2.2.2.2 (.selects r.1.cls r.1 r.1)) &&
     (if r.2.2.2.2.2.1 = 98 then decide (r.1.cls = "java/lang/String") else decide (r.2.2.2.2.2.1 < 98) && match CT[r.2.2.2.2.2.1]? with
       | some c => decide (c.1 = r.1.cls)
       | none => false)
   else decide (r.1.name = "<init>") && z_isW r.2.2.2.2.2.2.2.2.2.2.2.1 (.instanceMethod r.1) && decide (r.2.2.2.1 = none))
theorem yd_R {CT : List z_Ct} {sels : List Cond} {r : z_Mr} (ha : plainFor r.1 = true) (hb : yd_is r.2.2.2.2.2.2.2.2.2.1 (.code r.1 r.2.1 r.2.2.1.1 r.2.2.2.1) = true) (hf : (parseMethodDescriptor r.1.desc).map (fun d => d.parameters.length) = some (if r.2.2.2.2.2.2.2.2.1 = 0 then r.2.2.1.2.1 else r.2.2.1.2.1 - 1))
    (hk : yd_k CT sels r = true) : z_ckR CT sels r = true := by
  unfold yd_k at hk
  rw [Bool.and_eq_true, Bool.and_eq_true, Bool.and_eq_true] at hk
  obtain ⟨⟨⟨k1, k2⟩, k3⟩, k4⟩ := hk
  have tt : ∀ {a b : Bool}, a = true → b = true → (a && b) = true := fun h k => by
    rw [Bool.and_eq_true]
    exact ⟨h, k⟩
  exact tt (tt (tt (tt (tt (tt ha (yd_is_ok hb)) k1) k2) k3) (decide_eq_true hf)) k4
theorem yd_R1 {r : z_Mr} {y : MethodName} (hy : r.1 = y) (hn : plainName y.cls = true) {ds : String} {j : Nat} (hd : y.desc = ds) (hf : (parseMethodDescriptor ds).map (fun d => d.parameters.length) = some j) (hj : Nat.beq j (if r.2.2.2.2.2.2.2.2.1 = 0 then r.2.2.1.2.1 else r.2.2.1.2.1 - 1) = true) : plainFor r.1 = true ∧ (parseMethodDescriptor r.1.desc).map (fun d => d.parameters.length) = some (if r.2.2.2.2.2.2.2.2.1 = 0 then r.2.2.1.2.1 else r.2.2.1.2.1 - 1) := by
  rw [← Nat.eq_of_beq_eq_true hj]
  subst hy
  subst hd
  exact ⟨plainFor_of_name hn, hf⟩
theorem yd_R2 {CT : List z_Ct} {sels : List Cond} {r : z_Mr} {y : MethodName} (hy : r.1 = y) (hn : plainName y.cls = true) {ds : String} {j : Nat} (hd : y.desc = ds) (hf : (parseMethodDescriptor ds).map (fun d => d.parameters.length) = some j) (hj : Nat.beq j (if r.2.2.2.2.2.2.2.2.1 = 0 then r.2.2.1.2.1 else r.2.2.1.2.1 - 1) = true) (hb : yd_is r.2.2.2.2.2.2.2.2.2.1 (.code r.1 r.2.1 r.2.2.1.1 r.2.2.2.1) = true) (hk : yd_k CT sels r = true) : z_ckR CT sels r = true := yd_R (yd_R1 hy hn hd hf hj).1 hb (yd_R1 hy hn hd hf hj).2 hk
end ZDEC
