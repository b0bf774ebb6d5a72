section ZSIMR
variable {p : Program} {l : Launch} {e : Env} {R : Room} {s : State} {m : MethodId} {args : Array Value} {below : List Frame} {meth : Method} {c : Code} {H : Heap} {locs : List Loc} {cells slots : Nat} {Q : State → Prop}
theorem z_al_spec {t : Nat} {k : Value → Bool} {P : Nat → Option z_C} {st st' : List Value} (h : z_al t k P st = some st') : ∃ (i : Int32) (a : Nat) (r : List Value) (vs : List Value) (v : Value), st = .int i :: .ref a :: r ∧ P a = some (t, vs) ∧ 0 ≤ i.toInt ∧ vs[i.toNatClampNeg]? = some v ∧ k v = true ∧ st' = v :: r := by
  unfold z_al at h
  split at h
  · rename_i i a r
    split at h
    · rename_i q hq
      split at h
      · rename_i h1
        split at h
        · rename_i v hv
          split at h
          · rename_i hk
            cases h
            exact ⟨i, a, r, q.2, v, rfl, by rw [hq, ← h1.1], h1.2, hv, hk, rfl⟩
          · cases h
        · cases h
      · cases h
    · cases h
  · cases h
theorem z_alq_spec {nA : Nat} {P : Nat → Option z_C} {st st' : List Value} (h : z_alq nA P st = some st') : ∃ (i : Int32) (a : Nat) (r : List Value) (t : Nat) (vs : List Value) (v : Value), st = .int i :: .ref a :: r ∧ P a = some (t, vs) ∧ 105 ≤ t ∧ t < 100 + nA ∧ 0 ≤ i.toInt ∧ vs[i.toNatClampNeg]? = some v ∧ z_isA v = true ∧ st' = v :: r := by
  unfold z_alq at h
  split at h
  · rename_i i a r
    split at h
    · rename_i q hq
      split at h
      · rename_i h1
        split at h
        · rename_i v hv
          split at h
          · rename_i hk
            cases h
            exact ⟨i, a, r, q.1, q.2, v, rfl, hq, h1.1, h1.2.1, h1.2.2, hv, hk, rfl⟩
          · cases h
        · cases h
      · cases h
    · cases h
  · cases h
theorem z_alen_spec {nA : Nat} {P : Nat → Option z_C} {st st' : List Value} (h : z_alen nA P st = some st') : ∃ (a : Nat) (r : List Value) (t : Nat) (vs : List Value), st = .ref a :: r ∧ P a = some (t, vs) ∧ 100 ≤ t ∧ t < 100 + nA ∧ st' = .int (Int32.ofNat vs.length) :: r := by
  unfold z_alen at h
  split at h
  · rename_i a r
    split at h
    · rename_i q hq
      split at h
      · rename_i h1
        cases h
        exact ⟨a, r, q.1, q.2, rfl, hq, h1.1, h1.2, rfl⟩
      · cases h
    · cases h
  · cases h
theorem z_gf_spec {fk : Option (Nat × Nat)} {P : Nat → Option z_C} {st st' : List Value} (h : z_gf fk P st = some st') : ∃ (a : Nat) (r : List Value) (ci f : Nat) (vs : List Value) (v : Value), st = .ref a :: r ∧ fk = some (ci, f) ∧ P a = some (ci, vs) ∧ ci < 99 ∧ vs[f]? = some v ∧ st' = v :: r := by
  unfold z_gf at h
  split at h
  · rename_i a r
    split at h
    · rename_i f
      split at h
      · rename_i q hq
        split at h
        · rename_i h1
          split at h
          · rename_i v hv
            cases h
            exact ⟨a, r, f.1, f.2, q.2, v, rfl, rfl, by rw [hq, ← h1.1], by rw [← h1.1]; exact h1.2, hv, rfl⟩
          · cases h
        · cases h
      · cases h
    · cases h
  · cases h
/-- the five kinds of numbers stand first among the arrays, behind them references alone -/
def z_aty (aty : List FieldType) : Prop := aty[0]? = some .boolean ∧ aty[1]? = some .byte ∧ aty[2]? = some .char ∧ aty[3]? = some .int ∧ aty[4]? = some .long ∧ ∀ (i : Nat) (t : FieldType), 5 ≤ i → aty[i]? = some t → t.isReference = true
theorem z_in {i : Int32} {n : Nat} (h0 : 0 ≤ i.toInt) (h : i.toNatClampNeg < n) : ¬ (i < 0 ∨ n ≤ i.toNatClampNeg) := by
  rintro (q | q)
  · rw [Int32.lt_iff_toInt_lt] at q
    have : (0 : Int32).toInt = 0 := by decide
    omega
  · omega
theorem z_arr_read {cA : ClassId} {cv : Value → Value} {vs : List Value} {j : Nat} {v : Value} (h : vs[j]? = some v) : (arrV cA vs.length (fun j => cv (vs.getD j .null))).slots[j]? = some (cv v) := by
  have hj : j < vs.length := (List.getElem?_eq_some_iff.mp h).1
  rw [arrV_read cA _ hj]
  simp [h]
/-- what the pool says of a field: its link, plainly or as a nest mate's -/
def z_fl (s : State) (args : Array Value) (own : String) (n : Nat) (f : String × String × String × Bool) : Prop :=
  (Cond.fieldLink own n f.1 f.2.1 f.2.2.1).before args s = true ∨ ∃ host, (Cond.fieldLinkNest own n f.1 f.2.1 f.2.2.1 host).before args s = true
/-- what the words say of the classes -/
def z_CL (cl : List vw_C) (Ts : List Cond) : Prop := ∀ (ci : Nat) (r : vw_C), cl[ci]? = some r → (∀ w ∈ u_ws r.1 r.2.1 r.2.2, w ∈ Ts) ∧ (∃ ty : Nat → FieldType, ∀ k, k < r.2.2 → parseFieldDescriptor (r.2.1 k).2.2.1 = some (ty k)) ∧ ∀ a, a < r.2.2 → ∀ b, b < r.2.2 → a ≠ b → (r.2.1 a).2.1 ≠ (r.2.1 b).2.1
/-- the String constants stand, far from what the law makes; fs: where they are told -/
def z_X (strs : z_Ss) (ext : Nat → Nat) (base : Nat) (rs : List (String × Nat × String × Nat)) (U : State) : Prop :=
  vk_S strs.1.length (strs.1.map List.length) strs.1 (fun i => ext (2 * i)) (fun i => ext (2 * i + 1)) (fun q => base ≤ q) U U.heap ∧ va_Z "java/lang/String" "COMPACT_STRINGS" "Z" (.int 1) (fun q => base ≤ q) U U.heap ∧ (∀ r ∈ rs, vk_R r.1 r.2.1 r.2.2.1 (ext (2 * r.2.2.2)) U) ∧ ext (2 * strs.1.length) < base ∧ va_X (ext (2 * strs.1.length)) strs.2.length (fun j => strs.2.getD j 0) U U.heap
theorem z_lk_far {strs : z_Ss} {P : z_H} {a : Nat} {q : z_C} (h : z_lk strs P a = some q) : P[a]? = some q ∨ (∃ i b, strs.1[i]? = some b ∧ ((a = z_far + 2 * i ∧ q = (98, [.ref (z_far + (2 * i + 1)), .int 0])) ∨ (a = z_far + (2 * i + 1) ∧ q = (101, b.map Value.int)))) ∨ (a = z_far + 2 * strs.1.length ∧ q = (103, strs.2.map Value.int)) := by
  unfold z_lk at h
  split at h
  · exact Or.inl h
  · rename_i h0
    unfold z_fc at h
    split at h
    · rename_i b hb
      refine Or.inr (Or.inl ⟨(a - z_far) / 2, b, hb, ?_⟩)
      split at h
      · rename_i h1
        cases h
        refine Or.inl ⟨by omega, ?_⟩
        have : z_far + (a - z_far) + 1 = z_far + (2 * ((a - z_far) / 2) + 1) := by omega
        rw [this]
      · cases h
        exact Or.inr ⟨by omega, rfl⟩
    · split at h
      · rename_i h1
        cases h
        exact Or.inr (Or.inr ⟨by omega, rfl⟩)
      · cases h
theorem z_lk_near {strs : z_Ss} {P : z_H} {a : Nat} {q : z_C} (h : z_lk strs P a = some q) (h1 : q.1 ≠ 98) (h2 : q.1 ≠ 101) (h3 : q.1 ≠ 103) : P[a]? = some q := by
  rcases z_lk_far h with h | ⟨i, b, -, ⟨-, rfl⟩ | ⟨-, rfl⟩⟩ | ⟨-, rfl⟩
  · exact h
  · exact absurd rfl h1
  · exact absurd rfl h2
  · exact absurd rfl h3
theorem z_cv_far {ext : Nat → Nat} {base j : Nat} : z_cv ext base (.ref (z_far + j)) = .ref (ext j) := by
  show Value.ref (if z_far + j < z_far then base + (z_far + j) else ext (z_far + j - z_far)) = _
  rw [if_neg (by omega), show z_far + j - z_far = j by omega]
set_option maxHeartbeats 4000000 in
theorem z_sim_rd {D : va_G} {cl : List vw_C} {ta : Nat → ClassId} {aty : List FieldType} {ext : Nat → Nat} {base : Nat} {Ts : List Cond} {own : String} {P : z_H} {fld : Nat → Option (Nat × Nat)}
    {cc : ByteArray} (hx : p.tables.exec = Jvm.exec) (hb : c.code = cc) (hts : ∀ w ∈ Ts, w.before args s = true) (hown : s.vm.findClass own = some m.cls) (hK : z_K D cl ta aty s) (hA : z_aty aty) (hC : z_CL cl Ts) (hR : z_R D cl ta ext base P H) {strs : z_Ss} {rs : List (String × Nat × String × Nat)} (hX : z_X strs ext base rs s) (hS : va_S (fun q => base ≤ q) s.heap H locs)
    {ins : Instr} {len pc : Nat} {ls : Array Slot} {st st' : List Value} (hfl : ∀ n ci k r, ins = .getfield n → fld n = some (ci, k) → cl[ci]? = some r → k < r.2.2 ∧ z_fl s args own n (r.2.1 k)) (hfs : ∀ n k, ins = .getfield n → fld n = some (98, k) → (k = 0 ∧ (Cond.fieldLink own n "java/lang/String" "value" "[B").before args s = true) ∨ (k = 1 ∧ (Cond.fieldLink own n "java/lang/String" "coder" "B").before args s = true)) (hd : decode cc pc = .ok (ins, len)) (hlen : len = z_len ins) (h : z_rd fld aty.length (z_lk strs P) ins st = some st')
    (k : W p l e R s m args below meth c H locs cells slots Q (F0 m (pc + len) ls (st'.map (z_cv ext base)))) : W p l e R s m args below meth c H locs cells slots Q (F0 m pc ls (st.map (z_cv ext base))) := by
  subst hlen
  obtain ⟨a0, a1, a2, a3, a4, a5⟩ := hA
  have rd : ∀ (t : Nat) (ty : FieldType) (kd : Value → Bool), aty[t]? = some ty → t ≠ 1 → t ≠ 3 → z_al (100 + t) kd (z_lk strs P) st = some st' →
      ∃ (i : Int32) (a : Nat) (r : List Value) (v : Value) (cell : Cell), st.map (z_cv ext base) = .int i :: .ref (base + a) :: r.map (z_cv ext base) ∧ H[base + a]? = some cell ∧ s.isArrayOf cell ty ∧ cell.vm ≠ .unknown ∧ ¬ (i < 0 ∨ cell.slots.size ≤ i.toNatClampNeg) ∧ cell.slots[i.toNatClampNeg]? = some (z_cv ext base v) ∧ st' = v :: r := by
    intro t ty kd hty ht1 ht3 hz
    obtain ⟨i, a, r, vs, v, rfl, hP, h0, hv, -, rfl⟩ := z_al_spec hz
    have hP := z_lk_near hP (by show 100 + t ≠ 98; omega) (by show 100 + t ≠ 101; omega) (by show 100 + t ≠ 103; omega)
    have hq := (hR.at hP).2 (by show 100 ≤ 100 + t; omega)
    have hlt : i.toNatClampNeg < vs.length := (List.getElem?_eq_some_iff.mp hv).1
    have ht : 100 + t - 100 = t := by omega
    refine ⟨i, a, r, v, _, by rw [List.map_cons, List.map_cons, hR.near hP]; rfl, hq, ?_, (fun q => by cases q), ?_, z_arr_read hv, rfl⟩
    · show s.isArrayOf (arrV (ta (100 + t - 100)) _ _) ty
      rw [ht]
      exact (hK.2 t ty hty).1 _ _
    · rw [arrV_size]
      exact z_in h0 hlt
  cases ins
  case getfield n =>
    obtain ⟨a, r, ci, f, vs, v, rfl, hf, hP, hci, hv, rfl⟩ := z_gf_spec h
    rcases z_lk_far hP with hP | ⟨i, b, hb2, ⟨rfl, hq⟩ | ⟨rfl, hq⟩⟩ | ⟨-, hq⟩
    rotate_left
    · cases hq
      have hi : i < strs.1.length := (List.getElem?_eq_some_iff.mp hb2).1
      obtain ⟨-, x2, x3, -⟩ := hX.1.1 i hi
      rw [List.map_cons, z_cv_far]
      rcases hfs n f rfl hf with ⟨rfl, hlk⟩ | ⟨rfl, hlk⟩
      · cases hv
        rw [List.map_cons, z_cv_far] at k
        exact va_getX hx hb (o := "java/lang/String") (n := "value") (d := "[B") (N := 1) (v := fun _ => .ref (ext (2 * i + 1))) (ad := fun _ => ext (2 * i)) (i := 0) (fun _ _ => x3) (by decide) hS hown hlk (fun _ q => q) hd k
      · cases hv
        exact va_getX hx hb (o := "java/lang/String") (n := "coder") (d := "B") (N := 1) (v := fun _ => .int 0) (ad := fun _ => ext (2 * i)) (i := 0) (fun _ _ => x2) (by decide) hS hown hlk (fun _ q => q) hd k
    · cases hq
      omega
    · cases hq
      omega
    obtain ⟨⟨C, T, N⟩, hr, hN, hO⟩ := (hR.at hP).1 hci
    obtain ⟨hkN, hlk⟩ := hfl n ci f _ rfl hf hr
    have hW : va_P D cl [(base + a, .inr (ci, vs.map (z_cv ext base)))] H := fun j q hj => by
      match j, hj with
      | 0, hj => cases hj; exact ⟨_, hr, hO⟩
      | j + 1, hj => simp at hj
    have hv' : (vs.map (z_cv ext base))[f]? = some (z_cv ext base v) := by simp [hv]
    rw [List.map_cons, hR.near hP]
    rcases hlk with hlk | ⟨host, hlk⟩
    · exact va_get hx hb hts (hC ci _ hr).1 hown hK.va hW 0 rfl hr f hkN hlk (fun _ q => q) hv' hd k
    · exact va_getN hx hb hts (hC ci _ hr).1 hown hK.va hW 0 rfl hr f hkN hlk (fun _ q => q) hv' hd k
  case iaload =>
    obtain ⟨i, a, r, vs, v, rfl, hP, h0, hv, -, rfl⟩ := z_al_spec h
    rcases z_lk_far hP with hP | ⟨j, b, hb2, ⟨rfl, hq⟩ | ⟨rfl, hq⟩⟩ | ⟨rfl, hq⟩
    · have hq := (hR.at hP).2 (by show 100 ≤ 103; omega)
      have hlt : i.toNatClampNeg < vs.length := (List.getElem?_eq_some_iff.mp hv).1
      rw [List.map_cons, List.map_cons, hR.near hP]
      exact W.iald hx hb hq ((hK.2 3 _ a3).1 _ _) (fun q => by cases q) (by rw [arrV_size]; exact z_in h0 hlt) (z_arr_read hv) rfl rfl hd k
    · cases hq
    · cases hq
    · cases hq
      obtain ⟨-, -, -, x5, x6⟩ := hX
      have hlt : i.toNatClampNeg < strs.2.length := by have := (List.getElem?_eq_some_iff.mp hv).1; simpa using this
      have hbl : ext (2 * strs.1.length) < s.heap.size := by
        obtain ⟨scr, y1, -⟩ := x6
        exact (Array.getElem?_eq_some_iff.mp y1).1
      rw [List.map_cons, List.map_cons, z_cv_far]
      refine va_sld hx hb x6 hbl (fun q => absurd x5 (Nat.not_lt.mpr q)) hS (z_in h0 hlt) hd ?_
      rw [List.getElem?_map] at hv
      cases hb3 : strs.2[i.toNatClampNeg]? with
      | none => rw [hb3] at hv; cases hv
      | some w =>
        rw [hb3] at hv
        cases hv
        have e9 : strs.2.getD i.toNatClampNeg 0 = w := by simp [hb3]
        rw [e9]
        exact k
  case caload =>
    obtain ⟨i, a, r, v, cell, e1, e2, e3, e4, e5, e6, rfl⟩ := rd 2 _ _ a2 (by decide) (by decide) h
    rw [e1]
    exact W.cald hx hb e2 e3 e4 e5 e6 rfl rfl hd k
  case laload =>
    obtain ⟨i, a, r, v, cell, e1, e2, e3, e4, e5, e6, rfl⟩ := rd 4 _ _ a4 (by decide) (by decide) h
    rw [e1]
    exact W.lald hx hb e2 e3 e4 e5 e6 rfl rfl hd k
  case baload =>
    have h : (z_al 101 z_isI (z_lk strs P) st).or (z_al 100 z_isI (z_lk strs P) st) = some st' := h
    cases h1 : z_al 101 z_isI (z_lk strs P) st with
    | some w =>
      rw [h1] at h
      cases h
      obtain ⟨i, a, r, vs, v, rfl, hP, h0, hv, -, rfl⟩ := z_al_spec h1
      rcases z_lk_far hP with hP | ⟨j, b, hb2, ⟨rfl, hq⟩ | ⟨rfl, hq⟩⟩ | ⟨-, hq⟩
      rotate_left 3
      · cases hq
      · have hq := (hR.at hP).2 (by show 100 ≤ 101; omega)
        have hlt : i.toNatClampNeg < vs.length := (List.getElem?_eq_some_iff.mp hv).1
        rw [List.map_cons, List.map_cons, hR.near hP]
        exact W.bald hx hb hq ((hK.2 1 _ a1).1 _ _) (fun q => by cases q) (by rw [arrV_size]; exact z_in h0 hlt) (z_arr_read hv) rfl rfl hd k
      · cases hq
      · cases hq
        have hj : j < strs.1.length := (List.getElem?_eq_some_iff.mp hb2).1
        obtain ⟨-, -, -, x4⟩ := hX.1.1 j hj
        have hlt : i.toNatClampNeg < b.length := by have := (List.getElem?_eq_some_iff.mp hv).1; simpa using this
        have e1 : (strs.1.map List.length).getD j 0 = b.length := by simp [hb2]
        have e2 : strs.1.getD j [] = b := by simp [hb2]
        rw [e1, e2] at x4
        rw [List.map_cons, List.map_cons, z_cv_far]
        refine va_tb hx hb x4 hS (z_in h0 hlt) (v := z_cv ext base v) ?_ hd k
        rw [List.getElem?_map] at hv
        cases hb3 : b[i.toNatClampNeg]? with
        | none => rw [hb3] at hv; cases hv
        | some w =>
          rw [hb3] at hv
          cases hv
          simp [hb3, z_cv]
    | none =>
      rw [h1] at h
      obtain ⟨i, a, r, v, cell, e1, e2, e3, e4, e5, e6, rfl⟩ := rd 0 _ _ a0 (by decide) (by decide) h
      rw [e1]
      exact W.zald hx hb e2 e3 e4 e5 e6 rfl rfl hd k
  case aaload =>
    obtain ⟨i, a, r, t, vs, v, rfl, hP, h5, hlt, h0, hv, -, rfl⟩ := z_alq_spec h
    have hP := z_lk_near hP (by show t ≠ 98; omega) (by show t ≠ 101; omega) (by show t ≠ 103; omega)
    have hq := (hR.at hP).2 (by show 100 ≤ t; omega)
    have hil : i.toNatClampNeg < vs.length := (List.getElem?_eq_some_iff.mp hv).1
    obtain ⟨ty, hty⟩ : ∃ ty, aty[t - 100]? = some ty := ⟨_, List.getElem?_eq_getElem (by omega)⟩
    rw [List.map_cons, List.map_cons, hR.near hP]
    exact W.aald hx hb hq ((hK.2 _ ty hty).1 _ _) (a5 _ _ (by omega) hty) (fun q => by cases q) (by rw [arrV_size]; exact z_in h0 hil) (z_arr_read hv) rfl rfl hd k
  case arraylength =>
    obtain ⟨a, r, t, vs, rfl, hP, h5, hlt, rfl⟩ := z_alen_spec h
    rcases z_lk_far hP with hP | ⟨j, b, hb2, ⟨rfl, hq⟩ | ⟨rfl, hq⟩⟩ | ⟨rfl, hq⟩
    rotate_left
    · cases hq
      omega
    rotate_left
    · cases hq
      obtain ⟨-, -, -, x5, x6⟩ := hX
      have hbl : ext (2 * strs.1.length) < s.heap.size := by
        obtain ⟨scr, y1, -⟩ := x6
        exact (Array.getElem?_eq_some_iff.mp y1).1
      rw [List.map_cons, z_cv_far]
      refine va_slen hx hb x6 hbl (fun q => absurd x5 (Nat.not_lt.mpr q)) hS hd ?_
      rw [List.map_cons, List.length_map] at k
      exact k
    rotate_left
    · cases hq
      have hj : j < strs.1.length := (List.getElem?_eq_some_iff.mp hb2).1
      obtain ⟨-, -, -, x4⟩ := hX.1.1 j hj
      have e1 : (strs.1.map List.length).getD j 0 = b.length := by simp [hb2]
      rw [e1] at x4
      rw [List.map_cons, z_cv_far]
      exact va_tlen hx hb x4 hS (by simp) hd k
    have hq := (hR.at hP).2 (by show 100 ≤ t; omega)
    obtain ⟨ty, hty⟩ : ∃ ty, aty[t - 100]? = some ty := ⟨_, List.getElem?_eq_getElem (by omega)⟩
    rw [List.map_cons, hR.near hP]
    exact W.alen hx hb hq ((hK.2 _ ty hty).1 _ _) (n := Int32.ofNat vs.length) (by rw [arrV_size]) rfl rfl hd k
  all_goals (cases h)
end ZSIMR
