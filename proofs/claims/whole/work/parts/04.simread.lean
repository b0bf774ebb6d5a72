section ZSIMR
variable {p : Program} {l : Launch} {e : Env} {R : Room} {s : State} {m : MethodId} {args : Array Value} {below : List Frame} {meth : Method} {c : Code} {H : Heap} {locs : List Loc} {cells slots : Nat} {Q : State → Prop}
theorem z_al_spec {t : Nat} {k : Value → Bool} {P : z_H} {st st' : List Value} (h : z_al t k P st = some st') : ∃ (i : Int32) (a : Nat) (r : List Value) (vs : List Value) (v : Value), st = .int i :: .ref a :: r ∧ P[a]? = some (t, vs) ∧ 0 ≤ i.toInt ∧ vs[i.toNatClampNeg]? = some v ∧ k v = true ∧ st' = v :: r := by
  unfold z_al at h
  split at h
  · rename_i i a r
    split at h
    · rename_i q hq
      split at h
      · rename_i h1
        split at h
        · rename_i v hv
          split at h
          · rename_i hk
            cases h
            exact ⟨i, a, r, q.2, v, rfl, by rw [hq, ← h1.1], h1.2, hv, hk, rfl⟩
          · cases h
        · cases h
      · cases h
    · cases h
  · cases h
theorem z_alq_spec {nA : Nat} {P : z_H} {st st' : List Value} (h : z_alq nA P st = some st') : ∃ (i : Int32) (a : Nat) (r : List Value) (t : Nat) (vs : List Value) (v : Value), st = .int i :: .ref a :: r ∧ P[a]? = some (t, vs) ∧ 105 ≤ t ∧ t < 100 + nA ∧ 0 ≤ i.toInt ∧ vs[i.toNatClampNeg]? = some v ∧ z_isA v = true ∧ st' = v :: r := by
  unfold z_alq at h
  split at h
  · rename_i i a r
    split at h
    · rename_i q hq
      split at h
      · rename_i h1
        split at h
        · rename_i v hv
          split at h
          · rename_i hk
            cases h
            exact ⟨i, a, r, q.1, q.2, v, rfl, hq, h1.1, h1.2.1, h1.2.2, hv, hk, rfl⟩
          · cases h
        · cases h
      · cases h
    · cases h
  · cases h
theorem z_alen_spec {nA : Nat} {P : z_H} {st st' : List Value} (h : z_alen nA P st = some st') : ∃ (a : Nat) (r : List Value) (t : Nat) (vs : List Value), st = .ref a :: r ∧ P[a]? = some (t, vs) ∧ 100 ≤ t ∧ t < 100 + nA ∧ st' = .int (Int32.ofNat vs.length) :: r := by
  unfold z_alen at h
  split at h
  · rename_i a r
    split at h
    · rename_i q hq
      split at h
      · rename_i h1
        cases h
        exact ⟨a, r, q.1, q.2, rfl, hq, h1.1, h1.2, rfl⟩
      · cases h
    · cases h
  · cases h
theorem z_gf_spec {fk : Option (Nat × Nat)} {P : z_H} {st st' : List Value} (h : z_gf fk P st = some st') : ∃ (a : Nat) (r : List Value) (ci f : Nat) (vs : List Value) (v : Value), st = .ref a :: r ∧ fk = some (ci, f) ∧ P[a]? = some (ci, vs) ∧ ci < 99 ∧ vs[f]? = some v ∧ st' = v :: r := by
  unfold z_gf at h
  split at h
  · rename_i a r
    split at h
    · rename_i f
      split at h
      · rename_i q hq
        split at h
        · rename_i h1
          split at h
          · rename_i v hv
            cases h
            exact ⟨a, r, f.1, f.2, q.2, v, rfl, rfl, by rw [hq, ← h1.1], by rw [← h1.1]; exact h1.2, hv, rfl⟩
          · cases h
        · cases h
      · cases h
    · cases h
  · cases h
/-- the five kinds of numbers stand first among the arrays, behind them references alone -/
def z_aty (aty : List FieldType) : Prop := aty[0]? = some .boolean ∧ aty[1]? = some .byte ∧ aty[2]? = some .char ∧ aty[3]? = some .int ∧ aty[4]? = some .long ∧ ∀ (i : Nat) (t : FieldType), 5 ≤ i → aty[i]? = some t → t.isReference = true
theorem z_in {i : Int32} {n : Nat} (h0 : 0 ≤ i.toInt) (h : i.toNatClampNeg < n) : ¬ (i < 0 ∨ n ≤ i.toNatClampNeg) := by
  rintro (q | q)
  · rw [Int32.lt_iff_toInt_lt] at q
    have : (0 : Int32).toInt = 0 := by decide
    omega
  · omega
theorem z_arr_read {cA : ClassId} {cv : Value → Value} {vs : List Value} {j : Nat} {v : Value} (h : vs[j]? = some v) : (arrV cA vs.length (fun j => cv (vs.getD j .null))).slots[j]? = some (cv v) := by
  have hj : j < vs.length := (List.getElem?_eq_some_iff.mp h).1
  rw [arrV_read cA _ hj]
  simp [h]
/-- what the pool says of a field: its link, plainly or as a nest mate's -/
def z_fl (s : State) (args : Array Value) (own : String) (n : Nat) (f : String × String × String × Bool) : Prop :=
  (Cond.fieldLink own n f.1 f.2.1 f.2.2.1).before args s = true ∨ ∃ host, (Cond.fieldLinkNest own n f.1 f.2.1 f.2.2.1 host).before args s = true
/-- what the words say of the classes -/
def z_CL (cl : List vw_C) (Ts : List Cond) : Prop := ∀ (ci : Nat) (r : vw_C), cl[ci]? = some r → (∀ w ∈ u_ws r.1 r.2.1 r.2.2, w ∈ Ts) ∧ (∃ ty : Nat → FieldType, ∀ k, k < r.2.2 → parseFieldDescriptor (r.2.1 k).2.2.1 = some (ty k)) ∧ ∀ a, a < r.2.2 → ∀ b, b < r.2.2 → a ≠ b → (r.2.1 a).2.1 ≠ (r.2.1 b).2.1
set_option maxHeartbeats 4000000 in
theorem z_sim_rd {D : va_G} {cl : List vw_C} {ta : Nat → ClassId} {aty : List FieldType} {ext : Nat → Nat} {base : Nat} {Ts : List Cond} {own : String} {P : z_H} {fld : Nat → Option (Nat × Nat)}
    {cc : ByteArray} (hx : p.tables.exec = Jvm.exec) (hb : c.code = cc) (hts : ∀ w ∈ Ts, w.before args s = true) (hown : s.vm.findClass own = some m.cls) (hK : z_K D cl ta aty s) (hA : z_aty aty) (hC : z_CL cl Ts) (hR : z_R D cl ta ext base P H)
    {ins : Instr} {len pc : Nat} {ls : Array Slot} {st st' : List Value} (hfl : ∀ n ci k r, ins = .getfield n → fld n = some (ci, k) → cl[ci]? = some r → k < r.2.2 ∧ z_fl s args own n (r.2.1 k)) (hd : decode cc pc = .ok (ins, len)) (hlen : len = z_len ins) (h : z_rd fld aty.length P ins st = some st')
    (k : W p l e R s m args below meth c H locs cells slots Q (F0 m (pc + len) ls (st'.map (z_cv ext base)))) : W p l e R s m args below meth c H locs cells slots Q (F0 m pc ls (st.map (z_cv ext base))) := by
  subst hlen
  obtain ⟨a0, a1, a2, a3, a4, a5⟩ := hA
  have rd : ∀ (t : Nat) (ty : FieldType) (kd : Value → Bool), aty[t]? = some ty → z_al (100 + t) kd P st = some st' →
      ∃ (i : Int32) (a : Nat) (r : List Value) (v : Value) (cell : Cell), st.map (z_cv ext base) = .int i :: .ref (base + a) :: r.map (z_cv ext base) ∧ H[base + a]? = some cell ∧ s.isArrayOf cell ty ∧ cell.vm ≠ .unknown ∧ ¬ (i < 0 ∨ cell.slots.size ≤ i.toNatClampNeg) ∧ cell.slots[i.toNatClampNeg]? = some (z_cv ext base v) ∧ st' = v :: r := by
    intro t ty kd hty hz
    obtain ⟨i, a, r, vs, v, rfl, hP, h0, hv, -, rfl⟩ := z_al_spec hz
    have hq := (hR.at hP).2 (by show 100 ≤ 100 + t; omega)
    have hlt : i.toNatClampNeg < vs.length := (List.getElem?_eq_some_iff.mp hv).1
    have ht : 100 + t - 100 = t := by omega
    refine ⟨i, a, r, v, _, by rw [List.map_cons, List.map_cons, hR.near hP]; rfl, hq, ?_, (fun q => by cases q), ?_, z_arr_read hv, rfl⟩
    · show s.isArrayOf (arrV (ta (100 + t - 100)) _ _) ty
      rw [ht]
      exact (hK.2 t ty hty).1 _ _
    · rw [arrV_size]
      exact z_in h0 hlt
  cases ins
  case getfield n =>
    obtain ⟨a, r, ci, f, vs, v, rfl, hf, hP, hci, hv, rfl⟩ := z_gf_spec h
    obtain ⟨⟨C, T, N⟩, hr, hN, hO⟩ := (hR.at hP).1 hci
    obtain ⟨hkN, hlk⟩ := hfl n ci f _ rfl hf hr
    have hW : va_P D cl [(base + a, .inr (ci, vs.map (z_cv ext base)))] H := fun j q hj => by
      match j, hj with
      | 0, hj => cases hj; exact ⟨_, hr, hO⟩
      | j + 1, hj => simp at hj
    have hv' : (vs.map (z_cv ext base))[f]? = some (z_cv ext base v) := by simp [hv]
    rw [List.map_cons, hR.near hP]
    rcases hlk with hlk | ⟨host, hlk⟩
    · exact va_get hx hb hts (hC ci _ hr).1 hown hK.va hW 0 rfl hr f hkN hlk (fun _ q => q) hv' hd k
    · exact va_getN hx hb hts (hC ci _ hr).1 hown hK.va hW 0 rfl hr f hkN hlk (fun _ q => q) hv' hd k
  case iaload =>
    obtain ⟨i, a, r, v, cell, e1, e2, e3, e4, e5, e6, rfl⟩ := rd 3 _ _ a3 h
    rw [e1]
    exact W.iald hx hb e2 e3 e4 e5 e6 rfl rfl hd k
  case caload =>
    obtain ⟨i, a, r, v, cell, e1, e2, e3, e4, e5, e6, rfl⟩ := rd 2 _ _ a2 h
    rw [e1]
    exact W.cald hx hb e2 e3 e4 e5 e6 rfl rfl hd k
  case laload =>
    obtain ⟨i, a, r, v, cell, e1, e2, e3, e4, e5, e6, rfl⟩ := rd 4 _ _ a4 h
    rw [e1]
    exact W.lald hx hb e2 e3 e4 e5 e6 rfl rfl hd k
  case baload =>
    have h : (z_al 101 z_isI P st).or (z_al 100 z_isI P st) = some st' := h
    cases h1 : z_al 101 z_isI P st with
    | some w =>
      rw [h1] at h
      cases h
      obtain ⟨i, a, r, v, cell, e1, e2, e3, e4, e5, e6, rfl⟩ := rd 1 _ _ a1 h1
      rw [e1]
      exact W.bald hx hb e2 e3 e4 e5 e6 rfl rfl hd k
    | none =>
      rw [h1] at h
      obtain ⟨i, a, r, v, cell, e1, e2, e3, e4, e5, e6, rfl⟩ := rd 0 _ _ a0 h
      rw [e1]
      exact W.zald hx hb e2 e3 e4 e5 e6 rfl rfl hd k
  case aaload =>
    obtain ⟨i, a, r, t, vs, v, rfl, hP, h5, hlt, h0, hv, -, rfl⟩ := z_alq_spec h
    have hq := (hR.at hP).2 (by show 100 ≤ t; omega)
    have hil : i.toNatClampNeg < vs.length := (List.getElem?_eq_some_iff.mp hv).1
    obtain ⟨ty, hty⟩ : ∃ ty, aty[t - 100]? = some ty := ⟨_, List.getElem?_eq_getElem (by omega)⟩
    rw [List.map_cons, List.map_cons, hR.near hP]
    exact W.aald hx hb hq ((hK.2 _ ty hty).1 _ _) (a5 _ _ (by omega) hty) (fun q => by cases q) (by rw [arrV_size]; exact z_in h0 hil) (z_arr_read hv) rfl rfl hd k
  case arraylength =>
    obtain ⟨a, r, t, vs, rfl, hP, h5, hlt, rfl⟩ := z_alen_spec h
    have hq := (hR.at hP).2 (by show 100 ≤ t; omega)
    obtain ⟨ty, hty⟩ : ∃ ty, aty[t - 100]? = some ty := ⟨_, List.getElem?_eq_getElem (by omega)⟩
    rw [List.map_cons, hR.near hP]
    exact W.alen hx hb hq ((hK.2 _ ty hty).1 _ _) (n := Int32.ofNat vs.length) (by rw [arrV_size]) rfl rfl hd k
  all_goals (cases h)
end ZSIMR
