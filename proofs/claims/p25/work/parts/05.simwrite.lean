section ZSIMW
variable {p : Program} {l : Launch} {e : Env} {R : Room} {s : State} {m : MethodId} {args : Array Value} {below : List Frame} {meth : Method} {c : Code} {H : Heap} {locs : List Loc} {cells slots : Nat} {Q : State → Prop}
theorem z_as_spec {t : Nat} {nf : Int32 → Int32} {P P' : z_H} {st st' : List Value} (h : z_as t nf P st = some (st', P')) : ∃ (x i : Int32) (a : Nat) (vs : List Value), st = .int x :: .int i :: .ref a :: st' ∧ P[a]? = some (t, vs) ∧ 0 ≤ i.toInt ∧ i.toNatClampNeg < vs.length ∧ P' = P.set a (t, vs.set i.toNatClampNeg (.int (nf x))) := by
  unfold z_as at h
  split at h
  · rename_i x i a r
    split at h
    · rename_i q hq
      split at h
      · rename_i h1
        cases h
        exact ⟨x, i, a, q.2, rfl, by rw [hq, ← h1.1], h1.2.1, h1.2.2, rfl⟩
      · cases h
    · cases h
  · cases h
theorem z_las_spec {P P' : z_H} {st st' : List Value} (h : z_las P st = some (st', P')) : ∃ (x : Int64) (i : Int32) (a : Nat) (vs : List Value), st = .long x :: .int i :: .ref a :: st' ∧ P[a]? = some (104, vs) ∧ 0 ≤ i.toInt ∧ i.toNatClampNeg < vs.length ∧ P' = P.set a (104, vs.set i.toNatClampNeg (.long x)) := by
  unfold z_las at h
  split at h
  · rename_i x i a r
    split at h
    · rename_i q hq
      split at h
      · rename_i h1
        cases h
        exact ⟨x, i, a, q.2, rfl, by rw [hq, ← h1.1], h1.2.1, h1.2.2, rfl⟩
      · cases h
    · cases h
  · cases h
theorem z_aas_spec {ac : Nat → Option Nat} {P P' : z_H} {st st' : List Value} (h : z_aas ac P st = some (st', P')) : ∃ (v : Nat) (i : Int32) (a t ci : Nat) (vs ws : List Value), st = .ref v :: .int i :: .ref a :: st' ∧ P[a]? = some (t, vs) ∧ P[v]? = some (ci, ws) ∧ 105 ≤ t ∧ ci < 99 ∧ ac (t - 100) = some ci ∧ 0 ≤ i.toInt ∧ i.toNatClampNeg < vs.length ∧ P' = P.set a (t, vs.set i.toNatClampNeg (.ref v)) := by
  unfold z_aas at h
  split at h
  · rename_i v i a r
    split at h
    · rename_i q hq
      split at h
      · rename_i w hw
        split at h
        · rename_i h1
          cases h
          exact ⟨v, i, a, q.1, w.1, q.2, w.2, rfl, hq, hw, h1.1, h1.2.1, h1.2.2.1, h1.2.2.2.1, h1.2.2.2.2, rfl⟩
        · cases h
      · cases h
    · cases h
  · cases h
theorem z_pf_spec {fk : Option (Nat × Nat)} {fty : Nat → Nat → FieldType} {fin : Nat → Nat → Bool} {ini : Option Nat} {P P' : z_H} {st st' : List Value} (h : z_pf fk fty fin ini P st = some (st', P')) :
    ∃ (v : Value) (a ci f : Nat) (vs : List Value), st = v :: .ref a :: st' ∧ fk = some (ci, f) ∧ P[a]? = some (ci, vs) ∧ ci < 99 ∧ f < vs.length ∧ fits (fty ci f) v = true ∧ narrow (fty ci f) v = v ∧ (fin ci f = false ∨ ini = some ci) ∧ P' = P.set a (ci, vs.set f v) := by
  unfold z_pf at h
  split at h
  · rename_i v a r
    split at h
    · rename_i f
      split at h
      · rename_i q hq
        split at h
        · rename_i h1
          cases h
          exact ⟨v, a, f.1, f.2, q.2, rfl, rfl, by rw [hq, ← h1.1], by rw [← h1.1]; exact h1.2.1, h1.2.2.1, h1.2.2.2.1, h1.2.2.2.2.1, h1.2.2.2.2.2, rfl⟩
        · cases h
      · cases h
    · cases h
  · cases h
theorem z_cv_fits {ext : Nat → Nat} {base : Nat} {ty : FieldType} {v : Value} (h : fits ty v = true) : fits ty (z_cv ext base v) = true := by
  cases v <;> first | exact h | (cases ty <;> first | exact h | rfl)
theorem z_cv_narrow {ext : Nat → Nat} {base : Nat} {ty : FieldType} {v : Value} (h : narrow ty v = v) : narrow ty (z_cv ext base v) = z_cv ext base v := by
  cases v <;> first | exact h | (cases ty <;> rfl)
/-- what the pool's tables say of the fields' types -/
def z_FT (cl : List vw_C) (fty : Nat → Nat → FieldType) (fin : Nat → Nat → Bool) : Prop := ∀ (ci : Nat) (r : vw_C) (k : Nat), cl[ci]? = some r → k < r.2.2 → parseFieldDescriptor (r.2.1 k).2.2.1 = some (fty ci k) ∧ fin ci k = (r.2.1 k).2.2.2
theorem z_arr_at {D : va_G} {cl : List vw_C} {ta : Nat → ClassId} {cv : Value → Value} {t j a : Nat} {vs : List Value} {v : Value} {H1 : Heap} (ht : 100 ≤ t) (hj : j < vs.length)
    (h : H1[a]? = some ((arrV (ta (t - 100)) vs.length (fun j => cv (vs.getD j .null))).setSlot j (cv v))) : z_at D cl ta cv (t, vs.set j v) a H1 := by
  refine ⟨fun n => absurd n (by show ¬ t < 99; omega), fun _ => ?_⟩
  rw [h]
  show _ = some (arrV (ta (t - 100)) (vs.set j v).length (fun i => cv ((vs.set j v).getD i .null)))
  rw [arrV_store, List.length_set]
  congr 2
  funext i
  by_cases hi : i = j
  · subst hi
    simp [updV, hj]
  · simp [updV, hi, List.getElem?_set, Ne.symm hi]
set_option maxHeartbeats 8000000 in
theorem z_sim_wr {D : va_G} {cl : List vw_C} {ta : Nat → ClassId} {aty : List FieldType} {ext : Nat → Nat} {base : Nat} {Ts : List Cond} {own : String} {P P' : z_H} {fld : Nat → Option (Nat × Nat)} {fty : Nat → Nat → FieldType} {fin : Nat → Nat → Bool} {ini : Option Nat} {ac : Nat → Option Nat} {A : Nat → Prop} {H0 : Heap}
    {cc : ByteArray} (hx : p.tables.exec = Jvm.exec) (hb : c.code = cc) (hts : ∀ w ∈ Ts, w.before args s = true) (hown : s.vm.findClass own = some m.cls) (hK : z_K D cl ta aty s) (hA : z_aty aty) (hC : z_CL cl Ts) (hF : z_FT cl fty fin) (hR : z_R D cl ta ext base P H) (hS : va_S A H0 H locs) (hAb : ∀ q, base ≤ q → A q)
    (hac : ∀ i ci, ac i = some ci → ∃ r, cl[ci]? = some r ∧ aty[i]? = some (.object r.1)) (hini : ∀ ci r k, ini = some ci → cl[ci]? = some r → k < r.2.2 → meth.name = "<init>" ∧ (r.2.1 k).1 = own)
    {ins : Instr} {len pc : Nat} {ls : Array Slot} {st st' : List Value} (hfl : ∀ n ci k r, ins = .putfield n → fld n = some (ci, k) → cl[ci]? = some r → k < r.2.2 ∧ z_fl s args own n (r.2.1 k) ∧ (fin ci k = true → ini = some ci → (Cond.fieldLink own n (r.2.1 k).1 (r.2.1 k).2.1 (r.2.1 k).2.2.1).before args s = true)) (hd : decode cc pc = .ok (ins, len)) (hlen : len = z_len ins) (h : z_wr fld fty fin ini ac P ins st = some (st', P'))
    (k : ∀ H1 locs1, z_R D cl ta ext base P' H1 → va_S A H0 H1 locs1 → W p l e R s m args below meth c H1 locs1 cells slots Q (F0 m (pc + len) ls (st'.map (z_cv ext base)))) : W p l e R s m args below meth c H locs cells slots Q (F0 m pc ls (st.map (z_cv ext base))) := by
  subst hlen
  obtain ⟨a0, a1, a2, a3, a4, a5⟩ := hA
  have wr : ∀ (t : Nat) (ty : FieldType) (nf : Int32 → Int32), aty[t]? = some ty → z_as (100 + t) nf P st = some (st', P') →
      ∃ (x i : Int32) (a : Nat) (cell : Cell), st.map (z_cv ext base) = .int x :: .int i :: .ref (base + a) :: st'.map (z_cv ext base) ∧ H[base + a]? = some cell ∧ s.isArrayOf cell ty ∧ cell.vm ≠ .unknown ∧ ¬ (i < 0 ∨ cell.slots.size ≤ i.toNatClampNeg) ∧
        ∀ H1 : Heap, H1[base + a]? = some (cell.setSlot i.toNatClampNeg (.int (nf x))) → H1.size = H.size → (∀ q, q ≠ base + a → H1[q]? = H[q]?) → z_R D cl ta ext base P' H1 ∧ va_S A H0 H1 (locs ++ [⟨base + a, i.toNatClampNeg⟩]) := by
    intro t ty nf hty hz
    obtain ⟨x, i, a, vs, rfl, hP, h0, hlt, rfl⟩ := z_as_spec hz
    have hq := (hR.at hP).2 (by show 100 ≤ 100 + t; omega)
    have ht : 100 + t - 100 = t := by omega
    refine ⟨x, i, a, _, by rw [List.map_cons, List.map_cons, List.map_cons, hR.near hP]; rfl, hq, ?_, (fun q => by cases q), ?_, fun H1 e1 e2 e3 => ⟨hR.set e2 e3 (z_arr_at (v := .int (nf x)) (by omega) hlt e1), hS.put e2 e3 (hAb _ (Nat.le_add_right _ _))⟩⟩
    · show s.isArrayOf (arrV (ta (100 + t - 100)) _ _) ty
      rw [ht]
      exact (hK.2 t ty hty).1 _ _
    · rw [arrV_size]
      exact z_in h0 hlt
  cases ins
  case putfield n =>
    obtain ⟨v, a, ci, f, vs, rfl, hf, hP, hci, hlf, hfit, hnar, hfin, rfl⟩ := z_pf_spec h
    obtain ⟨⟨C, T, N⟩, hr, hN, cell, g1, g2, g3, g4⟩ := (hR.at hP).1 hci
    obtain ⟨hkN, hlk, hlkF⟩ := hfl n ci f _ rfl hf hr
    obtain ⟨hin, ⟨ty, hty⟩, hnm⟩ := hC ci _ hr
    obtain ⟨hft, hff⟩ := hF ci _ f hr hkN
    have hap := va_apart (own := own) hts hin ty hty hnm hK.va hr
    obtain ⟨hSl, hfc, kC, hkC, hkind⟩ := hK.1 ci _ hr
    obtain ⟨cf, kf, fi, fd, hi, hsl⟩ := hSl f hkN
    have hlay := hts _ (hin _ (u_in_lay hkN))
    have hst := (u_facts hfc hkC (u_lays hts hin hkN) hi).1
    have hlen2 : (vs.map (z_cv ext base)).length = vs.length := List.length_map _
    have key : ∀ H1 : Heap, H1[base + a]? = some (cell.setSlot fd.slot (z_cv ext base v)) → H1.size = H.size → (∀ q, q ≠ base + a → H1[q]? = H[q]?) → z_R D cl ta ext base (P.set a (ci, vs.set f v)) H1 ∧ va_S A H0 H1 (locs ++ [⟨base + a, fd.slot⟩]) := by
      intro H1 e1 e2 e3
      refine ⟨hR.set e2 e3 ⟨fun _ => ⟨_, hr, by rw [List.length_set]; exact hN, ?_⟩, fun n => absurd n (by show ¬ 100 ≤ ci; omega)⟩, hS.put e2 e3 (hAb _ (Nat.le_add_right _ _))⟩
      show t_OB (base + a) (D.1 ci) N (D.2 ci) H1 (vp_V ((vs.set f v).map (z_cv ext base)))
      rw [List.map_set]
      rw [hsl] at e1
      exact t_OB.to (V := updV (vp_V (vs.map (z_cv ext base))) f (z_cv ext base v)) ⟨_, e1, g2, g3, t_set g4 hap hkN _⟩ (fun j _ => vp_updV_set (by rw [hlen2]; exact hlf) _ j)
    rw [List.map_cons, List.map_cons, hR.near hP]
    unfold u_lay at hlay
    by_cases hfb : (T f).2.2.2 = true
    · rw [if_pos hfb] at hlay
      have hini' : ini = some ci := by
        rcases hfin with q | q
        · rw [hff] at q
          rw [show (T f).2.2.2 = false from q] at hfb
          cases hfb
        · exact q
      obtain ⟨hin2, hdecl⟩ := hini ci _ f hini' hr hkN
      have hlk2 := hlkF (by rw [hff]; exact hfb) hini'
      have hcf : m.cls = cf := by
        obtain ⟨_, _, c', _, _, _, -, -, hf', -, -, -, hown2, -⟩ := Cond.laysFinal_spec hlay
        have e1 : c' = cf := by have := hi.symm.trans hf'; simp at this; exact this.1.symm
        rw [hdecl] at hown2
        rw [← e1]; exact Option.some.inj (hown.symm.trans hown2)
      have h6 := u_fits hfc hkC hkind (Or.inr hlay) hi hft (z_cv_narrow (ext := ext) (base := base) hnar) (z_cv_fits hfit)
      refine W.putFinK hx hb hown hlk2 hi hst hcf hin2 (by rw [g2]; exact h6) g1 g3 (by rw [hsl]; exact k2_hasslot (g4 f hkN)) rfl rfl hd fun H1 e1 e2 e3 => ?_
      obtain ⟨r1, r2⟩ := key H1 e1 e2 e3
      exact k _ _ r1 r2
    · rw [if_neg hfb] at hlay
      have h6 := u_store hfc hkC hkind hlay hi hft (z_cv_narrow (ext := ext) (base := base) hnar) (z_cv_fits hfit)
      rcases hlk with hlk | ⟨host, hlk⟩
      · refine W.putK hx hb (f := fd) ⟨hown, hlk, ⟨_, _, _, hi⟩, hst⟩ (by rw [g2]; exact h6) g1 g3 (by rw [hsl]; exact k2_hasslot (g4 f hkN)) rfl rfl hd fun H1 e1 e2 e3 => ?_
        obtain ⟨r1, r2⟩ := key H1 e1 e2 e3
        exact k _ _ r1 r2
      · refine va_WputK hx hb (f := fd) hown hlk hi hst (by rw [g2]; exact h6) g1 g3 (by rw [hsl]; exact k2_hasslot (g4 f hkN)) rfl rfl hd fun H1 e1 e2 e3 => ?_
        obtain ⟨r1, r2⟩ := key H1 e1 e2 e3
        exact k _ _ r1 r2
  case iastore =>
    obtain ⟨x, i, a, cell, e1, e2, e3, e4, e5, kk⟩ := wr 3 _ _ a3 h
    rw [e1]
    exact W.iast hx hb e2 e3 e4 e5 rfl rfl hd fun H1 f1 f2 f3 => k _ _ (kk H1 f1 f2 f3).1 (kk H1 f1 f2 f3).2
  case castore =>
    obtain ⟨x, i, a, cell, e1, e2, e3, e4, e5, kk⟩ := wr 2 _ _ a2 h
    rw [e1]
    exact W.cast hx hb e2 e3 e4 e5 rfl rfl hd fun H1 f1 f2 f3 => k _ _ (kk H1 f1 f2 f3).1 (kk H1 f1 f2 f3).2
  case bastore =>
    have h : (z_as 101 (fun x => x.toInt8.toInt32) P st).or (z_as 100 (fun x => x &&& 1) P st) = some (st', P') := h
    cases h1 : z_as 101 (fun x => x.toInt8.toInt32) P st with
    | some w =>
      rw [h1] at h
      cases h
      obtain ⟨x, i, a, cell, e1, e2, e3, e4, e5, kk⟩ := wr 1 _ _ a1 h1
      rw [e1]
      exact W.bast hx hb e2 e3 e4 e5 rfl rfl hd fun H1 f1 f2 f3 => k _ _ (kk H1 f1 f2 f3).1 (kk H1 f1 f2 f3).2
    | none =>
      rw [h1] at h
      obtain ⟨x, i, a, cell, e1, e2, e3, e4, e5, kk⟩ := wr 0 _ _ a0 h
      rw [e1]
      exact W.zast hx hb e2 e3 e4 e5 rfl rfl hd fun H1 f1 f2 f3 => k _ _ (kk H1 f1 f2 f3).1 (kk H1 f1 f2 f3).2
  case lastore =>
    obtain ⟨x, i, a, vs, rfl, hP, h0, hlt, rfl⟩ := z_las_spec h
    have hq := (hR.at hP).2 (by show 100 ≤ 104; omega)
    rw [List.map_cons, List.map_cons, List.map_cons, hR.near hP]
    exact W.last hx hb hq ((hK.2 4 _ a4).1 _ _) (fun q => by cases q) (by rw [arrV_size]; exact z_in h0 hlt) rfl rfl hd fun H1 f1 f2 f3 => k _ _ (hR.set f2 f3 (z_arr_at (v := .long x) (by omega) hlt f1)) (hS.put f2 f3 (hAb _ (Nat.le_add_right _ _)))
  case aastore =>
    obtain ⟨v, i, a, t, ci, vs, ws, rfl, hP, hPv, h5, hci, hacc, h0, hlt, rfl⟩ := z_aas_spec h
    have hq := (hR.at hP).2 (by show 100 ≤ t; omega)
    obtain ⟨r, hr, hty⟩ := hac _ _ hacc
    obtain ⟨r', hr', -, cellV, g1, g2, g3, -⟩ := (hR.at hPv).1 hci
    have hcls := (hK.1 ci r hr).2
    obtain ⟨kA, comp, k1, k2, k3, -⟩ := (hK.2 _ _ hty).2
    have hcomp : comp = D.1 ci := Option.some.inj (k3.symm.trans hcls.1)
    subst hcomp
    obtain ⟨kC, hkC, -⟩ := hcls.2
    rw [List.map_cons, List.map_cons, List.map_cons, hR.near hP, hR.near hPv]
    refine W.aast hx hb hq (fun q h => by cases h) (fun h => by cases h) k1 k2 rfl hkC ⟨fun q => z_in h0 hlt (Or.inl q), by rw [arrV_size]; exact hlt⟩ g1 (fun q h => by rw [g3] at h; cases h) (by rw [g2]; exact hkC) (by rw [g2]; exact va_assign hcls) rfl rfl hd fun H1 f1 f2 f3 => ?_
    exact k _ _ (hR.set f2 f3 (z_arr_at (v := .ref v) (by omega) hlt (by rw [hR.near hPv]; exact f1))) (hS.put f2 f3 (hAb _ (Nat.le_add_right _ _)))
  all_goals (cases h)
end ZSIMW
