section ZSIMM
variable {p : Program} {l : Launch} {e : Env} {R : Room} {s : State} {m : MethodId} {args : Array Value} {below : List Frame} {meth : Method} {c : Code} {H : Heap} {locs : List Loc} {cells slots : Nat} {Q : State → Prop}
theorem z_mka_spec {o : Option Nat} {dv : Nat → Value} {P P' : z_H} {st st' : List Value} {dc ds : Nat} (h : z_mka o dv P st = some (st', P', dc, ds)) : ∃ (n : Int32) (r : List Value) (t : Nat), st = .int n :: r ∧ o = some t ∧ 0 ≤ n.toInt ∧ n.toNatClampNeg ≤ 10000 ∧ P.length < z_far ∧ st' = .ref P.length :: r ∧ P' = P ++ [(100 + t, List.replicate n.toNatClampNeg (dv t))] ∧ dc = 1 ∧ ds = n.toNatClampNeg := by
  unfold z_mka at h
  split at h
  · rename_i n r
    split at h
    · rename_i t
      split at h
      · rename_i h1
        cases h
        exact ⟨n, r, t, rfl, rfl, h1.1, h1.2.1, h1.2.2, rfl, rfl, rfl, rfl⟩
      · cases h
    · cases h
  · cases h
theorem z_mkm_spec {o : Option (Nat × Nat)} {P P' : z_H} {st st' : List Value} {dc ds : Nat} (h : z_mkm o P st = some (st', P', dc, ds)) : ∃ (k n : Int32) (r : List Value) (to ti : Nat), st = .int k :: .int n :: r ∧ o = some (to, ti) ∧ 0 ≤ n.toInt ∧ 0 ≤ k.toInt ∧ n.toNatClampNeg ≤ 10000 ∧ k.toNatClampNeg ≤ 10000 ∧ P.length + 1 + n.toNatClampNeg ≤ z_far ∧ st' = .ref P.length :: r ∧
    P' = P ++ (100 + to, (List.range n.toNatClampNeg).map (fun j => .ref (P.length + 1 + j))) :: List.replicate n.toNatClampNeg (100 + ti, List.replicate k.toNatClampNeg (z_dv ti)) ∧ dc = 1 + n.toNatClampNeg ∧ ds = n.toNatClampNeg + n.toNatClampNeg * k.toNatClampNeg := by
  unfold z_mkm at h
  split at h
  · rename_i k n r
    split at h
    · rename_i t
      split at h
      · rename_i h1
        cases h
        exact ⟨k, n, r, t.1, t.2, rfl, rfl, h1.1, h1.2.1, h1.2.2.1, h1.2.2.2.1, h1.2.2.2.2, rfl, rfl, rfl, rfl⟩
      · cases h
    · cases h
  · cases h
theorem z_outer (c : ClassId) (N h0 : Nat) : ∀ i : Nat, Jvm.Free.Multi.outerC c N h0 i = arrV c N (fun j => va_rf (if j < i then some (h0 + 1 + j) else none))
  | 0 => by
    show ({ cls := c, slots := Array.replicate N .null, vm := .none } : Cell) = _
    rw [arrV_new]
    exact congrArg (arrV c N) (funext fun j => by simp [va_rf])
  | i + 1 => by
    show (Jvm.Free.Multi.outerC c N h0 i).setSlot i (.ref (h0 + 1 + i)) = _
    rw [z_outer c N h0 i, arrV_store]
    refine congrArg (arrV c N) (funext fun j => ?_)
    by_cases e : j = i
    · subst e
      simp [updV, va_rf]
    · by_cases h : j < i
      · simp [updV, e, h, Nat.lt_succ_of_lt h]
      · simp [updV, e, h, show ¬ j < i + 1 by omega]
theorem z_not_neg {n : Int32} (h : 0 ≤ n.toInt) : ¬ n < 0 := fun q => z_in (n := n.toNatClampNeg + 1) h (Nat.lt_succ_self _) (Or.inl q)
theorem z_cv_dflt {ext : Nat → Nat} {base : Nat} (t : FieldType) : z_cv ext base (defaultValue t) = defaultValue t := by cases t <;> rfl
theorem z_newarr_at {D : va_G} {cl : List vw_C} {ta : Nat → ClassId} {ext : Nat → Nat} {base t n a : Nat} {v : Value} {H1 : Heap} (hv : z_cv ext base v = v) (hn : z_cv ext base .null = .null) (h : H1[a]? = some (arrV (ta t) n (fun _ => v))) : z_at D cl ta (z_cv ext base) (100 + t, List.replicate n v) a H1 := by
  refine ⟨fun q => absurd q (by show ¬ 100 + t < 99; omega), fun _ => ?_⟩
  show H1[a]? = some (arrV (ta (100 + t - 100)) (List.replicate n v).length _)
  rw [h, List.length_replicate, show 100 + t - 100 = t by omega]
  unfold arrV
  congr 2
  apply Array.ext
  · simp
  · intro i h1 h2
    have hi : i < n := by simpa using h1
    simp [hi, hv]
theorem z_S_push {A : Nat → Prop} {H0 H H1 : Heap} {locs : List Loc} {d : Nat} (h : va_S A H0 H locs) (z : H1.size = H.size + d) (o : ∀ q : Nat, q < H.size → H1[q]? = H[q]?) : va_S A H0 H1 locs :=
  ⟨Nat.le_trans h.1 (by omega), fun x h1 h2 => (o x (Nat.lt_of_lt_of_le h1 h.1)).trans (h.2.1 x h1 h2), h.2.2⟩
theorem z_at_push {ta : Nat → ClassId} {D : va_G} {cl : List vw_C} {ext : Nat → Nat} {base : Nat} {P : z_H} {H H1 : Heap} {q' : List z_C} (h : z_R D cl ta ext base P H) (hn : P.length + q'.length ≤ z_far) (hs : H1.size = H.size + q'.length) (ho : ∀ a, a < H.size → H1[a]? = H[a]?) (h1 : ∀ (j : Nat) (q : z_C), q'[j]? = some q → z_at D cl ta (z_cv ext base) q (base + (P.length + j)) H1) : z_R D cl ta ext base (P ++ q') H1 := by
  refine ⟨by rw [hs, h.1, List.length_append]; omega, by rw [List.length_append]; exact hn, fun j q hj => ?_⟩
  rw [List.getElem?_append] at hj
  split at hj
  · rename_i e
    exact (h.at hj).kept (ho _ (by rw [h.1]; omega))
  · rename_i e
    have := h1 (j - P.length) q hj
    rwa [show P.length + (j - P.length) = j by omega] at this
set_option maxHeartbeats 8000000 in
theorem z_sim_mk {D : va_G} {cl : List vw_C} {ta : Nat → ClassId} {aty : List FieldType} {ext : Nat → Nat} {base : Nat} {Ts : List Cond} {own : String} {P P' : z_H} {cls : Nat → Option (Nat × List Value)} {aan : Nat → Option Nat} {mna : Nat → Option (Nat × Nat)} {fty : Nat → Nat → FieldType} {fin : Nat → Nat → Bool} {A : Nat → Prop} {H0 : Heap}
    {cc : ByteArray} (hx : p.tables.exec = Jvm.exec) (hb : c.code = cc) (hts : ∀ w ∈ Ts, w.before args s = true) (hown : s.vm.findClass own = some m.cls) (hK : z_K D cl ta aty s) (hA : z_aty aty) (hC : z_CL cl Ts) (hF : z_FT cl fty fin) (hR : z_R D cl ta ext base P H) (hS : va_S A H0 H locs)
    (harr : ∀ i t, i < 5 → aty[i]? = some t → (Cond.arrayClass t).before args s = true)
    {ins : Instr} {len pc dc ds : Nat} {ls : Array Slot} {st st' : List Value}
    (hcls : ∀ n ci dv, ins = .new n → cls n = some (ci, dv) → ∃ r : vw_C, cl[ci]? = some r ∧ dv.length = r.2.2 ∧ (∀ k, k < r.2.2 → dv[k]? = some (defaultValue (fty ci k))) ∧ (Cond.classLink own n r.1).before args s = true ∧ (Cond.instantiable r.1 r.2.2).before args s = true ∧ (Cond.initialized r.1).before args s = true)
    (haan : ∀ n i, ins = .anewarray n → aan n = some i → ∃ C, aty[i]? = some (.object C) ∧ (Cond.classLink own n C).before args s = true ∧ (Cond.arrayOver (.object C)).before args s = true)
    (hmna : ∀ n d io ii, ins = .multianewarray n d → mna n = some (io, ii) → ∃ t, aty[ii]? = some t ∧ ii < 5 ∧ aty[io]? = some (.array t) ∧ (Cond.classLink own n ("[" ++ (FieldType.array t).toString)).before args s = true ∧ (Cond.arrayOver (.array t)).before args s = true)
    (hd : decode cc pc = .ok (ins, len)) (hlen : len = z_len ins) (h : z_mk cls aan mna P ins st = some (st', P', dc, ds)) (hcells : cells + dc ≤ R.cells) (hslots : slots + ds ≤ R.slots)
    (k : ∀ H1, z_R D cl ta ext base P' H1 → va_S A H0 H1 locs → W p l e R s m args below meth c H1 locs (cells + dc) (slots + ds) Q (F0 m (pc + len) ls (st'.map (z_cv ext base)))) : W p l e R s m args below meth c H locs cells slots Q (F0 m pc ls (st.map (z_cv ext base))) := by
  subst hlen
  obtain ⟨a0, a1, a2, a3, a4, a5⟩ := hA
  cases ins
  case new n =>
    have h : (match cls n with | some q => if q.1 < 99 ∧ P.length < z_far then some (Value.ref P.length :: st, P ++ [q], 1, q.2.length) else none | none => none) = some (st', P', dc, ds) := h
    split at h
    · rename_i q hq
      split at h
      · rename_i h1
        obtain ⟨ci, dv⟩ := q
        cases h
        obtain ⟨⟨C, T, N⟩, hr, hN, hdv, w1, w2, w3⟩ := hcls n ci dv rfl hq
        obtain ⟨hin, -, -⟩ := hC ci _ hr
        have hKn := hK.1 ci _ hr
        have hN : dv.length = N := hN
        rw [hN] at hslots
        refine W.newcK hx hb hown w1 w2 w3 rfl hd hcells hslots hKn.2.1 rfl fun H1 kC hkC e1 z1 o1 => ?_
        have hborn := u_born (fty ci) hts hin hKn hkC e1 (fun k hk => (hF ci _ k hr hk).1)
        have hR1 : z_R D cl ta ext base (P ++ [(ci, dv)]) H1 := hR.push h1.2 z1 o1 ⟨fun _ => ⟨_, hr, hN, by
          rw [← hR.1]
          refine hborn.to fun j hj => ?_
          show _ = (dv.map (z_cv ext base)).getD j .null
          have := hdv j hj
          simp [this, z_cv_dflt]⟩, fun q => absurd q (by show ¬ 100 ≤ ci; have := h1.1; omega)⟩
        have := k H1 hR1 (z_S_push (d := 1) hS z1 o1)
        rw [hN] at this
        have e9 : z_cv ext base (.ref P.length) = .ref H.size := by rw [z_cv_near h1.2, hR.1]
        rw [List.map_cons, e9] at this
        exact this
      · cases h
    · cases h
  case newarray t =>
    obtain ⟨n, r, i, rfl, hi, h0, h1, h2, rfl, rfl, rfl, rfl⟩ := z_mka_spec h
    have key : ∀ ty : FieldType, newarray.typeOf t = ty → i < 5 → aty[i]? = some ty → defaultValue ty = z_dv i → componentBytes ty ≤ 8 → (∀ cA, va_RA s cA ty → s.vm.findClass ("[" ++ ty.toString) = some cA) → W p l e R s m args below meth c H locs cells slots Q (F0 m pc ls (.int n :: r.map (z_cv ext base))) := by
      intro ty hty hi5 ha hdvv hcb hfd
      refine va_newaK hx hb (atype := t) (by rw [hty]; exact harr i ty hi5 ha) rfl hd rfl (z_not_neg h0) rfl (by rw [hty]; exact Nat.le_trans (Nat.mul_le_mul h1 hcb) (by decide)) hcells hslots rfl fun H1 cA e1 z1 o1 hAr hNm => ?_
      rw [hty] at e1 hAr hNm
      have hcA : cA = ta i := Option.some.inj (hNm.symm.trans (hfd _ (hK.2 i ty ha).2))
      subst hcA
      rw [hdvv] at e1
      have e9 : z_cv ext base (.ref P.length) = .ref H.size := by rw [z_cv_near h2, hR.1]
      have := k H1 (hR.push h2 z1 o1 (z_newarr_at (by rw [← hdvv]; exact z_cv_dflt ty) rfl (by rw [← hR.1]; exact e1))) (z_S_push (d := 1) hS z1 o1)
      rw [List.map_cons, e9] at this
      exact this
    cases t <;> cases hi
    · exact key .boolean rfl (by decide) a0 rfl (by decide) (fun _ q => q)
    · exact key .char rfl (by decide) a2 rfl (by decide) (fun _ q => q)
    · exact key .byte rfl (by decide) a1 rfl (by decide) (fun _ q => q)
    · exact key .int rfl (by decide) a3 rfl (by decide) (fun _ q => q)
    · exact key .long rfl (by decide) a4 rfl (by decide) (fun _ q => q)
  case anewarray n =>
    obtain ⟨x, r, i, rfl, hi, h0, h1, h2, rfl, rfl, rfl, rfl⟩ := z_mka_spec h
    obtain ⟨C, ha, w1, w2⟩ := haan n i rfl hi
    refine W.anew hx hb hown w1 w2 rfl hd rfl (z_not_neg h0) (by omega) hcells hslots fun cA kA comp f1 f2 f3 f4 => ?_
    obtain ⟨_, _, -, -, -, hNm⟩ := (hK.2 i _ ha).2
    have hcA : cA = ta i := Option.some.inj (f1.symm.trans hNm)
    subst hcA
    have e9 : z_cv ext base (.ref P.length) = .ref H.size := by rw [z_cv_near h2, hR.1]
    have o1 : ∀ q, q < H.size → (H.push { cls := ta i, slots := Array.replicate x.toNatClampNeg .null, vm := .none })[q]? = H[q]? := fun q hq => by rw [Array.getElem?_push, if_neg (Nat.ne_of_lt hq)]
    have := k _ (hR.push h2 (by simp) o1 (z_newarr_at (v := .null) rfl rfl (by rw [← hR.1, ← arrV_new]; simp))) (z_S_push (d := 1) hS (by simp) o1)
    rw [List.map_cons, e9] at this
    exact this
  case multianewarray n d =>
    have h : (if d = 2 then z_mkm (mna n) P st else none) = some (st', P', dc, ds) := h
    split at h
    · rename_i hd2
      subst hd2
      obtain ⟨kk, nn, r, io, ii, rfl, ho, h0, h1, h2, h3, h4, rfl, rfl, rfl, rfl⟩ := z_mkm_spec h
      obtain ⟨t, ha, hi5, hao, w1, w2⟩ := hmna n 2 io ii rfl ho
      have prim : defaultValue t = z_dv ii ∧ fits t (defaultValue t) = true ∧ (defaultValue t).isDefault = true ∧ componentBytes t ≤ 8 ∧ s.vm.findClass (FieldType.array t).toString = some (ta ii) := by
        have hv := (hK.2 ii t ha).2
        have h5 : ii = 0 ∨ ii = 1 ∨ ii = 2 ∨ ii = 3 ∨ ii = 4 := by omega
        rcases h5 with rfl | rfl | rfl | rfl | rfl
        · cases a0.symm.trans ha; exact ⟨rfl, by decide, by decide, by decide, hv⟩
        · cases a1.symm.trans ha; exact ⟨rfl, by decide, by decide, by decide, hv⟩
        · cases a2.symm.trans ha; exact ⟨rfl, by decide, by decide, by decide, hv⟩
        · cases a3.symm.trans ha; exact ⟨rfl, by decide, by decide, by decide, hv⟩
        · cases a4.symm.trans ha; exact ⟨rfl, by decide, by decide, by decide, hv⟩
      obtain ⟨q1, q2, q3, q4, q5⟩ := prim
      have hvo : s.vm.findClass ("[" ++ (FieldType.array t).toString) = some (ta io) := (hK.2 io _ hao).2
      intro T hT Xs
      subst hb
      obtain ⟨vm₁, cA, comp, -, fA, fC, hO, -, X', step⟩ := Jvm.Stand.multianewarray2F Xs hx hown w1 w2 (harr ii t hi5 ha) (g := F0 m pc ls (.int kk :: .int nn :: r.map (z_cv ext base))) rfl hd rfl (z_not_neg h0) (z_not_neg h1) (by omega) (Nat.le_trans (Nat.mul_le_mul h3 q4) (by decide)) (by omega) q2 q3 hcells hslots
      have ec : cA = ta io := Option.some.inj (fA.symm.trans hvo)
      have ec2 : comp = ta ii := Option.some.inj (fC.symm.trans q5)
      subst ec; subst ec2
      generalize hF9 : Jvm.Free.Multi.fill (T.setVm vm₁) (ta io) (ta ii) nn.toNatClampNeg kk.toNatClampNeg (defaultValue t) nn.toNatClampNeg = F at X' step
      have hTh : (T.setVm vm₁).heap = H := hT
      obtain ⟨f1, f2, -, -⟩ := Jvm.Free.Multi.fill_facts (T.setVm vm₁) (ta io) (ta ii) nn.toNatClampNeg kk.toNatClampNeg (defaultValue t) nn.toNatClampNeg
      rw [hF9, hTh] at f1 f2
      have hold : ∀ x : Nat, x < H.size → F.heap[x]? = H[x]? := fun x hx => by
        have := Jvm.Free.Multi.fill_old (T.setVm vm₁) (ta io) (ta ii) nn.toNatClampNeg kk.toNatClampNeg (defaultValue t) (a := x) (by rw [hTh]; exact hx) nn.toNatClampNeg
        rw [hF9, hTh] at this
        exact this
      have hrow : ∀ j : Nat, j < nn.toNatClampNeg → F.heap[H.size + 1 + j]? = some (Jvm.Free.Multi.innerC (ta ii) kk.toNatClampNeg (defaultValue t)) := fun j hj => by
        have := Jvm.Free.Multi.fill_inner (T.setVm vm₁) (ta io) (ta ii) nn.toNatClampNeg kk.toNatClampNeg (defaultValue t) nn.toNatClampNeg j hj
        rw [hF9, hTh] at this
        exact this
      have hinn : Jvm.Free.Multi.innerC (ta ii) kk.toNatClampNeg (defaultValue t) = arrV (ta ii) kk.toNatClampNeg (fun _ => z_dv ii) := by
        rw [← q1]
        exact arrV_new _ _ _
      have hR1 : z_R D cl ta ext base (P ++ (100 + io, (List.range nn.toNatClampNeg).map (fun j => Value.ref (P.length + 1 + j))) :: List.replicate nn.toNatClampNeg (100 + ii, List.replicate kk.toNatClampNeg (z_dv ii))) F.heap := by
        refine z_at_push hR (by simp; omega) (by rw [f1]; simp; omega) hold fun j q hj => ?_
        match j, hj with
        | 0, hj =>
          cases hj
          refine ⟨fun q => absurd q (by show ¬ 100 + io < 99; omega), fun _ => ?_⟩
          show F.heap[base + (P.length + 0)]? = some (arrV (ta (100 + io - 100)) ((List.range nn.toNatClampNeg).map _).length _)
          rw [show base + (P.length + 0) = H.size by rw [hR.1]; rfl, f2, z_outer, show 100 + io - 100 = io by omega, List.length_map, List.length_range]
          congr 1
          unfold arrV
          congr 1
          apply Array.ext
          · simp
          · intro i g1 g2
            have hi : i < nn.toNatClampNeg := by simpa using g1
            have hi2 : P.length + 1 + i < z_far := by omega
            have e7 : ((List.range nn.toNatClampNeg).map (fun j => Value.ref (P.length + 1 + j))).getD i .null = .ref (P.length + 1 + i) := by simp [hi]
            simp only [Array.getElem_ofFn]
            rw [if_pos hi]
            show Value.ref (H.size + 1 + i) = z_cv ext base (((List.range nn.toNatClampNeg).map (fun j => Value.ref (P.length + 1 + j))).getD i .null)
            rw [e7, z_cv_near hi2, hR.1]
            have e8 : base + P.length + 1 + i = base + (P.length + 1 + i) := by omega
            exact congrArg Value.ref e8
        | j + 1, hj =>
          have hj : (List.replicate nn.toNatClampNeg (100 + ii, List.replicate kk.toNatClampNeg (z_dv ii)))[j]? = some q := hj
          have hjn : j < nn.toNatClampNeg := by
            have := (List.getElem?_eq_some_iff.mp hj).1
            simpa using this
          have hq : q = (100 + ii, List.replicate kk.toNatClampNeg (z_dv ii)) := by
            rw [List.getElem?_replicate, if_pos hjn] at hj
            exact (Option.some.inj hj).symm
          subst hq
          refine z_newarr_at (by rw [← q1]; exact z_cv_dflt t) rfl ?_
          rw [← hinn, ← hrow j hjn, hR.1]
          congr 1
          omega
      have e9 : z_cv ext base (.ref P.length) = .ref H.size := by rw [z_cv_near (by omega), hR.1]
      have hk := k F.heap hR1 (z_S_push (d := 1 + nn.toNatClampNeg) hS (by rw [f1]; omega) hold)
      rw [List.map_cons, e9] at hk
      obtain ⟨t9, b1, b2⟩ := hk F rfl (by rw [← Nat.add_assoc, ← Nat.add_assoc]; exact X')
      refine ⟨t9, step _ ?_, b2⟩
      rw [hT]
      exact b1
    · cases h
  all_goals (cases h)
end ZSIMM
