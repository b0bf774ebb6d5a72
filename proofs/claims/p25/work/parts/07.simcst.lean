section ZSIMC
variable {p : Program} {l : Launch} {e : Env} {R : Room} {s : State} {m : MethodId} {args : Array Value} {below : List Frame} {meth : Method} {c : Code} {H : Heap} {locs : List Loc} {cells slots : Nat} {Q : State → Prop}
/-- what the pool says of a constant: for a method of the class own -/
def z_ct (s : State) (args : Array Value) (own : String) (rs : List (String × Nat × String × Nat)) : Instr → Value → Prop
  | .ldc n, v => (∃ x, v = .int x ∧ (Cond.constant own n x).before args s = true) ∨ ∃ tx i, v = .ref (z_far + 2 * i) ∧ (own, n, tx, i) ∈ rs
  | .ldc_w n, v => ∃ x, v = .int x ∧ (Cond.constant own n x).before args s = true
  | .ldc2_w n, v => ∃ x, v = .long x ∧ (Cond.constantLong own n x).before args s = true
  | .getstatic n, v => v = .int 1 ∧ (Cond.fieldLink own n "java/lang/String" "COMPACT_STRINGS" "Z").before args s = true
  | _, _ => False
theorem z_sim_cst {ext : Nat → Nat} {base : Nat} {own : String} {strs : z_Ss} {rs : List (String × Nat × String × Nat)} {cst : Nat → Option Value} {cc : ByteArray} (hx : p.tables.exec = Jvm.exec) (hb : c.code = cc) (hown : s.vm.findClass own = some m.cls) (hX : z_X strs ext base rs s) (hS : va_S (fun q => base ≤ q) s.heap H locs)
    {ins : Instr} {len pc : Nat} {ls : Array Slot} {st st' : List Value} (hc : ∀ v, z_cstv cst ins = some v → z_ct s args own rs ins v) (hd : decode cc pc = .ok (ins, len)) (hlen : len = z_len ins) (h : z_cst cst ins st = some st')
    (k : W p l e R s m args below meth c H locs cells slots Q (F0 m (pc + len) ls (st'.map (z_cv ext base)))) : W p l e R s m args below meth c H locs cells slots Q (F0 m pc ls (st.map (z_cv ext base))) := by
  subst hlen
  obtain ⟨v, hv, rfl⟩ := z_map_some (f := fun v => v :: st) h
  have hc := hc v hv
  cases ins
  case ldc n =>
    rcases hc with ⟨x, rfl, h1⟩ | ⟨tx, i, rfl, h1⟩
    · exact lv_ldc hx hb hown h1 hd k
    · have h2 := hX.2.2.1 _ h1
      rw [List.map_cons, z_cv_far] at k
      exact va_ldcS hx hb hown h2 hd k
  case ldc_w n =>
    obtain ⟨x, rfl, h1⟩ := hc
    exact lv_ldcw hx hb hown h1 hd k
  case ldc2_w n =>
    obtain ⟨x, rfl, h1⟩ := hc
    exact lv_ldc2 hx hb hown h1 hd k
  case getstatic n =>
    obtain ⟨rfl, h1⟩ := hc
    exact va_gets hx hb hX.2.1 hS hown h1 (fun _ q => q) hd k
  all_goals (cases hv)
theorem z_acp_spec {P P' : z_H} {st st' : List Value} (h : z_acp P st = some (st', P')) : ∃ (n dp sp : Int32) (a b : Nat) (vs ws : List Value), st = .int n :: .int dp :: .ref b :: .int sp :: .ref a :: st' ∧ P[a]? = some (103, vs) ∧ P[b]? = some (103, ws) ∧ 0 ≤ n.toInt ∧ 0 ≤ dp.toInt ∧ 0 ≤ sp.toInt ∧ sp.toNatClampNeg + n.toNatClampNeg ≤ vs.length ∧ dp.toNatClampNeg + n.toNatClampNeg ≤ ws.length ∧ vs.all z_isI = true ∧ P' = P.set b (103, z_cpy ws vs sp.toNatClampNeg dp.toNatClampNeg n.toNatClampNeg) := by
  unfold z_acp at h
  split at h
  · rename_i n dp b sp a r
    split at h
    · rename_i q w hq hw
      split at h
      · rename_i h1
        cases h
        exact ⟨n, dp, sp, a, b, q.2, w.2, rfl, by rw [hq, ← h1.1], by rw [hw, ← h1.2.1], h1.2.2.1, h1.2.2.2.1, h1.2.2.2.2.1, h1.2.2.2.2.2.1, h1.2.2.2.2.2.2.1, h1.2.2.2.2.2.2.2, rfl⟩
      · cases h
    · cases h
  · cases h
theorem z_toNat {z : Int32} (h : 0 ≤ z.toInt) : z.toInt = (z.toNatClampNeg : Int) := by
  show z.toInt = ((z.toInt.toNat : Nat) : Int)
  omega
set_option maxHeartbeats 4000000 in
theorem z_sim_acp {D : va_G} {cl : List vw_C} {ta : Nat → ClassId} {aty : List FieldType} {ext : Nat → Nat} {base nL : Nat} {own : String} {P P' : z_H} {A : Nat → Prop} {H0 : Heap} {cc : ByteArray} (hx : p.tables.exec = Jvm.exec) (hb : c.code = cc) (hml : c.maxLocals = nL) (hown : s.vm.findClass own = some m.cls) (hK : z_K D cl ta aty s) (hA : z_aty aty) (hR : z_R D cl ta ext base P H) (hS : va_S A H0 H locs) (hAb : ∀ q, base ≤ q → A q)
    {index pc : Nat} (hlink : (Cond.methodLink own index arraycopyName).before args s = true) (hnat : (Cond.native arraycopyName).before args s = true) (hstat : (Cond.static arraycopyName).before args s = true) (hini : (Cond.initialized "java/lang/System").before args s = true)
    {ls : Array Slot} (hls : ls.size = nL) {st st' : List Value} (hframes : 1 ≤ R.frames) (hlocals : (st'.map fun v => v.category).sum + (nativeFrameWords "java/lang/System" "arraycopy" 5 + 11) ≤ R.locals) (hd : decode cc pc = .ok (.invokestatic index, 3)) (h : z_acp P st = some (st', P'))
    (k : ∀ H1 locs1, z_R D cl ta ext base P' H1 → va_S A H0 H1 locs1 → W p l e R s m args below meth c H1 locs1 cells slots Q (F0 m (pc + 3) ls (st'.map (z_cv ext base)))) : W p l e R s m args below meth c H locs cells slots Q (F0 m pc ls (st.map (z_cv ext base))) := by
  obtain ⟨-, -, -, a3, -, -⟩ := hA
  obtain ⟨n, dp, sp, a, b, vs, ws, rfl, hPa, hPb, h1, h2, h3, h4, h5, h6, rfl⟩ := z_acp_spec h
  have hqa := (hR.at hPa).2 (by show 100 ≤ 103; omega)
  have hqb := (hR.at hPb).2 (by show 100 ≤ 103; omega)
  obtain ⟨-, k0, hk0, cm0, hkk0⟩ := (hK.2 3 _ a3).1 vs.length (fun j => z_cv ext base (vs.getD j .null))
  obtain ⟨-, k1, hk1, cm1, hkk1⟩ := (hK.2 3 _ a3).1 ws.length (fun j => z_cv ext base (ws.getD j .null))
  intro T hT X
  subst hb
  have hcat : ((st'.map (z_cv ext base)).map fun v => v.category) = st'.map fun v => v.category := by
    rw [List.map_map]
    apply List.map_congr_left
    intro v _
    exact z_cv_cat _ _ v
  obtain ⟨vm', X', step⟩ := X.arraycopy hx hown hlink hnat hstat hini (src := base + a) (dst := base + b) (srcPos := sp) (destPos := dp) (n := n) (by rw [hT]; exact hqa) (by rw [hT]; exact hqb)
    (fun _ h => by cases h) (fun _ h => by cases h) (fun h => by cases h) (fun h => by cases h) hk0 hk1 hkk0 hkk1 (by simp [refKind]) (z_not_neg h3) (z_not_neg h2) (z_not_neg h1)
    (by rw [z_toNat h3, z_toNat h1, arrV_size]; show ¬ _ > (vs.length : Int); omega)
    (by rw [z_toNat h2, z_toNat h1, arrV_size]; show ¬ _ > (ws.length : Int); omega)
    (fun vm₁ _ i hi => by
      have hlt : sp.toNatClampNeg + i < vs.length := by omega
      have hI := List.all_eq_true.mp h6 (vs[sp.toNatClampNeg + i]) (List.getElem_mem hlt)
      obtain ⟨x, hx9⟩ := z_isI_spec hI
      have e9 : (arrV (ta 3) vs.length (fun j => z_cv ext base (vs.getD j .null))).slots.getD (sp.toNatClampNeg + i) .null = .int x := by
        rw [Array.getD_eq_getD_getElem?, arrV_read _ _ hlt]
        simp [hlt, hx9, z_cv]
      exact ⟨by show fits .int ((arrV (ta 3) vs.length (fun j => z_cv ext base (vs.getD j .null))).slots.getD (sp.toNatClampNeg + i) .null) = true; rw [e9]; rfl, by show State.takes _ _ ((arrV (ta 3) vs.length (fun j => z_cv ext base (vs.getD j .null))).slots.getD (sp.toNatClampNeg + i) .null); rw [e9]; exact trivial⟩)
    (g := F0 m pc ls ((Value.int n :: Value.int dp :: Value.ref b :: Value.int sp :: Value.ref a :: st').map (z_cv ext base))) rfl (by rw [hml, ← hls]) (rest := st'.map (z_cv ext base)) (by simp only [List.map_cons]; rw [hR.near hPa, hR.near hPb]; rfl) hd hframes (by show 2 * 0 + _ + _ ≤ _; rw [hcat]; omega)
  have e1 : copied (arrV (ta 3) vs.length (fun j => z_cv ext base (vs.getD j .null))) (arrV (ta 3) ws.length (fun j => z_cv ext base (ws.getD j .null))) sp dp n = arrV (ta 3) ws.length (fun j => va_cpy (fun j => z_cv ext base (vs.getD j .null)) (fun j => z_cv ext base (ws.getD j .null)) sp.toNatClampNeg dp.toNatClampNeg n.toNatClampNeg j) :=
    va_copied (fun z => z) (ta 3) (ta 3) _ _ h4
  have e1' : copied (arrV (ta (103 - 100)) vs.length (fun j => z_cv ext base (vs.getD j .null))) (arrV (ta (103 - 100)) ws.length (fun j => z_cv ext base (ws.getD j .null))) sp dp n = arrV (ta 3) ws.length (fun j => va_cpy (fun j => z_cv ext base (vs.getD j .null)) (fun j => z_cv ext base (ws.getD j .null)) sp.toNatClampNeg dp.toNatClampNeg n.toNatClampNeg j) := e1
  dsimp only at X' step
  rw [e1'] at X' step
  generalize hcell : arrV (ta 3) ws.length (fun j => va_cpy (fun j => z_cv ext base (vs.getD j .null)) (fun j => z_cv ext base (ws.getD j .null)) sp.toNatClampNeg dp.toNatClampNeg n.toNatClampNeg j) = cell at X' step
  have hl : base + b < H.size := (Array.getElem?_eq_some_iff.mp hqb).1
  have hheap : ((T.setVm vm').setCell (base + b) cell).heap = H.setIfInBounds (base + b) cell := by rw [← hT]; rfl
  have oq : ∀ q : Nat, q ≠ base + b → (H.setIfInBounds (base + b) cell)[q]? = H[q]? := fun q hq => by simp [Array.getElem?_setIfInBounds, Ne.symm hq]
  have hat : z_at D cl ta (z_cv ext base) (103, z_cpy ws vs sp.toNatClampNeg dp.toNatClampNeg n.toNatClampNeg) (base + b) (H.setIfInBounds (base + b) cell) := by
    refine ⟨fun q => absurd q (by show ¬ 103 < 99; omega), fun _ => ?_⟩
    show (H.setIfInBounds (base + b) cell)[base + b]? = some (arrV (ta 3) (z_cpy ws vs sp.toNatClampNeg dp.toNatClampNeg n.toNatClampNeg).length (fun j => z_cv ext base ((z_cpy ws vs sp.toNatClampNeg dp.toNatClampNeg n.toNatClampNeg).getD j .null)))
    have hlen : (z_cpy ws vs sp.toNatClampNeg dp.toNatClampNeg n.toNatClampNeg).length = ws.length := by simp [z_cpy]
    rw [hlen, Array.getElem?_setIfInBounds, if_pos rfl, if_pos hl, ← hcell]
    congr 1
    unfold arrV
    congr 1
    apply Array.ext
    · simp
    · intro i g1 g2
      have hi : i < ws.length := by simpa using g1
      simp only [Array.getElem_ofFn]
      simp only [z_cpy, va_cpy]
      by_cases hc : dp.toNatClampNeg ≤ i ∧ i < dp.toNatClampNeg + n.toNatClampNeg
      · simp [hc, hi]
      · simp [hc, hi]
  obtain ⟨t, b1, b2⟩ := k _ _ (hR.set (by simp) oq hat) ⟨by simp; exact hS.1, fun q g1 g2 => by
      rw [oq q (fun e => g2 (by rw [e]; exact hAb _ (Nat.le_add_right _ _)))]
      exact hS.2.1 q g1 g2, fun q hq => by
      rcases List.mem_append.mp hq with h | h
      · exact hS.2.2 q h
      · obtain ⟨z, -, hz⟩ := List.mem_map.mp h
        rw [← hz]
        exact hAb _ (Nat.le_add_right _ _)⟩ _ hheap X'
  exact ⟨t, step t b1, b2⟩
end ZSIMC
