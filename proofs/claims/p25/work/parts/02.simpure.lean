/-! Rows of the machine, gathered: one row for all that changes the stack alone, one for the locals, one for jumps. -/
section ZSIM
variable {p : Program} {l : Launch} {e : Env} {R : Room} {s : State} {m : MethodId} {args : Array Value} {below : List Frame} {meth : Method} {c : Code} {H : Heap} {locs : List Loc} {cells slots : Nat} {Q : State → Prop}
/-- a value of the picture as the machine has it: far numbers are cells of old, others count from the base -/
def z_cv (ext : Nat → Nat) (base : Nat) : Value → Value
  | .ref k => .ref (if k < z_far then base + k else ext (k - z_far))
  | v => v
theorem z_cv_cat (ext : Nat → Nat) (base : Nat) (v : Value) : (z_cv ext base v).category = v.category := by cases v <;> rfl
theorem z_i1_spec {f : Int32 → Value} {st st' : List Value} (h : z_i1 f st = some st') : ∃ x r, st = .int x :: r ∧ st' = f x :: r := by
  unfold z_i1 at h
  split at h
  · cases h; exact ⟨_, _, rfl, rfl⟩
  · cases h
theorem z_l1_spec {f : Int64 → Value} {st st' : List Value} (h : z_l1 f st = some st') : ∃ x r, st = .long x :: r ∧ st' = f x :: r := by
  unfold z_l1 at h
  split at h
  · cases h; exact ⟨_, _, rfl, rfl⟩
  · cases h
theorem z_i2_spec {f : Int32 → Int32 → Value} {st st' : List Value} (h : z_i2 f st = some st') : ∃ y x r, st = .int y :: .int x :: r ∧ st' = f x y :: r := by
  unfold z_i2 at h
  split at h
  · cases h; exact ⟨_, _, _, rfl, rfl⟩
  · cases h
theorem z_l2_spec {f : Int64 → Int64 → Value} {st st' : List Value} (h : z_l2 f st = some st') : ∃ y x r, st = .long y :: .long x :: r ∧ st' = f x y :: r := by
  unfold z_l2 at h
  split at h
  · cases h; exact ⟨_, _, _, rfl, rfl⟩
  · cases h
theorem z_i2d_spec {f : Int32 → Int32 → Value} {st st' : List Value} (h : z_i2d f st = some st') : ∃ y x r, ¬ y = 0 ∧ st = .int y :: .int x :: r ∧ st' = f x y :: r := by
  unfold z_i2d at h
  split at h
  · split at h
    · cases h
    · rename_i h0
      cases h; exact ⟨_, _, _, h0, rfl, rfl⟩
  · cases h
theorem z_l2d_spec {f : Int64 → Int64 → Value} {st st' : List Value} (h : z_l2d f st = some st') : ∃ y x r, ¬ y = 0 ∧ st = .long y :: .long x :: r ∧ st' = f x y :: r := by
  unfold z_l2d at h
  split at h
  · split at h
    · cases h
    · rename_i h0
      cases h; exact ⟨_, _, _, h0, rfl, rfl⟩
  · cases h
set_option maxHeartbeats 4000000 in
theorem z_sim_pure {ext : Nat → Nat} {base : Nat} {cc : ByteArray} (hx : p.tables.exec = Jvm.exec) (hb : c.code = cc) {ins : Instr} {len pc : Nat} {ls : Array Slot} {st st' : List Value} (hd : decode cc pc = .ok (ins, len)) (hlen : len = z_len ins) (h : z_pure ins st = some st')
    (k : W p l e R s m args below meth c H locs cells slots Q (F0 m (pc + len) ls (st'.map (z_cv ext base)))) : W p l e R s m args below meth c H locs cells slots Q (F0 m pc ls (st.map (z_cv ext base))) := by
  subst hlen
  cases ins
  case iconst n => cases h; exact lv_iconst hx hb hd rfl k
  case bipush n => cases h; exact lv_bipush hx hb hd rfl k
  case sipush n => cases h; exact lv_sipush hx hb hd rfl k
  case lconst n => cases h; exact lv_lconst hx hb hd rfl k
  case aconst_null => cases h; exact lv_null hx hb hd k
  case iadd => obtain ⟨y, x, r, rfl, rfl⟩ := z_i2_spec h; exact lv_iadd hx hb hd k
  case isub => obtain ⟨y, x, r, rfl, rfl⟩ := z_i2_spec h; exact lv_isub hx hb hd k
  case imul => obtain ⟨y, x, r, rfl, rfl⟩ := z_i2_spec h; exact lv_imul hx hb hd k
  case iand => obtain ⟨y, x, r, rfl, rfl⟩ := z_i2_spec h; exact lv_iand hx hb hd k
  case ior => obtain ⟨y, x, r, rfl, rfl⟩ := z_i2_spec h; exact lv_ior hx hb hd k
  case ixor => obtain ⟨y, x, r, rfl, rfl⟩ := z_i2_spec h; exact lv_ixor hx hb hd k
  case ishl => obtain ⟨y, x, r, rfl, rfl⟩ := z_i2_spec h; exact lv_ishl hx hb hd k
  case ishr => obtain ⟨y, x, r, rfl, rfl⟩ := z_i2_spec h; exact lv_ishr hx hb hd k
  case iushr => obtain ⟨y, x, r, rfl, rfl⟩ := z_i2_spec h; exact lv_iushr hx hb hd rfl k
  case idiv => obtain ⟨y, x, r, h0, rfl, rfl⟩ := z_i2d_spec h; exact lv_idiv hx hb hd h0 k
  case irem => obtain ⟨y, x, r, h0, rfl, rfl⟩ := z_i2d_spec h; exact lv_irem hx hb hd h0 k
  case ineg => obtain ⟨x, r, rfl, rfl⟩ := z_i1_spec h; exact lv_ineg hx hb hd k
  case i2l => obtain ⟨x, r, rfl, rfl⟩ := z_i1_spec h; exact lv_i2l hx hb hd rfl k
  case i2b => obtain ⟨x, r, rfl, rfl⟩ := z_i1_spec h; exact lv_i2b hx hb hd rfl k
  case i2s => obtain ⟨x, r, rfl, rfl⟩ := z_i1_spec h; exact lv_i2s hx hb hd rfl k
  case i2c => obtain ⟨x, r, rfl, rfl⟩ := z_i1_spec h; exact lv_i2c hx hb hd rfl k
  case l2i => obtain ⟨x, r, rfl, rfl⟩ := z_l1_spec h; exact lv_l2i hx hb hd rfl k
  case ladd => obtain ⟨y, x, r, rfl, rfl⟩ := z_l2_spec h; exact lv_ladd hx hb hd k
  case lsub => obtain ⟨y, x, r, rfl, rfl⟩ := z_l2_spec h; exact lv_lsub hx hb hd k
  case lmul => obtain ⟨y, x, r, rfl, rfl⟩ := z_l2_spec h; exact lv_lmul hx hb hd k
  case ldiv => obtain ⟨y, x, r, h0, rfl, rfl⟩ := z_l2d_spec h; exact lv_ldiv hx hb hd h0 k
  case lrem => obtain ⟨y, x, r, h0, rfl, rfl⟩ := z_l2d_spec h; exact lv_lrem hx hb hd h0 k
  case lcmp => obtain ⟨y, x, r, rfl, rfl⟩ := z_l2_spec h; exact W.lcmp hx hb hd k
  case dup =>
    have h : z_dup st = some st' := h
    unfold z_dup at h
    split at h
    · split at h
      · rename_i v r h1
        cases h; exact lv_dup hx hb hd (by rw [z_cv_cat]; exact h1) k
      · cases h
    · cases h
  case pop =>
    have h : z_pop st = some st' := h
    unfold z_pop at h
    split at h
    · split at h
      · rename_i v r h1
        cases h; exact lv_pop hx hb hd (by rw [z_cv_cat]; exact h1) k
      · cases h
    · cases h
  case dup_x1 =>
    have h : z_dupx1 st = some st' := h
    unfold z_dupx1 at h
    split at h
    · split at h
      · rename_i v w r h1
        cases h; exact lv_dup_x1 hx hb hd (by rw [z_cv_cat]; exact h1.1) (by rw [z_cv_cat]; exact h1.2) k
      · cases h
    · cases h
  case dup2 =>
    have h : z_dup2 st = some st' := h
    unfold z_dup2 at h
    split at h
    · split at h
      · rename_i v w r h1
        cases h; exact lv_dup2_11 hx hb hd (by rw [z_cv_cat]; exact h1.1) (by rw [z_cv_cat]; exact h1.2) k
      · cases h
    · cases h
  all_goals (cases h)
/-- the locals of the picture as the machine has them -/
def z_cl (ext : Nat → Nat) (base : Nat) (ll : z_L) : List (Nat × Value) := ll.map fun q => (q.1, z_cv ext base q.2)
theorem z_cl_at {ext : Nat → Nat} {base : Nat} {ll : z_L} {i : Nat} {v : Value} (h : z_get ll i = some v) : ∃ k : Nat, (z_cl ext base ll)[k]? = some (i, z_cv ext base v) := by
  obtain ⟨k, hk⟩ := z_get_mem h
  exact ⟨k, by simp [z_cl, hk]⟩
theorem z_cl_set1 {ext : Nat → Nat} {base : Nat} (ll : z_L) (i : Nat) (v : Value) : (i, z_cv ext base v) :: (z_cl ext base ll).filter (fun q => !(q.1 == i) && !(q.1 + 1 == i && q.2.category == 2)) = z_cl ext base (z_set1 ll i v) := by
  unfold z_cl z_set1
  rw [List.map_cons, List.filter_map]
  congr 2
  apply List.filter_congr
  intro q _
  simp [z_cv_cat]
theorem z_cl_set2 {ext : Nat → Nat} {base : Nat} (ll : z_L) (i : Nat) (v : Value) : (i, z_cv ext base v) :: (z_cl ext base ll).filter (fun q => !(q.1 == i) && (!(q.1 == i + 1) && !(q.1 + 1 == i && q.2.category == 2))) = z_cl ext base (z_set2 ll i v) := by
  unfold z_cl z_set2
  rw [List.map_cons, List.filter_map]
  congr 2
  apply List.filter_congr
  intro q _
  simp [z_cv_cat]
theorem z_ld_spec {k : Value → Bool} {ll l' : z_L} {i : Nat} {st st' : List Value} (h : z_ld k ll i st = some (l', st')) : ∃ v, z_get ll i = some v ∧ k v = true ∧ l' = ll ∧ st' = v :: st := by
  unfold z_ld at h
  split at h
  · rename_i v hv
    split at h
    · rename_i hk
      cases h; exact ⟨v, hv, hk, rfl, rfl⟩
    · cases h
  · cases h
theorem z_st1_spec {k : Value → Bool} {nL : Nat} {ll l' : z_L} {i : Nat} {st st' : List Value} (h : z_st1 k nL ll i st = some (l', st')) : ∃ v, k v = true ∧ i < nL ∧ st = v :: st' ∧ l' = z_set1 ll i v := by
  unfold z_st1 at h
  split at h
  · rename_i v r
    split at h
    · rename_i hk
      simp only [Bool.and_eq_true, decide_eq_true_eq] at hk
      cases h; exact ⟨v, hk.1, hk.2, rfl, rfl⟩
    · cases h
  · cases h
theorem z_st2_spec {nL : Nat} {ll l' : z_L} {i : Nat} {st st' : List Value} (h : z_st2 nL ll i st = some (l', st')) : ∃ x, i + 1 < nL ∧ st = .long x :: st' ∧ l' = z_set2 ll i (.long x) := by
  unfold z_st2 at h
  split at h
  · rename_i x r
    split at h
    · rename_i hk
      cases h; exact ⟨x, hk, rfl, rfl⟩
    · cases h
  · cases h
theorem z_inc_spec {nL : Nat} {ll l' : z_L} {i : Nat} {n : Int} {st st' : List Value} (h : z_inc nL ll i n st = some (l', st')) : ∃ x, z_get ll i = some (.int x) ∧ i < nL ∧ st' = st ∧ l' = z_set1 ll i (.int (x + Int32.ofInt n)) := by
  unfold z_inc at h
  split at h
  · rename_i x hx
    split at h
    · rename_i hk
      cases h; exact ⟨x, hx, hk, rfl, rfl⟩
    · cases h
  · cases h
theorem z_isI_spec {v : Value} (h : z_isI v = true) : ∃ x, v = .int x := by cases v <;> first | exact ⟨_, rfl⟩ | cases h
theorem z_isL_spec {v : Value} (h : z_isL v = true) : ∃ x, v = .long x := by cases v <;> first | exact ⟨_, rfl⟩ | cases h
theorem z_isA_spec {v : Value} (h : z_isA v = true) : v = .null ∨ ∃ x, v = .ref x := by cases v <;> first | exact Or.inl rfl | exact Or.inr ⟨_, rfl⟩ | cases h
set_option maxHeartbeats 4000000 in
theorem z_sim_loc {ext : Nat → Nat} {base nL : Nat} {cc : ByteArray} (hx : p.tables.exec = Jvm.exec) (hb : c.code = cc) {ins : Instr} {len pc : Nat} {ls : Array Slot} {ll l' : z_L} {st st' : List Value} (hd : decode cc pc = .ok (ins, len)) (hlen : len = z_len ins) (h : z_loc nL ins ll st = some (l', st')) (hl : lv_has ls nL (z_cl ext base ll))
    (k : ∀ ls', lv_has ls' nL (z_cl ext base l') → W p l e R s m args below meth c H locs cells slots Q (F0 m (pc + len) ls' (st'.map (z_cv ext base)))) : W p l e R s m args below meth c H locs cells slots Q (F0 m pc ls (st.map (z_cv ext base))) := by
  subst hlen
  cases ins
  case iload i =>
    obtain ⟨v, hv, hk, rfl, rfl⟩ := z_ld_spec h
    obtain ⟨x, rfl⟩ := z_isI_spec hk
    obtain ⟨q, hq⟩ := z_cl_at (ext := ext) (base := base) hv
    exact lv_iload hx hb hd (lv_at hl q hq) (k ls hl)
  case iload_n i =>
    obtain ⟨v, hv, hk, rfl, rfl⟩ := z_ld_spec h
    obtain ⟨x, rfl⟩ := z_isI_spec hk
    obtain ⟨q, hq⟩ := z_cl_at (ext := ext) (base := base) hv
    exact lv_iload_n hx hb hd rfl (lv_at hl q hq) (k ls hl)
  case lload i =>
    obtain ⟨v, hv, hk, rfl, rfl⟩ := z_ld_spec h
    obtain ⟨x, rfl⟩ := z_isL_spec hk
    obtain ⟨q, hq⟩ := z_cl_at (ext := ext) (base := base) hv
    exact lv_lload hx hb hd (lv_at hl q hq) (k ls hl)
  case lload_n i =>
    obtain ⟨v, hv, hk, rfl, rfl⟩ := z_ld_spec h
    obtain ⟨x, rfl⟩ := z_isL_spec hk
    obtain ⟨q, hq⟩ := z_cl_at (ext := ext) (base := base) hv
    exact lv_lload_n hx hb hd rfl (lv_at hl q hq) (k ls hl)
  case aload i =>
    obtain ⟨v, hv, hk, rfl, rfl⟩ := z_ld_spec h
    obtain ⟨q, hq⟩ := z_cl_at (ext := ext) (base := base) hv
    rcases z_isA_spec hk with rfl | ⟨x, rfl⟩
    · exact lv_aloadN hx hb hd (lv_at hl q hq) (k ls hl)
    · exact lv_aload hx hb hd (lv_at hl q hq) (k ls hl)
  case aload_n i =>
    obtain ⟨v, hv, hk, rfl, rfl⟩ := z_ld_spec h
    obtain ⟨q, hq⟩ := z_cl_at (ext := ext) (base := base) hv
    rcases z_isA_spec hk with rfl | ⟨x, rfl⟩
    · exact lv_aload_nN hx hb hd rfl (lv_at hl q hq) (k ls hl)
    · exact lv_aload_n hx hb hd rfl (lv_at hl q hq) (k ls hl)
  case istore i =>
    obtain ⟨v, hk, hn, rfl, rfl⟩ := z_st1_spec h
    obtain ⟨x, rfl⟩ := z_isI_spec hk
    exact lv_istore hx hb hd hl hn (z_cl_set1 ll i (.int x)) k
  case istore_n i =>
    obtain ⟨v, hk, hn, rfl, rfl⟩ := z_st1_spec h
    obtain ⟨x, rfl⟩ := z_isI_spec hk
    exact lv_istore_n hx hb hd rfl hl hn (z_cl_set1 ll i (.int x)) k
  case astore i =>
    obtain ⟨v, hk, hn, rfl, rfl⟩ := z_st1_spec h
    rcases z_isA_spec hk with rfl | ⟨x, rfl⟩
    · exact lv_astoreN hx hb hd hl hn (z_cl_set1 ll i .null) k
    · exact lv_astore hx hb hd hl hn (z_cl_set1 ll i (.ref x)) k
  case astore_n i =>
    obtain ⟨v, hk, hn, rfl, rfl⟩ := z_st1_spec h
    rcases z_isA_spec hk with rfl | ⟨x, rfl⟩
    · exact lv_astore_nN hx hb hd rfl hl hn (z_cl_set1 ll i .null) k
    · exact lv_astore_n hx hb hd rfl hl hn (z_cl_set1 ll i (.ref x)) k
  case lstore i =>
    obtain ⟨x, hn, rfl, rfl⟩ := z_st2_spec h
    exact lv_lstore hx hb hd hl hn (z_cl_set2 ll i (.long x)) k
  case lstore_n i =>
    obtain ⟨x, hn, rfl, rfl⟩ := z_st2_spec h
    exact lv_lstore_n hx hb hd rfl hl hn (z_cl_set2 ll i (.long x)) k
  case iinc i n =>
    obtain ⟨x, hv, hn, rfl, rfl⟩ := z_inc_spec h
    obtain ⟨q, hq⟩ := z_cl_at (ext := ext) (base := base) hv
    exact lv_iinc hx hb hd hl hq rfl hn (z_cl_set1 ll i (.int (x + Int32.ofInt n))) k
  all_goals (cases h)
end ZSIM
