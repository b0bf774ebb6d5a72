section ZSIMJ
variable {p : Program} {l : Launch} {e : Env} {R : Room} {s : State} {m : MethodId} {args : Array Value} {below : List Frame} {meth : Method} {c : Code} {H : Heap} {locs : List Loc} {cells slots : Nat} {Q : State → Prop}
theorem z_map_some {α β : Type} {o : Option α} {f : α → β} {b : β} (h : o.map f = some b) : ∃ a, o = some a ∧ f a = b := by
  cases o with
  | none => cases h
  | some a => exact ⟨a, rfl, Option.some.inj h⟩
set_option maxHeartbeats 4000000 in
theorem z_sim_jmp {ext : Nat → Nat} {base : Nat} {cc : ByteArray} (hx : p.tables.exec = Jvm.exec) (hb : c.code = cc) {ins : Instr} {len pc pc' : Nat} {ls : Array Slot} {st st' : List Value} (hd : decode cc pc = .ok (ins, len)) (hlen : (∃ d lo hi o, ins = .tableswitch d lo hi o) ∨ len = z_len ins) (h : z_jmp ins pc st = some (pc', st'))
    (k : W p l e R s m args below meth c H locs cells slots Q (F0 m pc' ls (st'.map (z_cv ext base)))) : W p l e R s m args below meth c H locs cells slots Q (F0 m pc ls (st.map (z_cv ext base))) := by
  cases ins
  case goto off =>
    rcases hlen with ⟨d, lo, hi, o, h1⟩ | rfl
    · cases h1
    obtain ⟨t, ht, hq⟩ := z_map_some h
    cases hq
    exact lv_goto hx hb hd (z_tg_eq ht) k
  case ifCond cnd off =>
    rcases hlen with ⟨d, lo, hi, o, h1⟩ | rfl
    · cases h1
    simp only [z_jmp] at h
    split at h
    · rename_i x r
      obtain ⟨t, ht, hq⟩ := z_map_some h
      have e1 : (if z_cmp cnd x 0 then t else pc + 3) = pc' := congrArg Prod.fst hq
      have e2 : r = st' := congrArg Prod.snd hq
      subst e2
      have ht := z_tg_eq ht
      subst e1
      cases cnd
      case eq => exact lv_if_eq hx hb hd ht (fun q => by simpa [z_cmp, q] using k) (fun q => by simpa [z_cmp, q] using k)
      case ne => exact lv_if_ne hx hb hd ht (fun q => by simpa [z_cmp, q] using k) (fun q => by simpa [z_cmp, q] using k)
      case lt => exact lv_if_lt hx hb hd ht (fun q => by simpa [z_cmp, q] using k) (fun q => by simpa [z_cmp, q] using k)
      case ge => exact lv_if_ge hx hb hd ht (fun q => by simpa [z_cmp, q] using k) (fun q => by simpa [z_cmp, q] using k)
      case gt => exact lv_if_gt hx hb hd ht (fun q => by simpa [z_cmp, q] using k) (fun q => by simpa [z_cmp, q] using k)
      case le => exact lv_if_le hx hb hd ht (fun q => by simpa [z_cmp, q] using k) (fun q => by simpa [z_cmp, q] using k)
    · cases h
  case if_icmp cnd off =>
    rcases hlen with ⟨d, lo, hi, o, h1⟩ | rfl
    · cases h1
    simp only [z_jmp] at h
    split at h
    · rename_i y x r
      obtain ⟨t, ht, hq⟩ := z_map_some h
      have e1 : (if z_cmp cnd x y then t else pc + 3) = pc' := congrArg Prod.fst hq
      have e2 : r = st' := congrArg Prod.snd hq
      subst e2
      have ht := z_tg_eq ht
      subst e1
      cases cnd
      case eq => exact lv_icmp_eq hx hb hd ht (fun q => by simpa [z_cmp, q] using k) (fun q => by simpa [z_cmp, q] using k)
      case ne => exact lv_icmp_ne hx hb hd ht (fun q => by simpa [z_cmp, q] using k) (fun q => by simpa [z_cmp, q] using k)
      case lt => exact lv_icmp_lt hx hb hd ht (fun q => by simpa [z_cmp, q] using k) (fun q => by simpa [z_cmp, q] using k)
      case ge => exact lv_icmp_ge hx hb hd ht (fun q => by simpa [z_cmp, q] using k) (fun q => by simpa [z_cmp, q] using k)
      case gt => exact lv_icmp_gt hx hb hd ht (fun q => by simpa [z_cmp, q] using k) (fun q => by simpa [z_cmp, q] using k)
      case le => exact lv_icmp_le hx hb hd ht (fun q => by simpa [z_cmp, q] using k) (fun q => by simpa [z_cmp, q] using k)
    · cases h
  case ifnull off =>
    rcases hlen with ⟨d, lo, hi, o, h1⟩ | rfl
    · cases h1
    simp only [z_jmp] at h
    split at h
    · obtain ⟨t, ht, hq⟩ := z_map_some h
      cases hq
      exact lv_ifnullN hx hb hd (z_tg_eq ht) k
    · cases h
      exact lv_ifnull hx hb hd k
    · cases h
  case ifnonnull off =>
    rcases hlen with ⟨d, lo, hi, o, h1⟩ | rfl
    · cases h1
    simp only [z_jmp] at h
    split at h
    · cases h
      exact lv_ifnonnullN hx hb hd k
    · obtain ⟨t, ht, hq⟩ := z_map_some h
      cases hq
      exact lv_ifnonnull hx hb hd (z_tg_eq ht) k
    · cases h
  case tableswitch d lo hi o =>
    simp only [z_jmp] at h
    split at h
    · rename_i x r
      split at h
      · rename_i h1
        obtain ⟨t, ht, hq⟩ := z_map_some h
        cases hq
        exact lv_tableOut hx hb hd h1 (z_tg_eq ht) k
      · rename_i h1
        split at h
        · rename_i off ho
          obtain ⟨t, ht, hq⟩ := z_map_some h
          cases hq
          exact lv_tableIn hx hb hd (fun q => h1 (Or.inl q)) (fun q => h1 (Or.inr q)) ho (z_tg_eq ht) k
        · cases h
    · cases h
  all_goals (cases h)
end ZSIMJ
section ZREP
/-- a cell of the picture at an address of the machine: an object of a class, a thing of which nothing is said (99), an array -/
def z_at (D : va_G) (cl : List vw_C) (ta : Nat → ClassId) (cv : Value → Value) (q : z_C) (a : Nat) (H : Heap) : Prop :=
  (q.1 < 99 → ∃ r : vw_C, cl[q.1]? = some r ∧ q.2.length = r.2.2 ∧ t_OB a (D.1 q.1) r.2.2 (D.2 q.1) H (vp_V (q.2.map cv))) ∧
  (100 ≤ q.1 → H[a]? = some (arrV (ta (q.1 - 100)) q.2.length (fun j => cv (q.2.getD j .null))))
theorem z_at.kept {D : va_G} {cl : List vw_C} {ta : Nat → ClassId} {cv : Value → Value} {q : z_C} {a : Nat} {H H1 : Heap} (h : z_at D cl ta cv q a H) (h1 : H1[a]? = H[a]?) : z_at D cl ta cv q a H1 :=
  ⟨fun n => by
    obtain ⟨r, e1, e2, e3⟩ := h.1 n
    exact ⟨r, e1, e2, e3.kept h1⟩, fun n => by rw [h1]; exact h.2 n⟩
/-- the machine's heap holds the picture, from the base on -/
def z_R (D : va_G) (cl : List vw_C) (ta : Nat → ClassId) (ext : Nat → Nat) (base : Nat) (P : z_H) (H : Heap) : Prop :=
  H.size = base + P.length ∧ P.length ≤ z_far ∧ ∀ (k : Nat) (q : z_C), P[k]? = some q → z_at D cl ta (z_cv ext base) q (base + k) H
/-- what is known of the classes and arrays: aty lists the kinds of the arrays -/
def z_K (D : va_G) (cl : List vw_C) (ta : Nat → ClassId) (aty : List FieldType) (U : State) : Prop :=
  (∀ (c : Nat) (q : vw_C), cl[c]? = some q → u_Kn U q.1 q.2.1 q.2.2 (D.1 c) (D.2 c)) ∧ ∀ (i : Nat) (t : FieldType), aty[i]? = some t → ArrOfT U (ta i) t ∧ va_RA U (ta i) t
theorem z_K.va {D : va_G} {cl : List vw_C} {ta : Nat → ClassId} {aty : List FieldType} {U : State} (h : z_K D cl ta aty U) : va_K D cl [] U := ⟨h.1, fun k q hk => by simp at hk⟩
theorem z_K.moved {D : va_G} {cl : List vw_C} {ta : Nat → ClassId} {aty : List FieldType} {u U : State} (hvm : u.vm.Alike U.vm) (h : z_K D cl ta aty u) : z_K D cl ta aty U :=
  ⟨fun c q hq => u_Kn_moved hvm (h.1 c q hq), fun i t hi => ⟨arrOfT_moved hvm (h.2 i t hi).1, (h.2 i t hi).2.moved hvm⟩⟩
theorem z_cv_near {ext : Nat → Nat} {base k : Nat} (h : k < z_far) : z_cv ext base (.ref k) = .ref (base + k) := by
  show Value.ref (if k < z_far then base + k else ext (k - z_far)) = _
  rw [if_pos h]
theorem z_get_lt {P : z_H} {k : Nat} {q : z_C} (h : P[k]? = some q) : k < P.length := (List.getElem?_eq_some_iff.mp h).1
theorem z_R.at {D : va_G} {cl : List vw_C} {ta : Nat → ClassId} {ext : Nat → Nat} {base : Nat} {P : z_H} {H : Heap} (h : z_R D cl ta ext base P H) {k : Nat} {q : z_C} (hk : P[k]? = some q) : z_at D cl ta (z_cv ext base) q (base + k) H := h.2.2 k q hk
theorem z_R.near {D : va_G} {cl : List vw_C} {ta : Nat → ClassId} {ext : Nat → Nat} {base : Nat} {P : z_H} {H : Heap} (h : z_R D cl ta ext base P H) {k : Nat} {q : z_C} (hk : P[k]? = some q) : z_cv ext base (.ref k) = .ref (base + k) :=
  z_cv_near (Nat.lt_of_lt_of_le (z_get_lt hk) h.2.1)
theorem z_R.set {D : va_G} {cl : List vw_C} {ta : Nat → ClassId} {ext : Nat → Nat} {base : Nat} {P : z_H} {H H1 : Heap} (h : z_R D cl ta ext base P H) {k : Nat} {q' : z_C} (hs : H1.size = H.size) (ho : ∀ a, a ≠ base + k → H1[a]? = H[a]?) (h1 : z_at D cl ta (z_cv ext base) q' (base + k) H1) : z_R D cl ta ext base (P.set k q') H1 := by
  refine ⟨by rw [hs, h.1]; simp, by simpa using h.2.1, fun j q hj => ?_⟩
  rw [List.getElem?_set] at hj
  split at hj
  · rename_i e
    subst e
    split at hj
    · cases hj; exact h1
    · cases hj
  · rename_i e
    exact (h.at hj).kept (ho _ (by omega))
theorem z_R.push {D : va_G} {cl : List vw_C} {ta : Nat → ClassId} {ext : Nat → Nat} {base : Nat} {P : z_H} {H H1 : Heap} (h : z_R D cl ta ext base P H) {q' : z_C} (hn : P.length < z_far) (hs : H1.size = H.size + 1) (ho : ∀ a, a < H.size → H1[a]? = H[a]?) (h1 : z_at D cl ta (z_cv ext base) q' (base + P.length) H1) : z_R D cl ta ext base (P ++ [q']) H1 := by
  refine ⟨by rw [hs, h.1, List.length_append]; simp; omega, by simp; omega, fun j q hj => ?_⟩
  rw [List.getElem?_append] at hj
  split at hj
  · rename_i e
    exact (h.at hj).kept (ho _ (by rw [h.1]; omega))
  · rename_i e
    have : j = P.length := by
      have := (List.getElem?_eq_some_iff.mp hj).1
      simp at this
      omega
    subst this
    simp at hj
    subst hj
    exact h1
end ZREP
