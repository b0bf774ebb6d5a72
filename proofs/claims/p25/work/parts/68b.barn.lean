/-! barn once more: the place of the next sign has a name at every place of the loop's body. -/
section ZMKW
def z_Tgc : z_Tg := (z_Tg0.1, z_Tg0.2.1, z_Tg0.2.2.1, (fun x => bif Nat.beq x 191 then [(90, 18)] else z_Tg0.2.2.2.1 x), z_Tg0.2.2.2.2.1, z_Tgb.2.2.2.2.2)
theorem z_gpC : z_Gap z_Tgc z_Jg := z_gap_Jg z_gapc rfl
theorem z_mkGJc {xs : List Int32} {W D : z_Ws} {hs : List (Nat × Nat)} {n : Nat} {Ks : List z_Kc} {R : List (Nat × Nat × Int)} (K : z_Kc) (Ds : List z_ce) (hd : z_jdg D = true) (hKs : ∀ K' ∈ Ks, z_cn (z_G xs) 12 z_Jg K') (hall : (Ds.all fun C => z_cok3 (z_G []) W D z_Tgc 12 n Ks (z_QX (z_lbk K.2.2.1 K.2.2.2.1) n 900000 W K.2.2.2.2.1) (z_atl hs) [] Ds 30000 C) = true) (hD : z_wsub D W = true) (hC : Ds.head? = some (K.2.1, K.2.2.1, K.2.2.2.1, R)) (hn : K.2.2.1.2.2.2.1 = n) (hB : K.2.2.1.2.2.2.2.2 = 900000) : z_cn (z_G xs) 12 z_Jg K := by
  have hKs' : ∀ K' ∈ Ks, z_cn (z_setS (z_G []) (z_strl, xs)) 12 z_Jg K' := hKs
  have h : z_cn (z_setS (z_G []) (z_strl, xs)) 12 z_Jg K := z_cn_mk2 (G0 := z_G []) (s := (z_strl, xs)) (K := K) (C := (K.2.1, K.2.2.1, K.2.2.2.1, R)) (z_Jok_g hd) z_gpC hKs' hall hD hC rfl rfl rfl hn hB
  exact @h
end ZMKW
