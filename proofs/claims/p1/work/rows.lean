section
-- ===== PART A: goes FIRST, ahead of the names: the tables' words, and 'selects' of the private methods out of them =====
/-- a private method of a class that the tables say can be made, by its rows of tables_1 -/
def lw_okq (q : MethodName × Nat) : Prop := (q.1.cls ≠ "java/lang/invoke/MethodHandle" ∧ q.1.cls ≠ "java/lang/invoke/VarHandle") ∧ Cond.instantiable q.1.cls q.2 ∈ tables_1 ∧ Cond.privateMethod q.1 ∈ tables_1 ∧ Cond.instanceMethod q.1 ∈ tables_1
theorem lw_p0 : lw_okq (⟨"ChaffInTheWind$Signs", "append", "(I)I"⟩, 5) := ⟨⟨by decide +kernel, by decide +kernel⟩, List.mem_of_getElem? (i := 34) (by decide +kernel), List.mem_of_getElem? (i := 329) (by decide +kernel), List.mem_of_getElem? (i := 330) (by decide +kernel)⟩
theorem lw_p1 : lw_okq (⟨"ChaffInTheWind$Signs", "shorten", "(I)Z"⟩, 5) := ⟨⟨by decide +kernel, by decide +kernel⟩, List.mem_of_getElem? (i := 34) (by decide +kernel), List.mem_of_getElem? (i := 337) (by decide +kernel), List.mem_of_getElem? (i := 338) (by decide +kernel)⟩
theorem lw_p2 : lw_okq (⟨"ChaffInTheWind$Signs", "open", "(I)V"⟩, 5) := ⟨⟨by decide +kernel, by decide +kernel⟩, List.mem_of_getElem? (i := 34) (by decide +kernel), List.mem_of_getElem? (i := 345) (by decide +kernel), List.mem_of_getElem? (i := 346) (by decide +kernel)⟩
theorem lw_p3 : lw_okq (⟨"ChaffInTheWind$Barn", "read", "(LChaffInTheWind$Signs;)I"⟩, 13) := ⟨⟨by decide +kernel, by decide +kernel⟩, List.mem_of_getElem? (i := 74) (by decide +kernel), List.mem_of_getElem? (i := 352) (by decide +kernel), List.mem_of_getElem? (i := 353) (by decide +kernel)⟩
theorem lw_p4 : lw_okq (⟨"ChaffInTheWind$Signs", "isDone", "()Z"⟩, 5) := ⟨⟨by decide +kernel, by decide +kernel⟩, List.mem_of_getElem? (i := 34) (by decide +kernel), List.mem_of_getElem? (i := 356) (by decide +kernel), List.mem_of_getElem? (i := 357) (by decide +kernel)⟩
theorem lw_p5 : lw_okq (⟨"ChaffInTheWind$Barn", "readLine", "(LChaffInTheWind$Signs;)Z"⟩, 13) := ⟨⟨by decide +kernel, by decide +kernel⟩, List.mem_of_getElem? (i := 74) (by decide +kernel), List.mem_of_getElem? (i := 360) (by decide +kernel), List.mem_of_getElem? (i := 361) (by decide +kernel)⟩
theorem lw_p6 : lw_okq (⟨"ChaffInTheWind$Signs", "take", "(C)Z"⟩, 5) := ⟨⟨by decide +kernel, by decide +kernel⟩, List.mem_of_getElem? (i := 34) (by decide +kernel), List.mem_of_getElem? (i := 364) (by decide +kernel), List.mem_of_getElem? (i := 365) (by decide +kernel)⟩
theorem lw_p7 : lw_okq (⟨"ChaffInTheWind$Signs", "isNext", "(C)Z"⟩, 5) := ⟨⟨by decide +kernel, by decide +kernel⟩, List.mem_of_getElem? (i := 34) (by decide +kernel), List.mem_of_getElem? (i := 368) (by decide +kernel), List.mem_of_getElem? (i := 369) (by decide +kernel)⟩
theorem lw_p8 : lw_okq (⟨"ChaffInTheWind$Barn", "readYards", "(LChaffInTheWind$Signs;)Z"⟩, 13) := ⟨⟨by decide +kernel, by decide +kernel⟩, List.mem_of_getElem? (i := 74) (by decide +kernel), List.mem_of_getElem? (i := 372) (by decide +kernel), List.mem_of_getElem? (i := 373) (by decide +kernel)⟩
theorem lw_p9 : lw_okq (⟨"ChaffInTheWind$Signs", "number", "(III)I"⟩, 5) := ⟨⟨by decide +kernel, by decide +kernel⟩, List.mem_of_getElem? (i := 34) (by decide +kernel), List.mem_of_getElem? (i := 376) (by decide +kernel), List.mem_of_getElem? (i := 377) (by decide +kernel)⟩
theorem lw_p10 : lw_okq (⟨"ChaffInTheWind$Signs", "isDigitNext", "()Z"⟩, 5) := ⟨⟨by decide +kernel, by decide +kernel⟩, List.mem_of_getElem? (i := 34) (by decide +kernel), List.mem_of_getElem? (i := 380) (by decide +kernel), List.mem_of_getElem? (i := 381) (by decide +kernel)⟩
theorem lw_p11 : lw_okq (⟨"ChaffInTheWind$Barn", "readSort", "(LChaffInTheWind$Signs;I)Z"⟩, 13) := ⟨⟨by decide +kernel, by decide +kernel⟩, List.mem_of_getElem? (i := 74) (by decide +kernel), List.mem_of_getElem? (i := 385) (by decide +kernel), List.mem_of_getElem? (i := 386) (by decide +kernel)⟩
theorem lw_p12 : lw_okq (⟨"ChaffInTheWind$Signs", "takeOneOf", "(Ljava/lang/String;)I"⟩, 5) := ⟨⟨by decide +kernel, by decide +kernel⟩, List.mem_of_getElem? (i := 34) (by decide +kernel), List.mem_of_getElem? (i := 390) (by decide +kernel), List.mem_of_getElem? (i := 391) (by decide +kernel)⟩
theorem lw_p13 : lw_okq (⟨"ChaffInTheWind$Signs", "hasMore", "()Z"⟩, 5) := ⟨⟨by decide +kernel, by decide +kernel⟩, List.mem_of_getElem? (i := 34) (by decide +kernel), List.mem_of_getElem? (i := 478) (by decide +kernel), List.mem_of_getElem? (i := 479) (by decide +kernel)⟩
theorem lw_p14 : lw_okq (⟨"ChaffInTheWind$Signs", "clear", "()V"⟩, 5) := ⟨⟨by decide +kernel, by decide +kernel⟩, List.mem_of_getElem? (i := 34) (by decide +kernel), List.mem_of_getElem? (i := 482) (by decide +kernel), List.mem_of_getElem? (i := 483) (by decide +kernel)⟩
theorem lw_p15 : lw_okq (⟨"ChaffInTheWind$Signs", "fault", "()I"⟩, 5) := ⟨⟨by decide +kernel, by decide +kernel⟩, List.mem_of_getElem? (i := 34) (by decide +kernel), List.mem_of_getElem? (i := 486) (by decide +kernel), List.mem_of_getElem? (i := 487) (by decide +kernel)⟩
def lw_privs_1 : List (MethodName × Nat) := [(⟨"ChaffInTheWind$Signs", "append", "(I)I"⟩, 5), (⟨"ChaffInTheWind$Signs", "shorten", "(I)Z"⟩, 5), (⟨"ChaffInTheWind$Signs", "open", "(I)V"⟩, 5), (⟨"ChaffInTheWind$Barn", "read", "(LChaffInTheWind$Signs;)I"⟩, 13), (⟨"ChaffInTheWind$Signs", "isDone", "()Z"⟩, 5), (⟨"ChaffInTheWind$Barn", "readLine", "(LChaffInTheWind$Signs;)Z"⟩, 13), (⟨"ChaffInTheWind$Signs", "take", "(C)Z"⟩, 5), (⟨"ChaffInTheWind$Signs", "isNext", "(C)Z"⟩, 5), (⟨"ChaffInTheWind$Barn", "readYards", "(LChaffInTheWind$Signs;)Z"⟩, 13), (⟨"ChaffInTheWind$Signs", "number", "(III)I"⟩, 5), (⟨"ChaffInTheWind$Signs", "isDigitNext", "()Z"⟩, 5), (⟨"ChaffInTheWind$Barn", "readSort", "(LChaffInTheWind$Signs;I)Z"⟩, 13), (⟨"ChaffInTheWind$Signs", "takeOneOf", "(Ljava/lang/String;)I"⟩, 5), (⟨"ChaffInTheWind$Signs", "hasMore", "()Z"⟩, 5), (⟨"ChaffInTheWind$Signs", "clear", "()V"⟩, 5), (⟨"ChaffInTheWind$Signs", "fault", "()I"⟩, 5)]
theorem lw_r1 : ∀ q ∈ lw_privs_1, lw_okq q := List.forall_mem_cons.mpr ⟨lw_p0, List.forall_mem_cons.mpr ⟨lw_p1, List.forall_mem_cons.mpr ⟨lw_p2, List.forall_mem_cons.mpr ⟨lw_p3, List.forall_mem_cons.mpr ⟨lw_p4, List.forall_mem_cons.mpr ⟨lw_p5, List.forall_mem_cons.mpr ⟨lw_p6, List.forall_mem_cons.mpr ⟨lw_p7, List.forall_mem_cons.mpr ⟨lw_p8, List.forall_mem_cons.mpr ⟨lw_p9, List.forall_mem_cons.mpr ⟨lw_p10, List.forall_mem_cons.mpr ⟨lw_p11, List.forall_mem_cons.mpr ⟨lw_p12, List.forall_mem_cons.mpr ⟨lw_p13, List.forall_mem_cons.mpr ⟨lw_p14, List.forall_mem_cons.mpr ⟨lw_p15, fun _ h => absurd h List.not_mem_nil⟩⟩⟩⟩⟩⟩⟩⟩⟩⟩⟩⟩⟩⟩⟩⟩
theorem lw_p16 : lw_okq (⟨"ChaffInTheWind$Barn", "tellsYards", "()Z"⟩, 13) := ⟨⟨by decide +kernel, by decide +kernel⟩, List.mem_of_getElem? (i := 74) (by decide +kernel), List.mem_of_getElem? (i := 490) (by decide +kernel), List.mem_of_getElem? (i := 491) (by decide +kernel)⟩
theorem lw_p17 : lw_okq (⟨"ChaffInTheWind$Store", "clearYards", "()V"⟩, 6) := ⟨⟨by decide +kernel, by decide +kernel⟩, List.mem_of_getElem? (i := 173) (by decide +kernel), List.mem_of_getElem? (i := 494) (by decide +kernel), List.mem_of_getElem? (i := 495) (by decide +kernel)⟩
theorem lw_p18 : lw_okq (⟨"ChaffInTheWind$Barn", "settle", "()V"⟩, 13) := ⟨⟨by decide +kernel, by decide +kernel⟩, List.mem_of_getElem? (i := 74) (by decide +kernel), List.mem_of_getElem? (i := 501) (by decide +kernel), List.mem_of_getElem? (i := 502) (by decide +kernel)⟩
theorem lw_p19 : lw_okq (⟨"ChaffInTheWind$Barn", "forgetLandings", "()V"⟩, 13) := ⟨⟨by decide +kernel, by decide +kernel⟩, List.mem_of_getElem? (i := 74) (by decide +kernel), List.mem_of_getElem? (i := 506) (by decide +kernel), List.mem_of_getElem? (i := 507) (by decide +kernel)⟩
theorem lw_p20 : lw_okq (⟨"ChaffInTheWind$Gusts", "read", "(LChaffInTheWind$Signs;)I"⟩, 5) := ⟨⟨by decide +kernel, by decide +kernel⟩, List.mem_of_getElem? (i := 206) (by decide +kernel), List.mem_of_getElem? (i := 516) (by decide +kernel), List.mem_of_getElem? (i := 517) (by decide +kernel)⟩
theorem lw_p21 : lw_okq (⟨"ChaffInTheWind$Gusts", "readLine", "(LChaffInTheWind$Signs;I)Z"⟩, 5) := ⟨⟨by decide +kernel, by decide +kernel⟩, List.mem_of_getElem? (i := 206) (by decide +kernel), List.mem_of_getElem? (i := 521) (by decide +kernel), List.mem_of_getElem? (i := 522) (by decide +kernel)⟩
theorem lw_p22 : lw_okq (⟨"ChaffInTheWind$Market", "read", "(LChaffInTheWind$Signs;I)Z"⟩, 4) := ⟨⟨by decide +kernel, by decide +kernel⟩, List.mem_of_getElem? (i := 229) (by decide +kernel), List.mem_of_getElem? (i := 531) (by decide +kernel), List.mem_of_getElem? (i := 532) (by decide +kernel)⟩
theorem lw_p23 : lw_okq (⟨"ChaffInTheWind$Formula", "read", "(LChaffInTheWind$Signs;Ljava/lang/String;)Z"⟩, 3) := ⟨⟨by decide +kernel, by decide +kernel⟩, List.mem_of_getElem? (i := 236) (by decide +kernel), List.mem_of_getElem? (i := 537) (by decide +kernel), List.mem_of_getElem? (i := 538) (by decide +kernel)⟩
theorem lw_p24 : lw_okq (⟨"ChaffInTheWind$Formula", "readComparison", "(LChaffInTheWind$Signs;Ljava/lang/String;I)Z"⟩, 3) := ⟨⟨by decide +kernel, by decide +kernel⟩, List.mem_of_getElem? (i := 236) (by decide +kernel), List.mem_of_getElem? (i := 542) (by decide +kernel), List.mem_of_getElem? (i := 543) (by decide +kernel)⟩
theorem lw_p25 : lw_okq (⟨"ChaffInTheWind$Formula", "readSum", "(LChaffInTheWind$Signs;Ljava/lang/String;I)Z"⟩, 3) := ⟨⟨by decide +kernel, by decide +kernel⟩, List.mem_of_getElem? (i := 236) (by decide +kernel), List.mem_of_getElem? (i := 546) (by decide +kernel), List.mem_of_getElem? (i := 547) (by decide +kernel)⟩
theorem lw_p26 : lw_okq (⟨"ChaffInTheWind$Formula", "readProduct", "(LChaffInTheWind$Signs;Ljava/lang/String;I)Z"⟩, 3) := ⟨⟨by decide +kernel, by decide +kernel⟩, List.mem_of_getElem? (i := 236) (by decide +kernel), List.mem_of_getElem? (i := 550) (by decide +kernel), List.mem_of_getElem? (i := 551) (by decide +kernel)⟩
theorem lw_p27 : lw_okq (⟨"ChaffInTheWind$Formula", "readThing", "(LChaffInTheWind$Signs;Ljava/lang/String;I)Z"⟩, 3) := ⟨⟨by decide +kernel, by decide +kernel⟩, List.mem_of_getElem? (i := 236) (by decide +kernel), List.mem_of_getElem? (i := 554) (by decide +kernel), List.mem_of_getElem? (i := 555) (by decide +kernel)⟩
theorem lw_p28 : lw_okq (⟨"ChaffInTheWind$Formula", "readBareThing", "(LChaffInTheWind$Signs;Ljava/lang/String;I)Z"⟩, 3) := ⟨⟨by decide +kernel, by decide +kernel⟩, List.mem_of_getElem? (i := 236) (by decide +kernel), List.mem_of_getElem? (i := 559) (by decide +kernel), List.mem_of_getElem? (i := 560) (by decide +kernel)⟩
theorem lw_p29 : lw_okq (⟨"ChaffInTheWind$Formula", "append", "(I)Z"⟩, 3) := ⟨⟨by decide +kernel, by decide +kernel⟩, List.mem_of_getElem? (i := 236) (by decide +kernel), List.mem_of_getElem? (i := 565) (by decide +kernel), List.mem_of_getElem? (i := 566) (by decide +kernel)⟩
theorem lw_p30 : lw_okq (⟨"ChaffInTheWind$Market", "settle", "(I)V"⟩, 4) := ⟨⟨by decide +kernel, by decide +kernel⟩, List.mem_of_getElem? (i := 229) (by decide +kernel), List.mem_of_getElem? (i := 573) (by decide +kernel), List.mem_of_getElem? (i := 574) (by decide +kernel)⟩
theorem lw_p31 : lw_okq (⟨"ChaffInTheWind$Barn", "leastOf", "(I)I"⟩, 13) := ⟨⟨by decide +kernel, by decide +kernel⟩, List.mem_of_getElem? (i := 74) (by decide +kernel), List.mem_of_getElem? (i := 581) (by decide +kernel), List.mem_of_getElem? (i := 582) (by decide +kernel)⟩
def lw_privs_2 : List (MethodName × Nat) := [(⟨"ChaffInTheWind$Barn", "tellsYards", "()Z"⟩, 13), (⟨"ChaffInTheWind$Store", "clearYards", "()V"⟩, 6), (⟨"ChaffInTheWind$Barn", "settle", "()V"⟩, 13), (⟨"ChaffInTheWind$Barn", "forgetLandings", "()V"⟩, 13), (⟨"ChaffInTheWind$Gusts", "read", "(LChaffInTheWind$Signs;)I"⟩, 5), (⟨"ChaffInTheWind$Gusts", "readLine", "(LChaffInTheWind$Signs;I)Z"⟩, 5), (⟨"ChaffInTheWind$Market", "read", "(LChaffInTheWind$Signs;I)Z"⟩, 4), (⟨"ChaffInTheWind$Formula", "read", "(LChaffInTheWind$Signs;Ljava/lang/String;)Z"⟩, 3), (⟨"ChaffInTheWind$Formula", "readComparison", "(LChaffInTheWind$Signs;Ljava/lang/String;I)Z"⟩, 3), (⟨"ChaffInTheWind$Formula", "readSum", "(LChaffInTheWind$Signs;Ljava/lang/String;I)Z"⟩, 3), (⟨"ChaffInTheWind$Formula", "readProduct", "(LChaffInTheWind$Signs;Ljava/lang/String;I)Z"⟩, 3), (⟨"ChaffInTheWind$Formula", "readThing", "(LChaffInTheWind$Signs;Ljava/lang/String;I)Z"⟩, 3), (⟨"ChaffInTheWind$Formula", "readBareThing", "(LChaffInTheWind$Signs;Ljava/lang/String;I)Z"⟩, 3), (⟨"ChaffInTheWind$Formula", "append", "(I)Z"⟩, 3), (⟨"ChaffInTheWind$Market", "settle", "(I)V"⟩, 4), (⟨"ChaffInTheWind$Barn", "leastOf", "(I)I"⟩, 13)]
theorem lw_r2 : ∀ q ∈ lw_privs_2, lw_okq q := List.forall_mem_cons.mpr ⟨lw_p16, List.forall_mem_cons.mpr ⟨lw_p17, List.forall_mem_cons.mpr ⟨lw_p18, List.forall_mem_cons.mpr ⟨lw_p19, List.forall_mem_cons.mpr ⟨lw_p20, List.forall_mem_cons.mpr ⟨lw_p21, List.forall_mem_cons.mpr ⟨lw_p22, List.forall_mem_cons.mpr ⟨lw_p23, List.forall_mem_cons.mpr ⟨lw_p24, List.forall_mem_cons.mpr ⟨lw_p25, List.forall_mem_cons.mpr ⟨lw_p26, List.forall_mem_cons.mpr ⟨lw_p27, List.forall_mem_cons.mpr ⟨lw_p28, List.forall_mem_cons.mpr ⟨lw_p29, List.forall_mem_cons.mpr ⟨lw_p30, List.forall_mem_cons.mpr ⟨lw_p31, fun _ h => absurd h List.not_mem_nil⟩⟩⟩⟩⟩⟩⟩⟩⟩⟩⟩⟩⟩⟩⟩⟩
theorem lw_p32 : lw_okq (⟨"ChaffInTheWind$Barn", "mostOf", "(I)I"⟩, 13) := ⟨⟨by decide +kernel, by decide +kernel⟩, List.mem_of_getElem? (i := 74) (by decide +kernel), List.mem_of_getElem? (i := 585) (by decide +kernel), List.mem_of_getElem? (i := 586) (by decide +kernel)⟩
theorem lw_p33 : lw_okq (⟨"ChaffInTheWind$Barn", "change", "(II)I"⟩, 13) := ⟨⟨by decide +kernel, by decide +kernel⟩, List.mem_of_getElem? (i := 74) (by decide +kernel), List.mem_of_getElem? (i := 589) (by decide +kernel), List.mem_of_getElem? (i := 590) (by decide +kernel)⟩
theorem lw_p34 : lw_okq (⟨"ChaffInTheWind", "isSort", "(I)Z"⟩, 18) := ⟨⟨by decide +kernel, by decide +kernel⟩, List.mem_of_getElem? (i := 26) (by decide +kernel), List.mem_of_getElem? (i := 600) (by decide +kernel), List.mem_of_getElem? (i := 601) (by decide +kernel)⟩
theorem lw_p35 : lw_okq (⟨"ChaffInTheWind", "isYardOrOut", "(I)Z"⟩, 18) := ⟨⟨by decide +kernel, by decide +kernel⟩, List.mem_of_getElem? (i := 26) (by decide +kernel), List.mem_of_getElem? (i := 608) (by decide +kernel), List.mem_of_getElem? (i := 609) (by decide +kernel)⟩
theorem lw_p36 : lw_okq (⟨"ChaffInTheWind", "placeOf", "(I)[I"⟩, 18) := ⟨⟨by decide +kernel, by decide +kernel⟩, List.mem_of_getElem? (i := 26) (by decide +kernel), List.mem_of_getElem? (i := 612) (by decide +kernel), List.mem_of_getElem? (i := 613) (by decide +kernel)⟩
theorem lw_p37 : lw_okq (⟨"ChaffInTheWind$Barn", "isOut", "(I)Z"⟩, 13) := ⟨⟨by decide +kernel, by decide +kernel⟩, List.mem_of_getElem? (i := 74) (by decide +kernel), List.mem_of_getElem? (i := 616) (by decide +kernel), List.mem_of_getElem? (i := 617) (by decide +kernel)⟩
theorem lw_p38 : lw_okq (⟨"ChaffInTheWind", "entry", "(II)I"⟩, 18) := ⟨⟨by decide +kernel, by decide +kernel⟩, List.mem_of_getElem? (i := 26) (by decide +kernel), List.mem_of_getElem? (i := 625) (by decide +kernel), List.mem_of_getElem? (i := 626) (by decide +kernel)⟩
theorem lw_p39 : lw_okq (⟨"ChaffInTheWind$Barn", "land", "(II)I"⟩, 13) := ⟨⟨by decide +kernel, by decide +kernel⟩, List.mem_of_getElem? (i := 74) (by decide +kernel), List.mem_of_getElem? (i := 644) (by decide +kernel), List.mem_of_getElem? (i := 645) (by decide +kernel)⟩
theorem lw_p40 : lw_okq (⟨"ChaffInTheWind$Barn", "throwUp", "(III)V"⟩, 13) := ⟨⟨by decide +kernel, by decide +kernel⟩, List.mem_of_getElem? (i := 74) (by decide +kernel), List.mem_of_getElem? (i := 648) (by decide +kernel), List.mem_of_getElem? (i := 649) (by decide +kernel)⟩
theorem lw_p41 : lw_okq (⟨"ChaffInTheWind$Flight", "start", "(IIII)V"⟩, 8) := ⟨⟨by decide +kernel, by decide +kernel⟩, List.mem_of_getElem? (i := 80) (by decide +kernel), List.mem_of_getElem? (i := 652) (by decide +kernel), List.mem_of_getElem? (i := 653) (by decide +kernel)⟩
theorem lw_p42 : lw_okq (⟨"ChaffInTheWind$Flight", "fall", "(I)V"⟩, 8) := ⟨⟨by decide +kernel, by decide +kernel⟩, List.mem_of_getElem? (i := 80) (by decide +kernel), List.mem_of_getElem? (i := 658) (by decide +kernel), List.mem_of_getElem? (i := 659) (by decide +kernel)⟩
theorem lw_p43 : lw_okq (⟨"ChaffInTheWind$Flight", "tick", "()V"⟩, 8) := ⟨⟨by decide +kernel, by decide +kernel⟩, List.mem_of_getElem? (i := 80) (by decide +kernel), List.mem_of_getElem? (i := 662) (by decide +kernel), List.mem_of_getElem? (i := 663) (by decide +kernel)⟩
theorem lw_p44 : lw_okq (⟨"ChaffInTheWind$Barn", "yardAt", "(I)I"⟩, 13) := ⟨⟨by decide +kernel, by decide +kernel⟩, List.mem_of_getElem? (i := 74) (by decide +kernel), List.mem_of_getElem? (i := 666) (by decide +kernel), List.mem_of_getElem? (i := 667) (by decide +kernel)⟩
theorem lw_p45 : lw_okq (⟨"ChaffInTheWind$Row", "only", "(J)V"⟩, 2) := ⟨⟨by decide +kernel, by decide +kernel⟩, List.mem_of_getElem? (i := 58) (by decide +kernel), List.mem_of_getElem? (i := 674) (by decide +kernel), List.mem_of_getElem? (i := 675) (by decide +kernel)⟩
theorem lw_p46 : lw_okq (⟨"ChaffInTheWind$Row", "add", "(J)V"⟩, 2) := ⟨⟨by decide +kernel, by decide +kernel⟩, List.mem_of_getElem? (i := 58) (by decide +kernel), List.mem_of_getElem? (i := 678) (by decide +kernel), List.mem_of_getElem? (i := 679) (by decide +kernel)⟩
theorem lw_p47 : lw_okq (⟨"ChaffInTheWind", "mostOf", "([I)I"⟩, 18) := ⟨⟨by decide +kernel, by decide +kernel⟩, List.mem_of_getElem? (i := 26) (by decide +kernel), List.mem_of_getElem? (i := 687) (by decide +kernel), List.mem_of_getElem? (i := 688) (by decide +kernel)⟩
def lw_privs_3 : List (MethodName × Nat) := [(⟨"ChaffInTheWind$Barn", "mostOf", "(I)I"⟩, 13), (⟨"ChaffInTheWind$Barn", "change", "(II)I"⟩, 13), (⟨"ChaffInTheWind", "isSort", "(I)Z"⟩, 18), (⟨"ChaffInTheWind", "isYardOrOut", "(I)Z"⟩, 18), (⟨"ChaffInTheWind", "placeOf", "(I)[I"⟩, 18), (⟨"ChaffInTheWind$Barn", "isOut", "(I)Z"⟩, 13), (⟨"ChaffInTheWind", "entry", "(II)I"⟩, 18), (⟨"ChaffInTheWind$Barn", "land", "(II)I"⟩, 13), (⟨"ChaffInTheWind$Barn", "throwUp", "(III)V"⟩, 13), (⟨"ChaffInTheWind$Flight", "start", "(IIII)V"⟩, 8), (⟨"ChaffInTheWind$Flight", "fall", "(I)V"⟩, 8), (⟨"ChaffInTheWind$Flight", "tick", "()V"⟩, 8), (⟨"ChaffInTheWind$Barn", "yardAt", "(I)I"⟩, 13), (⟨"ChaffInTheWind$Row", "only", "(J)V"⟩, 2), (⟨"ChaffInTheWind$Row", "add", "(J)V"⟩, 2), (⟨"ChaffInTheWind", "mostOf", "([I)I"⟩, 18)]
theorem lw_r3 : ∀ q ∈ lw_privs_3, lw_okq q := List.forall_mem_cons.mpr ⟨lw_p32, List.forall_mem_cons.mpr ⟨lw_p33, List.forall_mem_cons.mpr ⟨lw_p34, List.forall_mem_cons.mpr ⟨lw_p35, List.forall_mem_cons.mpr ⟨lw_p36, List.forall_mem_cons.mpr ⟨lw_p37, List.forall_mem_cons.mpr ⟨lw_p38, List.forall_mem_cons.mpr ⟨lw_p39, List.forall_mem_cons.mpr ⟨lw_p40, List.forall_mem_cons.mpr ⟨lw_p41, List.forall_mem_cons.mpr ⟨lw_p42, List.forall_mem_cons.mpr ⟨lw_p43, List.forall_mem_cons.mpr ⟨lw_p44, List.forall_mem_cons.mpr ⟨lw_p45, List.forall_mem_cons.mpr ⟨lw_p46, List.forall_mem_cons.mpr ⟨lw_p47, fun _ h => absurd h List.not_mem_nil⟩⟩⟩⟩⟩⟩⟩⟩⟩⟩⟩⟩⟩⟩⟩⟩
theorem lw_p48 : lw_okq (⟨"ChaffInTheWind", "throwShovel", "([I)I"⟩, 18) := ⟨⟨by decide +kernel, by decide +kernel⟩, List.mem_of_getElem? (i := 26) (by decide +kernel), List.mem_of_getElem? (i := 691) (by decide +kernel), List.mem_of_getElem? (i := 692) (by decide +kernel)⟩
theorem lw_p49 : lw_okq (⟨"ChaffInTheWind", "windOfThrow", "()I"⟩, 18) := ⟨⟨by decide +kernel, by decide +kernel⟩, List.mem_of_getElem? (i := 26) (by decide +kernel), List.mem_of_getElem? (i := 695) (by decide +kernel), List.mem_of_getElem? (i := 696) (by decide +kernel)⟩
theorem lw_p50 : lw_okq (⟨"ChaffInTheWind$Gusts", "lineAt", "(I)I"⟩, 5) := ⟨⟨by decide +kernel, by decide +kernel⟩, List.mem_of_getElem? (i := 206) (by decide +kernel), List.mem_of_getElem? (i := 699) (by decide +kernel), List.mem_of_getElem? (i := 700) (by decide +kernel)⟩
theorem lw_p51 : lw_okq (⟨"ChaffInTheWind$Gusts", "spreadOf", "(I)I"⟩, 5) := ⟨⟨by decide +kernel, by decide +kernel⟩, List.mem_of_getElem? (i := 206) (by decide +kernel), List.mem_of_getElem? (i := 703) (by decide +kernel), List.mem_of_getElem? (i := 704) (by decide +kernel)⟩
theorem lw_p52 : lw_okq (⟨"ChaffInTheWind$Store", "draw", "(I)I"⟩, 6) := ⟨⟨by decide +kernel, by decide +kernel⟩, List.mem_of_getElem? (i := 173) (by decide +kernel), List.mem_of_getElem? (i := 707) (by decide +kernel), List.mem_of_getElem? (i := 708) (by decide +kernel)⟩
theorem lw_p53 : lw_okq (⟨"ChaffInTheWind$Gusts", "windOf", "(I)I"⟩, 5) := ⟨⟨by decide +kernel, by decide +kernel⟩, List.mem_of_getElem? (i := 206) (by decide +kernel), List.mem_of_getElem? (i := 712) (by decide +kernel), List.mem_of_getElem? (i := 713) (by decide +kernel)⟩
theorem lw_p54 : lw_okq (⟨"ChaffInTheWind$Barn", "landing", "(II)I"⟩, 13) := ⟨⟨by decide +kernel, by decide +kernel⟩, List.mem_of_getElem? (i := 74) (by decide +kernel), List.mem_of_getElem? (i := 716) (by decide +kernel), List.mem_of_getElem? (i := 717) (by decide +kernel)⟩
theorem lw_p55 : lw_okq (⟨"ChaffInTheWind$Gusts", "leftAt", "(I)I"⟩, 5) := ⟨⟨by decide +kernel, by decide +kernel⟩, List.mem_of_getElem? (i := 206) (by decide +kernel), List.mem_of_getElem? (i := 725) (by decide +kernel), List.mem_of_getElem? (i := 726) (by decide +kernel)⟩
theorem lw_p56 : lw_okq (⟨"ChaffInTheWind", "areYards", "(II)Z"⟩, 18) := ⟨⟨by decide +kernel, by decide +kernel⟩, List.mem_of_getElem? (i := 26) (by decide +kernel), List.mem_of_getElem? (i := 733) (by decide +kernel), List.mem_of_getElem? (i := 734) (by decide +kernel)⟩
theorem lw_p57 : lw_okq (⟨"ChaffInTheWind", "moveAll", "([I[I)I"⟩, 18) := ⟨⟨by decide +kernel, by decide +kernel⟩, List.mem_of_getElem? (i := 26) (by decide +kernel), List.mem_of_getElem? (i := 737) (by decide +kernel), List.mem_of_getElem? (i := 738) (by decide +kernel)⟩
theorem lw_p58 : lw_okq (⟨"ChaffInTheWind", "move", "(I[I[I)I"⟩, 18) := ⟨⟨by decide +kernel, by decide +kernel⟩, List.mem_of_getElem? (i := 26) (by decide +kernel), List.mem_of_getElem? (i := 741) (by decide +kernel), List.mem_of_getElem? (i := 742) (by decide +kernel)⟩
theorem lw_p59 : lw_okq (⟨"ChaffInTheWind$Market", "flings", "(LChaffInTheWind$Barn;II)Z"⟩, 4) := ⟨⟨by decide +kernel, by decide +kernel⟩, List.mem_of_getElem? (i := 229) (by decide +kernel), List.mem_of_getElem? (i := 763) (by decide +kernel), List.mem_of_getElem? (i := 764) (by decide +kernel)⟩
theorem lw_p60 : lw_okq (⟨"ChaffInTheWind$Market", "isTold", "(I)Z"⟩, 4) := ⟨⟨by decide +kernel, by decide +kernel⟩, List.mem_of_getElem? (i := 229) (by decide +kernel), List.mem_of_getElem? (i := 767) (by decide +kernel), List.mem_of_getElem? (i := 768) (by decide +kernel)⟩
theorem lw_p61 : lw_okq (⟨"ChaffInTheWind$Formula", "value", "([I)I"⟩, 3) := ⟨⟨by decide +kernel, by decide +kernel⟩, List.mem_of_getElem? (i := 236) (by decide +kernel), List.mem_of_getElem? (i := 771) (by decide +kernel), List.mem_of_getElem? (i := 772) (by decide +kernel)⟩
theorem lw_p62 : lw_okq (⟨"ChaffInTheWind$Row", "clear", "()V"⟩, 2) := ⟨⟨by decide +kernel, by decide +kernel⟩, List.mem_of_getElem? (i := 58) (by decide +kernel), List.mem_of_getElem? (i := 788) (by decide +kernel), List.mem_of_getElem? (i := 789) (by decide +kernel)⟩
theorem lw_p63 : lw_okq (⟨"ChaffInTheWind$Barn", "isCorn", "(I)Z"⟩, 13) := ⟨⟨by decide +kernel, by decide +kernel⟩, List.mem_of_getElem? (i := 74) (by decide +kernel), List.mem_of_getElem? (i := 796) (by decide +kernel), List.mem_of_getElem? (i := 797) (by decide +kernel)⟩
def lw_privs_4 : List (MethodName × Nat) := [(⟨"ChaffInTheWind", "throwShovel", "([I)I"⟩, 18), (⟨"ChaffInTheWind", "windOfThrow", "()I"⟩, 18), (⟨"ChaffInTheWind$Gusts", "lineAt", "(I)I"⟩, 5), (⟨"ChaffInTheWind$Gusts", "spreadOf", "(I)I"⟩, 5), (⟨"ChaffInTheWind$Store", "draw", "(I)I"⟩, 6), (⟨"ChaffInTheWind$Gusts", "windOf", "(I)I"⟩, 5), (⟨"ChaffInTheWind$Barn", "landing", "(II)I"⟩, 13), (⟨"ChaffInTheWind$Gusts", "leftAt", "(I)I"⟩, 5), (⟨"ChaffInTheWind", "areYards", "(II)Z"⟩, 18), (⟨"ChaffInTheWind", "moveAll", "([I[I)I"⟩, 18), (⟨"ChaffInTheWind", "move", "(I[I[I)I"⟩, 18), (⟨"ChaffInTheWind$Market", "flings", "(LChaffInTheWind$Barn;II)Z"⟩, 4), (⟨"ChaffInTheWind$Market", "isTold", "(I)Z"⟩, 4), (⟨"ChaffInTheWind$Formula", "value", "([I)I"⟩, 3), (⟨"ChaffInTheWind$Row", "clear", "()V"⟩, 2), (⟨"ChaffInTheWind$Barn", "isCorn", "(I)Z"⟩, 13)]
theorem lw_r4 : ∀ q ∈ lw_privs_4, lw_okq q := List.forall_mem_cons.mpr ⟨lw_p48, List.forall_mem_cons.mpr ⟨lw_p49, List.forall_mem_cons.mpr ⟨lw_p50, List.forall_mem_cons.mpr ⟨lw_p51, List.forall_mem_cons.mpr ⟨lw_p52, List.forall_mem_cons.mpr ⟨lw_p53, List.forall_mem_cons.mpr ⟨lw_p54, List.forall_mem_cons.mpr ⟨lw_p55, List.forall_mem_cons.mpr ⟨lw_p56, List.forall_mem_cons.mpr ⟨lw_p57, List.forall_mem_cons.mpr ⟨lw_p58, List.forall_mem_cons.mpr ⟨lw_p59, List.forall_mem_cons.mpr ⟨lw_p60, List.forall_mem_cons.mpr ⟨lw_p61, List.forall_mem_cons.mpr ⟨lw_p62, List.forall_mem_cons.mpr ⟨lw_p63, fun _ h => absurd h List.not_mem_nil⟩⟩⟩⟩⟩⟩⟩⟩⟩⟩⟩⟩⟩⟩⟩⟩
theorem lw_p64 : lw_okq (⟨"ChaffInTheWind", "landAlike", "(II)Z"⟩, 18) := ⟨⟨by decide +kernel, by decide +kernel⟩, List.mem_of_getElem? (i := 26) (by decide +kernel), List.mem_of_getElem? (i := 800) (by decide +kernel), List.mem_of_getElem? (i := 801) (by decide +kernel)⟩
theorem lw_p65 : lw_okq (⟨"ChaffInTheWind", "landAll", "(I)V"⟩, 18) := ⟨⟨by decide +kernel, by decide +kernel⟩, List.mem_of_getElem? (i := 26) (by decide +kernel), List.mem_of_getElem? (i := 808) (by decide +kernel), List.mem_of_getElem? (i := 809) (by decide +kernel)⟩
theorem lw_p66 : lw_okq (⟨"ChaffInTheWind", "cleanCorn", "([I[I)I"⟩, 18) := ⟨⟨by decide +kernel, by decide +kernel⟩, List.mem_of_getElem? (i := 26) (by decide +kernel), List.mem_of_getElem? (i := 812) (by decide +kernel), List.mem_of_getElem? (i := 813) (by decide +kernel)⟩
theorem lw_p67 : lw_okq (⟨"ChaffInTheWind", "isSoiled", "([I[II)Z"⟩, 18) := ⟨⟨by decide +kernel, by decide +kernel⟩, List.mem_of_getElem? (i := 26) (by decide +kernel), List.mem_of_getElem? (i := 816) (by decide +kernel), List.mem_of_getElem? (i := 817) (by decide +kernel)⟩
theorem lw_p68 : lw_okq (⟨"ChaffInTheWind", "cornOut", "([I)I"⟩, 18) := ⟨⟨by decide +kernel, by decide +kernel⟩, List.mem_of_getElem? (i := 26) (by decide +kernel), List.mem_of_getElem? (i := 820) (by decide +kernel), List.mem_of_getElem? (i := 821) (by decide +kernel)⟩
theorem lw_p69 : lw_okq (⟨"ChaffInTheWind", "landFromHeights", "(II)V"⟩, 18) := ⟨⟨by decide +kernel, by decide +kernel⟩, List.mem_of_getElem? (i := 26) (by decide +kernel), List.mem_of_getElem? (i := 828) (by decide +kernel), List.mem_of_getElem? (i := 829) (by decide +kernel)⟩
theorem lw_p70 : lw_okq (⟨"ChaffInTheWind", "chaffWithCorn", "([I)I"⟩, 18) := ⟨⟨by decide +kernel, by decide +kernel⟩, List.mem_of_getElem? (i := 26) (by decide +kernel), List.mem_of_getElem? (i := 842) (by decide +kernel), List.mem_of_getElem? (i := 843) (by decide +kernel)⟩
theorem lw_p71 : lw_okq (⟨"ChaffInTheWind", "cornLandsIn", "([II)Z"⟩, 18) := ⟨⟨by decide +kernel, by decide +kernel⟩, List.mem_of_getElem? (i := 26) (by decide +kernel), List.mem_of_getElem? (i := 846) (by decide +kernel), List.mem_of_getElem? (i := 847) (by decide +kernel)⟩
theorem lw_p72 : lw_okq (⟨"ChaffInTheWind", "tellFraction", "(JJ)V"⟩, 18) := ⟨⟨by decide +kernel, by decide +kernel⟩, List.mem_of_getElem? (i := 26) (by decide +kernel), List.mem_of_getElem? (i := 858) (by decide +kernel), List.mem_of_getElem? (i := 859) (by decide +kernel)⟩
theorem lw_p73 : lw_okq (⟨"ChaffInTheWind$Market", "worthOf", "(LChaffInTheWind$Barn;[I)I"⟩, 4) := ⟨⟨by decide +kernel, by decide +kernel⟩, List.mem_of_getElem? (i := 229) (by decide +kernel), List.mem_of_getElem? (i := 877) (by decide +kernel), List.mem_of_getElem? (i := 878) (by decide +kernel)⟩
theorem lw_p74 : lw_okq (⟨"ChaffInTheWind$Market", "weigh", "(LChaffInTheWind$Barn;[I)V"⟩, 4) := ⟨⟨by decide +kernel, by decide +kernel⟩, List.mem_of_getElem? (i := 229) (by decide +kernel), List.mem_of_getElem? (i := 881) (by decide +kernel), List.mem_of_getElem? (i := 882) (by decide +kernel)⟩
theorem lw_p75 : lw_okq (⟨"ChaffInTheWind$Market", "valueOf", "(I)I"⟩, 4) := ⟨⟨by decide +kernel, by decide +kernel⟩, List.mem_of_getElem? (i := 229) (by decide +kernel), List.mem_of_getElem? (i := 887) (by decide +kernel), List.mem_of_getElem? (i := 888) (by decide +kernel)⟩
theorem lw_p76 : lw_okq (⟨"ChaffInTheWind", "weighYards", "()V"⟩, 18) := ⟨⟨by decide +kernel, by decide +kernel⟩, List.mem_of_getElem? (i := 26) (by decide +kernel), List.mem_of_getElem? (i := 898) (by decide +kernel), List.mem_of_getElem? (i := 899) (by decide +kernel)⟩
theorem lw_p77 : lw_okq (⟨"ChaffInTheWind", "weighMarks", "(I)V"⟩, 18) := ⟨⟨by decide +kernel, by decide +kernel⟩, List.mem_of_getElem? (i := 26) (by decide +kernel), List.mem_of_getElem? (i := 902) (by decide +kernel), List.mem_of_getElem? (i := 903) (by decide +kernel)⟩
theorem lw_p78 : lw_okq (⟨"ChaffInTheWind", "firstMark", "(II)I"⟩, 18) := ⟨⟨by decide +kernel, by decide +kernel⟩, List.mem_of_getElem? (i := 26) (by decide +kernel), List.mem_of_getElem? (i := 906) (by decide +kernel), List.mem_of_getElem? (i := 907) (by decide +kernel)⟩
theorem lw_p79 : lw_okq (⟨"ChaffInTheWind", "worthParted", "(III)I"⟩, 18) := ⟨⟨by decide +kernel, by decide +kernel⟩, List.mem_of_getElem? (i := 26) (by decide +kernel), List.mem_of_getElem? (i := 910) (by decide +kernel), List.mem_of_getElem? (i := 911) (by decide +kernel)⟩
def lw_privs_5 : List (MethodName × Nat) := [(⟨"ChaffInTheWind", "landAlike", "(II)Z"⟩, 18), (⟨"ChaffInTheWind", "landAll", "(I)V"⟩, 18), (⟨"ChaffInTheWind", "cleanCorn", "([I[I)I"⟩, 18), (⟨"ChaffInTheWind", "isSoiled", "([I[II)Z"⟩, 18), (⟨"ChaffInTheWind", "cornOut", "([I)I"⟩, 18), (⟨"ChaffInTheWind", "landFromHeights", "(II)V"⟩, 18), (⟨"ChaffInTheWind", "chaffWithCorn", "([I)I"⟩, 18), (⟨"ChaffInTheWind", "cornLandsIn", "([II)Z"⟩, 18), (⟨"ChaffInTheWind", "tellFraction", "(JJ)V"⟩, 18), (⟨"ChaffInTheWind$Market", "worthOf", "(LChaffInTheWind$Barn;[I)I"⟩, 4), (⟨"ChaffInTheWind$Market", "weigh", "(LChaffInTheWind$Barn;[I)V"⟩, 4), (⟨"ChaffInTheWind$Market", "valueOf", "(I)I"⟩, 4), (⟨"ChaffInTheWind", "weighYards", "()V"⟩, 18), (⟨"ChaffInTheWind", "weighMarks", "(I)V"⟩, 18), (⟨"ChaffInTheWind", "firstMark", "(II)I"⟩, 18), (⟨"ChaffInTheWind", "worthParted", "(III)I"⟩, 18)]
theorem lw_r5 : ∀ q ∈ lw_privs_5, lw_okq q := List.forall_mem_cons.mpr ⟨lw_p64, List.forall_mem_cons.mpr ⟨lw_p65, List.forall_mem_cons.mpr ⟨lw_p66, List.forall_mem_cons.mpr ⟨lw_p67, List.forall_mem_cons.mpr ⟨lw_p68, List.forall_mem_cons.mpr ⟨lw_p69, List.forall_mem_cons.mpr ⟨lw_p70, List.forall_mem_cons.mpr ⟨lw_p71, List.forall_mem_cons.mpr ⟨lw_p72, List.forall_mem_cons.mpr ⟨lw_p73, List.forall_mem_cons.mpr ⟨lw_p74, List.forall_mem_cons.mpr ⟨lw_p75, List.forall_mem_cons.mpr ⟨lw_p76, List.forall_mem_cons.mpr ⟨lw_p77, List.forall_mem_cons.mpr ⟨lw_p78, List.forall_mem_cons.mpr ⟨lw_p79, fun _ h => absurd h List.not_mem_nil⟩⟩⟩⟩⟩⟩⟩⟩⟩⟩⟩⟩⟩⟩⟩⟩
theorem lw_p80 : lw_okq (⟨"ChaffInTheWind", "pick", "([IIZ)J"⟩, 18) := ⟨⟨by decide +kernel, by decide +kernel⟩, List.mem_of_getElem? (i := 26) (by decide +kernel), List.mem_of_getElem? (i := 928) (by decide +kernel), List.mem_of_getElem? (i := 929) (by decide +kernel)⟩
theorem lw_p81 : lw_okq (⟨"ChaffInTheWind", "nextToPick", "([IZ)I"⟩, 18) := ⟨⟨by decide +kernel, by decide +kernel⟩, List.mem_of_getElem? (i := 26) (by decide +kernel), List.mem_of_getElem? (i := 932) (by decide +kernel), List.mem_of_getElem? (i := 933) (by decide +kernel)⟩
theorem lw_p82 : lw_okq (⟨"ChaffInTheWind", "isAhead", "(IIZ)Z"⟩, 18) := ⟨⟨by decide +kernel, by decide +kernel⟩, List.mem_of_getElem? (i := 26) (by decide +kernel), List.mem_of_getElem? (i := 936) (by decide +kernel), List.mem_of_getElem? (i := 937) (by decide +kernel)⟩
theorem lw_p83 : lw_okq (⟨"ChaffInTheWind", "worthWithout", "([II)I"⟩, 18) := ⟨⟨by decide +kernel, by decide +kernel⟩, List.mem_of_getElem? (i := 26) (by decide +kernel), List.mem_of_getElem? (i := 944) (by decide +kernel), List.mem_of_getElem? (i := 945) (by decide +kernel)⟩
theorem lw_p84 : lw_okq (⟨"ChaffInTheWind", "stayingIn", "(LChaffInTheWind$Pass;)I"⟩, 18) := ⟨⟨by decide +kernel, by decide +kernel⟩, List.mem_of_getElem? (i := 26) (by decide +kernel), List.mem_of_getElem? (i := 993) (by decide +kernel), List.mem_of_getElem? (i := 994) (by decide +kernel)⟩
theorem lw_p85 : lw_okq (⟨"ChaffInTheWind$Pass", "catches", "(I)Z"⟩, 6) := ⟨⟨by decide +kernel, by decide +kernel⟩, List.mem_of_getElem? (i := 955) (by decide +kernel), List.mem_of_getElem? (i := 997) (by decide +kernel), List.mem_of_getElem? (i := 998) (by decide +kernel)⟩
theorem lw_p86 : lw_okq (⟨"ChaffInTheWind$Pass", "holds", "(I)Z"⟩, 6) := ⟨⟨by decide +kernel, by decide +kernel⟩, List.mem_of_getElem? (i := 955) (by decide +kernel), List.mem_of_getElem? (i := 1001) (by decide +kernel), List.mem_of_getElem? (i := 1002) (by decide +kernel)⟩
theorem lw_p87 : lw_okq (⟨"ChaffInTheWind", "canOrder", "(III)Z"⟩, 18) := ⟨⟨by decide +kernel, by decide +kernel⟩, List.mem_of_getElem? (i := 26) (by decide +kernel), List.mem_of_getElem? (i := 1009) (by decide +kernel), List.mem_of_getElem? (i := 1010) (by decide +kernel)⟩
theorem lw_p88 : lw_okq (⟨"ChaffInTheWind", "hasCorn", "([I)Z"⟩, 18) := ⟨⟨by decide +kernel, by decide +kernel⟩, List.mem_of_getElem? (i := 26) (by decide +kernel), List.mem_of_getElem? (i := 1016) (by decide +kernel), List.mem_of_getElem? (i := 1017) (by decide +kernel)⟩
theorem lw_p89 : lw_okq (⟨"ChaffInTheWind", "fewestPasses", "([III)I"⟩, 18) := ⟨⟨by decide +kernel, by decide +kernel⟩, List.mem_of_getElem? (i := 26) (by decide +kernel), List.mem_of_getElem? (i := 1020) (by decide +kernel), List.mem_of_getElem? (i := 1021) (by decide +kernel)⟩
theorem lw_p90 : lw_okq (⟨"ChaffInTheWind", "does", "([IIII)Z"⟩, 18) := ⟨⟨by decide +kernel, by decide +kernel⟩, List.mem_of_getElem? (i := 26) (by decide +kernel), List.mem_of_getElem? (i := 1024) (by decide +kernel), List.mem_of_getElem? (i := 1025) (by decide +kernel)⟩
theorem lw_p91 : lw_okq (⟨"ChaffInTheWind", "sortsLeft", "(I)I"⟩, 18) := ⟨⟨by decide +kernel, by decide +kernel⟩, List.mem_of_getElem? (i := 26) (by decide +kernel), List.mem_of_getElem? (i := 1028) (by decide +kernel), List.mem_of_getElem? (i := 1029) (by decide +kernel)⟩
theorem lw_p92 : lw_okq (⟨"ChaffInTheWind", "isBetter", "([III)Z"⟩, 18) := ⟨⟨by decide +kernel, by decide +kernel⟩, List.mem_of_getElem? (i := 26) (by decide +kernel), List.mem_of_getElem? (i := 1033) (by decide +kernel), List.mem_of_getElem? (i := 1034) (by decide +kernel)⟩
theorem lw_p93 : lw_okq (⟨"ChaffInTheWind", "grainsLeft", "([II)I"⟩, 18) := ⟨⟨by decide +kernel, by decide +kernel⟩, List.mem_of_getElem? (i := 26) (by decide +kernel), List.mem_of_getElem? (i := 1043) (by decide +kernel), List.mem_of_getElem? (i := 1044) (by decide +kernel)⟩
theorem lw_p94 : lw_okq (⟨"ChaffInTheWind", "strokesFlinging", "(I)I"⟩, 18) := ⟨⟨by decide +kernel, by decide +kernel⟩, List.mem_of_getElem? (i := 26) (by decide +kernel), List.mem_of_getElem? (i := 1055) (by decide +kernel), List.mem_of_getElem? (i := 1056) (by decide +kernel)⟩
theorem lw_p95 : lw_okq (⟨"ChaffInTheWind", "cornOf", "([I)I"⟩, 18) := ⟨⟨by decide +kernel, by decide +kernel⟩, List.mem_of_getElem? (i := 26) (by decide +kernel), List.mem_of_getElem? (i := 1079) (by decide +kernel), List.mem_of_getElem? (i := 1080) (by decide +kernel)⟩
def lw_privs_6 : List (MethodName × Nat) := [(⟨"ChaffInTheWind", "pick", "([IIZ)J"⟩, 18), (⟨"ChaffInTheWind", "nextToPick", "([IZ)I"⟩, 18), (⟨"ChaffInTheWind", "isAhead", "(IIZ)Z"⟩, 18), (⟨"ChaffInTheWind", "worthWithout", "([II)I"⟩, 18), (⟨"ChaffInTheWind", "stayingIn", "(LChaffInTheWind$Pass;)I"⟩, 18), (⟨"ChaffInTheWind$Pass", "catches", "(I)Z"⟩, 6), (⟨"ChaffInTheWind$Pass", "holds", "(I)Z"⟩, 6), (⟨"ChaffInTheWind", "canOrder", "(III)Z"⟩, 18), (⟨"ChaffInTheWind", "hasCorn", "([I)Z"⟩, 18), (⟨"ChaffInTheWind", "fewestPasses", "([III)I"⟩, 18), (⟨"ChaffInTheWind", "does", "([IIII)Z"⟩, 18), (⟨"ChaffInTheWind", "sortsLeft", "(I)I"⟩, 18), (⟨"ChaffInTheWind", "isBetter", "([III)Z"⟩, 18), (⟨"ChaffInTheWind", "grainsLeft", "([II)I"⟩, 18), (⟨"ChaffInTheWind", "strokesFlinging", "(I)I"⟩, 18), (⟨"ChaffInTheWind", "cornOf", "([I)I"⟩, 18)]
theorem lw_r6 : ∀ q ∈ lw_privs_6, lw_okq q := List.forall_mem_cons.mpr ⟨lw_p80, List.forall_mem_cons.mpr ⟨lw_p81, List.forall_mem_cons.mpr ⟨lw_p82, List.forall_mem_cons.mpr ⟨lw_p83, List.forall_mem_cons.mpr ⟨lw_p84, List.forall_mem_cons.mpr ⟨lw_p85, List.forall_mem_cons.mpr ⟨lw_p86, List.forall_mem_cons.mpr ⟨lw_p87, List.forall_mem_cons.mpr ⟨lw_p88, List.forall_mem_cons.mpr ⟨lw_p89, List.forall_mem_cons.mpr ⟨lw_p90, List.forall_mem_cons.mpr ⟨lw_p91, List.forall_mem_cons.mpr ⟨lw_p92, List.forall_mem_cons.mpr ⟨lw_p93, List.forall_mem_cons.mpr ⟨lw_p94, List.forall_mem_cons.mpr ⟨lw_p95, fun _ h => absurd h List.not_mem_nil⟩⟩⟩⟩⟩⟩⟩⟩⟩⟩⟩⟩⟩⟩⟩⟩
theorem lw_p96 : lw_okq (⟨"ChaffInTheWind$Store", "copyOf", "(LChaffInTheWind$Store;)V"⟩, 6) := ⟨⟨by decide +kernel, by decide +kernel⟩, List.mem_of_getElem? (i := 173) (by decide +kernel), List.mem_of_getElem? (i := 1098) (by decide +kernel), List.mem_of_getElem? (i := 1099) (by decide +kernel)⟩
theorem lw_p97 : lw_okq (⟨"ChaffInTheWind$Market", "told", "()I"⟩, 4) := ⟨⟨by decide +kernel, by decide +kernel⟩, List.mem_of_getElem? (i := 229) (by decide +kernel), List.mem_of_getElem? (i := 1111) (by decide +kernel), List.mem_of_getElem? (i := 1112) (by decide +kernel)⟩
theorem lw_p98 : lw_okq (⟨"java/lang/Throwable", "fillInStackTrace", "(I)Ljava/lang/Throwable;"⟩, 6) := ⟨⟨by decide +kernel, by decide +kernel⟩, List.mem_of_getElem? (i := 1162) (by decide +kernel), List.mem_of_getElem? (i := 1160) (by decide +kernel), List.mem_of_getElem? (i := 1161) (by decide +kernel)⟩
theorem lw_p99 : lw_okq (⟨"ChaffInTheWindModel", "begin", "([BII)V"⟩, 56) := ⟨⟨by decide +kernel, by decide +kernel⟩, List.mem_of_getElem? (i := 1204) (by decide +kernel), List.mem_of_getElem? (i := 1401) (by decide +kernel), List.mem_of_getElem? (i := 1402) (by decide +kernel)⟩
theorem lw_p100 : lw_okq (⟨"ChaffInTheWindModel", "fine", "()Z"⟩, 56) := ⟨⟨by decide +kernel, by decide +kernel⟩, List.mem_of_getElem? (i := 1204) (by decide +kernel), List.mem_of_getElem? (i := 1405) (by decide +kernel), List.mem_of_getElem? (i := 1406) (by decide +kernel)⟩
theorem lw_p101 : lw_okq (⟨"ChaffInTheWindModel", "here", "()I"⟩, 56) := ⟨⟨by decide +kernel, by decide +kernel⟩, List.mem_of_getElem? (i := 1204) (by decide +kernel), List.mem_of_getElem? (i := 1409) (by decide +kernel), List.mem_of_getElem? (i := 1410) (by decide +kernel)⟩
theorem lw_p102 : lw_okq (⟨"ChaffInTheWindModel", "number", "(III)I"⟩, 56) := ⟨⟨by decide +kernel, by decide +kernel⟩, List.mem_of_getElem? (i := 1204) (by decide +kernel), List.mem_of_getElem? (i := 1413) (by decide +kernel), List.mem_of_getElem? (i := 1414) (by decide +kernel)⟩
theorem lw_p103 : lw_okq (⟨"ChaffInTheWindModel", "fault", "(I)V"⟩, 56) := ⟨⟨by decide +kernel, by decide +kernel⟩, List.mem_of_getElem? (i := 1204) (by decide +kernel), List.mem_of_getElem? (i := 1417) (by decide +kernel), List.mem_of_getElem? (i := 1418) (by decide +kernel)⟩
theorem lw_p104 : lw_okq (⟨"ChaffInTheWindModel", "need", "(C)V"⟩, 56) := ⟨⟨by decide +kernel, by decide +kernel⟩, List.mem_of_getElem? (i := 1204) (by decide +kernel), List.mem_of_getElem? (i := 1421) (by decide +kernel), List.mem_of_getElem? (i := 1422) (by decide +kernel)⟩
theorem lw_p105 : lw_okq (⟨"ChaffInTheWindModel", "passes", "(C)Z"⟩, 56) := ⟨⟨by decide +kernel, by decide +kernel⟩, List.mem_of_getElem? (i := 1204) (by decide +kernel), List.mem_of_getElem? (i := 1425) (by decide +kernel), List.mem_of_getElem? (i := 1426) (by decide +kernel)⟩
theorem lw_p106 : lw_okq (⟨"ChaffInTheWindModel", "clear", "(I)V"⟩, 56) := ⟨⟨by decide +kernel, by decide +kernel⟩, List.mem_of_getElem? (i := 1204) (by decide +kernel), List.mem_of_getElem? (i := 1432) (by decide +kernel), List.mem_of_getElem? (i := 1433) (by decide +kernel)⟩
theorem lw_p107 : lw_okq (⟨"ChaffInTheWindModel", "held", "(I)I"⟩, 56) := ⟨⟨by decide +kernel, by decide +kernel⟩, List.mem_of_getElem? (i := 1204) (by decide +kernel), List.mem_of_getElem? (i := 1445) (by decide +kernel), List.mem_of_getElem? (i := 1446) (by decide +kernel)⟩
theorem lw_p108 : lw_okq (⟨"ChaffInTheWindModel", "sum", "(I)I"⟩, 56) := ⟨⟨by decide +kernel, by decide +kernel⟩, List.mem_of_getElem? (i := 1204) (by decide +kernel), List.mem_of_getElem? (i := 1449) (by decide +kernel), List.mem_of_getElem? (i := 1450) (by decide +kernel)⟩
theorem lw_p109 : lw_okq (⟨"ChaffInTheWindModel", "product", "(I)I"⟩, 56) := ⟨⟨by decide +kernel, by decide +kernel⟩, List.mem_of_getElem? (i := 1204) (by decide +kernel), List.mem_of_getElem? (i := 1453) (by decide +kernel), List.mem_of_getElem? (i := 1454) (by decide +kernel)⟩
theorem lw_p110 : lw_okq (⟨"ChaffInTheWindModel", "thing", "(I)I"⟩, 56) := ⟨⟨by decide +kernel, by decide +kernel⟩, List.mem_of_getElem? (i := 1204) (by decide +kernel), List.mem_of_getElem? (i := 1457) (by decide +kernel), List.mem_of_getElem? (i := 1458) (by decide +kernel)⟩
theorem lw_p111 : lw_okq (⟨"ChaffInTheWindModel", "ofSort", "(C)I"⟩, 56) := ⟨⟨by decide +kernel, by decide +kernel⟩, List.mem_of_getElem? (i := 1204) (by decide +kernel), List.mem_of_getElem? (i := 1461) (by decide +kernel), List.mem_of_getElem? (i := 1462) (by decide +kernel)⟩
def lw_privs_7 : List (MethodName × Nat) := [(⟨"ChaffInTheWind$Store", "copyOf", "(LChaffInTheWind$Store;)V"⟩, 6), (⟨"ChaffInTheWind$Market", "told", "()I"⟩, 4), (⟨"java/lang/Throwable", "fillInStackTrace", "(I)Ljava/lang/Throwable;"⟩, 6), (⟨"ChaffInTheWindModel", "begin", "([BII)V"⟩, 56), (⟨"ChaffInTheWindModel", "fine", "()Z"⟩, 56), (⟨"ChaffInTheWindModel", "here", "()I"⟩, 56), (⟨"ChaffInTheWindModel", "number", "(III)I"⟩, 56), (⟨"ChaffInTheWindModel", "fault", "(I)V"⟩, 56), (⟨"ChaffInTheWindModel", "need", "(C)V"⟩, 56), (⟨"ChaffInTheWindModel", "passes", "(C)Z"⟩, 56), (⟨"ChaffInTheWindModel", "clear", "(I)V"⟩, 56), (⟨"ChaffInTheWindModel", "held", "(I)I"⟩, 56), (⟨"ChaffInTheWindModel", "sum", "(I)I"⟩, 56), (⟨"ChaffInTheWindModel", "product", "(I)I"⟩, 56), (⟨"ChaffInTheWindModel", "thing", "(I)I"⟩, 56), (⟨"ChaffInTheWindModel", "ofSort", "(C)I"⟩, 56)]
theorem lw_r7 : ∀ q ∈ lw_privs_7, lw_okq q := List.forall_mem_cons.mpr ⟨lw_p96, List.forall_mem_cons.mpr ⟨lw_p97, List.forall_mem_cons.mpr ⟨lw_p98, List.forall_mem_cons.mpr ⟨lw_p99, List.forall_mem_cons.mpr ⟨lw_p100, List.forall_mem_cons.mpr ⟨lw_p101, List.forall_mem_cons.mpr ⟨lw_p102, List.forall_mem_cons.mpr ⟨lw_p103, List.forall_mem_cons.mpr ⟨lw_p104, List.forall_mem_cons.mpr ⟨lw_p105, List.forall_mem_cons.mpr ⟨lw_p106, List.forall_mem_cons.mpr ⟨lw_p107, List.forall_mem_cons.mpr ⟨lw_p108, List.forall_mem_cons.mpr ⟨lw_p109, List.forall_mem_cons.mpr ⟨lw_p110, List.forall_mem_cons.mpr ⟨lw_p111, fun _ h => absurd h List.not_mem_nil⟩⟩⟩⟩⟩⟩⟩⟩⟩⟩⟩⟩⟩⟩⟩⟩
theorem lw_p112 : lw_okq (⟨"ChaffInTheWindModel", "ofHeap", "(C)I"⟩, 56) := ⟨⟨by decide +kernel, by decide +kernel⟩, List.mem_of_getElem? (i := 1204) (by decide +kernel), List.mem_of_getElem? (i := 1465) (by decide +kernel), List.mem_of_getElem? (i := 1466) (by decide +kernel)⟩
theorem lw_p113 : lw_okq (⟨"ChaffInTheWindModel", "heavyOf", "(I)I"⟩, 56) := ⟨⟨by decide +kernel, by decide +kernel⟩, List.mem_of_getElem? (i := 1204) (by decide +kernel), List.mem_of_getElem? (i := 1469) (by decide +kernel), List.mem_of_getElem? (i := 1470) (by decide +kernel)⟩
theorem lw_p114 : lw_okq (⟨"ChaffInTheWindModel", "isSort", "(I)Z"⟩, 56) := ⟨⟨by decide +kernel, by decide +kernel⟩, List.mem_of_getElem? (i := 1204) (by decide +kernel), List.mem_of_getElem? (i := 1481) (by decide +kernel), List.mem_of_getElem? (i := 1482) (by decide +kernel)⟩
theorem lw_p115 : lw_okq (⟨"ChaffInTheWindModel", "lost", "()I"⟩, 56) := ⟨⟨by decide +kernel, by decide +kernel⟩, List.mem_of_getElem? (i := 1204) (by decide +kernel), List.mem_of_getElem? (i := 1485) (by decide +kernel), List.mem_of_getElem? (i := 1486) (by decide +kernel)⟩
theorem lw_p116 : lw_okq (⟨"ChaffInTheWindModel", "landsNow", "(II)I"⟩, 56) := ⟨⟨by decide +kernel, by decide +kernel⟩, List.mem_of_getElem? (i := 1204) (by decide +kernel), List.mem_of_getElem? (i := 1512) (by decide +kernel), List.mem_of_getElem? (i := 1513) (by decide +kernel)⟩
theorem lw_p117 : lw_okq (⟨"ChaffInTheWindModel", "landsIn", "(IIII)I"⟩, 56) := ⟨⟨by decide +kernel, by decide +kernel⟩, List.mem_of_getElem? (i := 1204) (by decide +kernel), List.mem_of_getElem? (i := 1516) (by decide +kernel), List.mem_of_getElem? (i := 1517) (by decide +kernel)⟩
theorem lw_p118 : lw_okq (⟨"ChaffInTheWindModel", "tell", "(J)V"⟩, 56) := ⟨⟨by decide +kernel, by decide +kernel⟩, List.mem_of_getElem? (i := 1204) (by decide +kernel), List.mem_of_getElem? (i := 1521) (by decide +kernel), List.mem_of_getElem? (i := 1522) (by decide +kernel)⟩
theorem lw_p119 : lw_okq (⟨"ChaffInTheWindModel", "grainsOf", "(I)I"⟩, 56) := ⟨⟨by decide +kernel, by decide +kernel⟩, List.mem_of_getElem? (i := 1204) (by decide +kernel), List.mem_of_getElem? (i := 1529) (by decide +kernel), List.mem_of_getElem? (i := 1530) (by decide +kernel)⟩
theorem lw_p120 : lw_okq (⟨"ChaffInTheWindModel", "lineNow", "()I"⟩, 56) := ⟨⟨by decide +kernel, by decide +kernel⟩, List.mem_of_getElem? (i := 1204) (by decide +kernel), List.mem_of_getElem? (i := 1533) (by decide +kernel), List.mem_of_getElem? (i := 1534) (by decide +kernel)⟩
theorem lw_p121 : lw_okq (⟨"ChaffInTheWindModel", "draw", "(I)I"⟩, 56) := ⟨⟨by decide +kernel, by decide +kernel⟩, List.mem_of_getElem? (i := 1204) (by decide +kernel), List.mem_of_getElem? (i := 1537) (by decide +kernel), List.mem_of_getElem? (i := 1538) (by decide +kernel)⟩
theorem lw_p122 : lw_okq (⟨"ChaffInTheWindModel", "mostSort", "(I)I"⟩, 56) := ⟨⟨by decide +kernel, by decide +kernel⟩, List.mem_of_getElem? (i := 1204) (by decide +kernel), List.mem_of_getElem? (i := 1542) (by decide +kernel), List.mem_of_getElem? (i := 1543) (by decide +kernel)⟩
theorem lw_p123 : lw_okq (⟨"ChaffInTheWindModel", "isYard", "(I)Z"⟩, 56) := ⟨⟨by decide +kernel, by decide +kernel⟩, List.mem_of_getElem? (i := 1204) (by decide +kernel), List.mem_of_getElem? (i := 1554) (by decide +kernel), List.mem_of_getElem? (i := 1555) (by decide +kernel)⟩
theorem lw_p124 : lw_okq (⟨"ChaffInTheWindModel", "move", "(II)I"⟩, 56) := ⟨⟨by decide +kernel, by decide +kernel⟩, List.mem_of_getElem? (i := 1204) (by decide +kernel), List.mem_of_getElem? (i := 1558) (by decide +kernel), List.mem_of_getElem? (i := 1559) (by decide +kernel)⟩
theorem lw_p125 : lw_okq (⟨"ChaffInTheWindModel", "moveSort", "(III)I"⟩, 56) := ⟨⟨by decide +kernel, by decide +kernel⟩, List.mem_of_getElem? (i := 1204) (by decide +kernel), List.mem_of_getElem? (i := 1562) (by decide +kernel), List.mem_of_getElem? (i := 1563) (by decide +kernel)⟩
theorem lw_p126 : lw_okq (⟨"ChaffInTheWindModel", "isFlung", "(II)Z"⟩, 56) := ⟨⟨by decide +kernel, by decide +kernel⟩, List.mem_of_getElem? (i := 1204) (by decide +kernel), List.mem_of_getElem? (i := 1578) (by decide +kernel), List.mem_of_getElem? (i := 1579) (by decide +kernel)⟩
theorem lw_p127 : lw_okq (⟨"ChaffInTheWindModel", "isParted", "(II)Z"⟩, 56) := ⟨⟨by decide +kernel, by decide +kernel⟩, List.mem_of_getElem? (i := 1204) (by decide +kernel), List.mem_of_getElem? (i := 1594) (by decide +kernel), List.mem_of_getElem? (i := 1595) (by decide +kernel)⟩
def lw_privs_8 : List (MethodName × Nat) := [(⟨"ChaffInTheWindModel", "ofHeap", "(C)I"⟩, 56), (⟨"ChaffInTheWindModel", "heavyOf", "(I)I"⟩, 56), (⟨"ChaffInTheWindModel", "isSort", "(I)Z"⟩, 56), (⟨"ChaffInTheWindModel", "lost", "()I"⟩, 56), (⟨"ChaffInTheWindModel", "landsNow", "(II)I"⟩, 56), (⟨"ChaffInTheWindModel", "landsIn", "(IIII)I"⟩, 56), (⟨"ChaffInTheWindModel", "tell", "(J)V"⟩, 56), (⟨"ChaffInTheWindModel", "grainsOf", "(I)I"⟩, 56), (⟨"ChaffInTheWindModel", "lineNow", "()I"⟩, 56), (⟨"ChaffInTheWindModel", "draw", "(I)I"⟩, 56), (⟨"ChaffInTheWindModel", "mostSort", "(I)I"⟩, 56), (⟨"ChaffInTheWindModel", "isYard", "(I)Z"⟩, 56), (⟨"ChaffInTheWindModel", "move", "(II)I"⟩, 56), (⟨"ChaffInTheWindModel", "moveSort", "(III)I"⟩, 56), (⟨"ChaffInTheWindModel", "isFlung", "(II)Z"⟩, 56), (⟨"ChaffInTheWindModel", "isParted", "(II)Z"⟩, 56)]
theorem lw_r8 : ∀ q ∈ lw_privs_8, lw_okq q := List.forall_mem_cons.mpr ⟨lw_p112, List.forall_mem_cons.mpr ⟨lw_p113, List.forall_mem_cons.mpr ⟨lw_p114, List.forall_mem_cons.mpr ⟨lw_p115, List.forall_mem_cons.mpr ⟨lw_p116, List.forall_mem_cons.mpr ⟨lw_p117, List.forall_mem_cons.mpr ⟨lw_p118, List.forall_mem_cons.mpr ⟨lw_p119, List.forall_mem_cons.mpr ⟨lw_p120, List.forall_mem_cons.mpr ⟨lw_p121, List.forall_mem_cons.mpr ⟨lw_p122, List.forall_mem_cons.mpr ⟨lw_p123, List.forall_mem_cons.mpr ⟨lw_p124, List.forall_mem_cons.mpr ⟨lw_p125, List.forall_mem_cons.mpr ⟨lw_p126, List.forall_mem_cons.mpr ⟨lw_p127, fun _ h => absurd h List.not_mem_nil⟩⟩⟩⟩⟩⟩⟩⟩⟩⟩⟩⟩⟩⟩⟩⟩
theorem lw_p128 : lw_okq (⟨"ChaffInTheWindModel", "throwAll", "(IIII)V"⟩, 56) := ⟨⟨by decide +kernel, by decide +kernel⟩, List.mem_of_getElem? (i := 1204) (by decide +kernel), List.mem_of_getElem? (i := 1602) (by decide +kernel), List.mem_of_getElem? (i := 1603) (by decide +kernel)⟩
theorem lw_p129 : lw_okq (⟨"ChaffInTheWindModel", "cleanGrains", "()I"⟩, 56) := ⟨⟨by decide +kernel, by decide +kernel⟩, List.mem_of_getElem? (i := 1204) (by decide +kernel), List.mem_of_getElem? (i := 1606) (by decide +kernel), List.mem_of_getElem? (i := 1607) (by decide +kernel)⟩
theorem lw_p130 : lw_okq (⟨"ChaffInTheWindModel", "tellPart", "(JJ)V"⟩, 56) := ⟨⟨by decide +kernel, by decide +kernel⟩, List.mem_of_getElem? (i := 1204) (by decide +kernel), List.mem_of_getElem? (i := 1627) (by decide +kernel), List.mem_of_getElem? (i := 1628) (by decide +kernel)⟩
theorem lw_p131 : lw_okq (⟨"ChaffInTheWindModel", "priceOf", "(I[II)I"⟩, 56) := ⟨⟨by decide +kernel, by decide +kernel⟩, List.mem_of_getElem? (i := 1204) (by decide +kernel), List.mem_of_getElem? (i := 1646) (by decide +kernel), List.mem_of_getElem? (i := 1647) (by decide +kernel)⟩
theorem lw_p132 : lw_okq (⟨"ChaffInTheWindModel", "worthOf", "([II)I"⟩, 56) := ⟨⟨by decide +kernel, by decide +kernel⟩, List.mem_of_getElem? (i := 1204) (by decide +kernel), List.mem_of_getElem? (i := 1656) (by decide +kernel), List.mem_of_getElem? (i := 1657) (by decide +kernel)⟩
theorem lw_p133 : lw_okq (⟨"ChaffInTheWindModel", "weightOfSome", "(IIZ)J"⟩, 56) := ⟨⟨by decide +kernel, by decide +kernel⟩, List.mem_of_getElem? (i := 1204) (by decide +kernel), List.mem_of_getElem? (i := 1674) (by decide +kernel), List.mem_of_getElem? (i := 1675) (by decide +kernel)⟩
theorem lw_p134 : lw_okq (⟨"ChaffInTheWindModel", "add", "(ZIIIZ)I"⟩, 56) := ⟨⟨by decide +kernel, by decide +kernel⟩, List.mem_of_getElem? (i := 1204) (by decide +kernel), List.mem_of_getElem? (i := 1690) (by decide +kernel), List.mem_of_getElem? (i := 1691) (by decide +kernel)⟩
theorem lw_p135 : lw_okq (⟨"ChaffInTheWindModel", "staying", "(I)I"⟩, 56) := ⟨⟨by decide +kernel, by decide +kernel⟩, List.mem_of_getElem? (i := 1204) (by decide +kernel), List.mem_of_getElem? (i := 1702) (by decide +kernel), List.mem_of_getElem? (i := 1703) (by decide +kernel)⟩
theorem lw_p136 : lw_okq (⟨"ChaffInTheWindModel", "isOrdered", "(III)Z"⟩, 56) := ⟨⟨by decide +kernel, by decide +kernel⟩, List.mem_of_getElem? (i := 1204) (by decide +kernel), List.mem_of_getElem? (i := 1710) (by decide +kernel), List.mem_of_getElem? (i := 1711) (by decide +kernel)⟩
theorem lw_p137 : lw_okq (⟨"ChaffInTheWindModel", "all", "()I"⟩, 56) := ⟨⟨by decide +kernel, by decide +kernel⟩, List.mem_of_getElem? (i := 1204) (by decide +kernel), List.mem_of_getElem? (i := 1714) (by decide +kernel), List.mem_of_getElem? (i := 1715) (by decide +kernel)⟩
theorem lw_p138 : lw_okq (⟨"ChaffInTheWindModel", "weightOf", "(IIZ)J"⟩, 56) := ⟨⟨by decide +kernel, by decide +kernel⟩, List.mem_of_getElem? (i := 1204) (by decide +kernel), List.mem_of_getElem? (i := 1718) (by decide +kernel), List.mem_of_getElem? (i := 1719) (by decide +kernel)⟩
theorem lw_p139 : lw_okq (⟨"ChaffInTheWindModel", "findOrder", "(III)I"⟩, 56) := ⟨⟨by decide +kernel, by decide +kernel⟩, List.mem_of_getElem? (i := 1204) (by decide +kernel), List.mem_of_getElem? (i := 1725) (by decide +kernel), List.mem_of_getElem? (i := 1726) (by decide +kernel)⟩
theorem lw_p140 : lw_okq (⟨"ChaffInTheWindModel", "does", "(IIII)Z"⟩, 56) := ⟨⟨by decide +kernel, by decide +kernel⟩, List.mem_of_getElem? (i := 1204) (by decide +kernel), List.mem_of_getElem? (i := 1729) (by decide +kernel), List.mem_of_getElem? (i := 1730) (by decide +kernel)⟩
theorem lw_p141 : lw_okq (⟨"ChaffInTheWindModel", "stayingBy", "(I)I"⟩, 56) := ⟨⟨by decide +kernel, by decide +kernel⟩, List.mem_of_getElem? (i := 1204) (by decide +kernel), List.mem_of_getElem? (i := 1733) (by decide +kernel), List.mem_of_getElem? (i := 1734) (by decide +kernel)⟩
theorem lw_p142 : lw_okq (⟨"ChaffInTheWindModel", "grainsIn", "(II)I"⟩, 56) := ⟨⟨by decide +kernel, by decide +kernel⟩, List.mem_of_getElem? (i := 1204) (by decide +kernel), List.mem_of_getElem? (i := 1739) (by decide +kernel), List.mem_of_getElem? (i := 1740) (by decide +kernel)⟩
theorem lw_p143 : lw_okq (⟨"ChaffInTheWindModel", "cornOf", "(I)I"⟩, 56) := ⟨⟨by decide +kernel, by decide +kernel⟩, List.mem_of_getElem? (i := 1204) (by decide +kernel), List.mem_of_getElem? (i := 1768) (by decide +kernel), List.mem_of_getElem? (i := 1769) (by decide +kernel)⟩
def lw_privs_9 : List (MethodName × Nat) := [(⟨"ChaffInTheWindModel", "throwAll", "(IIII)V"⟩, 56), (⟨"ChaffInTheWindModel", "cleanGrains", "()I"⟩, 56), (⟨"ChaffInTheWindModel", "tellPart", "(JJ)V"⟩, 56), (⟨"ChaffInTheWindModel", "priceOf", "(I[II)I"⟩, 56), (⟨"ChaffInTheWindModel", "worthOf", "([II)I"⟩, 56), (⟨"ChaffInTheWindModel", "weightOfSome", "(IIZ)J"⟩, 56), (⟨"ChaffInTheWindModel", "add", "(ZIIIZ)I"⟩, 56), (⟨"ChaffInTheWindModel", "staying", "(I)I"⟩, 56), (⟨"ChaffInTheWindModel", "isOrdered", "(III)Z"⟩, 56), (⟨"ChaffInTheWindModel", "all", "()I"⟩, 56), (⟨"ChaffInTheWindModel", "weightOf", "(IIZ)J"⟩, 56), (⟨"ChaffInTheWindModel", "findOrder", "(III)I"⟩, 56), (⟨"ChaffInTheWindModel", "does", "(IIII)Z"⟩, 56), (⟨"ChaffInTheWindModel", "stayingBy", "(I)I"⟩, 56), (⟨"ChaffInTheWindModel", "grainsIn", "(II)I"⟩, 56), (⟨"ChaffInTheWindModel", "cornOf", "(I)I"⟩, 56)]
theorem lw_r9 : ∀ q ∈ lw_privs_9, lw_okq q := List.forall_mem_cons.mpr ⟨lw_p128, List.forall_mem_cons.mpr ⟨lw_p129, List.forall_mem_cons.mpr ⟨lw_p130, List.forall_mem_cons.mpr ⟨lw_p131, List.forall_mem_cons.mpr ⟨lw_p132, List.forall_mem_cons.mpr ⟨lw_p133, List.forall_mem_cons.mpr ⟨lw_p134, List.forall_mem_cons.mpr ⟨lw_p135, List.forall_mem_cons.mpr ⟨lw_p136, List.forall_mem_cons.mpr ⟨lw_p137, List.forall_mem_cons.mpr ⟨lw_p138, List.forall_mem_cons.mpr ⟨lw_p139, List.forall_mem_cons.mpr ⟨lw_p140, List.forall_mem_cons.mpr ⟨lw_p141, List.forall_mem_cons.mpr ⟨lw_p142, List.forall_mem_cons.mpr ⟨lw_p143, fun _ h => absurd h List.not_mem_nil⟩⟩⟩⟩⟩⟩⟩⟩⟩⟩⟩⟩⟩⟩⟩⟩
def lw_privs : List (MethodName × Nat) := lw_privs_1 ++ (lw_privs_2 ++ (lw_privs_3 ++ (lw_privs_4 ++ (lw_privs_5 ++ (lw_privs_6 ++ (lw_privs_7 ++ (lw_privs_8 ++ (lw_privs_9))))))))
def lw_tbl : List Cond := k2_sels lw_privs ++ tables_1
theorem lw_privs_ok : ∀ q ∈ lw_privs, lw_okq q := by
  show ∀ q ∈ lw_privs_1 ++ (lw_privs_2 ++ (lw_privs_3 ++ (lw_privs_4 ++ (lw_privs_5 ++ (lw_privs_6 ++ (lw_privs_7 ++ (lw_privs_8 ++ (lw_privs_9)))))))), lw_okq q
  exact List.forall_mem_append.mpr ⟨lw_r1, List.forall_mem_append.mpr ⟨lw_r2, List.forall_mem_append.mpr ⟨lw_r3, List.forall_mem_append.mpr ⟨lw_r4, List.forall_mem_append.mpr ⟨lw_r5, List.forall_mem_append.mpr ⟨lw_r6, List.forall_mem_append.mpr ⟨lw_r7, List.forall_mem_append.mpr ⟨lw_r8, lw_r9⟩⟩⟩⟩⟩⟩⟩⟩
-- ===== end of PART A; then your names; then what follows =====
end
section
/-! A small picture of the machine: cells by number, locals by number, a step function. What it says is carried to the machine by the rows behind it. -/
section ZSEM
abbrev z_C : Type := Nat × List Value
abbrev z_H : Type := List z_C
abbrev z_L : Type := List (Nat × Value)
/-- numbers from here on stand for cells that were there before the law began (String constants) -/
def z_far : Nat := 1000000
def z_get : z_L → Nat → Option Value
  | [], _ => none
  | q :: r, i => if q.1 == i then some q.2 else z_get r i
theorem z_get_mem : ∀ {l : z_L} {i : Nat} {v : Value}, z_get l i = some v → ∃ k : Nat, l[k]? = some (i, v)
  | [], _, _, h => by cases h
  | q :: r, i, v, h => by
    unfold z_get at h
    split at h
    · rename_i e
      have e' : q.1 = i := by simpa using e
      cases h
      exact ⟨0, by rw [← e']; rfl⟩
    · obtain ⟨k, hk⟩ := z_get_mem h
      exact ⟨k + 1, by simpa using hk⟩
def z_set1 (l : z_L) (i : Nat) (v : Value) : z_L := (i, v) :: l.filter (fun q => !(q.1 == i) && !(q.1 + 1 == i && q.2.category == 2))
def z_set2 (l : z_L) (i : Nat) (v : Value) : z_L := (i, v) :: l.filter (fun q => !(q.1 == i) && (!(q.1 == i + 1) && !(q.1 + 1 == i && q.2.category == 2)))
/-- how long an instruction is -/
def z_len : Instr → Nat
  | .bipush _ | .iload _ | .istore _ | .lload _ | .lstore _ | .aload _ | .astore _ | .ldc _ | .newarray _ => 2
  | .sipush _ | .iinc _ _ | .ifCond _ _ | .if_icmp _ _ | .ifnull _ | .ifnonnull _ | .goto _ | .getfield _ | .putfield _ | .getstatic _ | .invokevirtual _ | .invokestatic _ | .invokespecial _ | .new _ | .anewarray _ | .ldc_w _ | .ldc2_w _ => 3
  | .multianewarray _ _ => 4
  | _ => 1
def z_i1 (f : Int32 → Value) : List Value → Option (List Value)
  | .int x :: st => some (f x :: st)
  | _ => none
def z_i2 (f : Int32 → Int32 → Value) : List Value → Option (List Value)
  | .int y :: .int x :: st => some (f x y :: st)
  | _ => none
def z_l1 (f : Int64 → Value) : List Value → Option (List Value)
  | .long x :: st => some (f x :: st)
  | _ => none
def z_l2 (f : Int64 → Int64 → Value) : List Value → Option (List Value)
  | .long y :: .long x :: st => some (f x y :: st)
  | _ => none
def z_i2d (f : Int32 → Int32 → Value) : List Value → Option (List Value)
  | .int y :: .int x :: st => if y = 0 then none else some (f x y :: st)
  | _ => none
def z_l2d (f : Int64 → Int64 → Value) : List Value → Option (List Value)
  | .long y :: .long x :: st => if y = 0 then none else some (f x y :: st)
  | _ => none
def z_dup : List Value → Option (List Value)
  | v :: st => if v.category = 1 then some (v :: v :: st) else none
  | _ => none
def z_pop : List Value → Option (List Value)
  | v :: st => if v.category = 1 then some st else none
  | _ => none
def z_dupx1 : List Value → Option (List Value)
  | v :: w :: st => if v.category = 1 ∧ w.category = 1 then some (v :: w :: v :: st) else none
  | _ => none
def z_dup2 : List Value → Option (List Value)
  | v :: w :: st => if v.category = 1 ∧ w.category = 1 then some (v :: w :: v :: w :: st) else none
  | _ => none
/-- what changes the stack alone -/
def z_pure : Instr → List Value → Option (List Value)
  | .iconst n => fun st => some (.int (Int32.ofInt n) :: st)
  | .bipush n => fun st => some (.int (Int8.ofInt n).toInt32 :: st)
  | .sipush n => fun st => some (.int (Int16.ofInt n).toInt32 :: st)
  | .lconst n => fun st => some (.long (Int64.ofNat n) :: st)
  | .aconst_null => fun st => some (.null :: st)
  | .iadd => z_i2 fun x y => .int (x + y)
  | .isub => z_i2 fun x y => .int (x - y)
  | .imul => z_i2 fun x y => .int (x * y)
  | .iand => z_i2 fun x y => .int (x &&& y)
  | .ior => z_i2 fun x y => .int (x ||| y)
  | .ixor => z_i2 fun x y => .int (x ^^^ y)
  | .ishl => z_i2 fun x y => .int (x <<< (y &&& 31))
  | .ishr => z_i2 fun x y => .int (x >>> (y &&& 31))
  | .iushr => z_i2 fun x y => .int (x.toUInt32 >>> (y.toUInt32 &&& Int32.toUInt32 31)).toInt32
  | .idiv => z_i2d fun x y => .int (x / y)
  | .irem => z_i2d fun x y => .int (x - x / y * y)
  | .ineg => z_i1 fun x => .int (-x)
  | .i2l => z_i1 fun x => .long x.toInt64
  | .i2b => z_i1 fun x => .int x.toInt8.toInt32
  | .i2s => z_i1 fun x => .int x.toInt16.toInt32
  | .i2c => z_i1 fun x => .int (x.toUInt32 % 65536).toInt32
  | .l2i => z_l1 fun x => .int x.toInt32
  | .ladd => z_l2 fun x y => .long (x + y)
  | .lsub => z_l2 fun x y => .long (x - y)
  | .lmul => z_l2 fun x y => .long (x * y)
  | .ldiv => z_l2d fun x y => .long (x / y)
  | .lrem => z_l2d fun x y => .long (x - x / y * y)
  | .lcmp => z_l2 fun x y => .int (lg_cmp x y)
  | .dup => z_dup
  | .pop => z_pop
  | .dup_x1 => z_dupx1
  | .dup2 => z_dup2
  | _ => fun _ => none
def z_ld (k : Value → Bool) (l : z_L) (i : Nat) (st : List Value) : Option (z_L × List Value) := match z_get l i with
  | some v => if k v then some (l, v :: st) else none
  | none => none
def z_isI : Value → Bool
  | .int _ => true
  | _ => false
def z_isL : Value → Bool
  | .long _ => true
  | _ => false
def z_isA : Value → Bool
  | .ref _ => true
  | .null => true
  | _ => false
def z_st1 (k : Value → Bool) (nL : Nat) (l : z_L) (i : Nat) : List Value → Option (z_L × List Value)
  | v :: st => if k v && decide (i < nL) then some (z_set1 l i v, st) else none
  | _ => none
def z_st2 (nL : Nat) (l : z_L) (i : Nat) : List Value → Option (z_L × List Value)
  | .long x :: st => if i + 1 < nL then some (z_set2 l i (.long x), st) else none
  | _ => none
def z_inc (nL : Nat) (l : z_L) (i : Nat) (n : Int) (st : List Value) : Option (z_L × List Value) := match z_get l i with
  | some (.int x) => if i < nL then some (z_set1 l i (.int (x + Int32.ofInt n)), st) else none
  | _ => none
/-- what reads and writes the locals -/
def z_loc (nL : Nat) : Instr → z_L → List Value → Option (z_L × List Value)
  | .iload i => fun l st => z_ld z_isI l i st
  | .iload_n i => fun l st => z_ld z_isI l i st
  | .lload i => fun l st => z_ld z_isL l i st
  | .lload_n i => fun l st => z_ld z_isL l i st
  | .aload i => fun l st => z_ld z_isA l i st
  | .aload_n i => fun l st => z_ld z_isA l i st
  | .istore i => fun l st => z_st1 z_isI nL l i st
  | .istore_n i => fun l st => z_st1 z_isI nL l i st
  | .astore i => fun l st => z_st1 z_isA nL l i st
  | .astore_n i => fun l st => z_st1 z_isA nL l i st
  | .lstore i => fun l st => z_st2 nL l i st
  | .lstore_n i => fun l st => z_st2 nL l i st
  | .iinc i n => fun l st => z_inc nL l i n st
  | _ => fun _ _ => none
def z_tg (pc : Nat) (off : Int) : Option Nat := if 0 ≤ (pc : Int) + off then some ((pc : Int) + off).toNat else none
theorem z_tg_eq {pc t : Nat} {off : Int} (h : z_tg pc off = some t) : (pc : Int) + off = (t : Int) := by
  unfold z_tg at h
  split at h
  · cases h; omega
  · cases h
def z_cmp : ClassFile.Cond → Int32 → Int32 → Bool
  | .eq, x, y => decide (x = y)
  | .ne, x, y => decide (x ≠ y)
  | .lt, x, y => decide (x < y)
  | .ge, x, y => decide (y ≤ x)
  | .gt, x, y => decide (y < x)
  | .le, x, y => decide (x ≤ y)
/-- jumps -/
def z_jmp : Instr → Nat → List Value → Option (Nat × List Value)
  | .goto off => fun pc st => (z_tg pc off).map fun t => (t, st)
  | .ifCond c off => fun pc st => match st with
    | .int x :: r => (z_tg pc off).map fun t => (if z_cmp c x 0 then t else pc + 3, r)
    | _ => none
  | .if_icmp c off => fun pc st => match st with
    | .int y :: .int x :: r => (z_tg pc off).map fun t => (if z_cmp c x y then t else pc + 3, r)
    | _ => none
  | .ifnull off => fun pc st => match st with
    | .null :: r => (z_tg pc off).map fun t => (t, r)
    | .ref _ :: r => some (pc + 3, r)
    | _ => none
  | .ifnonnull off => fun pc st => match st with
    | .null :: r => some (pc + 3, r)
    | .ref _ :: r => (z_tg pc off).map fun t => (t, r)
    | _ => none
  | .tableswitch dflt lo hi offs => fun pc st => match st with
    | .int x :: r => if x.toInt < lo ∨ hi < x.toInt then (z_tg pc dflt).map fun t => (t, r) else match offs[(x.toInt - lo).toNat]? with
      | some off => (z_tg pc off).map fun t => (t, r)
      | none => none
    | _ => none
  | _ => fun _ _ => none
/-- the far things: the Strings' bytes, the script -/
abbrev z_Ss : Type := List (List Int32) × List Int32
/-- a far cell: of String number i the object (2 i) and its bytes (2 i + 1); behind the Strings the script -/
def z_fc (strs : z_Ss) (j : Nat) : Option z_C := match strs.1[j / 2]? with
  | some b => if j % 2 = 0 then some (98, [.ref (z_far + j + 1), .int 0]) else some (101, b.map Value.int)
  | none => if j = 2 * strs.1.length then some (103, strs.2.map Value.int) else none
def z_lk (strs : z_Ss) (P : z_H) (a : Nat) : Option z_C := if a < z_far then P[a]? else z_fc strs (a - z_far)
/-- an element of an array of the kind t -/
def z_al (t : Nat) (k : Value → Bool) (H : Nat → Option z_C) : List Value → Option (List Value)
  | .int i :: .ref a :: st => match H a with
    | some q => if q.1 = t ∧ 0 ≤ i.toInt then match q.2[i.toNatClampNeg]? with
        | some v => if k v then some (v :: st) else none
        | none => none
      else none
    | none => none
  | _ => none
/-- an element of an array of references, of any kind among nA -/
def z_alq (nA : Nat) (H : Nat → Option z_C) : List Value → Option (List Value)
  | .int i :: .ref a :: st => match H a with
    | some q => if 105 ≤ q.1 ∧ q.1 < 100 + nA ∧ 0 ≤ i.toInt then match q.2[i.toNatClampNeg]? with
        | some v => if z_isA v then some (v :: st) else none
        | none => none
      else none
    | none => none
  | _ => none
def z_alen (nA : Nat) (H : Nat → Option z_C) : List Value → Option (List Value)
  | .ref a :: st => match H a with
    | some q => if 100 ≤ q.1 ∧ q.1 < 100 + nA then some (.int (Int32.ofNat q.2.length) :: st) else none
    | none => none
  | _ => none
/-- a field: fld gives for a number of the pool the class and the field's place -/
def z_gf (fk : Option (Nat × Nat)) (H : Nat → Option z_C) : List Value → Option (List Value)
  | .ref a :: st => match fk with
    | some f => match H a with
      | some q => if q.1 = f.1 ∧ q.1 < 99 then match q.2[f.2]? with
          | some v => some (v :: st)
          | none => none
        else none
      | none => none
    | none => none
  | _ => none
/-- what reads the cells -/
def z_rd (fld : Nat → Option (Nat × Nat)) (nA : Nat) (H : Nat → Option z_C) : Instr → List Value → Option (List Value)
  | .getfield n => z_gf (fld n) H
  | .iaload => z_al 103 z_isI H
  | .caload => z_al 102 z_isI H
  | .baload => fun st => (z_al 101 z_isI H st).or (z_al 100 z_isI H st)
  | .laload => z_al 104 z_isL H
  | .aaload => z_alq nA H
  | .arraylength => z_alen nA H
  | _ => fun _ => none
/-- what a small array keeps of an int -/
def z_as (t : Nat) (nf : Int32 → Int32) (P : z_H) : List Value → Option (List Value × z_H)
  | .int x :: .int i :: .ref a :: st => match P[a]? with
    | some q => if q.1 = t ∧ 0 ≤ i.toInt ∧ i.toNatClampNeg < q.2.length then some (st, P.set a (t, q.2.set i.toNatClampNeg (.int (nf x)))) else none
    | none => none
  | _ => none
def z_las (P : z_H) : List Value → Option (List Value × z_H)
  | .long x :: .int i :: .ref a :: st => match P[a]? with
    | some q => if q.1 = 104 ∧ 0 ≤ i.toInt ∧ i.toNatClampNeg < q.2.length then some (st, P.set a (104, q.2.set i.toNatClampNeg (.long x))) else none
    | none => none
  | _ => none
/-- an object into an array of its class: ac gives for a kind of array the class -/
def z_aas (ac : Nat → Option Nat) (P : z_H) : List Value → Option (List Value × z_H)
  | .ref v :: .int i :: .ref a :: st => match P[a]? with
    | some q => match P[v]? with
      | some w => if 105 ≤ q.1 ∧ w.1 < 99 ∧ ac (q.1 - 100) = some w.1 ∧ 0 ≤ i.toInt ∧ i.toNatClampNeg < q.2.length then some (st, P.set a (q.1, q.2.set i.toNatClampNeg (.ref v))) else none
      | none => none
    | none => none
  | _ => none
/-- a field; a final one only where ini names its class -/
def z_pf (fk : Option (Nat × Nat)) (fty : Nat → Nat → FieldType) (fin : Nat → Nat → Bool) (ini : Option Nat) (P : z_H) : List Value → Option (List Value × z_H)
  | v :: .ref a :: st => match fk with
    | some f => match P[a]? with
      | some q => if q.1 = f.1 ∧ q.1 < 99 ∧ f.2 < q.2.length ∧ fits (fty f.1 f.2) v = true ∧ narrow (fty f.1 f.2) v = v ∧ (fin f.1 f.2 = false ∨ ini = some f.1) then some (st, P.set a (f.1, q.2.set f.2 v)) else none
      | none => none
    | none => none
  | _ => none
/-- what writes the cells -/
def z_wr (fld : Nat → Option (Nat × Nat)) (fty : Nat → Nat → FieldType) (fin : Nat → Nat → Bool) (ini : Option Nat) (ac : Nat → Option Nat) (P : z_H) : Instr → List Value → Option (List Value × z_H)
  | .putfield n => z_pf (fld n) fty fin ini P
  | .iastore => z_as 103 (fun x => x) P
  | .castore => z_as 102 (fun x => x.toUInt32.toUInt16.toUInt32.toInt32) P
  | .bastore => fun st => (z_as 101 (fun x => x.toInt8.toInt32) P st).or (z_as 100 (fun x => x &&& 1) P st)
  | .lastore => z_las P
  | .aastore => z_aas ac P
  | _ => fun _ => none
/-- the place of a kind of number among the arrays -/
def z_atc : ArrayType → Option Nat
  | .boolean => some 0
  | .byte => some 1
  | .char => some 2
  | .int => some 3
  | .long => some 4
  | _ => none
def z_dv : Nat → Value
  | 4 => .long 0
  | _ => .int 0
def z_mka (o : Option Nat) (dv : Nat → Value) (P : z_H) : List Value → Option (List Value × z_H × Nat × Nat)
  | .int n :: st => match o with
    | some t => if 0 ≤ n.toInt ∧ n.toNatClampNeg ≤ 10000 ∧ P.length < z_far then some (.ref P.length :: st, P ++ [(100 + t, List.replicate n.toNatClampNeg (dv t))], 1, n.toNatClampNeg) else none
    | none => none
  | _ => none
def z_mkm (o : Option (Nat × Nat)) (P : z_H) : List Value → Option (List Value × z_H × Nat × Nat)
  | .int k :: .int n :: st => match o with
    | some t => if 0 ≤ n.toInt ∧ 0 ≤ k.toInt ∧ n.toNatClampNeg ≤ 10000 ∧ k.toNatClampNeg ≤ 10000 ∧ P.length + 1 + n.toNatClampNeg ≤ z_far then
        some (.ref P.length :: st, P ++ (100 + t.1, (List.range n.toNatClampNeg).map (fun j => .ref (P.length + 1 + j))) :: List.replicate n.toNatClampNeg (100 + t.2, List.replicate k.toNatClampNeg (z_dv t.2)), 1 + n.toNatClampNeg, n.toNatClampNeg + n.toNatClampNeg * k.toNatClampNeg) else none
    | none => none
  | _ => none
/-- what makes cells: the stack, the cells, how many and with how many slots -/
def z_mk (cls : Nat → Option (Nat × List Value)) (aan : Nat → Option Nat) (mna : Nat → Option (Nat × Nat)) (P : z_H) : Instr → List Value → Option (List Value × z_H × Nat × Nat)
  | .new n => fun st => match cls n with
    | some q => if q.1 < 99 ∧ P.length < z_far then some (.ref P.length :: st, P ++ [q], 1, q.2.length) else none
    | none => none
  | .newarray t => z_mka (z_atc t) z_dv P
  | .anewarray n => z_mka (aan n) (fun _ => .null) P
  | .multianewarray n d => fun st => if d = 2 then z_mkm (mna n) P st else none
  | _ => fun _ => none
/-- constants of the pool; what getstatic reads stands 100000 further -/
def z_okv (k : Value → Bool) : Option Value → Option Value
  | some v => if k v then some v else none
  | none => none
theorem z_okv_spec {k : Value → Bool} {n : Nat} {o : Option Value} {v : Value} (h : z_okv k (if n < 100000 then o else none) = some v) : n < 100000 ∧ o = some v ∧ k v = true := by
  split at h
  · rename_i hn
    unfold z_okv at h
    split at h
    · split at h
      · rename_i hk
        cases h
        exact ⟨hn, rfl, hk⟩
      · cases h
    · cases h
  · cases h
def z_cstv (cst : Nat → Option Value) : Instr → Option Value
  | .ldc n => z_okv (fun v => z_isI v || z_isA v) (if n < 100000 then cst n else none)
  | .ldc_w n => z_okv z_isI (if n < 100000 then cst n else none)
  | .ldc2_w n => z_okv z_isL (if n < 100000 then cst n else none)
  | .getstatic n => cst (n + 100000)
  | _ => none
def z_cst (cst : Nat → Option Value) (ins : Instr) (st : List Value) : Option (List Value) := (z_cstv cst ins).map (· :: st)
/-- System.arraycopy between rows of ints -/
def z_cpy (ws vs : List Value) (sp dp n : Nat) : List Value := (List.range ws.length).map fun k => if dp ≤ k ∧ k < dp + n then vs.getD (sp + (k - dp)) .null else ws.getD k .null
def z_acp (P : z_H) : List Value → Option (List Value × z_H)
  | .int n :: .int dp :: .ref b :: .int sp :: .ref a :: st => match P[a]?, P[b]? with
    | some q, some w => if q.1 = 103 ∧ w.1 = 103 ∧ 0 ≤ n.toInt ∧ 0 ≤ dp.toInt ∧ 0 ≤ sp.toInt ∧ sp.toNatClampNeg + n.toNatClampNeg ≤ q.2.length ∧ dp.toNatClampNeg + n.toNatClampNeg ≤ w.2.length ∧ q.2.all z_isI = true then
        some (st, P.set b (103, z_cpy w.2 q.2 sp.toNatClampNeg dp.toNatClampNeg n.toNatClampNeg)) else none
    | _, _ => none
  | _ => none
end ZSEM
end
section
/-! Rows of the machine, gathered: one row for all that changes the stack alone, one for the locals, one for jumps. -/
section ZSIM
variable {p : Program} {l : Launch} {e : Env} {R : Room} {s : State} {m : MethodId} {args : Array Value} {below : List Frame} {meth : Method} {c : Code} {H : Heap} {locs : List Loc} {cells slots : Nat} {Q : State → Prop}
/-- a value of the picture as the machine has it: far numbers are cells of old, others count from the base -/
def z_cv (ext : Nat → Nat) (base : Nat) : Value → Value
  | .ref k => .ref (if k < z_far then base + k else ext (k - z_far))
  | v => v
theorem z_cv_cat (ext : Nat → Nat) (base : Nat) (v : Value) : (z_cv ext base v).category = v.category := by cases v <;> rfl
theorem z_i1_spec {f : Int32 → Value} {st st' : List Value} (h : z_i1 f st = some st') : ∃ x r, st = .int x :: r ∧ st' = f x :: r := by
  unfold z_i1 at h
  split at h
  · cases h; exact ⟨_, _, rfl, rfl⟩
  · cases h
theorem z_l1_spec {f : Int64 → Value} {st st' : List Value} (h : z_l1 f st = some st') : ∃ x r, st = .long x :: r ∧ st' = f x :: r := by
  unfold z_l1 at h
  split at h
  · cases h; exact ⟨_, _, rfl, rfl⟩
  · cases h
theorem z_i2_spec {f : Int32 → Int32 → Value} {st st' : List Value} (h : z_i2 f st = some st') : ∃ y x r, st = .int y :: .int x :: r ∧ st' = f x y :: r := by
  unfold z_i2 at h
  split at h
  · cases h; exact ⟨_, _, _, rfl, rfl⟩
  · cases h
theorem z_l2_spec {f : Int64 → Int64 → Value} {st st' : List Value} (h : z_l2 f st = some st') : ∃ y x r, st = .long y :: .long x :: r ∧ st' = f x y :: r := by
  unfold z_l2 at h
  split at h
  · cases h; exact ⟨_, _, _, rfl, rfl⟩
  · cases h
theorem z_i2d_spec {f : Int32 → Int32 → Value} {st st' : List Value} (h : z_i2d f st = some st') : ∃ y x r, ¬ y = 0 ∧ st = .int y :: .int x :: r ∧ st' = f x y :: r := by
  unfold z_i2d at h
  split at h
  · split at h
    · cases h
    · rename_i h0
      cases h; exact ⟨_, _, _, h0, rfl, rfl⟩
  · cases h
theorem z_l2d_spec {f : Int64 → Int64 → Value} {st st' : List Value} (h : z_l2d f st = some st') : ∃ y x r, ¬ y = 0 ∧ st = .long y :: .long x :: r ∧ st' = f x y :: r := by
  unfold z_l2d at h
  split at h
  · split at h
    · cases h
    · rename_i h0
      cases h; exact ⟨_, _, _, h0, rfl, rfl⟩
  · cases h
set_option maxHeartbeats 4000000 in
theorem z_sim_pure {ext : Nat → Nat} {base : Nat} {cc : ByteArray} (hx : p.tables.exec = Jvm.exec) (hb : c.code = cc) {ins : Instr} {len pc : Nat} {ls : Array Slot} {st st' : List Value} (hd : decode cc pc = .ok (ins, len)) (hlen : len = z_len ins) (h : z_pure ins st = some st')
    (k : W p l e R s m args below meth c H locs cells slots Q (F0 m (pc + len) ls (st'.map (z_cv ext base)))) : W p l e R s m args below meth c H locs cells slots Q (F0 m pc ls (st.map (z_cv ext base))) := by
  subst hlen
  cases ins
  case iconst n => cases h; exact lv_iconst hx hb hd rfl k
  case bipush n => cases h; exact lv_bipush hx hb hd rfl k
  case sipush n => cases h; exact lv_sipush hx hb hd rfl k
  case lconst n => cases h; exact lv_lconst hx hb hd rfl k
  case aconst_null => cases h; exact lv_null hx hb hd k
  case iadd => obtain ⟨y, x, r, rfl, rfl⟩ := z_i2_spec h; exact lv_iadd hx hb hd k
  case isub => obtain ⟨y, x, r, rfl, rfl⟩ := z_i2_spec h; exact lv_isub hx hb hd k
  case imul => obtain ⟨y, x, r, rfl, rfl⟩ := z_i2_spec h; exact lv_imul hx hb hd k
  case iand => obtain ⟨y, x, r, rfl, rfl⟩ := z_i2_spec h; exact lv_iand hx hb hd k
  case ior => obtain ⟨y, x, r, rfl, rfl⟩ := z_i2_spec h; exact lv_ior hx hb hd k
  case ixor => obtain ⟨y, x, r, rfl, rfl⟩ := z_i2_spec h; exact lv_ixor hx hb hd k
  case ishl => obtain ⟨y, x, r, rfl, rfl⟩ := z_i2_spec h; exact lv_ishl hx hb hd k
  case ishr => obtain ⟨y, x, r, rfl, rfl⟩ := z_i2_spec h; exact lv_ishr hx hb hd k
  case iushr => obtain ⟨y, x, r, rfl, rfl⟩ := z_i2_spec h; exact lv_iushr hx hb hd rfl k
  case idiv => obtain ⟨y, x, r, h0, rfl, rfl⟩ := z_i2d_spec h; exact lv_idiv hx hb hd h0 k
  case irem => obtain ⟨y, x, r, h0, rfl, rfl⟩ := z_i2d_spec h; exact lv_irem hx hb hd h0 k
  case ineg => obtain ⟨x, r, rfl, rfl⟩ := z_i1_spec h; exact lv_ineg hx hb hd k
  case i2l => obtain ⟨x, r, rfl, rfl⟩ := z_i1_spec h; exact lv_i2l hx hb hd rfl k
  case i2b => obtain ⟨x, r, rfl, rfl⟩ := z_i1_spec h; exact lv_i2b hx hb hd rfl k
  case i2s => obtain ⟨x, r, rfl, rfl⟩ := z_i1_spec h; exact lv_i2s hx hb hd rfl k
  case i2c => obtain ⟨x, r, rfl, rfl⟩ := z_i1_spec h; exact lv_i2c hx hb hd rfl k
  case l2i => obtain ⟨x, r, rfl, rfl⟩ := z_l1_spec h; exact lv_l2i hx hb hd rfl k
  case ladd => obtain ⟨y, x, r, rfl, rfl⟩ := z_l2_spec h; exact lv_ladd hx hb hd k
  case lsub => obtain ⟨y, x, r, rfl, rfl⟩ := z_l2_spec h; exact lv_lsub hx hb hd k
  case lmul => obtain ⟨y, x, r, rfl, rfl⟩ := z_l2_spec h; exact lv_lmul hx hb hd k
  case ldiv => obtain ⟨y, x, r, h0, rfl, rfl⟩ := z_l2d_spec h; exact lv_ldiv hx hb hd h0 k
  case lrem => obtain ⟨y, x, r, h0, rfl, rfl⟩ := z_l2d_spec h; exact lv_lrem hx hb hd h0 k
  case lcmp => obtain ⟨y, x, r, rfl, rfl⟩ := z_l2_spec h; exact W.lcmp hx hb hd k
  case dup =>
    have h : z_dup st = some st' := h
    unfold z_dup at h
    split at h
    · split at h
      · rename_i v r h1
        cases h; exact lv_dup hx hb hd (by rw [z_cv_cat]; exact h1) k
      · cases h
    · cases h
  case pop =>
    have h : z_pop st = some st' := h
    unfold z_pop at h
    split at h
    · split at h
      · rename_i v r h1
        cases h; exact lv_pop hx hb hd (by rw [z_cv_cat]; exact h1) k
      · cases h
    · cases h
  case dup_x1 =>
    have h : z_dupx1 st = some st' := h
    unfold z_dupx1 at h
    split at h
    · split at h
      · rename_i v w r h1
        cases h; exact lv_dup_x1 hx hb hd (by rw [z_cv_cat]; exact h1.1) (by rw [z_cv_cat]; exact h1.2) k
      · cases h
    · cases h
  case dup2 =>
    have h : z_dup2 st = some st' := h
    unfold z_dup2 at h
    split at h
    · split at h
      · rename_i v w r h1
        cases h; exact lv_dup2_11 hx hb hd (by rw [z_cv_cat]; exact h1.1) (by rw [z_cv_cat]; exact h1.2) k
      · cases h
    · cases h
  all_goals (cases h)
/-- the locals of the picture as the machine has them -/
def z_cl (ext : Nat → Nat) (base : Nat) (ll : z_L) : List (Nat × Value) := ll.map fun q => (q.1, z_cv ext base q.2)
theorem z_cl_at {ext : Nat → Nat} {base : Nat} {ll : z_L} {i : Nat} {v : Value} (h : z_get ll i = some v) : ∃ k : Nat, (z_cl ext base ll)[k]? = some (i, z_cv ext base v) := by
  obtain ⟨k, hk⟩ := z_get_mem h
  exact ⟨k, by simp [z_cl, hk]⟩
theorem z_cl_set1 {ext : Nat → Nat} {base : Nat} (ll : z_L) (i : Nat) (v : Value) : (i, z_cv ext base v) :: (z_cl ext base ll).filter (fun q => !(q.1 == i) && !(q.1 + 1 == i && q.2.category == 2)) = z_cl ext base (z_set1 ll i v) := by
  unfold z_cl z_set1
  rw [List.map_cons, List.filter_map]
  congr 2
  apply List.filter_congr
  intro q _
  simp [z_cv_cat]
theorem z_cl_set2 {ext : Nat → Nat} {base : Nat} (ll : z_L) (i : Nat) (v : Value) : (i, z_cv ext base v) :: (z_cl ext base ll).filter (fun q => !(q.1 == i) && (!(q.1 == i + 1) && !(q.1 + 1 == i && q.2.category == 2))) = z_cl ext base (z_set2 ll i v) := by
  unfold z_cl z_set2
  rw [List.map_cons, List.filter_map]
  congr 2
  apply List.filter_congr
  intro q _
  simp [z_cv_cat]
theorem z_ld_spec {k : Value → Bool} {ll l' : z_L} {i : Nat} {st st' : List Value} (h : z_ld k ll i st = some (l', st')) : ∃ v, z_get ll i = some v ∧ k v = true ∧ l' = ll ∧ st' = v :: st := by
  unfold z_ld at h
  split at h
  · rename_i v hv
    split at h
    · rename_i hk
      cases h; exact ⟨v, hv, hk, rfl, rfl⟩
    · cases h
  · cases h
theorem z_st1_spec {k : Value → Bool} {nL : Nat} {ll l' : z_L} {i : Nat} {st st' : List Value} (h : z_st1 k nL ll i st = some (l', st')) : ∃ v, k v = true ∧ i < nL ∧ st = v :: st' ∧ l' = z_set1 ll i v := by
  unfold z_st1 at h
  split at h
  · rename_i v r
    split at h
    · rename_i hk
      simp only [Bool.and_eq_true, decide_eq_true_eq] at hk
      cases h; exact ⟨v, hk.1, hk.2, rfl, rfl⟩
    · cases h
  · cases h
theorem z_st2_spec {nL : Nat} {ll l' : z_L} {i : Nat} {st st' : List Value} (h : z_st2 nL ll i st = some (l', st')) : ∃ x, i + 1 < nL ∧ st = .long x :: st' ∧ l' = z_set2 ll i (.long x) := by
  unfold z_st2 at h
  split at h
  · rename_i x r
    split at h
    · rename_i hk
      cases h; exact ⟨x, hk, rfl, rfl⟩
    · cases h
  · cases h
theorem z_inc_spec {nL : Nat} {ll l' : z_L} {i : Nat} {n : Int} {st st' : List Value} (h : z_inc nL ll i n st = some (l', st')) : ∃ x, z_get ll i = some (.int x) ∧ i < nL ∧ st' = st ∧ l' = z_set1 ll i (.int (x + Int32.ofInt n)) := by
  unfold z_inc at h
  split at h
  · rename_i x hx
    split at h
    · rename_i hk
      cases h; exact ⟨x, hx, hk, rfl, rfl⟩
    · cases h
  · cases h
theorem z_isI_spec {v : Value} (h : z_isI v = true) : ∃ x, v = .int x := by cases v <;> first | exact ⟨_, rfl⟩ | cases h
theorem z_isL_spec {v : Value} (h : z_isL v = true) : ∃ x, v = .long x := by cases v <;> first | exact ⟨_, rfl⟩ | cases h
theorem z_isA_spec {v : Value} (h : z_isA v = true) : v = .null ∨ ∃ x, v = .ref x := by cases v <;> first | exact Or.inl rfl | exact Or.inr ⟨_, rfl⟩ | cases h
set_option maxHeartbeats 4000000 in
theorem z_sim_loc {ext : Nat → Nat} {base nL : Nat} {cc : ByteArray} (hx : p.tables.exec = Jvm.exec) (hb : c.code = cc) {ins : Instr} {len pc : Nat} {ls : Array Slot} {ll l' : z_L} {st st' : List Value} (hd : decode cc pc = .ok (ins, len)) (hlen : len = z_len ins) (h : z_loc nL ins ll st = some (l', st')) (hl : lv_has ls nL (z_cl ext base ll))
    (k : ∀ ls', lv_has ls' nL (z_cl ext base l') → W p l e R s m args below meth c H locs cells slots Q (F0 m (pc + len) ls' (st'.map (z_cv ext base)))) : W p l e R s m args below meth c H locs cells slots Q (F0 m pc ls (st.map (z_cv ext base))) := by
  subst hlen
  cases ins
  case iload i =>
    obtain ⟨v, hv, hk, rfl, rfl⟩ := z_ld_spec h
    obtain ⟨x, rfl⟩ := z_isI_spec hk
    obtain ⟨q, hq⟩ := z_cl_at (ext := ext) (base := base) hv
    exact lv_iload hx hb hd (lv_at hl q hq) (k ls hl)
  case iload_n i =>
    obtain ⟨v, hv, hk, rfl, rfl⟩ := z_ld_spec h
    obtain ⟨x, rfl⟩ := z_isI_spec hk
    obtain ⟨q, hq⟩ := z_cl_at (ext := ext) (base := base) hv
    exact lv_iload_n hx hb hd rfl (lv_at hl q hq) (k ls hl)
  case lload i =>
    obtain ⟨v, hv, hk, rfl, rfl⟩ := z_ld_spec h
    obtain ⟨x, rfl⟩ := z_isL_spec hk
    obtain ⟨q, hq⟩ := z_cl_at (ext := ext) (base := base) hv
    exact lv_lload hx hb hd (lv_at hl q hq) (k ls hl)
  case lload_n i =>
    obtain ⟨v, hv, hk, rfl, rfl⟩ := z_ld_spec h
    obtain ⟨x, rfl⟩ := z_isL_spec hk
    obtain ⟨q, hq⟩ := z_cl_at (ext := ext) (base := base) hv
    exact lv_lload_n hx hb hd rfl (lv_at hl q hq) (k ls hl)
  case aload i =>
    obtain ⟨v, hv, hk, rfl, rfl⟩ := z_ld_spec h
    obtain ⟨q, hq⟩ := z_cl_at (ext := ext) (base := base) hv
    rcases z_isA_spec hk with rfl | ⟨x, rfl⟩
    · exact lv_aloadN hx hb hd (lv_at hl q hq) (k ls hl)
    · exact lv_aload hx hb hd (lv_at hl q hq) (k ls hl)
  case aload_n i =>
    obtain ⟨v, hv, hk, rfl, rfl⟩ := z_ld_spec h
    obtain ⟨q, hq⟩ := z_cl_at (ext := ext) (base := base) hv
    rcases z_isA_spec hk with rfl | ⟨x, rfl⟩
    · exact lv_aload_nN hx hb hd rfl (lv_at hl q hq) (k ls hl)
    · exact lv_aload_n hx hb hd rfl (lv_at hl q hq) (k ls hl)
  case istore i =>
    obtain ⟨v, hk, hn, rfl, rfl⟩ := z_st1_spec h
    obtain ⟨x, rfl⟩ := z_isI_spec hk
    exact lv_istore hx hb hd hl hn (z_cl_set1 ll i (.int x)) k
  case istore_n i =>
    obtain ⟨v, hk, hn, rfl, rfl⟩ := z_st1_spec h
    obtain ⟨x, rfl⟩ := z_isI_spec hk
    exact lv_istore_n hx hb hd rfl hl hn (z_cl_set1 ll i (.int x)) k
  case astore i =>
    obtain ⟨v, hk, hn, rfl, rfl⟩ := z_st1_spec h
    rcases z_isA_spec hk with rfl | ⟨x, rfl⟩
    · exact lv_astoreN hx hb hd hl hn (z_cl_set1 ll i .null) k
    · exact lv_astore hx hb hd hl hn (z_cl_set1 ll i (.ref x)) k
  case astore_n i =>
    obtain ⟨v, hk, hn, rfl, rfl⟩ := z_st1_spec h
    rcases z_isA_spec hk with rfl | ⟨x, rfl⟩
    · exact lv_astore_nN hx hb hd rfl hl hn (z_cl_set1 ll i .null) k
    · exact lv_astore_n hx hb hd rfl hl hn (z_cl_set1 ll i (.ref x)) k
  case lstore i =>
    obtain ⟨x, hn, rfl, rfl⟩ := z_st2_spec h
    exact lv_lstore hx hb hd hl hn (z_cl_set2 ll i (.long x)) k
  case lstore_n i =>
    obtain ⟨x, hn, rfl, rfl⟩ := z_st2_spec h
    exact lv_lstore_n hx hb hd rfl hl hn (z_cl_set2 ll i (.long x)) k
  case iinc i n =>
    obtain ⟨x, hv, hn, rfl, rfl⟩ := z_inc_spec h
    obtain ⟨q, hq⟩ := z_cl_at (ext := ext) (base := base) hv
    exact lv_iinc hx hb hd hl hq rfl hn (z_cl_set1 ll i (.int (x + Int32.ofInt n))) k
  all_goals (cases h)
end ZSIM
end
section
section ZSIMJ
variable {p : Program} {l : Launch} {e : Env} {R : Room} {s : State} {m : MethodId} {args : Array Value} {below : List Frame} {meth : Method} {c : Code} {H : Heap} {locs : List Loc} {cells slots : Nat} {Q : State → Prop}
theorem z_map_some {α β : Type} {o : Option α} {f : α → β} {b : β} (h : o.map f = some b) : ∃ a, o = some a ∧ f a = b := by
  cases o with
  | none => cases h
  | some a => exact ⟨a, rfl, Option.some.inj h⟩
set_option maxHeartbeats 4000000 in
theorem z_sim_jmp {ext : Nat → Nat} {base : Nat} {cc : ByteArray} (hx : p.tables.exec = Jvm.exec) (hb : c.code = cc) {ins : Instr} {len pc pc' : Nat} {ls : Array Slot} {st st' : List Value} (hd : decode cc pc = .ok (ins, len)) (hlen : (∃ d lo hi o, ins = .tableswitch d lo hi o) ∨ len = z_len ins) (h : z_jmp ins pc st = some (pc', st'))
    (k : W p l e R s m args below meth c H locs cells slots Q (F0 m pc' ls (st'.map (z_cv ext base)))) : W p l e R s m args below meth c H locs cells slots Q (F0 m pc ls (st.map (z_cv ext base))) := by
  cases ins
  case goto off =>
    rcases hlen with ⟨d, lo, hi, o, h1⟩ | rfl
    · cases h1
    obtain ⟨t, ht, hq⟩ := z_map_some h
    cases hq
    exact lv_goto hx hb hd (z_tg_eq ht) k
  case ifCond cnd off =>
    rcases hlen with ⟨d, lo, hi, o, h1⟩ | rfl
    · cases h1
    simp only [z_jmp] at h
    split at h
    · rename_i x r
      obtain ⟨t, ht, hq⟩ := z_map_some h
      have e1 : (if z_cmp cnd x 0 then t else pc + 3) = pc' := congrArg Prod.fst hq
      have e2 : r = st' := congrArg Prod.snd hq
      subst e2
      have ht := z_tg_eq ht
      subst e1
      cases cnd
      case eq => exact lv_if_eq hx hb hd ht (fun q => by simpa [z_cmp, q] using k) (fun q => by simpa [z_cmp, q] using k)
      case ne => exact lv_if_ne hx hb hd ht (fun q => by simpa [z_cmp, q] using k) (fun q => by simpa [z_cmp, q] using k)
      case lt => exact lv_if_lt hx hb hd ht (fun q => by simpa [z_cmp, q] using k) (fun q => by simpa [z_cmp, q] using k)
      case ge => exact lv_if_ge hx hb hd ht (fun q => by simpa [z_cmp, q] using k) (fun q => by simpa [z_cmp, q] using k)
      case gt => exact lv_if_gt hx hb hd ht (fun q => by simpa [z_cmp, q] using k) (fun q => by simpa [z_cmp, q] using k)
      case le => exact lv_if_le hx hb hd ht (fun q => by simpa [z_cmp, q] using k) (fun q => by simpa [z_cmp, q] using k)
    · cases h
  case if_icmp cnd off =>
    rcases hlen with ⟨d, lo, hi, o, h1⟩ | rfl
    · cases h1
    simp only [z_jmp] at h
    split at h
    · rename_i y x r
      obtain ⟨t, ht, hq⟩ := z_map_some h
      have e1 : (if z_cmp cnd x y then t else pc + 3) = pc' := congrArg Prod.fst hq
      have e2 : r = st' := congrArg Prod.snd hq
      subst e2
      have ht := z_tg_eq ht
      subst e1
      cases cnd
      case eq => exact lv_icmp_eq hx hb hd ht (fun q => by simpa [z_cmp, q] using k) (fun q => by simpa [z_cmp, q] using k)
      case ne => exact lv_icmp_ne hx hb hd ht (fun q => by simpa [z_cmp, q] using k) (fun q => by simpa [z_cmp, q] using k)
      case lt => exact lv_icmp_lt hx hb hd ht (fun q => by simpa [z_cmp, q] using k) (fun q => by simpa [z_cmp, q] using k)
      case ge => exact lv_icmp_ge hx hb hd ht (fun q => by simpa [z_cmp, q] using k) (fun q => by simpa [z_cmp, q] using k)
      case gt => exact lv_icmp_gt hx hb hd ht (fun q => by simpa [z_cmp, q] using k) (fun q => by simpa [z_cmp, q] using k)
      case le => exact lv_icmp_le hx hb hd ht (fun q => by simpa [z_cmp, q] using k) (fun q => by simpa [z_cmp, q] using k)
    · cases h
  case ifnull off =>
    rcases hlen with ⟨d, lo, hi, o, h1⟩ | rfl
    · cases h1
    simp only [z_jmp] at h
    split at h
    · obtain ⟨t, ht, hq⟩ := z_map_some h
      cases hq
      exact lv_ifnullN hx hb hd (z_tg_eq ht) k
    · cases h
      exact lv_ifnull hx hb hd k
    · cases h
  case ifnonnull off =>
    rcases hlen with ⟨d, lo, hi, o, h1⟩ | rfl
    · cases h1
    simp only [z_jmp] at h
    split at h
    · cases h
      exact lv_ifnonnullN hx hb hd k
    · obtain ⟨t, ht, hq⟩ := z_map_some h
      cases hq
      exact lv_ifnonnull hx hb hd (z_tg_eq ht) k
    · cases h
  case tableswitch d lo hi o =>
    simp only [z_jmp] at h
    split at h
    · rename_i x r
      split at h
      · rename_i h1
        obtain ⟨t, ht, hq⟩ := z_map_some h
        cases hq
        exact lv_tableOut hx hb hd h1 (z_tg_eq ht) k
      · rename_i h1
        split at h
        · rename_i off ho
          obtain ⟨t, ht, hq⟩ := z_map_some h
          cases hq
          exact lv_tableIn hx hb hd (fun q => h1 (Or.inl q)) (fun q => h1 (Or.inr q)) ho (z_tg_eq ht) k
        · cases h
    · cases h
  all_goals (cases h)
end ZSIMJ
section ZREP
/-- a cell of the picture at an address of the machine: an object of a class, a thing of which nothing is said (99), an array -/
def z_at (D : va_G) (cl : List vw_C) (ta : Nat → ClassId) (cv : Value → Value) (q : z_C) (a : Nat) (H : Heap) : Prop :=
  (q.1 < 99 → ∃ r : vw_C, cl[q.1]? = some r ∧ q.2.length = r.2.2 ∧ t_OB a (D.1 q.1) r.2.2 (D.2 q.1) H (vp_V (q.2.map cv))) ∧
  (100 ≤ q.1 → H[a]? = some (arrV (ta (q.1 - 100)) q.2.length (fun j => cv (q.2.getD j .null))))
theorem z_at.kept {D : va_G} {cl : List vw_C} {ta : Nat → ClassId} {cv : Value → Value} {q : z_C} {a : Nat} {H H1 : Heap} (h : z_at D cl ta cv q a H) (h1 : H1[a]? = H[a]?) : z_at D cl ta cv q a H1 :=
  ⟨fun n => by
    obtain ⟨r, e1, e2, e3⟩ := h.1 n
    exact ⟨r, e1, e2, e3.kept h1⟩, fun n => by rw [h1]; exact h.2 n⟩
/-- the machine's heap holds the picture, from the base on -/
def z_R (D : va_G) (cl : List vw_C) (ta : Nat → ClassId) (ext : Nat → Nat) (base : Nat) (P : z_H) (H : Heap) : Prop :=
  H.size = base + P.length ∧ P.length ≤ z_far ∧ ∀ (k : Nat) (q : z_C), P[k]? = some q → z_at D cl ta (z_cv ext base) q (base + k) H
/-- what is known of the classes and arrays: aty lists the kinds of the arrays -/
def z_K (D : va_G) (cl : List vw_C) (ta : Nat → ClassId) (aty : List FieldType) (U : State) : Prop :=
  (∀ (c : Nat) (q : vw_C), cl[c]? = some q → u_Kn U q.1 q.2.1 q.2.2 (D.1 c) (D.2 c)) ∧ ∀ (i : Nat) (t : FieldType), aty[i]? = some t → ArrOfT U (ta i) t ∧ va_RA U (ta i) t
theorem z_K.va {D : va_G} {cl : List vw_C} {ta : Nat → ClassId} {aty : List FieldType} {U : State} (h : z_K D cl ta aty U) : va_K D cl [] U := ⟨h.1, fun k q hk => by simp at hk⟩
theorem z_K.moved {D : va_G} {cl : List vw_C} {ta : Nat → ClassId} {aty : List FieldType} {u U : State} (hvm : u.vm.Alike U.vm) (h : z_K D cl ta aty u) : z_K D cl ta aty U :=
  ⟨fun c q hq => u_Kn_moved hvm (h.1 c q hq), fun i t hi => ⟨arrOfT_moved hvm (h.2 i t hi).1, (h.2 i t hi).2.moved hvm⟩⟩
theorem z_cv_near {ext : Nat → Nat} {base k : Nat} (h : k < z_far) : z_cv ext base (.ref k) = .ref (base + k) := by
  show Value.ref (if k < z_far then base + k else ext (k - z_far)) = _
  rw [if_pos h]
theorem z_get_lt {P : z_H} {k : Nat} {q : z_C} (h : P[k]? = some q) : k < P.length := (List.getElem?_eq_some_iff.mp h).1
theorem z_R.at {D : va_G} {cl : List vw_C} {ta : Nat → ClassId} {ext : Nat → Nat} {base : Nat} {P : z_H} {H : Heap} (h : z_R D cl ta ext base P H) {k : Nat} {q : z_C} (hk : P[k]? = some q) : z_at D cl ta (z_cv ext base) q (base + k) H := h.2.2 k q hk
theorem z_R.near {D : va_G} {cl : List vw_C} {ta : Nat → ClassId} {ext : Nat → Nat} {base : Nat} {P : z_H} {H : Heap} (h : z_R D cl ta ext base P H) {k : Nat} {q : z_C} (hk : P[k]? = some q) : z_cv ext base (.ref k) = .ref (base + k) :=
  z_cv_near (Nat.lt_of_lt_of_le (z_get_lt hk) h.2.1)
theorem z_R.set {D : va_G} {cl : List vw_C} {ta : Nat → ClassId} {ext : Nat → Nat} {base : Nat} {P : z_H} {H H1 : Heap} (h : z_R D cl ta ext base P H) {k : Nat} {q' : z_C} (hs : H1.size = H.size) (ho : ∀ a, a ≠ base + k → H1[a]? = H[a]?) (h1 : z_at D cl ta (z_cv ext base) q' (base + k) H1) : z_R D cl ta ext base (P.set k q') H1 := by
  refine ⟨by rw [hs, h.1]; simp, by simpa using h.2.1, fun j q hj => ?_⟩
  rw [List.getElem?_set] at hj
  split at hj
  · rename_i e
    subst e
    split at hj
    · cases hj; exact h1
    · cases hj
  · rename_i e
    exact (h.at hj).kept (ho _ (by omega))
theorem z_R.push {D : va_G} {cl : List vw_C} {ta : Nat → ClassId} {ext : Nat → Nat} {base : Nat} {P : z_H} {H H1 : Heap} (h : z_R D cl ta ext base P H) {q' : z_C} (hn : P.length < z_far) (hs : H1.size = H.size + 1) (ho : ∀ a, a < H.size → H1[a]? = H[a]?) (h1 : z_at D cl ta (z_cv ext base) q' (base + P.length) H1) : z_R D cl ta ext base (P ++ [q']) H1 := by
  refine ⟨by rw [hs, h.1, List.length_append]; simp; omega, by simp; omega, fun j q hj => ?_⟩
  rw [List.getElem?_append] at hj
  split at hj
  · rename_i e
    exact (h.at hj).kept (ho _ (by rw [h.1]; omega))
  · rename_i e
    have : j = P.length := by
      have := (List.getElem?_eq_some_iff.mp hj).1
      simp at this
      omega
    subst this
    simp at hj
    subst hj
    exact h1
end ZREP
end
section
section ZSIMR
variable {p : Program} {l : Launch} {e : Env} {R : Room} {s : State} {m : MethodId} {args : Array Value} {below : List Frame} {meth : Method} {c : Code} {H : Heap} {locs : List Loc} {cells slots : Nat} {Q : State → Prop}
theorem z_al_spec {t : Nat} {k : Value → Bool} {P : Nat → Option z_C} {st st' : List Value} (h : z_al t k P st = some st') : ∃ (i : Int32) (a : Nat) (r : List Value) (vs : List Value) (v : Value), st = .int i :: .ref a :: r ∧ P a = some (t, vs) ∧ 0 ≤ i.toInt ∧ vs[i.toNatClampNeg]? = some v ∧ k v = true ∧ st' = v :: r := by
  unfold z_al at h
  split at h
  · rename_i i a r
    split at h
    · rename_i q hq
      split at h
      · rename_i h1
        split at h
        · rename_i v hv
          split at h
          · rename_i hk
            cases h
            exact ⟨i, a, r, q.2, v, rfl, by rw [hq, ← h1.1], h1.2, hv, hk, rfl⟩
          · cases h
        · cases h
      · cases h
    · cases h
  · cases h
theorem z_alq_spec {nA : Nat} {P : Nat → Option z_C} {st st' : List Value} (h : z_alq nA P st = some st') : ∃ (i : Int32) (a : Nat) (r : List Value) (t : Nat) (vs : List Value) (v : Value), st = .int i :: .ref a :: r ∧ P a = some (t, vs) ∧ 105 ≤ t ∧ t < 100 + nA ∧ 0 ≤ i.toInt ∧ vs[i.toNatClampNeg]? = some v ∧ z_isA v = true ∧ st' = v :: r := by
  unfold z_alq at h
  split at h
  · rename_i i a r
    split at h
    · rename_i q hq
      split at h
      · rename_i h1
        split at h
        · rename_i v hv
          split at h
          · rename_i hk
            cases h
            exact ⟨i, a, r, q.1, q.2, v, rfl, hq, h1.1, h1.2.1, h1.2.2, hv, hk, rfl⟩
          · cases h
        · cases h
      · cases h
    · cases h
  · cases h
theorem z_alen_spec {nA : Nat} {P : Nat → Option z_C} {st st' : List Value} (h : z_alen nA P st = some st') : ∃ (a : Nat) (r : List Value) (t : Nat) (vs : List Value), st = .ref a :: r ∧ P a = some (t, vs) ∧ 100 ≤ t ∧ t < 100 + nA ∧ st' = .int (Int32.ofNat vs.length) :: r := by
  unfold z_alen at h
  split at h
  · rename_i a r
    split at h
    · rename_i q hq
      split at h
      · rename_i h1
        cases h
        exact ⟨a, r, q.1, q.2, rfl, hq, h1.1, h1.2, rfl⟩
      · cases h
    · cases h
  · cases h
theorem z_gf_spec {fk : Option (Nat × Nat)} {P : Nat → Option z_C} {st st' : List Value} (h : z_gf fk P st = some st') : ∃ (a : Nat) (r : List Value) (ci f : Nat) (vs : List Value) (v : Value), st = .ref a :: r ∧ fk = some (ci, f) ∧ P a = some (ci, vs) ∧ ci < 99 ∧ vs[f]? = some v ∧ st' = v :: r := by
  unfold z_gf at h
  split at h
  · rename_i a r
    split at h
    · rename_i f
      split at h
      · rename_i q hq
        split at h
        · rename_i h1
          split at h
          · rename_i v hv
            cases h
            exact ⟨a, r, f.1, f.2, q.2, v, rfl, rfl, by rw [hq, ← h1.1], by rw [← h1.1]; exact h1.2, hv, rfl⟩
          · cases h
        · cases h
      · cases h
    · cases h
  · cases h
/-- the five kinds of numbers stand first among the arrays, behind them references alone -/
def z_aty (aty : List FieldType) : Prop := aty[0]? = some .boolean ∧ aty[1]? = some .byte ∧ aty[2]? = some .char ∧ aty[3]? = some .int ∧ aty[4]? = some .long ∧ ∀ (i : Nat) (t : FieldType), 5 ≤ i → aty[i]? = some t → t.isReference = true
theorem z_in {i : Int32} {n : Nat} (h0 : 0 ≤ i.toInt) (h : i.toNatClampNeg < n) : ¬ (i < 0 ∨ n ≤ i.toNatClampNeg) := by
  rintro (q | q)
  · rw [Int32.lt_iff_toInt_lt] at q
    have : (0 : Int32).toInt = 0 := by decide
    omega
  · omega
theorem z_arr_read {cA : ClassId} {cv : Value → Value} {vs : List Value} {j : Nat} {v : Value} (h : vs[j]? = some v) : (arrV cA vs.length (fun j => cv (vs.getD j .null))).slots[j]? = some (cv v) := by
  have hj : j < vs.length := (List.getElem?_eq_some_iff.mp h).1
  rw [arrV_read cA _ hj]
  simp [h]
/-- what the pool says of a field: its link, plainly or as a nest mate's -/
def z_fl (s : State) (args : Array Value) (own : String) (n : Nat) (f : String × String × String × Bool) : Prop :=
  (Cond.fieldLink own n f.1 f.2.1 f.2.2.1).before args s = true ∨ ∃ host, (Cond.fieldLinkNest own n f.1 f.2.1 f.2.2.1 host).before args s = true
/-- what the words say of the classes -/
def z_CL (cl : List vw_C) (Ts : List Cond) : Prop := ∀ (ci : Nat) (r : vw_C), cl[ci]? = some r → (∀ w ∈ u_ws r.1 r.2.1 r.2.2, w ∈ Ts) ∧ (∃ ty : Nat → FieldType, ∀ k, k < r.2.2 → parseFieldDescriptor (r.2.1 k).2.2.1 = some (ty k)) ∧ ∀ a, a < r.2.2 → ∀ b, b < r.2.2 → a ≠ b → (r.2.1 a).2.1 ≠ (r.2.1 b).2.1
/-- the String constants stand, far from what the law makes; fs: where they are told -/
def z_X (strs : z_Ss) (ext : Nat → Nat) (base : Nat) (rs : List (String × Nat × String × Nat)) (U : State) : Prop :=
  vk_S strs.1.length (strs.1.map List.length) strs.1 (fun i => ext (2 * i)) (fun i => ext (2 * i + 1)) (fun q => base ≤ q) U U.heap ∧ va_Z "java/lang/String" "COMPACT_STRINGS" "Z" (.int 1) (fun q => base ≤ q) U U.heap ∧ (∀ r ∈ rs, vk_R r.1 r.2.1 r.2.2.1 (ext (2 * r.2.2.2)) U) ∧ ext (2 * strs.1.length) < base ∧ va_X (ext (2 * strs.1.length)) strs.2.length (fun j => strs.2.getD j 0) U U.heap
theorem z_lk_far {strs : z_Ss} {P : z_H} {a : Nat} {q : z_C} (h : z_lk strs P a = some q) : P[a]? = some q ∨ (∃ i b, strs.1[i]? = some b ∧ ((a = z_far + 2 * i ∧ q = (98, [.ref (z_far + (2 * i + 1)), .int 0])) ∨ (a = z_far + (2 * i + 1) ∧ q = (101, b.map Value.int)))) ∨ (a = z_far + 2 * strs.1.length ∧ q = (103, strs.2.map Value.int)) := by
  unfold z_lk at h
  split at h
  · exact Or.inl h
  · rename_i h0
    unfold z_fc at h
    split at h
    · rename_i b hb
      refine Or.inr (Or.inl ⟨(a - z_far) / 2, b, hb, ?_⟩)
      split at h
      · rename_i h1
        cases h
        refine Or.inl ⟨by omega, ?_⟩
        have : z_far + (a - z_far) + 1 = z_far + (2 * ((a - z_far) / 2) + 1) := by omega
        rw [this]
      · cases h
        exact Or.inr ⟨by omega, rfl⟩
    · split at h
      · rename_i h1
        cases h
        exact Or.inr (Or.inr ⟨by omega, rfl⟩)
      · cases h
theorem z_lk_near {strs : z_Ss} {P : z_H} {a : Nat} {q : z_C} (h : z_lk strs P a = some q) (h1 : q.1 ≠ 98) (h2 : q.1 ≠ 101) (h3 : q.1 ≠ 103) : P[a]? = some q := by
  rcases z_lk_far h with h | ⟨i, b, -, ⟨-, rfl⟩ | ⟨-, rfl⟩⟩ | ⟨-, rfl⟩
  · exact h
  · exact absurd rfl h1
  · exact absurd rfl h2
  · exact absurd rfl h3
theorem z_cv_far {ext : Nat → Nat} {base j : Nat} : z_cv ext base (.ref (z_far + j)) = .ref (ext j) := by
  show Value.ref (if z_far + j < z_far then base + (z_far + j) else ext (z_far + j - z_far)) = _
  rw [if_neg (by omega), show z_far + j - z_far = j by omega]
set_option maxHeartbeats 4000000 in
theorem z_sim_rd {D : va_G} {cl : List vw_C} {ta : Nat → ClassId} {aty : List FieldType} {ext : Nat → Nat} {base : Nat} {Ts : List Cond} {own : String} {P : z_H} {fld : Nat → Option (Nat × Nat)}
    {cc : ByteArray} (hx : p.tables.exec = Jvm.exec) (hb : c.code = cc) (hts : ∀ w ∈ Ts, w.before args s = true) (hown : s.vm.findClass own = some m.cls) (hK : z_K D cl ta aty s) (hA : z_aty aty) (hC : z_CL cl Ts) (hR : z_R D cl ta ext base P H) {strs : z_Ss} {rs : List (String × Nat × String × Nat)} (hX : z_X strs ext base rs s) (hS : va_S (fun q => base ≤ q) s.heap H locs)
    {ins : Instr} {len pc : Nat} {ls : Array Slot} {st st' : List Value} (hfl : ∀ n ci k r, ins = .getfield n → fld n = some (ci, k) → cl[ci]? = some r → k < r.2.2 ∧ z_fl s args own n (r.2.1 k)) (hfs : ∀ n k, ins = .getfield n → fld n = some (98, k) → (k = 0 ∧ (Cond.fieldLink own n "java/lang/String" "value" "[B").before args s = true) ∨ (k = 1 ∧ (Cond.fieldLink own n "java/lang/String" "coder" "B").before args s = true)) (hd : decode cc pc = .ok (ins, len)) (hlen : len = z_len ins) (h : z_rd fld aty.length (z_lk strs P) ins st = some st')
    (k : W p l e R s m args below meth c H locs cells slots Q (F0 m (pc + len) ls (st'.map (z_cv ext base)))) : W p l e R s m args below meth c H locs cells slots Q (F0 m pc ls (st.map (z_cv ext base))) := by
  subst hlen
  obtain ⟨a0, a1, a2, a3, a4, a5⟩ := hA
  have rd : ∀ (t : Nat) (ty : FieldType) (kd : Value → Bool), aty[t]? = some ty → t ≠ 1 → t ≠ 3 → z_al (100 + t) kd (z_lk strs P) st = some st' →
      ∃ (i : Int32) (a : Nat) (r : List Value) (v : Value) (cell : Cell), st.map (z_cv ext base) = .int i :: .ref (base + a) :: r.map (z_cv ext base) ∧ H[base + a]? = some cell ∧ s.isArrayOf cell ty ∧ cell.vm ≠ .unknown ∧ ¬ (i < 0 ∨ cell.slots.size ≤ i.toNatClampNeg) ∧ cell.slots[i.toNatClampNeg]? = some (z_cv ext base v) ∧ st' = v :: r := by
    intro t ty kd hty ht1 ht3 hz
    obtain ⟨i, a, r, vs, v, rfl, hP, h0, hv, -, rfl⟩ := z_al_spec hz
    have hP := z_lk_near hP (by show 100 + t ≠ 98; omega) (by show 100 + t ≠ 101; omega) (by show 100 + t ≠ 103; omega)
    have hq := (hR.at hP).2 (by show 100 ≤ 100 + t; omega)
    have hlt : i.toNatClampNeg < vs.length := (List.getElem?_eq_some_iff.mp hv).1
    have ht : 100 + t - 100 = t := by omega
    refine ⟨i, a, r, v, _, by rw [List.map_cons, List.map_cons, hR.near hP]; rfl, hq, ?_, (fun q => by cases q), ?_, z_arr_read hv, rfl⟩
    · show s.isArrayOf (arrV (ta (100 + t - 100)) _ _) ty
      rw [ht]
      exact (hK.2 t ty hty).1 _ _
    · rw [arrV_size]
      exact z_in h0 hlt
  cases ins
  case getfield n =>
    obtain ⟨a, r, ci, f, vs, v, rfl, hf, hP, hci, hv, rfl⟩ := z_gf_spec h
    rcases z_lk_far hP with hP | ⟨i, b, hb2, ⟨rfl, hq⟩ | ⟨rfl, hq⟩⟩ | ⟨-, hq⟩
    rotate_left
    · cases hq
      have hi : i < strs.1.length := (List.getElem?_eq_some_iff.mp hb2).1
      obtain ⟨-, x2, x3, -⟩ := hX.1.1 i hi
      rw [List.map_cons, z_cv_far]
      rcases hfs n f rfl hf with ⟨rfl, hlk⟩ | ⟨rfl, hlk⟩
      · cases hv
        rw [List.map_cons, z_cv_far] at k
        exact va_getX hx hb (o := "java/lang/String") (n := "value") (d := "[B") (N := 1) (v := fun _ => .ref (ext (2 * i + 1))) (ad := fun _ => ext (2 * i)) (i := 0) (fun _ _ => x3) (by decide) hS hown hlk (fun _ q => q) hd k
      · cases hv
        exact va_getX hx hb (o := "java/lang/String") (n := "coder") (d := "B") (N := 1) (v := fun _ => .int 0) (ad := fun _ => ext (2 * i)) (i := 0) (fun _ _ => x2) (by decide) hS hown hlk (fun _ q => q) hd k
    · cases hq
      omega
    · cases hq
      omega
    obtain ⟨⟨C, T, N⟩, hr, hN, hO⟩ := (hR.at hP).1 hci
    obtain ⟨hkN, hlk⟩ := hfl n ci f _ rfl hf hr
    have hW : va_P D cl [(base + a, .inr (ci, vs.map (z_cv ext base)))] H := fun j q hj => by
      match j, hj with
      | 0, hj => cases hj; exact ⟨_, hr, hO⟩
      | j + 1, hj => simp at hj
    have hv' : (vs.map (z_cv ext base))[f]? = some (z_cv ext base v) := by simp [hv]
    rw [List.map_cons, hR.near hP]
    rcases hlk with hlk | ⟨host, hlk⟩
    · exact va_get hx hb hts (hC ci _ hr).1 hown hK.va hW 0 rfl hr f hkN hlk (fun _ q => q) hv' hd k
    · exact va_getN hx hb hts (hC ci _ hr).1 hown hK.va hW 0 rfl hr f hkN hlk (fun _ q => q) hv' hd k
  case iaload =>
    obtain ⟨i, a, r, vs, v, rfl, hP, h0, hv, -, rfl⟩ := z_al_spec h
    rcases z_lk_far hP with hP | ⟨j, b, hb2, ⟨rfl, hq⟩ | ⟨rfl, hq⟩⟩ | ⟨rfl, hq⟩
    · have hq := (hR.at hP).2 (by show 100 ≤ 103; omega)
      have hlt : i.toNatClampNeg < vs.length := (List.getElem?_eq_some_iff.mp hv).1
      rw [List.map_cons, List.map_cons, hR.near hP]
      exact W.iald hx hb hq ((hK.2 3 _ a3).1 _ _) (fun q => by cases q) (by rw [arrV_size]; exact z_in h0 hlt) (z_arr_read hv) rfl rfl hd k
    · cases hq
    · cases hq
    · cases hq
      obtain ⟨-, -, -, x5, x6⟩ := hX
      have hlt : i.toNatClampNeg < strs.2.length := by have := (List.getElem?_eq_some_iff.mp hv).1; simpa using this
      have hbl : ext (2 * strs.1.length) < s.heap.size := by
        obtain ⟨scr, y1, -⟩ := x6
        exact (Array.getElem?_eq_some_iff.mp y1).1
      rw [List.map_cons, List.map_cons, z_cv_far]
      refine va_sld hx hb x6 hbl (fun q => absurd x5 (Nat.not_lt.mpr q)) hS (z_in h0 hlt) hd ?_
      rw [List.getElem?_map] at hv
      cases hb3 : strs.2[i.toNatClampNeg]? with
      | none => rw [hb3] at hv; cases hv
      | some w =>
        rw [hb3] at hv
        cases hv
        have e9 : strs.2.getD i.toNatClampNeg 0 = w := by simp [hb3]
        rw [e9]
        exact k
  case caload =>
    obtain ⟨i, a, r, v, cell, e1, e2, e3, e4, e5, e6, rfl⟩ := rd 2 _ _ a2 (by decide) (by decide) h
    rw [e1]
    exact W.cald hx hb e2 e3 e4 e5 e6 rfl rfl hd k
  case laload =>
    obtain ⟨i, a, r, v, cell, e1, e2, e3, e4, e5, e6, rfl⟩ := rd 4 _ _ a4 (by decide) (by decide) h
    rw [e1]
    exact W.lald hx hb e2 e3 e4 e5 e6 rfl rfl hd k
  case baload =>
    have h : (z_al 101 z_isI (z_lk strs P) st).or (z_al 100 z_isI (z_lk strs P) st) = some st' := h
    cases h1 : z_al 101 z_isI (z_lk strs P) st with
    | some w =>
      rw [h1] at h
      cases h
      obtain ⟨i, a, r, vs, v, rfl, hP, h0, hv, -, rfl⟩ := z_al_spec h1
      rcases z_lk_far hP with hP | ⟨j, b, hb2, ⟨rfl, hq⟩ | ⟨rfl, hq⟩⟩ | ⟨-, hq⟩
      rotate_left 3
      · cases hq
      · have hq := (hR.at hP).2 (by show 100 ≤ 101; omega)
        have hlt : i.toNatClampNeg < vs.length := (List.getElem?_eq_some_iff.mp hv).1
        rw [List.map_cons, List.map_cons, hR.near hP]
        exact W.bald hx hb hq ((hK.2 1 _ a1).1 _ _) (fun q => by cases q) (by rw [arrV_size]; exact z_in h0 hlt) (z_arr_read hv) rfl rfl hd k
      · cases hq
      · cases hq
        have hj : j < strs.1.length := (List.getElem?_eq_some_iff.mp hb2).1
        obtain ⟨-, -, -, x4⟩ := hX.1.1 j hj
        have hlt : i.toNatClampNeg < b.length := by have := (List.getElem?_eq_some_iff.mp hv).1; simpa using this
        have e1 : (strs.1.map List.length).getD j 0 = b.length := by simp [hb2]
        have e2 : strs.1.getD j [] = b := by simp [hb2]
        rw [e1, e2] at x4
        rw [List.map_cons, List.map_cons, z_cv_far]
        refine va_tb hx hb x4 hS (z_in h0 hlt) (v := z_cv ext base v) ?_ hd k
        rw [List.getElem?_map] at hv
        cases hb3 : b[i.toNatClampNeg]? with
        | none => rw [hb3] at hv; cases hv
        | some w =>
          rw [hb3] at hv
          cases hv
          simp [hb3, z_cv]
    | none =>
      rw [h1] at h
      obtain ⟨i, a, r, v, cell, e1, e2, e3, e4, e5, e6, rfl⟩ := rd 0 _ _ a0 (by decide) (by decide) h
      rw [e1]
      exact W.zald hx hb e2 e3 e4 e5 e6 rfl rfl hd k
  case aaload =>
    obtain ⟨i, a, r, t, vs, v, rfl, hP, h5, hlt, h0, hv, -, rfl⟩ := z_alq_spec h
    have hP := z_lk_near hP (by show t ≠ 98; omega) (by show t ≠ 101; omega) (by show t ≠ 103; omega)
    have hq := (hR.at hP).2 (by show 100 ≤ t; omega)
    have hil : i.toNatClampNeg < vs.length := (List.getElem?_eq_some_iff.mp hv).1
    obtain ⟨ty, hty⟩ : ∃ ty, aty[t - 100]? = some ty := ⟨_, List.getElem?_eq_getElem (by omega)⟩
    rw [List.map_cons, List.map_cons, hR.near hP]
    exact W.aald hx hb hq ((hK.2 _ ty hty).1 _ _) (a5 _ _ (by omega) hty) (fun q => by cases q) (by rw [arrV_size]; exact z_in h0 hil) (z_arr_read hv) rfl rfl hd k
  case arraylength =>
    obtain ⟨a, r, t, vs, rfl, hP, h5, hlt, rfl⟩ := z_alen_spec h
    rcases z_lk_far hP with hP | ⟨j, b, hb2, ⟨rfl, hq⟩ | ⟨rfl, hq⟩⟩ | ⟨rfl, hq⟩
    rotate_left
    · cases hq
      omega
    rotate_left
    · cases hq
      obtain ⟨-, -, -, x5, x6⟩ := hX
      have hbl : ext (2 * strs.1.length) < s.heap.size := by
        obtain ⟨scr, y1, -⟩ := x6
        exact (Array.getElem?_eq_some_iff.mp y1).1
      rw [List.map_cons, z_cv_far]
      refine va_slen hx hb x6 hbl (fun q => absurd x5 (Nat.not_lt.mpr q)) hS hd ?_
      rw [List.map_cons, List.length_map] at k
      exact k
    rotate_left
    · cases hq
      have hj : j < strs.1.length := (List.getElem?_eq_some_iff.mp hb2).1
      obtain ⟨-, -, -, x4⟩ := hX.1.1 j hj
      have e1 : (strs.1.map List.length).getD j 0 = b.length := by simp [hb2]
      rw [e1] at x4
      rw [List.map_cons, z_cv_far]
      exact va_tlen hx hb x4 hS (by simp) hd k
    have hq := (hR.at hP).2 (by show 100 ≤ t; omega)
    obtain ⟨ty, hty⟩ : ∃ ty, aty[t - 100]? = some ty := ⟨_, List.getElem?_eq_getElem (by omega)⟩
    rw [List.map_cons, hR.near hP]
    exact W.alen hx hb hq ((hK.2 _ ty hty).1 _ _) (n := Int32.ofNat vs.length) (by rw [arrV_size]) rfl rfl hd k
  all_goals (cases h)
end ZSIMR
end
section
section ZSIMW
variable {p : Program} {l : Launch} {e : Env} {R : Room} {s : State} {m : MethodId} {args : Array Value} {below : List Frame} {meth : Method} {c : Code} {H : Heap} {locs : List Loc} {cells slots : Nat} {Q : State → Prop}
theorem z_as_spec {t : Nat} {nf : Int32 → Int32} {P P' : z_H} {st st' : List Value} (h : z_as t nf P st = some (st', P')) : ∃ (x i : Int32) (a : Nat) (vs : List Value), st = .int x :: .int i :: .ref a :: st' ∧ P[a]? = some (t, vs) ∧ 0 ≤ i.toInt ∧ i.toNatClampNeg < vs.length ∧ P' = P.set a (t, vs.set i.toNatClampNeg (.int (nf x))) := by
  unfold z_as at h
  split at h
  · rename_i x i a r
    split at h
    · rename_i q hq
      split at h
      · rename_i h1
        cases h
        exact ⟨x, i, a, q.2, rfl, by rw [hq, ← h1.1], h1.2.1, h1.2.2, rfl⟩
      · cases h
    · cases h
  · cases h
theorem z_las_spec {P P' : z_H} {st st' : List Value} (h : z_las P st = some (st', P')) : ∃ (x : Int64) (i : Int32) (a : Nat) (vs : List Value), st = .long x :: .int i :: .ref a :: st' ∧ P[a]? = some (104, vs) ∧ 0 ≤ i.toInt ∧ i.toNatClampNeg < vs.length ∧ P' = P.set a (104, vs.set i.toNatClampNeg (.long x)) := by
  unfold z_las at h
  split at h
  · rename_i x i a r
    split at h
    · rename_i q hq
      split at h
      · rename_i h1
        cases h
        exact ⟨x, i, a, q.2, rfl, by rw [hq, ← h1.1], h1.2.1, h1.2.2, rfl⟩
      · cases h
    · cases h
  · cases h
theorem z_aas_spec {ac : Nat → Option Nat} {P P' : z_H} {st st' : List Value} (h : z_aas ac P st = some (st', P')) : ∃ (v : Nat) (i : Int32) (a t ci : Nat) (vs ws : List Value), st = .ref v :: .int i :: .ref a :: st' ∧ P[a]? = some (t, vs) ∧ P[v]? = some (ci, ws) ∧ 105 ≤ t ∧ ci < 99 ∧ ac (t - 100) = some ci ∧ 0 ≤ i.toInt ∧ i.toNatClampNeg < vs.length ∧ P' = P.set a (t, vs.set i.toNatClampNeg (.ref v)) := by
  unfold z_aas at h
  split at h
  · rename_i v i a r
    split at h
    · rename_i q hq
      split at h
      · rename_i w hw
        split at h
        · rename_i h1
          cases h
          exact ⟨v, i, a, q.1, w.1, q.2, w.2, rfl, hq, hw, h1.1, h1.2.1, h1.2.2.1, h1.2.2.2.1, h1.2.2.2.2, rfl⟩
        · cases h
      · cases h
    · cases h
  · cases h
theorem z_pf_spec {fk : Option (Nat × Nat)} {fty : Nat → Nat → FieldType} {fin : Nat → Nat → Bool} {ini : Option Nat} {P P' : z_H} {st st' : List Value} (h : z_pf fk fty fin ini P st = some (st', P')) :
    ∃ (v : Value) (a ci f : Nat) (vs : List Value), st = v :: .ref a :: st' ∧ fk = some (ci, f) ∧ P[a]? = some (ci, vs) ∧ ci < 99 ∧ f < vs.length ∧ fits (fty ci f) v = true ∧ narrow (fty ci f) v = v ∧ (fin ci f = false ∨ ini = some ci) ∧ P' = P.set a (ci, vs.set f v) := by
  unfold z_pf at h
  split at h
  · rename_i v a r
    split at h
    · rename_i f
      split at h
      · rename_i q hq
        split at h
        · rename_i h1
          cases h
          exact ⟨v, a, f.1, f.2, q.2, rfl, rfl, by rw [hq, ← h1.1], by rw [← h1.1]; exact h1.2.1, h1.2.2.1, h1.2.2.2.1, h1.2.2.2.2.1, h1.2.2.2.2.2, rfl⟩
        · cases h
      · cases h
    · cases h
  · cases h
theorem z_cv_fits {ext : Nat → Nat} {base : Nat} {ty : FieldType} {v : Value} (h : fits ty v = true) : fits ty (z_cv ext base v) = true := by
  cases v <;> first | exact h | (cases ty <;> first | exact h | rfl)
theorem z_cv_narrow {ext : Nat → Nat} {base : Nat} {ty : FieldType} {v : Value} (h : narrow ty v = v) : narrow ty (z_cv ext base v) = z_cv ext base v := by
  cases v <;> first | exact h | (cases ty <;> rfl)
/-- what the pool's tables say of the fields' types -/
def z_FT (cl : List vw_C) (fty : Nat → Nat → FieldType) (fin : Nat → Nat → Bool) : Prop := ∀ (ci : Nat) (r : vw_C) (k : Nat), cl[ci]? = some r → k < r.2.2 → parseFieldDescriptor (r.2.1 k).2.2.1 = some (fty ci k) ∧ fin ci k = (r.2.1 k).2.2.2
theorem z_arr_at {D : va_G} {cl : List vw_C} {ta : Nat → ClassId} {cv : Value → Value} {t j a : Nat} {vs : List Value} {v : Value} {H1 : Heap} (ht : 100 ≤ t) (hj : j < vs.length)
    (h : H1[a]? = some ((arrV (ta (t - 100)) vs.length (fun j => cv (vs.getD j .null))).setSlot j (cv v))) : z_at D cl ta cv (t, vs.set j v) a H1 := by
  refine ⟨fun n => absurd n (by show ¬ t < 99; omega), fun _ => ?_⟩
  rw [h]
  show _ = some (arrV (ta (t - 100)) (vs.set j v).length (fun i => cv ((vs.set j v).getD i .null)))
  rw [arrV_store, List.length_set]
  congr 2
  funext i
  by_cases hi : i = j
  · subst hi
    simp [updV, hj]
  · simp [updV, hi, List.getElem?_set, Ne.symm hi]
set_option maxHeartbeats 8000000 in
theorem z_sim_wr {D : va_G} {cl : List vw_C} {ta : Nat → ClassId} {aty : List FieldType} {ext : Nat → Nat} {base : Nat} {Ts : List Cond} {own : String} {P P' : z_H} {fld : Nat → Option (Nat × Nat)} {fty : Nat → Nat → FieldType} {fin : Nat → Nat → Bool} {ini : Option Nat} {ac : Nat → Option Nat} {A : Nat → Prop} {H0 : Heap}
    {cc : ByteArray} (hx : p.tables.exec = Jvm.exec) (hb : c.code = cc) (hts : ∀ w ∈ Ts, w.before args s = true) (hown : s.vm.findClass own = some m.cls) (hK : z_K D cl ta aty s) (hA : z_aty aty) (hC : z_CL cl Ts) (hF : z_FT cl fty fin) (hR : z_R D cl ta ext base P H) (hS : va_S A H0 H locs) (hAb : ∀ q, base ≤ q → A q)
    (hac : ∀ i ci, ac i = some ci → ∃ r, cl[ci]? = some r ∧ aty[i]? = some (.object r.1)) (hini : ∀ ci r k, ini = some ci → cl[ci]? = some r → k < r.2.2 → meth.name = "<init>" ∧ (r.2.1 k).1 = own)
    {ins : Instr} {len pc : Nat} {ls : Array Slot} {st st' : List Value} (hfl : ∀ n ci k r, ins = .putfield n → fld n = some (ci, k) → cl[ci]? = some r → k < r.2.2 ∧ z_fl s args own n (r.2.1 k) ∧ (fin ci k = true → ini = some ci → (Cond.fieldLink own n (r.2.1 k).1 (r.2.1 k).2.1 (r.2.1 k).2.2.1).before args s = true)) (hd : decode cc pc = .ok (ins, len)) (hlen : len = z_len ins) (h : z_wr fld fty fin ini ac P ins st = some (st', P'))
    (k : ∀ H1 locs1, z_R D cl ta ext base P' H1 → va_S A H0 H1 locs1 → W p l e R s m args below meth c H1 locs1 cells slots Q (F0 m (pc + len) ls (st'.map (z_cv ext base)))) : W p l e R s m args below meth c H locs cells slots Q (F0 m pc ls (st.map (z_cv ext base))) := by
  subst hlen
  obtain ⟨a0, a1, a2, a3, a4, a5⟩ := hA
  have wr : ∀ (t : Nat) (ty : FieldType) (nf : Int32 → Int32), aty[t]? = some ty → z_as (100 + t) nf P st = some (st', P') →
      ∃ (x i : Int32) (a : Nat) (cell : Cell), st.map (z_cv ext base) = .int x :: .int i :: .ref (base + a) :: st'.map (z_cv ext base) ∧ H[base + a]? = some cell ∧ s.isArrayOf cell ty ∧ cell.vm ≠ .unknown ∧ ¬ (i < 0 ∨ cell.slots.size ≤ i.toNatClampNeg) ∧
        ∀ H1 : Heap, H1[base + a]? = some (cell.setSlot i.toNatClampNeg (.int (nf x))) → H1.size = H.size → (∀ q, q ≠ base + a → H1[q]? = H[q]?) → z_R D cl ta ext base P' H1 ∧ va_S A H0 H1 (locs ++ [⟨base + a, i.toNatClampNeg⟩]) := by
    intro t ty nf hty hz
    obtain ⟨x, i, a, vs, rfl, hP, h0, hlt, rfl⟩ := z_as_spec hz
    have hq := (hR.at hP).2 (by show 100 ≤ 100 + t; omega)
    have ht : 100 + t - 100 = t := by omega
    refine ⟨x, i, a, _, by rw [List.map_cons, List.map_cons, List.map_cons, hR.near hP]; rfl, hq, ?_, (fun q => by cases q), ?_, fun H1 e1 e2 e3 => ⟨hR.set e2 e3 (z_arr_at (v := .int (nf x)) (by omega) hlt e1), hS.put e2 e3 (hAb _ (Nat.le_add_right _ _))⟩⟩
    · show s.isArrayOf (arrV (ta (100 + t - 100)) _ _) ty
      rw [ht]
      exact (hK.2 t ty hty).1 _ _
    · rw [arrV_size]
      exact z_in h0 hlt
  cases ins
  case putfield n =>
    obtain ⟨v, a, ci, f, vs, rfl, hf, hP, hci, hlf, hfit, hnar, hfin, rfl⟩ := z_pf_spec h
    obtain ⟨⟨C, T, N⟩, hr, hN, cell, g1, g2, g3, g4⟩ := (hR.at hP).1 hci
    obtain ⟨hkN, hlk, hlkF⟩ := hfl n ci f _ rfl hf hr
    obtain ⟨hin, ⟨ty, hty⟩, hnm⟩ := hC ci _ hr
    obtain ⟨hft, hff⟩ := hF ci _ f hr hkN
    have hap := va_apart (own := own) hts hin ty hty hnm hK.va hr
    obtain ⟨hSl, hfc, kC, hkC, hkind⟩ := hK.1 ci _ hr
    obtain ⟨cf, kf, fi, fd, hi, hsl⟩ := hSl f hkN
    have hlay := hts _ (hin _ (u_in_lay hkN))
    have hst := (u_facts hfc hkC (u_lays hts hin hkN) hi).1
    have hlen2 : (vs.map (z_cv ext base)).length = vs.length := List.length_map _
    have key : ∀ H1 : Heap, H1[base + a]? = some (cell.setSlot fd.slot (z_cv ext base v)) → H1.size = H.size → (∀ q, q ≠ base + a → H1[q]? = H[q]?) → z_R D cl ta ext base (P.set a (ci, vs.set f v)) H1 ∧ va_S A H0 H1 (locs ++ [⟨base + a, fd.slot⟩]) := by
      intro H1 e1 e2 e3
      refine ⟨hR.set e2 e3 ⟨fun _ => ⟨_, hr, by rw [List.length_set]; exact hN, ?_⟩, fun n => absurd n (by show ¬ 100 ≤ ci; omega)⟩, hS.put e2 e3 (hAb _ (Nat.le_add_right _ _))⟩
      show t_OB (base + a) (D.1 ci) N (D.2 ci) H1 (vp_V ((vs.set f v).map (z_cv ext base)))
      rw [List.map_set]
      rw [hsl] at e1
      exact t_OB.to (V := updV (vp_V (vs.map (z_cv ext base))) f (z_cv ext base v)) ⟨_, e1, g2, g3, t_set g4 hap hkN _⟩ (fun j _ => vp_updV_set (by rw [hlen2]; exact hlf) _ j)
    rw [List.map_cons, List.map_cons, hR.near hP]
    unfold u_lay at hlay
    by_cases hfb : (T f).2.2.2 = true
    · rw [if_pos hfb] at hlay
      have hini' : ini = some ci := by
        rcases hfin with q | q
        · rw [hff] at q
          rw [show (T f).2.2.2 = false from q] at hfb
          cases hfb
        · exact q
      obtain ⟨hin2, hdecl⟩ := hini ci _ f hini' hr hkN
      have hlk2 := hlkF (by rw [hff]; exact hfb) hini'
      have hcf : m.cls = cf := by
        obtain ⟨_, _, c', _, _, _, -, -, hf', -, -, -, hown2, -⟩ := Cond.laysFinal_spec hlay
        have e1 : c' = cf := by have := hi.symm.trans hf'; simp at this; exact this.1.symm
        rw [hdecl] at hown2
        rw [← e1]; exact Option.some.inj (hown.symm.trans hown2)
      have h6 := u_fits hfc hkC hkind (Or.inr hlay) hi hft (z_cv_narrow (ext := ext) (base := base) hnar) (z_cv_fits hfit)
      refine W.putFinK hx hb hown hlk2 hi hst hcf hin2 (by rw [g2]; exact h6) g1 g3 (by rw [hsl]; exact k2_hasslot (g4 f hkN)) rfl rfl hd fun H1 e1 e2 e3 => ?_
      obtain ⟨r1, r2⟩ := key H1 e1 e2 e3
      exact k _ _ r1 r2
    · rw [if_neg hfb] at hlay
      have h6 := u_store hfc hkC hkind hlay hi hft (z_cv_narrow (ext := ext) (base := base) hnar) (z_cv_fits hfit)
      rcases hlk with hlk | ⟨host, hlk⟩
      · refine W.putK hx hb (f := fd) ⟨hown, hlk, ⟨_, _, _, hi⟩, hst⟩ (by rw [g2]; exact h6) g1 g3 (by rw [hsl]; exact k2_hasslot (g4 f hkN)) rfl rfl hd fun H1 e1 e2 e3 => ?_
        obtain ⟨r1, r2⟩ := key H1 e1 e2 e3
        exact k _ _ r1 r2
      · refine va_WputK hx hb (f := fd) hown hlk hi hst (by rw [g2]; exact h6) g1 g3 (by rw [hsl]; exact k2_hasslot (g4 f hkN)) rfl rfl hd fun H1 e1 e2 e3 => ?_
        obtain ⟨r1, r2⟩ := key H1 e1 e2 e3
        exact k _ _ r1 r2
  case iastore =>
    obtain ⟨x, i, a, cell, e1, e2, e3, e4, e5, kk⟩ := wr 3 _ _ a3 h
    rw [e1]
    exact W.iast hx hb e2 e3 e4 e5 rfl rfl hd fun H1 f1 f2 f3 => k _ _ (kk H1 f1 f2 f3).1 (kk H1 f1 f2 f3).2
  case castore =>
    obtain ⟨x, i, a, cell, e1, e2, e3, e4, e5, kk⟩ := wr 2 _ _ a2 h
    rw [e1]
    exact W.cast hx hb e2 e3 e4 e5 rfl rfl hd fun H1 f1 f2 f3 => k _ _ (kk H1 f1 f2 f3).1 (kk H1 f1 f2 f3).2
  case bastore =>
    have h : (z_as 101 (fun x => x.toInt8.toInt32) P st).or (z_as 100 (fun x => x &&& 1) P st) = some (st', P') := h
    cases h1 : z_as 101 (fun x => x.toInt8.toInt32) P st with
    | some w =>
      rw [h1] at h
      cases h
      obtain ⟨x, i, a, cell, e1, e2, e3, e4, e5, kk⟩ := wr 1 _ _ a1 h1
      rw [e1]
      exact W.bast hx hb e2 e3 e4 e5 rfl rfl hd fun H1 f1 f2 f3 => k _ _ (kk H1 f1 f2 f3).1 (kk H1 f1 f2 f3).2
    | none =>
      rw [h1] at h
      obtain ⟨x, i, a, cell, e1, e2, e3, e4, e5, kk⟩ := wr 0 _ _ a0 h
      rw [e1]
      exact W.zast hx hb e2 e3 e4 e5 rfl rfl hd fun H1 f1 f2 f3 => k _ _ (kk H1 f1 f2 f3).1 (kk H1 f1 f2 f3).2
  case lastore =>
    obtain ⟨x, i, a, vs, rfl, hP, h0, hlt, rfl⟩ := z_las_spec h
    have hq := (hR.at hP).2 (by show 100 ≤ 104; omega)
    rw [List.map_cons, List.map_cons, List.map_cons, hR.near hP]
    exact W.last hx hb hq ((hK.2 4 _ a4).1 _ _) (fun q => by cases q) (by rw [arrV_size]; exact z_in h0 hlt) rfl rfl hd fun H1 f1 f2 f3 => k _ _ (hR.set f2 f3 (z_arr_at (v := .long x) (by omega) hlt f1)) (hS.put f2 f3 (hAb _ (Nat.le_add_right _ _)))
  case aastore =>
    obtain ⟨v, i, a, t, ci, vs, ws, rfl, hP, hPv, h5, hci, hacc, h0, hlt, rfl⟩ := z_aas_spec h
    have hq := (hR.at hP).2 (by show 100 ≤ t; omega)
    obtain ⟨r, hr, hty⟩ := hac _ _ hacc
    obtain ⟨r', hr', -, cellV, g1, g2, g3, -⟩ := (hR.at hPv).1 hci
    have hcls := (hK.1 ci r hr).2
    obtain ⟨kA, comp, k1, k2, k3, -⟩ := (hK.2 _ _ hty).2
    have hcomp : comp = D.1 ci := Option.some.inj (k3.symm.trans hcls.1)
    subst hcomp
    obtain ⟨kC, hkC, -⟩ := hcls.2
    rw [List.map_cons, List.map_cons, List.map_cons, hR.near hP, hR.near hPv]
    refine W.aast hx hb hq (fun q h => by cases h) (fun h => by cases h) k1 k2 rfl hkC ⟨fun q => z_in h0 hlt (Or.inl q), by rw [arrV_size]; exact hlt⟩ g1 (fun q h => by rw [g3] at h; cases h) (by rw [g2]; exact hkC) (by rw [g2]; exact va_assign hcls) rfl rfl hd fun H1 f1 f2 f3 => ?_
    exact k _ _ (hR.set f2 f3 (z_arr_at (v := .ref v) (by omega) hlt (by rw [hR.near hPv]; exact f1))) (hS.put f2 f3 (hAb _ (Nat.le_add_right _ _)))
  all_goals (cases h)
end ZSIMW
end
section
section ZSIMM
variable {p : Program} {l : Launch} {e : Env} {R : Room} {s : State} {m : MethodId} {args : Array Value} {below : List Frame} {meth : Method} {c : Code} {H : Heap} {locs : List Loc} {cells slots : Nat} {Q : State → Prop}
theorem z_mka_spec {o : Option Nat} {dv : Nat → Value} {P P' : z_H} {st st' : List Value} {dc ds : Nat} (h : z_mka o dv P st = some (st', P', dc, ds)) : ∃ (n : Int32) (r : List Value) (t : Nat), st = .int n :: r ∧ o = some t ∧ 0 ≤ n.toInt ∧ n.toNatClampNeg ≤ 10000 ∧ P.length < z_far ∧ st' = .ref P.length :: r ∧ P' = P ++ [(100 + t, List.replicate n.toNatClampNeg (dv t))] ∧ dc = 1 ∧ ds = n.toNatClampNeg := by
  unfold z_mka at h
  split at h
  · rename_i n r
    split at h
    · rename_i t
      split at h
      · rename_i h1
        cases h
        exact ⟨n, r, t, rfl, rfl, h1.1, h1.2.1, h1.2.2, rfl, rfl, rfl, rfl⟩
      · cases h
    · cases h
  · cases h
theorem z_mkm_spec {o : Option (Nat × Nat)} {P P' : z_H} {st st' : List Value} {dc ds : Nat} (h : z_mkm o P st = some (st', P', dc, ds)) : ∃ (k n : Int32) (r : List Value) (to ti : Nat), st = .int k :: .int n :: r ∧ o = some (to, ti) ∧ 0 ≤ n.toInt ∧ 0 ≤ k.toInt ∧ n.toNatClampNeg ≤ 10000 ∧ k.toNatClampNeg ≤ 10000 ∧ P.length + 1 + n.toNatClampNeg ≤ z_far ∧ st' = .ref P.length :: r ∧
    P' = P ++ (100 + to, (List.range n.toNatClampNeg).map (fun j => .ref (P.length + 1 + j))) :: List.replicate n.toNatClampNeg (100 + ti, List.replicate k.toNatClampNeg (z_dv ti)) ∧ dc = 1 + n.toNatClampNeg ∧ ds = n.toNatClampNeg + n.toNatClampNeg * k.toNatClampNeg := by
  unfold z_mkm at h
  split at h
  · rename_i k n r
    split at h
    · rename_i t
      split at h
      · rename_i h1
        cases h
        exact ⟨k, n, r, t.1, t.2, rfl, rfl, h1.1, h1.2.1, h1.2.2.1, h1.2.2.2.1, h1.2.2.2.2, rfl, rfl, rfl, rfl⟩
      · cases h
    · cases h
  · cases h
theorem z_outer (c : ClassId) (N h0 : Nat) : ∀ i : Nat, Jvm.Free.Multi.outerC c N h0 i = arrV c N (fun j => va_rf (if j < i then some (h0 + 1 + j) else none))
  | 0 => by
    show ({ cls := c, slots := Array.replicate N .null, vm := .none } : Cell) = _
    rw [arrV_new]
    exact congrArg (arrV c N) (funext fun j => by simp [va_rf])
  | i + 1 => by
    show (Jvm.Free.Multi.outerC c N h0 i).setSlot i (.ref (h0 + 1 + i)) = _
    rw [z_outer c N h0 i, arrV_store]
    refine congrArg (arrV c N) (funext fun j => ?_)
    by_cases e : j = i
    · subst e
      simp [updV, va_rf]
    · by_cases h : j < i
      · simp [updV, e, h, Nat.lt_succ_of_lt h]
      · simp [updV, e, h, show ¬ j < i + 1 by omega]
theorem z_not_neg {n : Int32} (h : 0 ≤ n.toInt) : ¬ n < 0 := fun q => z_in (n := n.toNatClampNeg + 1) h (Nat.lt_succ_self _) (Or.inl q)
theorem z_cv_dflt {ext : Nat → Nat} {base : Nat} (t : FieldType) : z_cv ext base (defaultValue t) = defaultValue t := by cases t <;> rfl
theorem z_newarr_at {D : va_G} {cl : List vw_C} {ta : Nat → ClassId} {ext : Nat → Nat} {base t n a : Nat} {v : Value} {H1 : Heap} (hv : z_cv ext base v = v) (hn : z_cv ext base .null = .null) (h : H1[a]? = some (arrV (ta t) n (fun _ => v))) : z_at D cl ta (z_cv ext base) (100 + t, List.replicate n v) a H1 := by
  refine ⟨fun q => absurd q (by show ¬ 100 + t < 99; omega), fun _ => ?_⟩
  show H1[a]? = some (arrV (ta (100 + t - 100)) (List.replicate n v).length _)
  rw [h, List.length_replicate, show 100 + t - 100 = t by omega]
  unfold arrV
  congr 2
  apply Array.ext
  · simp
  · intro i h1 h2
    have hi : i < n := by simpa using h1
    simp [hi, hv]
theorem z_S_push {A : Nat → Prop} {H0 H H1 : Heap} {locs : List Loc} {d : Nat} (h : va_S A H0 H locs) (z : H1.size = H.size + d) (o : ∀ q : Nat, q < H.size → H1[q]? = H[q]?) : va_S A H0 H1 locs :=
  ⟨Nat.le_trans h.1 (by omega), fun x h1 h2 => (o x (Nat.lt_of_lt_of_le h1 h.1)).trans (h.2.1 x h1 h2), h.2.2⟩
theorem z_at_push {ta : Nat → ClassId} {D : va_G} {cl : List vw_C} {ext : Nat → Nat} {base : Nat} {P : z_H} {H H1 : Heap} {q' : List z_C} (h : z_R D cl ta ext base P H) (hn : P.length + q'.length ≤ z_far) (hs : H1.size = H.size + q'.length) (ho : ∀ a, a < H.size → H1[a]? = H[a]?) (h1 : ∀ (j : Nat) (q : z_C), q'[j]? = some q → z_at D cl ta (z_cv ext base) q (base + (P.length + j)) H1) : z_R D cl ta ext base (P ++ q') H1 := by
  refine ⟨by rw [hs, h.1, List.length_append]; omega, by rw [List.length_append]; exact hn, fun j q hj => ?_⟩
  rw [List.getElem?_append] at hj
  split at hj
  · rename_i e
    exact (h.at hj).kept (ho _ (by rw [h.1]; omega))
  · rename_i e
    have := h1 (j - P.length) q hj
    rwa [show P.length + (j - P.length) = j by omega] at this
set_option maxHeartbeats 8000000 in
theorem z_sim_mk {D : va_G} {cl : List vw_C} {ta : Nat → ClassId} {aty : List FieldType} {ext : Nat → Nat} {base : Nat} {Ts : List Cond} {own : String} {P P' : z_H} {cls : Nat → Option (Nat × List Value)} {aan : Nat → Option Nat} {mna : Nat → Option (Nat × Nat)} {fty : Nat → Nat → FieldType} {fin : Nat → Nat → Bool} {A : Nat → Prop} {H0 : Heap}
    {cc : ByteArray} (hx : p.tables.exec = Jvm.exec) (hb : c.code = cc) (hts : ∀ w ∈ Ts, w.before args s = true) (hown : s.vm.findClass own = some m.cls) (hK : z_K D cl ta aty s) (hA : z_aty aty) (hC : z_CL cl Ts) (hF : z_FT cl fty fin) (hR : z_R D cl ta ext base P H) (hS : va_S A H0 H locs)
    (harr : ∀ i t, i < 5 → aty[i]? = some t → (Cond.arrayClass t).before args s = true)
    {ins : Instr} {len pc dc ds : Nat} {ls : Array Slot} {st st' : List Value}
    (hcls : ∀ n ci dv, ins = .new n → cls n = some (ci, dv) → ∃ r : vw_C, cl[ci]? = some r ∧ dv.length = r.2.2 ∧ (∀ k, k < r.2.2 → dv[k]? = some (defaultValue (fty ci k))) ∧ (Cond.classLink own n r.1).before args s = true ∧ (Cond.instantiable r.1 r.2.2).before args s = true ∧ (Cond.initialized r.1).before args s = true)
    (haan : ∀ n i, ins = .anewarray n → aan n = some i → ∃ C, aty[i]? = some (.object C) ∧ (Cond.classLink own n C).before args s = true ∧ (Cond.arrayOver (.object C)).before args s = true)
    (hmna : ∀ n d io ii, ins = .multianewarray n d → mna n = some (io, ii) → ∃ t, aty[ii]? = some t ∧ ii < 5 ∧ aty[io]? = some (.array t) ∧ (Cond.classLink own n ("[" ++ (FieldType.array t).toString)).before args s = true ∧ (Cond.arrayOver (.array t)).before args s = true)
    (hd : decode cc pc = .ok (ins, len)) (hlen : len = z_len ins) (h : z_mk cls aan mna P ins st = some (st', P', dc, ds)) (hcells : cells + dc ≤ R.cells) (hslots : slots + ds ≤ R.slots)
    (k : ∀ H1, z_R D cl ta ext base P' H1 → va_S A H0 H1 locs → W p l e R s m args below meth c H1 locs (cells + dc) (slots + ds) Q (F0 m (pc + len) ls (st'.map (z_cv ext base)))) : W p l e R s m args below meth c H locs cells slots Q (F0 m pc ls (st.map (z_cv ext base))) := by
  subst hlen
  obtain ⟨a0, a1, a2, a3, a4, a5⟩ := hA
  cases ins
  case new n =>
    have h : (match cls n with | some q => if q.1 < 99 ∧ P.length < z_far then some (Value.ref P.length :: st, P ++ [q], 1, q.2.length) else none | none => none) = some (st', P', dc, ds) := h
    split at h
    · rename_i q hq
      split at h
      · rename_i h1
        obtain ⟨ci, dv⟩ := q
        cases h
        obtain ⟨⟨C, T, N⟩, hr, hN, hdv, w1, w2, w3⟩ := hcls n ci dv rfl hq
        obtain ⟨hin, -, -⟩ := hC ci _ hr
        have hKn := hK.1 ci _ hr
        have hN : dv.length = N := hN
        rw [hN] at hslots
        refine W.newcK hx hb hown w1 w2 w3 rfl hd hcells hslots hKn.2.1 rfl fun H1 kC hkC e1 z1 o1 => ?_
        have hborn := u_born (fty ci) hts hin hKn hkC e1 (fun k hk => (hF ci _ k hr hk).1)
        have hR1 : z_R D cl ta ext base (P ++ [(ci, dv)]) H1 := hR.push h1.2 z1 o1 ⟨fun _ => ⟨_, hr, hN, by
          rw [← hR.1]
          refine hborn.to fun j hj => ?_
          show _ = (dv.map (z_cv ext base)).getD j .null
          have := hdv j hj
          simp [this, z_cv_dflt]⟩, fun q => absurd q (by show ¬ 100 ≤ ci; have := h1.1; omega)⟩
        have := k H1 hR1 (z_S_push (d := 1) hS z1 o1)
        rw [hN] at this
        have e9 : z_cv ext base (.ref P.length) = .ref H.size := by rw [z_cv_near h1.2, hR.1]
        rw [List.map_cons, e9] at this
        exact this
      · cases h
    · cases h
  case newarray t =>
    obtain ⟨n, r, i, rfl, hi, h0, h1, h2, rfl, rfl, rfl, rfl⟩ := z_mka_spec h
    have key : ∀ ty : FieldType, newarray.typeOf t = ty → i < 5 → aty[i]? = some ty → defaultValue ty = z_dv i → componentBytes ty ≤ 8 → (∀ cA, va_RA s cA ty → s.vm.findClass ("[" ++ ty.toString) = some cA) → W p l e R s m args below meth c H locs cells slots Q (F0 m pc ls (.int n :: r.map (z_cv ext base))) := by
      intro ty hty hi5 ha hdvv hcb hfd
      refine va_newaK hx hb (atype := t) (by rw [hty]; exact harr i ty hi5 ha) rfl hd rfl (z_not_neg h0) rfl (by rw [hty]; exact Nat.le_trans (Nat.mul_le_mul h1 hcb) (by decide)) hcells hslots rfl fun H1 cA e1 z1 o1 hAr hNm => ?_
      rw [hty] at e1 hAr hNm
      have hcA : cA = ta i := Option.some.inj (hNm.symm.trans (hfd _ (hK.2 i ty ha).2))
      subst hcA
      rw [hdvv] at e1
      have e9 : z_cv ext base (.ref P.length) = .ref H.size := by rw [z_cv_near h2, hR.1]
      have := k H1 (hR.push h2 z1 o1 (z_newarr_at (by rw [← hdvv]; exact z_cv_dflt ty) rfl (by rw [← hR.1]; exact e1))) (z_S_push (d := 1) hS z1 o1)
      rw [List.map_cons, e9] at this
      exact this
    cases t <;> cases hi
    · exact key .boolean rfl (by decide) a0 rfl (by decide) (fun _ q => q)
    · exact key .char rfl (by decide) a2 rfl (by decide) (fun _ q => q)
    · exact key .byte rfl (by decide) a1 rfl (by decide) (fun _ q => q)
    · exact key .int rfl (by decide) a3 rfl (by decide) (fun _ q => q)
    · exact key .long rfl (by decide) a4 rfl (by decide) (fun _ q => q)
  case anewarray n =>
    obtain ⟨x, r, i, rfl, hi, h0, h1, h2, rfl, rfl, rfl, rfl⟩ := z_mka_spec h
    obtain ⟨C, ha, w1, w2⟩ := haan n i rfl hi
    refine W.anew hx hb hown w1 w2 rfl hd rfl (z_not_neg h0) (by omega) hcells hslots fun cA kA comp f1 f2 f3 f4 => ?_
    obtain ⟨_, _, -, -, -, hNm⟩ := (hK.2 i _ ha).2
    have hcA : cA = ta i := Option.some.inj (f1.symm.trans hNm)
    subst hcA
    have e9 : z_cv ext base (.ref P.length) = .ref H.size := by rw [z_cv_near h2, hR.1]
    have o1 : ∀ q, q < H.size → (H.push { cls := ta i, slots := Array.replicate x.toNatClampNeg .null, vm := .none })[q]? = H[q]? := fun q hq => by rw [Array.getElem?_push, if_neg (Nat.ne_of_lt hq)]
    have := k _ (hR.push h2 (by simp) o1 (z_newarr_at (v := .null) rfl rfl (by rw [← hR.1, ← arrV_new]; simp))) (z_S_push (d := 1) hS (by simp) o1)
    rw [List.map_cons, e9] at this
    exact this
  case multianewarray n d =>
    have h : (if d = 2 then z_mkm (mna n) P st else none) = some (st', P', dc, ds) := h
    split at h
    · rename_i hd2
      subst hd2
      obtain ⟨kk, nn, r, io, ii, rfl, ho, h0, h1, h2, h3, h4, rfl, rfl, rfl, rfl⟩ := z_mkm_spec h
      obtain ⟨t, ha, hi5, hao, w1, w2⟩ := hmna n 2 io ii rfl ho
      have prim : defaultValue t = z_dv ii ∧ fits t (defaultValue t) = true ∧ (defaultValue t).isDefault = true ∧ componentBytes t ≤ 8 ∧ s.vm.findClass (FieldType.array t).toString = some (ta ii) := by
        have hv := (hK.2 ii t ha).2
        have h5 : ii = 0 ∨ ii = 1 ∨ ii = 2 ∨ ii = 3 ∨ ii = 4 := by omega
        rcases h5 with rfl | rfl | rfl | rfl | rfl
        · cases a0.symm.trans ha; exact ⟨rfl, by decide, by decide, by decide, hv⟩
        · cases a1.symm.trans ha; exact ⟨rfl, by decide, by decide, by decide, hv⟩
        · cases a2.symm.trans ha; exact ⟨rfl, by decide, by decide, by decide, hv⟩
        · cases a3.symm.trans ha; exact ⟨rfl, by decide, by decide, by decide, hv⟩
        · cases a4.symm.trans ha; exact ⟨rfl, by decide, by decide, by decide, hv⟩
      obtain ⟨q1, q2, q3, q4, q5⟩ := prim
      have hvo : s.vm.findClass ("[" ++ (FieldType.array t).toString) = some (ta io) := (hK.2 io _ hao).2
      intro T hT Xs
      subst hb
      obtain ⟨vm₁, cA, comp, -, fA, fC, hO, -, X', step⟩ := Jvm.Stand.multianewarray2F Xs hx hown w1 w2 (harr ii t hi5 ha) (g := F0 m pc ls (.int kk :: .int nn :: r.map (z_cv ext base))) rfl hd rfl (z_not_neg h0) (z_not_neg h1) (by omega) (Nat.le_trans (Nat.mul_le_mul h3 q4) (by decide)) (by omega) q2 q3 hcells hslots
      have ec : cA = ta io := Option.some.inj (fA.symm.trans hvo)
      have ec2 : comp = ta ii := Option.some.inj (fC.symm.trans q5)
      subst ec; subst ec2
      generalize hF9 : Jvm.Free.Multi.fill (T.setVm vm₁) (ta io) (ta ii) nn.toNatClampNeg kk.toNatClampNeg (defaultValue t) nn.toNatClampNeg = F at X' step
      have hTh : (T.setVm vm₁).heap = H := hT
      obtain ⟨f1, f2, -, -⟩ := Jvm.Free.Multi.fill_facts (T.setVm vm₁) (ta io) (ta ii) nn.toNatClampNeg kk.toNatClampNeg (defaultValue t) nn.toNatClampNeg
      rw [hF9, hTh] at f1 f2
      have hold : ∀ x : Nat, x < H.size → F.heap[x]? = H[x]? := fun x hx => by
        have := Jvm.Free.Multi.fill_old (T.setVm vm₁) (ta io) (ta ii) nn.toNatClampNeg kk.toNatClampNeg (defaultValue t) (a := x) (by rw [hTh]; exact hx) nn.toNatClampNeg
        rw [hF9, hTh] at this
        exact this
      have hrow : ∀ j : Nat, j < nn.toNatClampNeg → F.heap[H.size + 1 + j]? = some (Jvm.Free.Multi.innerC (ta ii) kk.toNatClampNeg (defaultValue t)) := fun j hj => by
        have := Jvm.Free.Multi.fill_inner (T.setVm vm₁) (ta io) (ta ii) nn.toNatClampNeg kk.toNatClampNeg (defaultValue t) nn.toNatClampNeg j hj
        rw [hF9, hTh] at this
        exact this
      have hinn : Jvm.Free.Multi.innerC (ta ii) kk.toNatClampNeg (defaultValue t) = arrV (ta ii) kk.toNatClampNeg (fun _ => z_dv ii) := by
        rw [← q1]
        exact arrV_new _ _ _
      have hR1 : z_R D cl ta ext base (P ++ (100 + io, (List.range nn.toNatClampNeg).map (fun j => Value.ref (P.length + 1 + j))) :: List.replicate nn.toNatClampNeg (100 + ii, List.replicate kk.toNatClampNeg (z_dv ii))) F.heap := by
        refine z_at_push hR (by simp; omega) (by rw [f1]; simp; omega) hold fun j q hj => ?_
        match j, hj with
        | 0, hj =>
          cases hj
          refine ⟨fun q => absurd q (by show ¬ 100 + io < 99; omega), fun _ => ?_⟩
          show F.heap[base + (P.length + 0)]? = some (arrV (ta (100 + io - 100)) ((List.range nn.toNatClampNeg).map _).length _)
          rw [show base + (P.length + 0) = H.size by rw [hR.1]; rfl, f2, z_outer, show 100 + io - 100 = io by omega, List.length_map, List.length_range]
          congr 1
          unfold arrV
          congr 1
          apply Array.ext
          · simp
          · intro i g1 g2
            have hi : i < nn.toNatClampNeg := by simpa using g1
            have hi2 : P.length + 1 + i < z_far := by omega
            have e7 : ((List.range nn.toNatClampNeg).map (fun j => Value.ref (P.length + 1 + j))).getD i .null = .ref (P.length + 1 + i) := by simp [hi]
            simp only [Array.getElem_ofFn]
            rw [if_pos hi]
            show Value.ref (H.size + 1 + i) = z_cv ext base (((List.range nn.toNatClampNeg).map (fun j => Value.ref (P.length + 1 + j))).getD i .null)
            rw [e7, z_cv_near hi2, hR.1]
            have e8 : base + P.length + 1 + i = base + (P.length + 1 + i) := by omega
            exact congrArg Value.ref e8
        | j + 1, hj =>
          have hj : (List.replicate nn.toNatClampNeg (100 + ii, List.replicate kk.toNatClampNeg (z_dv ii)))[j]? = some q := hj
          have hjn : j < nn.toNatClampNeg := by
            have := (List.getElem?_eq_some_iff.mp hj).1
            simpa using this
          have hq : q = (100 + ii, List.replicate kk.toNatClampNeg (z_dv ii)) := by
            rw [List.getElem?_replicate, if_pos hjn] at hj
            exact (Option.some.inj hj).symm
          subst hq
          refine z_newarr_at (by rw [← q1]; exact z_cv_dflt t) rfl ?_
          rw [← hinn, ← hrow j hjn, hR.1]
          congr 1
          omega
      have e9 : z_cv ext base (.ref P.length) = .ref H.size := by rw [z_cv_near (by omega), hR.1]
      have hk := k F.heap hR1 (z_S_push (d := 1 + nn.toNatClampNeg) hS (by rw [f1]; omega) hold)
      rw [List.map_cons, e9] at hk
      obtain ⟨t9, b1, b2⟩ := hk F rfl (by rw [← Nat.add_assoc, ← Nat.add_assoc]; exact X')
      refine ⟨t9, step _ ?_, b2⟩
      rw [hT]
      exact b1
    · cases h
  all_goals (cases h)
end ZSIMM
end
section
section ZSIMC
variable {p : Program} {l : Launch} {e : Env} {R : Room} {s : State} {m : MethodId} {args : Array Value} {below : List Frame} {meth : Method} {c : Code} {H : Heap} {locs : List Loc} {cells slots : Nat} {Q : State → Prop}
/-- what the pool says of a constant: for a method of the class own -/
def z_ct (s : State) (args : Array Value) (own : String) (rs : List (String × Nat × String × Nat)) : Instr → Value → Prop
  | .ldc n, v => (∃ x, v = .int x ∧ (Cond.constant own n x).before args s = true) ∨ ∃ tx i, v = .ref (z_far + 2 * i) ∧ (own, n, tx, i) ∈ rs
  | .ldc_w n, v => ∃ x, v = .int x ∧ (Cond.constant own n x).before args s = true
  | .ldc2_w n, v => ∃ x, v = .long x ∧ (Cond.constantLong own n x).before args s = true
  | .getstatic n, v => v = .int 1 ∧ (Cond.fieldLink own n "java/lang/String" "COMPACT_STRINGS" "Z").before args s = true
  | _, _ => False
theorem z_sim_cst {ext : Nat → Nat} {base : Nat} {own : String} {strs : z_Ss} {rs : List (String × Nat × String × Nat)} {cst : Nat → Option Value} {cc : ByteArray} (hx : p.tables.exec = Jvm.exec) (hb : c.code = cc) (hown : s.vm.findClass own = some m.cls) (hX : z_X strs ext base rs s) (hS : va_S (fun q => base ≤ q) s.heap H locs)
    {ins : Instr} {len pc : Nat} {ls : Array Slot} {st st' : List Value} (hc : ∀ v, z_cstv cst ins = some v → z_ct s args own rs ins v) (hd : decode cc pc = .ok (ins, len)) (hlen : len = z_len ins) (h : z_cst cst ins st = some st')
    (k : W p l e R s m args below meth c H locs cells slots Q (F0 m (pc + len) ls (st'.map (z_cv ext base)))) : W p l e R s m args below meth c H locs cells slots Q (F0 m pc ls (st.map (z_cv ext base))) := by
  subst hlen
  obtain ⟨v, hv, rfl⟩ := z_map_some (f := fun v => v :: st) h
  have hc := hc v hv
  cases ins
  case ldc n =>
    rcases hc with ⟨x, rfl, h1⟩ | ⟨tx, i, rfl, h1⟩
    · exact lv_ldc hx hb hown h1 hd k
    · have h2 := hX.2.2.1 _ h1
      rw [List.map_cons, z_cv_far] at k
      exact va_ldcS hx hb hown h2 hd k
  case ldc_w n =>
    obtain ⟨x, rfl, h1⟩ := hc
    exact lv_ldcw hx hb hown h1 hd k
  case ldc2_w n =>
    obtain ⟨x, rfl, h1⟩ := hc
    exact lv_ldc2 hx hb hown h1 hd k
  case getstatic n =>
    obtain ⟨rfl, h1⟩ := hc
    exact va_gets hx hb hX.2.1 hS hown h1 (fun _ q => q) hd k
  all_goals (cases hv)
theorem z_acp_spec {P P' : z_H} {st st' : List Value} (h : z_acp P st = some (st', P')) : ∃ (n dp sp : Int32) (a b : Nat) (vs ws : List Value), st = .int n :: .int dp :: .ref b :: .int sp :: .ref a :: st' ∧ P[a]? = some (103, vs) ∧ P[b]? = some (103, ws) ∧ 0 ≤ n.toInt ∧ 0 ≤ dp.toInt ∧ 0 ≤ sp.toInt ∧ sp.toNatClampNeg + n.toNatClampNeg ≤ vs.length ∧ dp.toNatClampNeg + n.toNatClampNeg ≤ ws.length ∧ vs.all z_isI = true ∧ P' = P.set b (103, z_cpy ws vs sp.toNatClampNeg dp.toNatClampNeg n.toNatClampNeg) := by
  unfold z_acp at h
  split at h
  · rename_i n dp b sp a r
    split at h
    · rename_i q w hq hw
      split at h
      · rename_i h1
        cases h
        exact ⟨n, dp, sp, a, b, q.2, w.2, rfl, by rw [hq, ← h1.1], by rw [hw, ← h1.2.1], h1.2.2.1, h1.2.2.2.1, h1.2.2.2.2.1, h1.2.2.2.2.2.1, h1.2.2.2.2.2.2.1, h1.2.2.2.2.2.2.2, rfl⟩
      · cases h
    · cases h
  · cases h
theorem z_toNat {z : Int32} (h : 0 ≤ z.toInt) : z.toInt = (z.toNatClampNeg : Int) := by
  show z.toInt = ((z.toInt.toNat : Nat) : Int)
  omega
set_option maxHeartbeats 4000000 in
theorem z_sim_acp {D : va_G} {cl : List vw_C} {ta : Nat → ClassId} {aty : List FieldType} {ext : Nat → Nat} {base nL : Nat} {own : String} {P P' : z_H} {A : Nat → Prop} {H0 : Heap} {cc : ByteArray} (hx : p.tables.exec = Jvm.exec) (hb : c.code = cc) (hml : c.maxLocals = nL) (hown : s.vm.findClass own = some m.cls) (hK : z_K D cl ta aty s) (hA : z_aty aty) (hR : z_R D cl ta ext base P H) (hS : va_S A H0 H locs) (hAb : ∀ q, base ≤ q → A q)
    {index pc : Nat} (hlink : (Cond.methodLink own index arraycopyName).before args s = true) (hnat : (Cond.native arraycopyName).before args s = true) (hstat : (Cond.static arraycopyName).before args s = true) (hini : (Cond.initialized "java/lang/System").before args s = true)
    {ls : Array Slot} (hls : ls.size = nL) {st st' : List Value} (hframes : 1 ≤ R.frames) (hlocals : (st'.map fun v => v.category).sum + (nativeFrameWords "java/lang/System" "arraycopy" 5 + 11) ≤ R.locals) (hd : decode cc pc = .ok (.invokestatic index, 3)) (h : z_acp P st = some (st', P'))
    (k : ∀ H1 locs1, z_R D cl ta ext base P' H1 → va_S A H0 H1 locs1 → W p l e R s m args below meth c H1 locs1 cells slots Q (F0 m (pc + 3) ls (st'.map (z_cv ext base)))) : W p l e R s m args below meth c H locs cells slots Q (F0 m pc ls (st.map (z_cv ext base))) := by
  obtain ⟨-, -, -, a3, -, -⟩ := hA
  obtain ⟨n, dp, sp, a, b, vs, ws, rfl, hPa, hPb, h1, h2, h3, h4, h5, h6, rfl⟩ := z_acp_spec h
  have hqa := (hR.at hPa).2 (by show 100 ≤ 103; omega)
  have hqb := (hR.at hPb).2 (by show 100 ≤ 103; omega)
  obtain ⟨-, k0, hk0, cm0, hkk0⟩ := (hK.2 3 _ a3).1 vs.length (fun j => z_cv ext base (vs.getD j .null))
  obtain ⟨-, k1, hk1, cm1, hkk1⟩ := (hK.2 3 _ a3).1 ws.length (fun j => z_cv ext base (ws.getD j .null))
  intro T hT X
  subst hb
  have hcat : ((st'.map (z_cv ext base)).map fun v => v.category) = st'.map fun v => v.category := by
    rw [List.map_map]
    apply List.map_congr_left
    intro v _
    exact z_cv_cat _ _ v
  obtain ⟨vm', X', step⟩ := X.arraycopy hx hown hlink hnat hstat hini (src := base + a) (dst := base + b) (srcPos := sp) (destPos := dp) (n := n) (by rw [hT]; exact hqa) (by rw [hT]; exact hqb)
    (fun _ h => by cases h) (fun _ h => by cases h) (fun h => by cases h) (fun h => by cases h) hk0 hk1 hkk0 hkk1 (by simp [refKind]) (z_not_neg h3) (z_not_neg h2) (z_not_neg h1)
    (by rw [z_toNat h3, z_toNat h1, arrV_size]; show ¬ _ > (vs.length : Int); omega)
    (by rw [z_toNat h2, z_toNat h1, arrV_size]; show ¬ _ > (ws.length : Int); omega)
    (fun vm₁ _ i hi => by
      have hlt : sp.toNatClampNeg + i < vs.length := by omega
      have hI := List.all_eq_true.mp h6 (vs[sp.toNatClampNeg + i]) (List.getElem_mem hlt)
      obtain ⟨x, hx9⟩ := z_isI_spec hI
      have e9 : (arrV (ta 3) vs.length (fun j => z_cv ext base (vs.getD j .null))).slots.getD (sp.toNatClampNeg + i) .null = .int x := by
        rw [Array.getD_eq_getD_getElem?, arrV_read _ _ hlt]
        simp [hlt, hx9, z_cv]
      exact ⟨by show fits .int ((arrV (ta 3) vs.length (fun j => z_cv ext base (vs.getD j .null))).slots.getD (sp.toNatClampNeg + i) .null) = true; rw [e9]; rfl, by show State.takes _ _ ((arrV (ta 3) vs.length (fun j => z_cv ext base (vs.getD j .null))).slots.getD (sp.toNatClampNeg + i) .null); rw [e9]; exact trivial⟩)
    (g := F0 m pc ls ((Value.int n :: Value.int dp :: Value.ref b :: Value.int sp :: Value.ref a :: st').map (z_cv ext base))) rfl (by rw [hml, ← hls]) (rest := st'.map (z_cv ext base)) (by simp only [List.map_cons]; rw [hR.near hPa, hR.near hPb]; rfl) hd hframes (by show 2 * 0 + _ + _ ≤ _; rw [hcat]; omega)
  have e1 : copied (arrV (ta 3) vs.length (fun j => z_cv ext base (vs.getD j .null))) (arrV (ta 3) ws.length (fun j => z_cv ext base (ws.getD j .null))) sp dp n = arrV (ta 3) ws.length (fun j => va_cpy (fun j => z_cv ext base (vs.getD j .null)) (fun j => z_cv ext base (ws.getD j .null)) sp.toNatClampNeg dp.toNatClampNeg n.toNatClampNeg j) :=
    va_copied (fun z => z) (ta 3) (ta 3) _ _ h4
  have e1' : copied (arrV (ta (103 - 100)) vs.length (fun j => z_cv ext base (vs.getD j .null))) (arrV (ta (103 - 100)) ws.length (fun j => z_cv ext base (ws.getD j .null))) sp dp n = arrV (ta 3) ws.length (fun j => va_cpy (fun j => z_cv ext base (vs.getD j .null)) (fun j => z_cv ext base (ws.getD j .null)) sp.toNatClampNeg dp.toNatClampNeg n.toNatClampNeg j) := e1
  dsimp only at X' step
  rw [e1'] at X' step
  generalize hcell : arrV (ta 3) ws.length (fun j => va_cpy (fun j => z_cv ext base (vs.getD j .null)) (fun j => z_cv ext base (ws.getD j .null)) sp.toNatClampNeg dp.toNatClampNeg n.toNatClampNeg j) = cell at X' step
  have hl : base + b < H.size := (Array.getElem?_eq_some_iff.mp hqb).1
  have hheap : ((T.setVm vm').setCell (base + b) cell).heap = H.setIfInBounds (base + b) cell := by rw [← hT]; rfl
  have oq : ∀ q : Nat, q ≠ base + b → (H.setIfInBounds (base + b) cell)[q]? = H[q]? := fun q hq => by simp [Array.getElem?_setIfInBounds, Ne.symm hq]
  have hat : z_at D cl ta (z_cv ext base) (103, z_cpy ws vs sp.toNatClampNeg dp.toNatClampNeg n.toNatClampNeg) (base + b) (H.setIfInBounds (base + b) cell) := by
    refine ⟨fun q => absurd q (by show ¬ 103 < 99; omega), fun _ => ?_⟩
    show (H.setIfInBounds (base + b) cell)[base + b]? = some (arrV (ta 3) (z_cpy ws vs sp.toNatClampNeg dp.toNatClampNeg n.toNatClampNeg).length (fun j => z_cv ext base ((z_cpy ws vs sp.toNatClampNeg dp.toNatClampNeg n.toNatClampNeg).getD j .null)))
    have hlen : (z_cpy ws vs sp.toNatClampNeg dp.toNatClampNeg n.toNatClampNeg).length = ws.length := by simp [z_cpy]
    rw [hlen, Array.getElem?_setIfInBounds, if_pos rfl, if_pos hl, ← hcell]
    congr 1
    unfold arrV
    congr 1
    apply Array.ext
    · simp
    · intro i g1 g2
      have hi : i < ws.length := by simpa using g1
      simp only [Array.getElem_ofFn]
      simp only [z_cpy, va_cpy]
      by_cases hc : dp.toNatClampNeg ≤ i ∧ i < dp.toNatClampNeg + n.toNatClampNeg
      · simp [hc, hi]
      · simp [hc, hi]
  obtain ⟨t, b1, b2⟩ := k _ _ (hR.set (by simp) oq hat) ⟨by simp; exact hS.1, fun q g1 g2 => by
      rw [oq q (fun e => g2 (by rw [e]; exact hAb _ (Nat.le_add_right _ _)))]
      exact hS.2.1 q g1 g2, fun q hq => by
      rcases List.mem_append.mp hq with h | h
      · exact hS.2.2 q h
      · obtain ⟨z, -, hz⟩ := List.mem_map.mp h
        rw [← hz]
        exact hAb _ (Nat.le_add_right _ _)⟩ _ hheap X'
  exact ⟨t, step t b1, b2⟩
end ZSIMC
end
section
/-! The picture's run: a big-step run by fuel, and that the machine follows it. -/
section ZEXEC
/-- a program: by method number and pc the instruction; by method number and pool number what the pool says; what is asked of the methods and classes -/
abbrev z_Pg : Type := (Nat → Nat → Option (Instr × Nat)) × (Nat → Nat → Option (Nat × Nat)) × (Nat → Nat → Option Value) × (Nat → Nat → Option (Nat × List Value)) × (Nat → Nat → Option Nat) × (Nat → Nat → Option (Nat × Nat)) × (Nat → Nat → Option (Nat × Nat)) × (Nat → Nat × Nat × Nat × Nat) × (Nat → Option FieldType) × (Nat → Option Nat) × (Nat → Nat) × (Nat → Nat → FieldType) × (Nat → Nat → Bool) × (Nat → Option Nat) × Nat × z_Ss
def z_cod (G : z_Pg) : Nat → Nat → Option (Instr × Nat) := G.1
def z_fld (G : z_Pg) : Nat → Nat → Option (Nat × Nat) := G.2.1
def z_cs (G : z_Pg) : Nat → Nat → Option Value := G.2.2.1
def z_cls (G : z_Pg) : Nat → Nat → Option (Nat × List Value) := G.2.2.2.1
def z_aan (G : z_Pg) : Nat → Nat → Option Nat := G.2.2.2.2.1
def z_mna (G : z_Pg) : Nat → Nat → Option (Nat × Nat) := G.2.2.2.2.2.1
/-- a call: the callee's number and the kind (0 static, 1 on an object, 2 a constructor, 3 Object's, 5 arraycopy) -/
def z_inv (G : z_Pg) : Nat → Nat → Option (Nat × Nat) := G.2.2.2.2.2.2.1
/-- locals, arguments with the receiver, cells and slots that it may make -/
def z_inf (G : z_Pg) : Nat → Nat × Nat × Nat × Nat := G.2.2.2.2.2.2.2.1
def z_rty (G : z_Pg) : Nat → Option FieldType := G.2.2.2.2.2.2.2.2.1
def z_ini (G : z_Pg) : Nat → Option Nat := G.2.2.2.2.2.2.2.2.2.1
def z_rcv (G : z_Pg) : Nat → Nat := G.2.2.2.2.2.2.2.2.2.2.1
def z_fty (G : z_Pg) : Nat → Nat → FieldType := G.2.2.2.2.2.2.2.2.2.2.2.1
def z_fin (G : z_Pg) : Nat → Nat → Bool := G.2.2.2.2.2.2.2.2.2.2.2.2.1
def z_ac (G : z_Pg) : Nat → Option Nat := G.2.2.2.2.2.2.2.2.2.2.2.2.2.1
def z_nA (G : z_Pg) : Nat := G.2.2.2.2.2.2.2.2.2.2.2.2.2.2.1
def z_strs (G : z_Pg) : z_Ss := G.2.2.2.2.2.2.2.2.2.2.2.2.2.2.2
def z_nL (G : z_Pg) (y : Nat) : Nat := (z_inf G y).1
def z_na (G : z_Pg) (y : Nat) : Nat := (z_inf G y).2.1
def z_mc (G : z_Pg) (y : Nat) : Nat := (z_inf G y).2.2.1
def z_ms (G : z_Pg) (y : Nat) : Nat := (z_inf G y).2.2.2
/-- a place in a run: pc, locals, stack, cells, how many cells and slots were made here -/
abbrev z_S : Type := Nat × z_L × List Value × z_H × Nat × Nat
def z_ret (rt : Option FieldType) : Instr → List Value → Option (Option Value)
  | .return_, [] => if rt = none then some none else none
  | .ireturn, [.int v] => match rt with
    | some ty => if narrow ty (.int v) = .int v then some (some (.int v)) else none
    | none => none
  | .lreturn, [.long v] => if rt = some .long then some (some (.long v)) else none
  | .areturn, [v] => match rt with
    | some (.object _) => if z_isA v then some (some v) else none
    | some (.array _) => if z_isA v then some (some v) else none
    | _ => none
  | _, _ => none
def z_cat (st : List Value) : Nat := (st.map fun v => v.category).sum
def z_at? (G : z_Pg) (P : z_H) (y kd : Nat) : List Value → Bool
  | .ref a :: _ => if kd = 1 then match z_lk (z_strs G) P a with
      | some q => q.1 == z_rcv G y
      | none => false
    else true
  | _ => kd == 0
/-- a call of y: its arguments, what stays on the stack -/
def z_args (G : z_Pg) (d : Nat) (y kd : Nat) (x : Nat) (st : List Value) (P : z_H) (c n : Nat) : Option (List Value × List Value) :=
  let as := (st.take (z_na G y)).reverse
  let r := st.drop (z_na G y)
  if z_na G y ≤ st.length ∧ 1 ≤ d ∧ z_cat r ≤ 8 ∧ z_nL G y ≤ 45 ∧ z_cat as ≤ z_nL G y ∧ c + z_mc G y ≤ z_mc G x ∧ n + z_ms G y ≤ z_ms G x ∧ (kd = 0 ∨ 1 ≤ z_na G y) ∧ (kd = 0 ∨ z_at? G P y kd as = true) then some (as, r) else none
def z_bump (G : z_Pg) (x : Nat) (q : z_S) : Option z_S := if q.2.2.2.2.1 ≤ z_mc G x ∧ q.2.2.2.2.2 ≤ z_ms G x then some q else none
/-- an instruction that calls nobody -/
def z_step (G : z_Pg) (x : Nat) (ins : Instr) (len pc : Nat) (l : z_L) (st : List Value) (P : z_H) (c n : Nat) : Option z_S :=
  match z_pure ins st with
  | some s' => some (pc + len, l, s', P, c, n)
  | none => match z_loc (z_nL G x) ins l st with
    | some q => some (pc + len, q.1, q.2, P, c, n)
    | none => match z_jmp ins pc st with
      | some q => some (q.1, l, q.2, P, c, n)
      | none => match z_rd (z_fld G x) (z_nA G) (z_lk (z_strs G) P) ins st with
        | some s' => some (pc + len, l, s', P, c, n)
        | none => match z_wr (z_fld G x) (z_fty G) (z_fin G) (z_ini G x) (z_ac G) P ins st with
          | some q => some (pc + len, l, q.1, q.2, c, n)
          | none => match z_mk (z_cls G x) (z_aan G x) (z_mna G x) P ins st with
            | some q => z_bump G x (pc + len, l, q.1, q.2.1, c + q.2.2.1, n + q.2.2.2)
            | none => match z_cst (z_cs G x) ins st with
              | some s' => some (pc + len, l, s', P, c, n)
              | none => none
def z_only (f : Nat → Bool) (o : Option (Nat × Nat)) : Option (Nat × Nat) := match o with
  | some q => if f q.2 then some q else none
  | none => none
def z_call (G : z_Pg) (x : Nat) : Instr → Option (Nat × Nat)
  | .invokevirtual n => z_only (fun k => k == 1) (z_inv G x n)
  | .invokestatic n => z_only (fun k => k == 0 || k == 5) (z_inv G x n)
  | .invokespecial n => z_only (fun k => k == 2 || k == 3) (z_inv G x n)
  | _ => none
/-- Object's own constructor, arraycopy -/
def z_prim (kd d pc : Nat) (l : z_L) (st : List Value) (P : z_H) (c n : Nat) : Option z_S :=
  if kd = 3 then match st with
    | .ref _ :: r => if 1 ≤ d ∧ z_cat r ≤ 8 then some (pc + 3, l, r, P, c, n) else none
    | _ => none
  else if kd = 5 then match z_acp P st with
    | some q => if 1 ≤ d ∧ z_cat q.1 ≤ 8 then some (pc + 3, l, q.1, q.2, c, n) else none
    | none => none
  else none
/-- what comes next: the end with a value; a place; a call with its arguments -/
def z_next (G : z_Pg) (d x : Nat) (q : z_S) : Option (Option Value ⊕ (z_S ⊕ (Nat × List Value × List Value))) :=
  match z_cod G x q.1 with
  | none => none
  | some i => match z_call G x i.1 with
    | some yk => if yk.2 < 3 then match z_args G d yk.1 yk.2 x q.2.2.1 q.2.2.2.1 q.2.2.2.2.1 q.2.2.2.2.2 with
        | some ar => some (.inr (.inr (yk.1, ar.1, ar.2)))
        | none => none
      else match z_prim yk.2 d q.1 q.2.1 q.2.2.1 q.2.2.2.1 q.2.2.2.2.1 q.2.2.2.2.2 with
        | some q' => some (.inr (.inl q'))
        | none => none
    | none => match z_ret (z_rty G x) i.1 q.2.2.1 with
      | some r => some (.inl r)
      | none => match z_step G x i.1 i.2 q.1 q.2.1 q.2.2.1 q.2.2.2.1 q.2.2.2.2.1 q.2.2.2.2.2 with
        | some q' => some (.inr (.inl q'))
        | none => none
def z_run (G : z_Pg) : Nat → Nat → Nat → z_S → Option (Option Value × z_H)
  | 0, _, _, _ => none
  | f + 1, d, x, q => match z_next G d x q with
    | none => none
    | some (.inl r) => some (r, q.2.2.2.1)
    | some (.inr (.inl q')) => z_run G f d x q'
    | some (.inr (.inr a)) => match z_run G f (d - 1) a.1 (0, lv_args 0 a.2.1, [], q.2.2.2.1, 0, 0) with
      | some o => z_run G f d x (q.1 + 3, q.2.1, o.1.toList ++ a.2.2, o.2, q.2.2.2.2.1 + z_mc G a.1, q.2.2.2.2.2 + z_ms G a.1)
      | none => none
/-- the run of a method from its start, some fuel given -/
def z_Runs (G : z_Pg) (d x : Nat) (q : z_S) (r : Option Value) (P' : z_H) : Prop := ∃ f, z_run G f d x q = some (r, P')
end ZEXEC
end
section
section ZMAIN
def z_room (G : z_Pg) (x d : Nat) : Room := { frames := d, cells := z_mc G x, slots := z_ms G x, locals := 100 * d }
def z_ws (G : z_Pg) (nm : Nat → MethodName) (by_ : Nat → ByteArray) (Ts : List Cond) (x : Nat) : List Cond := Cond.code (nm x) (by_ x) (z_nL G x) (z_rty G x) :: Ts
/-- the words that say what a constant is -/
def z_ctw (Ts : List Cond) (own : String) (rs : List (String × Nat × String × Nat)) : Instr → Value → Prop
  | .ldc n, v => (∃ x, v = .int x ∧ Cond.constant own n x ∈ Ts) ∨ ∃ tx i, v = .ref (z_far + 2 * i) ∧ (own, n, tx, i) ∈ rs
  | .ldc_w n, v => ∃ x, v = .int x ∧ Cond.constant own n x ∈ Ts
  | .ldc2_w n, v => ∃ x, v = .long x ∧ Cond.constantLong own n x ∈ Ts
  | .getstatic n, v => v = .int 1 ∧ Cond.fieldLink own n "java/lang/String" "COMPACT_STRINGS" "Z" ∈ Ts
  | _, _ => False
theorem z_ctw.use {Ts : List Cond} {own : String} {rs : List (String × Nat × String × Nat)} {s : State} {args : Array Value} (hts : ∀ w ∈ Ts, w.before args s = true) {ins : Instr} {v : Value} (h : z_ctw Ts own rs ins v) : z_ct s args own rs ins v := by
  cases ins
  case ldc n =>
    rcases h with ⟨x, h1, h2⟩ | h
    · exact Or.inl ⟨x, h1, hts _ h2⟩
    · exact Or.inr h
  case ldc_w n =>
    obtain ⟨x, h1, h2⟩ := h
    exact ⟨x, h1, hts _ h2⟩
  case ldc2_w n =>
    obtain ⟨x, h1, h2⟩ := h
    exact ⟨x, h1, hts _ h2⟩
  case getstatic n => exact ⟨h.1, hts _ h.2⟩
  all_goals (exact h.elim)
def z_OKc (G : z_Pg) (by_ : Nat → ByteArray) : Prop := ∀ x pc i, z_cod G x pc = some i → decode (by_ x) pc = .ok (i.1, i.2) ∧ ((∃ d lo hi o, i.1 = .tableswitch d lo hi o) ∨ i.2 = z_len i.1)
def z_OKf (G : z_Pg) (nm : Nat → MethodName) (cl : List vw_C) (Ts Ns : List Cond) : Prop := ∀ x n ci k r, z_fld G x n = some (ci, k) → cl[ci]? = some r → k < r.2.2 ∧ (Cond.fieldLink (nm x).cls n (r.2.1 k).1 (r.2.1 k).2.1 (r.2.1 k).2.2.1 ∈ Ts ∨ ∃ host, Cond.fieldLinkNest (nm x).cls n (r.2.1 k).1 (r.2.1 k).2.1 (r.2.1 k).2.2.1 host ∈ Ns) ∧ (z_fin G ci k = true → z_ini G x = some ci → Cond.fieldLink (nm x).cls n (r.2.1 k).1 (r.2.1 k).2.1 (r.2.1 k).2.2.1 ∈ Ts)
def z_OKs (G : z_Pg) (nm : Nat → MethodName) (Ts : List Cond) : Prop := ∀ x n k, z_fld G x n = some (98, k) → (k = 0 ∧ Cond.fieldLink (nm x).cls n "java/lang/String" "value" "[B" ∈ Ts) ∨ (k = 1 ∧ Cond.fieldLink (nm x).cls n "java/lang/String" "coder" "B" ∈ Ts)
def z_OKk (G : z_Pg) (nm : Nat → MethodName) (Ts : List Cond) (rs : List (String × Nat × String × Nat)) : Prop := ∀ x ins v, z_cstv (z_cs G x) ins = some v → z_ctw Ts (nm x).cls rs ins v
def z_OKm (G : z_Pg) (nm : Nat → MethodName) (cl : List vw_C) (aty : List FieldType) (Ts Ns : List Cond) : Prop :=
  (∀ x n q, z_cls G x n = some q → ∃ r : vw_C, cl[q.1]? = some r ∧ q.2.length = r.2.2 ∧ (∀ k, k < r.2.2 → q.2[k]? = some (defaultValue (z_fty G q.1 k))) ∧ Cond.classLink (nm x).cls n r.1 ∈ Ts ∧ Cond.instantiable r.1 r.2.2 ∈ Ts ∧ Cond.initialized r.1 ∈ Ts) ∧
  (∀ x n i, z_aan G x n = some i → ∃ C, aty[i]? = some (.object C) ∧ Cond.classLink (nm x).cls n C ∈ Ts ∧ Cond.arrayOver (.object C) ∈ Ns) ∧
  (∀ x n q, z_mna G x n = some q → ∃ t, aty[q.2]? = some t ∧ q.2 < 5 ∧ aty[q.1]? = some (.array t) ∧ Cond.classLink (nm x).cls n ("[" ++ (FieldType.array t).toString) ∈ Ts ∧ Cond.arrayOver (.array t) ∈ Ns) ∧
  ∀ i t, i < 5 → aty[i]? = some t → Cond.arrayClass t ∈ Ts
def z_OKi (G : z_Pg) (nm : Nat → MethodName) (by_ : Nat → ByteArray) (cl : List vw_C) (Ts Ns : List Cond) : Prop := ∀ x n y kd, z_inv G x n = some (y, kd) →
  (kd < 3 → plainFor (nm y) = true ∧ Cond.code (nm y) (by_ y) (z_nL G y) (z_rty G y) ∈ Ts ∧ Cond.initialized (nm y).cls ∈ Ts ∧ ((nm y).cls ≠ "java/lang/invoke/MethodHandle" ∧ (nm y).cls ≠ "java/lang/invoke/VarHandle") ∧ (parseMethodDescriptor (nm y).desc).map (fun d => d.parameters.length) = some (if kd = 0 then z_na G y else z_na G y - 1) ∧ (Cond.methodLink (nm x).cls n (nm y) ∈ Ts ∨ ∃ host, Cond.methodLinkNest (nm x).cls n (nm y) host ∈ Ns)) ∧
  (kd = 0 → Cond.static (nm y) ∈ Ts) ∧
  (kd = 1 → Cond.instanceMethod (nm y) ∈ Ts ∧ Cond.selects (nm y).cls (nm y) (nm y) ∈ Ts ∧ ((z_rcv G y = 98 ∧ (nm y).cls = "java/lang/String") ∨ (z_rcv G y < 98 ∧ ∃ r : vw_C, cl[z_rcv G y]? = some r ∧ r.1 = (nm y).cls))) ∧
  (kd = 2 → (nm y).name = "<init>" ∧ Cond.instanceMethod (nm y) ∈ Ts ∧ z_rty G y = none) ∧
  (kd = 3 → Cond.methodLink (nm x).cls n Lib.objectInit ∈ Ts ∧ Cond.instanceMethod Lib.objectInit ∈ Ts ∧ Cond.code Lib.objectInit ⟨#[0xb1]⟩ 1 none ∈ Ts) ∧
  (kd = 5 → Cond.methodLink (nm x).cls n arraycopyName ∈ Ts ∧ Cond.native arraycopyName ∈ Ts ∧ Cond.static arraycopyName ∈ Ts ∧ Cond.initialized "java/lang/System" ∈ Ts)
def z_Nok (Ns : List Cond) : Prop := ∀ w ∈ Ns, ∀ (s U : State) (a : Array Value), s.WarmedH U.vm → w.before #[] s = true → w.before a U = true
def z_OKx (G : z_Pg) (nm : Nat → MethodName) (cl : List vw_C) (aty : List FieldType) (Ts Ns : List Cond) : Prop :=
  cl.length ≤ 98 ∧ (∀ w ∈ Ts, goodWord w = true) ∧ z_Nok Ns ∧ z_aty aty ∧ aty.length = z_nA G ∧ z_FT cl (z_fty G) (z_fin G) ∧ z_CL cl Ts ∧ (∀ i ci, z_ac G i = some ci → ∃ r : vw_C, cl[ci]? = some r ∧ aty[i]? = some (.object r.1)) ∧
  ∀ x ci (r : vw_C) k, z_ini G x = some ci → cl[ci]? = some r → k < r.2.2 → (nm x).name = "<init>" ∧ (r.2.1 k).1 = (nm x).cls
/-- all that must be checked of a program, once -/
def z_OK (G : z_Pg) (nm : Nat → MethodName) (by_ : Nat → ByteArray) (cl : List vw_C) (aty : List FieldType) (Ts Ns : List Cond) (rs : List (String × Nat × String × Nat)) : Prop :=
  z_OKc G by_ ∧ z_OKf G nm cl Ts Ns ∧ z_OKs G nm Ts ∧ z_OKk G nm Ts rs ∧ z_OKm G nm cl aty Ts Ns ∧ z_OKi G nm by_ cl Ts Ns ∧ z_OKx G nm cl aty Ts Ns
/-- what holds in a method's frame -/
def z_Cx (G : z_Pg) (nm : Nat → MethodName) (by_ : Nat → ByteArray) (cl : List vw_C) (aty : List FieldType) (Ts Ns : List Cond) (rs : List (String × Nat × String × Nat)) (D : va_G) (ta : Nat → ClassId) (ext : Nat → Nat) (base : Nat) (p : Program) (s : State) (m : MethodId) (args : Array Value) (meth : Method) (c : Code) (x : Nat) : Prop :=
  p.tables.exec = Jvm.exec ∧ c.code = by_ x ∧ meth.sig.returnType = z_rty G x ∧ c.maxLocals = z_nL G x ∧ s.vm.findClass (nm x).cls = some m.cls ∧ (∀ w ∈ Ts, w.before args s = true) ∧ (∀ w ∈ Ns, w.before #[] s = true) ∧ z_K D cl ta aty s ∧ meth.locks = false ∧ meth.name = (nm x).name ∧ z_X (z_strs G) ext base rs s ∧ base ≤ s.heap.size
variable {p : Program} {l : Launch} {e : Env} {s : State} {m : MethodId} {args : Array Value} {below : List Frame} {meth : Method} {c : Code} {H : Heap} {locs : List Loc} {Q : State → Prop}
variable {G : z_Pg} {nm : Nat → MethodName} {by_ : Nat → ByteArray} {cl : List vw_C} {aty : List FieldType} {Ts Ns : List Cond} {rs : List (String × Nat × String × Nat)} {D : va_G} {ta : Nat → ClassId} {ext : Nat → Nat} {base : Nat}
theorem z_nest (hN : z_Nok Ns) (h : ∀ w ∈ Ns, w.before #[] s = true) {w : Cond} (hw : w ∈ Ns) (a : Array Value) : w.before a s = true := hN w hw s s a (State.WarmedH.refl s) (h w hw)
set_option maxHeartbeats 4000000 in
theorem z_sim_step {R : Room} (hOK : z_OK G nm by_ cl aty Ts Ns rs) {x : Nat} (hC : z_Cx G nm by_ cl aty Ts Ns rs D ta ext base p s m args meth c x) (hRc : R.cells = z_mc G x) (hRs : R.slots = z_ms G x) {ins : Instr} {len pc cn sn : Nat} {ll : z_L} {st : List Value} {P : z_H} {q : z_S} (hcod : z_cod G x pc = some (ins, len)) (h : z_step G x ins len pc ll st P cn sn = some q)
    {ls : Array Slot} (hR : z_R D cl ta ext base P H) (hS : va_S (fun q => base ≤ q) s.heap H locs) (hl : lv_has ls (z_nL G x) (z_cl ext base ll))
    (k : ∀ H1 locs1 ls1, z_R D cl ta ext base q.2.2.2.1 H1 → va_S (fun q => base ≤ q) s.heap H1 locs1 → lv_has ls1 (z_nL G x) (z_cl ext base q.2.1) → W p l e R s m args below meth c H1 locs1 q.2.2.2.2.1 q.2.2.2.2.2 Q (F0 m q.1 ls1 (q.2.2.1.map (z_cv ext base)))) :
    W p l e R s m args below meth c H locs cn sn Q (F0 m pc ls (st.map (z_cv ext base))) := by
  obtain ⟨o1, o2, o3, o4, ⟨om1, om2, om3, om4⟩, o6, oL, og, oN, oa, oA, oF, oC, oac, oi⟩ := hOK
  obtain ⟨hx, hb, hr, hml, hown, hts, hns, hK, hlk, hnm, hX, hbs⟩ := hC
  obtain ⟨hd, hlen⟩ := o1 x pc _ hcod
  have hd : decode (by_ x) pc = .ok (ins, len) := hd
  have hlen : (∃ d lo hi o, ins = .tableswitch d lo hi o) ∨ len = z_len ins := hlen
  have hne : (∀ d lo hi o, ins ≠ .tableswitch d lo hi o) → len = z_len ins := fun hn => hlen.elim (fun ⟨d, lo, hi, o, h1⟩ => absurd h1 (hn d lo hi o)) id
  unfold z_step at h
  split at h
  · rename_i s' h1
    cases h
    exact z_sim_pure hx hb hd (hne fun d lo hi o q => by subst q; cases h1) h1 (k H locs ls hR hS hl)
  split at h
  · rename_i q' h1
    cases h
    exact z_sim_loc hx hb hd (hne fun d lo hi o q => by subst q; cases h1) h1 hl (fun ls' hl' => k H locs ls' hR hS hl')
  split at h
  · rename_i q' h1
    cases h
    exact z_sim_jmp hx hb hd hlen h1 (k H locs ls hR hS hl)
  split at h
  · rename_i s' h1
    cases h
    rw [← oA] at h1
    exact z_sim_rd hx hb hts hown hK oa oC hR hX hS (fun n ci kk r e1 e2 e3 => by
      obtain ⟨f1, f2, -⟩ := o2 x n ci kk r e2 e3
      refine ⟨f1, f2.elim (fun w => Or.inl (hts _ w)) (fun ⟨host, w⟩ => Or.inr ⟨host, z_nest oN hns w _⟩)⟩) (fun n kk e1 e2 => by
      rcases o3 x n kk e2 with ⟨w1, w2⟩ | ⟨w1, w2⟩
      · exact Or.inl ⟨w1, hts _ w2⟩
      · exact Or.inr ⟨w1, hts _ w2⟩) hd (hne fun d lo hi o q => by subst q; cases h1) h1 (k H locs ls hR hS hl)
  split at h
  · rename_i q' h1
    cases h
    exact z_sim_wr hx hb hts hown hK oa oC oF hR hS (fun _ h => h) oac (fun ci r kk e1 e2 e3 => by
      obtain ⟨f1, f2⟩ := oi x ci r kk e1 e2 e3
      exact ⟨hnm.trans f1, f2⟩) (fun n ci kk r e1 e2 e3 => by
      obtain ⟨f1, f2, f3⟩ := o2 x n ci kk r e2 e3
      exact ⟨f1, f2.elim (fun w => Or.inl (hts _ w)) (fun ⟨host, w⟩ => Or.inr ⟨host, z_nest oN hns w _⟩), fun f g => hts _ (f3 f g)⟩) hd (hne fun d lo hi o q => by subst q; cases h1) h1 (fun H1 locs1 g1 g2 => k H1 locs1 ls g1 g2 hl)
  split at h
  · rename_i q' h1
    unfold z_bump at h
    split at h
    · rename_i hb2
      cases h
      refine z_sim_mk (P' := q'.2.1) (dc := q'.2.2.1) (ds := q'.2.2.2) (st' := q'.1) hx hb hts hown hK oa oC oF hR hS (fun i t e1 e2 => hts _ (om4 i t e1 e2)) (fun n ci dv e1 e2 => ?_) (fun n i e1 e2 => ?_) (fun n d io ii e1 e2 => ?_) hd (hne fun d lo hi o q => by subst q; cases h1) h1 (by rw [hRc]; exact hb2.1) (by rw [hRs]; exact hb2.2) (fun H1 g1 g2 => k H1 locs ls g1 g2 hl)
      · obtain ⟨r, f1, f2, f3, f4, f5, f6⟩ := om1 x n (ci, dv) e2
        exact ⟨r, f1, f2, f3, hts _ f4, hts _ f5, hts _ f6⟩
      · obtain ⟨C, f1, f2, f3⟩ := om2 x n i e2
        exact ⟨C, f1, hts _ f2, z_nest oN hns f3 _⟩
      · obtain ⟨t, f1, f2, f3, f4, f5⟩ := om3 x n (io, ii) e2
        exact ⟨t, f1, f2, f3, hts _ f4, z_nest oN hns f5 _⟩
    · cases h
  split at h
  · rename_i s' h1
    cases h
    exact z_sim_cst hx hb hown hX hS (fun v e1 => (o4 x ins v e1).use hts) hd (hne fun d lo hi o q => by subst q; cases h1) h1 (k H locs ls hR hS hl)
  · cases h
/-- a method's start and end -/
def z_Pc (cl : List vw_C) (aty : List FieldType) (Ns : List Cond) (strs : z_Ss) (rs : List (String × Nat × String × Nat)) (D : va_G) (ta : Nat → ClassId) (ext : Nat → Nat) (base : Nat) (as : List Value) (P : z_H) : Array Value → State → Prop := fun a U =>
  a = (as.map (z_cv ext base)).toArray ∧ z_R D cl ta ext base P U.heap ∧ z_K D cl ta aty U ∧ (∀ w ∈ Ns, w.before #[] U = true) ∧ z_X strs ext base rs U
def z_Qc (cl : List vw_C) (D : va_G) (ta : Nat → ClassId) (ext : Nat → Nat) (base : Nat) (r : Option Value) (P : z_H) : Array Value → State → Outcome → State → Prop := fun _ st o t =>
  o = .returned (r.map (z_cv ext base)) ∧ z_R D cl ta ext base P t.heap ∧ va_F (fun q => base ≤ q) st t
theorem z_X.same {strs : z_Ss} {u U : State} (hvm : u.vm = U.vm) (hh : U.heap = u.heap) (h : z_X strs ext base rs u) : z_X strs ext base rs U := by
  obtain ⟨h1, h2, h3, h4, h5⟩ := h
  have hal : u.vm.Alike U.vm := by rw [hvm]; exact Vm.Alike.refl _
  exact ⟨by rw [hh]; exact h1.moved hal, by rw [hh]; exact h2.moved hal, fun r hr => (h3 r hr).same hvm.symm, h4, by rw [hh]; exact h5.moved hal⟩
theorem z_X.on {strs : z_Ss} {u U : State} (hW : u.WarmedH U.vm) (hq : ∀ a : Nat, a < u.heap.size → ¬ base ≤ a → U.heap[a]? = u.heap[a]?) (h : z_X strs ext base rs u) : z_X strs ext base rs U := by
  obtain ⟨h1, h2, h3, h4, h5⟩ := h
  refine ⟨(h1.kept hq).moved hW.alike, (h2.kept hq).moved hW.alike, fun r hr => (h3 r hr).warm hW, h4, ?_⟩
  obtain ⟨scr, y1, -⟩ := id h5
  exact (h5.kept (hq _ (Array.getElem?_eq_some_iff.mp y1).1 (Nat.not_le.mpr h4))).moved hW.alike
theorem z_blind (hN : z_Nok Ns) {as : List Value} {P : z_H} {strs : z_Ss} : FrameBlind (z_Pc cl aty Ns strs rs D ta ext base as P) := by
  intro a U g mk ⟨h1, h2, h3, h4, h5⟩
  exact ⟨h1, h2, z_K.moved (u := U) (U := U.calling g mk a) (Vm.Alike.refl U.vm) h3, fun w hw => hN w hw U (U.calling g mk a) #[] (State.WarmedH.refl U) (h4 w hw), h5.same rfl rfl⟩
theorem z_sim_back {R : Room} {cells slots mc ms : Nat} {g : JFrame} {rest : List Value} {P' : z_H} {r : Option Value} {a : Array Value} (hr : va_Run p l e R s m args below meth c H locs cells slots mc ms g rest (z_Qc cl D ta ext base r P' a) (fun q => base ≤ q)) (hS : va_S (fun q => base ≤ q) s.heap H locs)
    (k : ∀ H1 locs1, z_R D cl ta ext base P' H1 → va_S (fun q => base ≤ q) s.heap H1 locs1 → W p l e R s m args below meth c H1 locs1 (cells + mc) (slots + ms) Q { g with pc := g.pc + 3, stack := (r.map (z_cv ext base)).toList ++ rest }) : W p l e R s m args below meth c H locs cells slots Q g := by
  intro T hT X
  obtain ⟨v, st₀, t, T', L, h0, X', hL, e1, e2, ⟨hv, hR', hF⟩, st⟩ := hr T hT X
  have hv : v = r.map (z_cv ext base) := Outcome.returned.inj hv
  subst hv
  obtain ⟨f1, f2⟩ := hF
  rw [h0] at f1 f2
  obtain ⟨t9, a9, b9⟩ := k T'.heap (locs ++ L) (by rw [e1]; exact hR') ⟨by rw [e1]; exact Nat.le_trans hS.1 f1, fun q g1 g2 => by
    rw [e1, f2 q (Nat.lt_of_lt_of_le g1 hS.1) g2]
    exact hS.2.1 q g1 g2, fun q hq => by
    rcases List.mem_append.mp hq with h | h
    · exact hS.2.2 q h
    · exact hL q h⟩ T' rfl X'
  exact ⟨t9, st t9 a9, b9⟩
theorem z_sim_ret {R : Room} {x : Nat} {ins : Instr} {len pc cn sn : Nat} {st : List Value} {P : z_H} {r : Option Value} (hC : z_Cx G nm by_ cl aty Ts Ns rs D ta ext base p s m args meth c x) (hd : decode (by_ x) pc = .ok (ins, len)) (hlen : len = z_len ins) (h : z_ret (z_rty G x) ins st = some r) (hR : z_R D cl ta ext base P H) (hS : va_S (fun q => base ≤ q) s.heap H locs) {ls : Array Slot} :
    W p l e R s m args below meth c H locs cn sn (MQ below (z_Qc cl D ta ext base r P) args s cn sn (fun q => base ≤ q)) (F0 m pc ls (st.map (z_cv ext base))) := by
  subst hlen
  obtain ⟨hx, hb, hr, hml, hown, hts, hns, hK, hlk, hnm, hX, hbs⟩ := hC
  unfold z_ret at h
  split at h
  · split at h
    · rename_i h1
      cases h
      exact W.vret hx hb (by rw [hr, h1]) (fun t ht hW => ⟨rfl, by rw [ht]; exact hR, hS.F ht⟩) hS.2.2 hd hlk
    · cases h
  · split at h
    · rename_i ty h1
      split at h
      · rename_i h2
        cases h
        exact W.zret hx hb (by rw [hr, h1]) h2 (fun t ht hW => ⟨rfl, by rw [ht]; exact hR, hS.F ht⟩) hS.2.2 hd hlk
      · cases h
    · cases h
  · split at h
    · rename_i h1
      cases h
      exact W.lret hx hb (by rw [hr, h1]) (fun t ht hW => ⟨rfl, by rw [ht]; exact hR, hS.F ht⟩) hS.2.2 hd hlk
    · cases h
  · rename_i v
    split at h
    · rename_i C h1
      split at h
      · rename_i h2
        cases h
        refine W.aret hx hb (by rw [hr, h1]) (Or.inl ⟨_, rfl⟩) ?_ (fun t ht hW => ⟨rfl, by rw [ht]; exact hR, hS.F ht⟩) hS.2.2 hd hlk
        rcases z_isA_spec h2 with rfl | ⟨q, rfl⟩
        · exact Or.inl rfl
        · exact Or.inr ⟨_, rfl⟩
      · cases h
    · rename_i C h1
      split at h
      · rename_i h2
        cases h
        refine W.aret hx hb (by rw [hr, h1]) (Or.inr ⟨_, rfl⟩) ?_ (fun t ht hW => ⟨rfl, by rw [ht]; exact hR, hS.F ht⟩) hS.2.2 hd hlk
        rcases z_isA_spec h2 with rfl | ⟨q, rfl⟩
        · exact Or.inl rfl
        · exact Or.inr ⟨_, rfl⟩
      · cases h
    · cases h
  · cases h
end ZMAIN
end
section
section ZMN
variable {l : Launch}
variable {G : z_Pg} {nm : Nat → MethodName} {by_ : Nat → ByteArray} {cl : List vw_C} {aty : List FieldType} {Ts Ns : List Cond} {rs : List (String × Nat × String × Nat)} {D : va_G} {ta : Nat → ClassId} {ext : Nat → Nat} {base : Nat}
theorem z_args_spec {d y kd x cn sn : Nat} {st as r : List Value} {P : z_H} (h : z_args G d y kd x st P cn sn = some (as, r)) :
    st = as.reverse ++ r ∧ as.length = z_na G y ∧ 1 ≤ d ∧ z_cat r ≤ 8 ∧ z_nL G y ≤ 45 ∧ z_cat as ≤ z_nL G y ∧ cn + z_mc G y ≤ z_mc G x ∧ sn + z_ms G y ≤ z_ms G x ∧ (kd = 0 ∨ 1 ≤ z_na G y) ∧ (kd = 0 ∨ z_at? G P y kd as = true) := by
  unfold z_args at h
  simp only at h
  split at h
  · rename_i h1
    cases h
    obtain ⟨g1, g2, g3, g4, g5, g6, g7, g8, g9⟩ := h1
    refine ⟨by rw [List.reverse_reverse, List.take_append_drop], by rw [List.length_reverse, List.length_take]; omega, g2, g3, g4, g5, g6, g7, g8, g9⟩
  · cases h
theorem z_cl_args (as : List Value) : ∀ i, lv_args i (as.map (z_cv ext base)) = z_cl ext base (lv_args i as) := by
  induction as with
  | nil => intro i; rfl
  | cons v vs ih =>
    intro i
    show (i, z_cv ext base v) :: lv_args (if (z_cv ext base v).category = 2 then i + 2 else i + 1) (vs.map (z_cv ext base)) = (i, z_cv ext base v) :: z_cl ext base (lv_args (if v.category = 2 then i + 2 else i + 1) vs)
    rw [z_cv_cat, ih]
theorem z_sl_len : ∀ vs : List Value, (lg_sl vs).length = z_cat vs := by
  intro vs
  induction vs with
  | nil => rfl
  | cons v vs ih =>
    have h1 : (lg_sl (v :: vs)).length = (lg_sl [v]).length + (lg_sl vs).length := by
      unfold lg_sl
      simp [List.flatMap_cons]
    have h2 : (lg_sl [v]).length = v.category := by cases v <;> rfl
    rw [h1, h2, ih]
    simp [z_cat]
theorem z_cat_cv (vs : List Value) : ((vs.map (z_cv ext base)).map fun v => v.category) = vs.map fun v => v.category := by
  rw [List.map_map]
  apply List.map_congr_left
  intro v _
  exact z_cv_cat _ _ v
theorem z_toList_map (o : Option Value) (r : List Value) : (o.toList ++ r).map (z_cv ext base) = (o.map (z_cv ext base)).toList ++ r.map (z_cv ext base) := by cases o <;> simp
/-- the claim that the machine follows the picture, for a fuel -/
def z_Sim (l : Launch) (G : z_Pg) (nm : Nat → MethodName) (by_ : Nat → ByteArray) (cl : List vw_C) (aty : List FieldType) (Ts Ns : List Cond) (rs : List (String × Nat × String × Nat)) (D : va_G) (ta : Nat → ClassId) (ext : Nat → Nat) (base f : Nat) : Prop :=
  ∀ (d x : Nat) (q : z_S) (r : Option Value) (P' : z_H), z_run G f d x q = some (r, P') → q.2.2.2.2.1 ≤ z_mc G x → q.2.2.2.2.2 ≤ z_ms G x →
  ∀ (p : Program) (e : Env) (s : State) (m : MethodId) (args : Array Value) (below : List Frame) (meth : Method) (c : Code) (R : Room) (H : Heap) (locs : List Loc) (ls : Array Slot),
    z_Cx G nm by_ cl aty Ts Ns rs D ta ext base p s m args meth c x → R.cells = z_mc G x → R.slots = z_ms G x → d ≤ R.frames → 100 * d ≤ R.locals → z_R D cl ta ext base q.2.2.2.1 H → va_S (fun q => base ≤ q) s.heap H locs → lv_has ls (z_nL G x) (z_cl ext base q.2.1) →
    W p l e R s m args below meth c H locs q.2.2.2.2.1 q.2.2.2.2.2 (MQ below (z_Qc cl D ta ext base r P') args s (z_mc G x) (z_ms G x) (fun q => base ≤ q)) (F0 m q.1 ls (q.2.2.1.map (z_cv ext base)))
/-- as Met.ofW, of any method that no native row stands for -/
theorem z_ofW {y : MethodName} {ws ws' : List Cond} {rm : Room} {Pc : Array Value → State → Prop} {Qc : Array Value → State → Outcome → State → Prop} {mc ms : Nat} {free : Addr → Prop} {cc : ByteArray} {maxL : Nat} {ret : Option FieldType}
    (hy : plainFor y = true) (hw : ws = Cond.code y cc maxL ret :: ws')
    (body : ∀ p e s m args below meth c s₁, BodyLoose p l y (headSpec ws rm) cc maxL ret e s m args below meth c s₁ → c.maxLocals = maxL → Pc args s →
      W p l e (headSpec ws rm).room s m args below meth c s.heap [] 0 0 (MQ below Qc args s mc ms free) (entryFrame m args maxL)) : Met l y ws rm Pc Qc mc ms free := by
  refine Jvm.Free.MetFree.of_bodySF (code := cc) (maxLocals := maxL) (ret := ret) hy ?_ ?_
  · intro args s m h hn
    obtain ⟨meth, c, h1, h2, h3, h4, h5, h6, -, -⟩ := Cond.code_spec hn (atoms_spec (ws := ws) h _ (by rw [hw]; exact List.mem_cons_self))
    exact ⟨meth, c, h1, h2, h3, h4, h5, h6⟩
  · intro p e s m args below meth c s₁ B hml hP _
    have hh0 : s₁.heap = s.heap := by rw [B.state]; rfl
    obtain ⟨t, a1, o, b1, b2, b3⟩ := body p e s m args below meth c s₁ B hml hP s₁ hh0 (Stand.of_body B)
    exact ⟨t, o, a1, b1, b2, ⟨b3.1, b3.2⟩⟩
set_option maxHeartbeats 4000000 in
/-- a method's contract out of its run -/
theorem z_met (hOK : z_OK G nm by_ cl aty Ts Ns rs) {f : Nat} (ih : z_Sim l G nm by_ cl aty Ts Ns rs D ta ext base f) {d y : Nat} {as : List Value} {P P' : z_H} {r : Option Value} (hpl : plainFor (nm y) = true) (hcat : z_cat as ≤ z_nL G y) (h : z_run G f d y (0, lv_args 0 as, [], P, 0, 0) = some (r, P')) :
    Met l (nm y) (z_ws G nm by_ Ts y) (z_room G y d) (z_Pc cl aty Ns (z_strs G) rs D ta ext base as P) (z_Qc cl D ta ext base r P') (z_mc G y) (z_ms G y) (fun q => base ≤ q) := by
  refine z_ofW (cc := by_ y) (maxL := z_nL G y) (ret := z_rty G y) hpl rfl ?_
  intro p e s m args below meth c s₁ B hml ⟨hargs, hR, hK, hN, hX⟩
  subst hargs
  have hts := atoms_spec (ws := z_ws G nm by_ Ts y) B.pre
  have hCx : z_Cx G nm by_ cl aty Ts Ns rs D ta ext base p s m (as.map (z_cv ext base)).toArray meth c y :=
    ⟨B.exec, B.bytes, B.returns, hml, findClass_of_methodNamed B.named, fun w hw => hts w (List.mem_cons_of_mem _ hw), hN, hK, B.notSynchronized, (name_of_methodNamed B.named B.method).1, hX, by rw [hR.1]; exact Nat.le_add_right _ _⟩
  have hl := lv_entry (as.map (z_cv ext base)) (n := z_nL G y) (by rw [z_sl_len]; unfold z_cat; rw [z_cat_cv]; exact hcat)
  rw [lg_entry_eq]
  generalize (lg_sl (as.map (z_cv ext base)) ++ List.replicate (z_nL G y - (lg_sl (as.map (z_cv ext base))).length) Slot.unset).toArray = ls at hl ⊢
  rw [z_cl_args] at hl
  exact ih d y (0, lv_args 0 as, [], P, 0, 0) r P' h (Nat.zero_le _) (Nat.zero_le _) p e s m _ below meth c _ s.heap [] ls hCx rfl rfl (Nat.le_refl _) (Nat.le_refl _) hR va_S.rf hl
set_option maxHeartbeats 8000000 in
theorem z_sim (hOK : z_OK G nm by_ cl aty Ts Ns rs) : ∀ f, z_Sim l G nm by_ cl aty Ts Ns rs D ta ext base f := by
  intro f
  induction f with
  | zero => intro d x q r P' h; cases h
  | succ f ih =>
    intro d x q r P' h hmc hms p e s m args below meth c R H locs ls hC hRc hRs hRf hRl hR hS hl
    obtain ⟨pc, ll, st, P, cn, sn⟩ := q
    have hOK' := hOK
    have hC' := hC
    obtain ⟨o1, -, -, -, -, o6, oL, og, oN, oa, oA, oF, oC, oac, oi⟩ := hOK'
    obtain ⟨hx, hb, hr, hml, hown, hts, hns, hK, hlk, hnm, hX, hbs⟩ := hC'
    have hsz : ls.size = z_nL G x := hl.1
    unfold z_run at h
    split at h
    · cases h
    · -- the end
      rename_i r' hn
      cases h
      unfold z_next at hn
      split at hn
      · cases hn
      · rename_i i hi
        obtain ⟨hd, hlen⟩ := o1 x pc i hi
        split at hn
        · split at hn
          · split at hn <;> cases hn
          · split at hn <;> cases hn
        · split at hn
          · rename_i r2 hret
            cases hn
            refine W.widen hmc hms ?_
            have hz : i.2 = z_len i.1 := hlen.elim (fun ⟨a1, a2, a3, a4, a5⟩ => by rw [a5] at hret; unfold z_ret at hret; cases hret) id
            have k9 := z_sim_ret (p := p) (l := l) (e := e) (R := R) (below := below) (cn := z_mc G x) (sn := z_ms G x) hC hd hz hret hR hS (ls := ls)
            exact k9
          · split at hn <;> cases hn
    · -- a step
      rename_i q' hn
      unfold z_next at hn
      split at hn
      · cases hn
      · rename_i i hi
        split at hn
        · rename_i yk hyk
          split at hn
          · split at hn <;> cases hn
          · split at hn
            · rename_i q2 hq2
              cases hn
              -- Object's constructor, arraycopy
              have hcall : ∃ n, (i.1 = .invokestatic n ∧ z_inv G x n = some yk ∧ yk.2 ≠ 3) ∨ (i.1 = .invokespecial n ∧ z_inv G x n = some yk ∧ yk.2 ≠ 5) := by
                unfold z_call at hyk
                split at hyk
                · rename_i n h3
                  unfold z_only at hyk
                  split at hyk
                  · rename_i q9 hq9
                    split at hyk
                    · rename_i h9
                      cases hyk
                      have : yk.2 = 1 := by simpa using h9
                      omega
                    · cases hyk
                  · cases hyk
                · rename_i n h3
                  unfold z_only at hyk
                  split at hyk
                  · rename_i q9 hq9
                    split at hyk
                    · rename_i h9
                      cases hyk
                      refine ⟨n, Or.inl ⟨h3, hq9, fun h4 => ?_⟩⟩
                      rw [h4] at h9
                      simp at h9
                    · cases hyk
                  · cases hyk
                · rename_i n h3
                  unfold z_only at hyk
                  split at hyk
                  · rename_i q9 hq9
                    split at hyk
                    · rename_i h9
                      cases hyk
                      refine ⟨n, Or.inr ⟨h3, hq9, fun h4 => ?_⟩⟩
                      rw [h4] at h9
                      simp at h9
                    · cases hyk
                  · cases hyk
                · cases hyk
              obtain ⟨n, hcall⟩ := hcall
              obtain ⟨hd, hlen⟩ := o1 x pc i hi
              unfold z_prim at hq2
              split at hq2
              · rename_i h3
                rcases hcall with ⟨-, -, h4⟩ | ⟨hins, hinv, -⟩
                · exact absurd h3 h4
                obtain ⟨-, -, -, -, w3, -⟩ := o6 x n yk.1 yk.2 hinv
                obtain ⟨w31, w32, w33⟩ := w3 h3
                dsimp only at hq2
                split at hq2
                · rename_i a r9
                  split at hq2
                  · rename_i h5
                    cases hq2
                    have hd : decode (by_ x) pc = .ok (.invokespecial n, 3) := by
                      rcases hlen with ⟨a1, a2, a3, a4, a5⟩ | hz
                      · rw [hins] at a5; cases a5
                      · rw [hins] at hz hd; rw [hd, hz]; rfl
                    obtain ⟨h51, h52⟩ := h5
                    have hc9 : ((r9.map (z_cv ext base)).map fun v => v.category).sum ≤ 8 := by rw [z_cat_cv]; exact h52
                    refine W.objInit hx hb hown (hts _ w31) (hts _ w32) (hts _ w33) (g := F0 m pc ls (z_cv ext base (.ref a) :: r9.map (z_cv ext base))) rfl (by rw [hml]; exact hsz) rfl hd (Nat.le_trans h51 hRf) (by show 2 * 0 + _ + 12 ≤ _; omega) ?_
                    exact ih d x (pc + 3, ll, r9, P, cn, sn) r P' h hmc hms p e s m args below meth c R H locs ls hC hRc hRs hRf hRl hR hS hl
                  · cases hq2
                · cases hq2
              · split at hq2
                · rename_i h3n h5
                  rcases hcall with ⟨hins, hinv, -⟩ | ⟨-, -, h4⟩
                  rotate_left
                  · exact absurd h5 h4
                  obtain ⟨-, -, -, -, -, w5⟩ := o6 x n yk.1 yk.2 hinv
                  obtain ⟨w51, w52, w53, w54⟩ := w5 h5
                  split at hq2
                  · rename_i q5 hq5
                    split at hq2
                    · rename_i h6
                      cases hq2
                      obtain ⟨h61, h62⟩ := h6
                      have hd : decode (by_ x) pc = .ok (.invokestatic n, 3) := by
                        rcases hlen with ⟨a1, a2, a3, a4, a5⟩ | hz
                        · rw [hins] at a5; cases a5
                        · rw [hins] at hz hd; rw [hd, hz]; rfl
                      have hn5 : nativeFrameWords "java/lang/System" "arraycopy" 5 + 11 ≤ 60 := by decide +kernel
                      refine z_sim_acp hx hb hml hown hK oa hR hS (fun _ h => h) (hts _ w51) (hts _ w52) (hts _ w53) (hts _ w54) hsz (Nat.le_trans h61 hRf) (by have : ((q5.1).map fun v => v.category).sum ≤ 8 := h62; omega) hd (st' := q5.1) (P' := q5.2) hq5 ?_
                      intro H1 locs1 g1 g2
                      exact ih d x (pc + 3, ll, q5.1, q5.2, cn, sn) r P' h hmc hms p e s m args below meth c R H1 locs1 ls hC hRc hRs hRf hRl g1 g2 hl
                    · cases hq2
                  · cases hq2
                · cases hq2
            · cases hn
        · split at hn
          · cases hn
          · split at hn
            · rename_i q2 hq2
              cases hn
              refine z_sim_step hOK hC hRc hRs hi hq2 hR hS hl ?_
              intro H1 locs1 ls1 g1 g2 g3
              have hbump : q'.2.2.2.2.1 ≤ z_mc G x ∧ q'.2.2.2.2.2 ≤ z_ms G x := by
                have hq3 := hq2
                unfold z_step at hq3
                split at hq3
                · cases hq3; exact ⟨hmc, hms⟩
                split at hq3
                · cases hq3; exact ⟨hmc, hms⟩
                split at hq3
                · cases hq3; exact ⟨hmc, hms⟩
                split at hq3
                · cases hq3; exact ⟨hmc, hms⟩
                split at hq3
                · cases hq3; exact ⟨hmc, hms⟩
                split at hq3
                · unfold z_bump at hq3
                  split at hq3
                  · rename_i h8
                    cases hq3
                    exact h8
                  · cases hq3
                split at hq3
                · cases hq3; exact ⟨hmc, hms⟩
                · cases hq3
              exact ih d x q' r P' h hbump.1 hbump.2 p e s m args below meth c R H1 locs1 ls1 hC hRc hRs hRf hRl g1 g2 g3
            · cases hn
    · -- a call
      rename_i a hn
      unfold z_next at hn
      split at hn
      · cases hn
      · rename_i i hi
        split at hn
        rotate_left
        · split at hn
          · cases hn
          · split at hn <;> cases hn
        · rename_i yk hyk
          split at hn
          rotate_left
          · split at hn <;> cases hn
          · rename_i hkd
            split at hn
            rotate_left
            · cases hn
            · rename_i ar har
              cases hn
              dsimp only at h
              split at h
              rotate_left
              · cases h
              · rename_i o ho
                obtain ⟨y, kd⟩ := yk
                obtain ⟨as, rst⟩ := ar
                obtain ⟨rv, P1⟩ := o
                dsimp only at h ho hkd har
                obtain ⟨hst, hna, hd1, hc8, hnL, hca, hcm, hsm, hk1, hkat⟩ := z_args_spec har
                subst hst
                have hinv : ∃ n, z_inv G x n = some (y, kd) ∧ ((i.1 = .invokestatic n ∧ kd = 0) ∨ (i.1 = .invokevirtual n ∧ kd = 1) ∨ (i.1 = .invokespecial n ∧ kd = 2)) := by
                  unfold z_call at hyk
                  split at hyk
                  · rename_i n h3
                    unfold z_only at hyk
                    split at hyk
                    · rename_i q9 hq9
                      split at hyk
                      · rename_i h9
                        cases hyk
                        exact ⟨n, hq9, Or.inr (Or.inl ⟨h3, by simpa using h9⟩)⟩
                      · cases hyk
                    · cases hyk
                  · rename_i n h3
                    unfold z_only at hyk
                    split at hyk
                    · rename_i q9 hq9
                      split at hyk
                      · rename_i h9
                        cases hyk
                        refine ⟨n, hq9, Or.inl ⟨h3, ?_⟩⟩
                        simp at h9
                        omega
                      · cases hyk
                    · cases hyk
                  · rename_i n h3
                    unfold z_only at hyk
                    split at hyk
                    · rename_i q9 hq9
                      split at hyk
                      · rename_i h9
                        cases hyk
                        refine ⟨n, hq9, Or.inr (Or.inr ⟨h3, ?_⟩)⟩
                        simp at h9
                        omega
                      · cases hyk
                    · cases hyk
                  · cases hyk
                obtain ⟨n, hinv, hkind⟩ := hinv
                obtain ⟨w0, ws0, ws1, ws2, -, -⟩ := o6 x n y kd hinv
                obtain ⟨w01, w02, w03, w04, w05, w06⟩ := w0 hkd
                obtain ⟨hd, hlen⟩ := o1 x pc i hi
                have hM : Met l (nm y) (z_ws G nm by_ Ts y) (z_room G y (d - 1)) (z_Pc cl aty Ns (z_strs G) rs D ta ext base as P) (z_Qc cl D ta ext base rv P1) (z_mc G y) (z_ms G y) (fun q => base ≤ q) := z_met hOK ih w01 hca ho
                have hblind : FrameBlind (z_Pc cl aty Ns (z_strs G) rs D ta ext base as P) := z_blind oN
                have hGood : GoodIn Ts (z_ws G nm by_ Ts y) := fun w hw => by
                  rcases List.mem_cons.mp hw with rfl | hw
                  · exact ⟨w02, good_of_word (og _ w02)⟩
                  · exact ⟨hw, good_of_word (og _ hw)⟩
                have hroom : (z_room G y (d - 1)).frames + 1 ≤ R.frames ∧ 8 + (z_nL G y + 11) + (z_room G y (d - 1)).locals ≤ R.locals := by
                  refine ⟨?_, ?_⟩
                  · show d - 1 + 1 ≤ _
                    omega
                  · show 8 + (z_nL G y + 11) + 100 * (d - 1) ≤ _
                    omega
                have hpre : ∀ U : State, U.heap = H → s.WarmedH U.vm → z_Pc cl aty Ns (z_strs G) rs D ta ext base as P (as.map (z_cv ext base)).toArray U := fun U hU hW =>
                  ⟨rfl, by rw [hU]; exact hR, z_K.moved hW.alike hK, fun w hw => oN w hw s U #[] hW (hns w hw), hX.on hW (fun a h1 h2 => by rw [hU]; exact hS.2.1 a h1 h2)⟩
                have hfix : CallFix p m c (by_ x) (z_nL G x) s args Ts (nm x).cls := ⟨hx, hb, hml, hown, hts⟩
                have hWd : 2 * (F0 m pc ls ((as.reverse ++ rst).map (z_cv ext base))).monitorRoom + ((rst.map (z_cv ext base)).map fun v => v.category).sum ≤ 8 := by
                  show 2 * 0 + _ ≤ 8
                  rw [z_cat_cv]
                  have : ((rst.map fun v => v.category)).sum ≤ 8 := hc8
                  omega
                have hfit : cn + z_mc G y ≤ R.cells ∧ sn + z_ms G y ≤ R.slots := by rw [hRc, hRs]; exact ⟨hcm, hsm⟩
                have back : ∀ aa, va_Run p l e R s m args below meth c H locs cn sn (z_mc G y) (z_ms G y) (F0 m pc ls ((as.reverse ++ rst).map (z_cv ext base))) (rst.map (z_cv ext base)) (z_Qc cl D ta ext base rv P1 aa) (fun q => base ≤ q) →
                    W p l e R s m args below meth c H locs cn sn (MQ below (z_Qc cl D ta ext base r P') args s (z_mc G x) (z_ms G x) (fun q => base ≤ q)) (F0 m pc ls ((as.reverse ++ rst).map (z_cv ext base))) := fun aa hrun => by
                  refine z_sim_back hrun hS ?_
                  intro H1 locs1 g1 g2
                  have k9 := ih d x (pc + 3, ll, rv.toList ++ rst, P1, cn + z_mc G y, sn + z_ms G y) r P' h hcm hsm p e s m args below meth c R H1 locs1 ls hC hRc hRs hRf hRl g1 g2 hl
                  rw [z_toList_map] at k9
                  exact k9
                have hdec : ∀ ins, i.1 = ins → (∀ a1 a2 a3 a4, ins ≠ .tableswitch a1 a2 a3 a4) → z_len ins = 3 → decode (by_ x) pc = .ok (ins, 3) := fun ins h1 h2 h3 => by
                  rcases hlen with ⟨a1, a2, a3, a4, a5⟩ | hz
                  · rw [h1] at a5; exact absurd a5 (h2 _ _ _ _)
                  · rw [h1] at hz hd; rw [hd, hz, h3]
                have hstack : (as.reverse ++ rst).map (z_cv ext base) = (as.map (z_cv ext base)).reverse ++ rst.map (z_cv ext base) := by rw [List.map_append, List.map_reverse]
                rcases hkind with ⟨hins, rfl⟩ | ⟨hins, rfl⟩ | ⟨hins, rfl⟩
                · -- static
                  have hd3 := hdec _ hins (fun _ _ _ _ h => by cases h) rfl
                  have hlen3 : (as.map (z_cv ext base)).length = z_na G y := by rw [List.length_map]; exact hna
                  rcases w06 with w6 | ⟨host, w6⟩
                  · exact back _ (va_runS (n := z_na G y) hfix hM ⟨callB_of (z_na G y) hts hGood rfl rfl rfl (hts _ w03) (hts _ w6) ⟨w04.1, w04.2, w05⟩ hroom, hts _ (ws0 rfl)⟩ ⟨hblind, hpre⟩ rfl hlen3 hsz hstack hWd hd3 hfit)
                  · exact back _ (va_runSN (n := z_na G y) hfix hM ⟨va_cnB (z_na G y) hts hGood rfl rfl rfl (hns _ w6) (hts _ w03) ⟨w04.1, w04.2, w05⟩ hroom, hts _ (ws0 rfl), trivial⟩ ⟨hblind, hpre⟩ rfl hlen3 hsz hstack hWd hd3 hfit)
                · -- on an object
                  have hd3 := hdec _ hins (fun _ _ _ _ h => by cases h) rfl
                  obtain ⟨v1, v2, v3⟩ := ws1 rfl
                  have hat : z_at? G P y 1 as = true := hkat.elim (fun h => by cases h) id
                  unfold z_at? at hat
                  split at hat
                  rotate_left
                  · cases hat
                  · rename_i b As
                    rw [if_pos rfl] at hat
                    split at hat
                    rotate_left
                    · cases hat
                    · rename_i qb hqb
                      have hqt : qb.1 = z_rcv G y := by simpa using hat
                      have hlen3 : (As.map (z_cv ext base)).length = z_na G y - 1 := by
                        have : (Value.ref b :: As).length = z_na G y := hna
                        rw [List.length_map]
                        simp at this
                        omega
                      have hstk : ((Value.ref b :: As).reverse ++ rst).map (z_cv ext base) = (As.map (z_cv ext base)).reverse ++ z_cv ext base (.ref b) :: rst.map (z_cv ext base) := by
                        rw [hstack]; simp
                      obtain ⟨b', hb'⟩ : ∃ b', z_cv ext base (.ref b) = .ref b' := ⟨_, rfl⟩
                      have hrecv : ∃ cellB : Cell, H[b']? = some cellB ∧ cellB.vm.isStatics = false ∧ s.vm.findClass (nm y).cls = some cellB.cls := by
                        rcases z_lk_far hqb with hP | ⟨j, bb, hj, ⟨rfl, hq⟩ | ⟨rfl, hq⟩⟩ | ⟨-, hq⟩
                        rotate_left 3
                        · rw [hq] at hqt
                          rcases v3 with ⟨v31, -⟩ | ⟨v31, -⟩
                          · rw [v31] at hqt; cases hqt
                          · have : (103 : Nat) = z_rcv G y := hqt
                            omega
                        · rcases v3 with ⟨v31, v32⟩ | ⟨v31, r9, v32, v33⟩
                          · -- a near thing can't be a String
                            obtain ⟨r9, hr9, -⟩ := (hR.at hP).1 (by omega)
                            have := (List.getElem?_eq_some_iff.mp hr9).1
                            omega
                          · obtain ⟨r8, hr8, -, cell, g1, g2, g3, g4⟩ := (hR.at hP).1 (by omega)
                            have e1 := hR.near hP
                            rw [hb'] at e1
                            cases e1
                            refine ⟨cell, g1, by rw [g3]; rfl, ?_⟩
                            rw [g2, ← v33, hqt]
                            exact (hK.1 _ _ v32).2.1
                        · have hji : j < (z_strs G).1.length := (List.getElem?_eq_some_iff.mp hj).1
                          rcases v3 with ⟨v31, v32⟩ | ⟨v31, -⟩
                          · obtain ⟨cell, g1, g2, g3, -⟩ := (hX.1.1 j hji).1.kept hS.2.1
                            rw [z_cv_far] at hb'
                            cases hb'
                            exact ⟨cell, g1, g2, by rw [v32]; exact g3⟩
                          · rw [hq] at hqt
                            have : (98 : Nat) = z_rcv G y := hqt
                            omega
                        · rw [hq] at hqt
                          rcases v3 with ⟨v31, -⟩ | ⟨v31, -⟩
                          · rw [v31] at hqt; cases hqt
                          · have : (101 : Nat) = z_rcv G y := hqt
                            omega
                      rw [hb'] at hstk
                      have hpre' : ∀ U : State, U.heap = H → s.WarmedH U.vm → z_Pc cl aty Ns (z_strs G) rs D ta ext base (Value.ref b :: As) P (Value.ref b' :: As.map (z_cv ext base)).toArray U := fun U hU hW => by
                        have := hpre U hU hW
                        rw [List.map_cons, hb'] at this
                        exact this
                      rcases w06 with w6 | ⟨host, w6⟩
                      · exact back _ (va_runV (n := z_na G y - 1) hfix hM ⟨callB_of (z_na G y - 1) hts hGood rfl rfl rfl (hts _ w03) (hts _ w6) ⟨w04.1, w04.2, w05⟩ hroom, hts _ v1, hts _ v2⟩ ⟨hblind, hrecv, hpre'⟩ rfl hlen3 hsz hstk hWd hd3 hfit)
                      · exact back _ (va_runVN (n := z_na G y - 1) hfix hM ⟨va_cnB (z_na G y - 1) hts hGood rfl rfl rfl (hns _ w6) (hts _ w03) ⟨w04.1, w04.2, w05⟩ hroom, hts _ v1, hts _ v2⟩ ⟨hblind, hrecv, hpre'⟩ rfl hlen3 hsz hstk hWd hd3 hfit)
                · -- a constructor
                  have hd3 := hdec _ hins (fun _ _ _ _ h => by cases h) rfl
                  obtain ⟨v1, v2, v3⟩ := ws2 rfl
                  have hat : z_at? G P y 2 as = true := hkat.elim (fun h => by cases h) id
                  unfold z_at? at hat
                  split at hat
                  rotate_left
                  · cases hat
                  · rename_i b As
                    have hlen3 : (As.map (z_cv ext base)).length = z_na G y - 1 := by
                      have : (Value.ref b :: As).length = z_na G y := hna
                      rw [List.length_map]
                      simp at this
                      omega
                    have hstk : ((Value.ref b :: As).reverse ++ rst).map (z_cv ext base) = (As.map (z_cv ext base)).reverse ++ z_cv ext base (.ref b) :: rst.map (z_cv ext base) := by
                      rw [hstack]; simp
                    obtain ⟨b', hb'⟩ : ∃ b', z_cv ext base (.ref b) = .ref b' := ⟨_, rfl⟩
                    rw [hb'] at hstk
                    have hpre' : ∀ U : State, U.heap = H → s.WarmedH U.vm → z_Pc cl aty Ns (z_strs G) rs D ta ext base (Value.ref b :: As) P (Value.ref b' :: As.map (z_cv ext base)).toArray U := fun U hU hW => by
                      have := hpre U hU hW
                      rw [List.map_cons, hb'] at this
                      exact this
                    have hw9 : z_ws G nm by_ Ts y = Cond.code (nm y) (by_ y) (z_nL G y) none :: Ts := by unfold z_ws; rw [v3]
                    rcases w06 with w6 | ⟨host, w6⟩
                    · exact back _ (va_runI (n := z_na G y - 1) hfix hM ⟨callB_of (z_na G y - 1) hts hGood hw9 rfl rfl (hts _ w03) (hts _ w6) ⟨w04.1, w04.2, w05⟩ hroom, v1, hts _ v2⟩ ⟨hblind, hpre'⟩ rfl hlen3 hsz hstk hWd hd3 hfit)
                    · exact back _ (va_runIN (n := z_na G y - 1) hfix hM ⟨va_cnB (z_na G y - 1) hts hGood hw9 rfl rfl (hns _ w6) (hts _ w03) ⟨w04.1, w04.2, w05⟩ hroom, v1, hts _ v2⟩ ⟨hblind, hpre'⟩ rfl hlen3 hsz hstk hWd hd3 hfit)
end ZMN
end
section
/-! A program as tables, and what must be checked of them, by decision, so that the rows above hold of it. -/
section ZTAB
abbrev z_bm (α : Type) : Type := List (Nat × List (Nat × α))
def z_bf {α : Type} : List (Nat × α) → Nat → Option α
  | [], _ => none
  | q :: r, n => if q.1 == n then some q.2 else z_bf r n
def z_bl {α : Type} : z_bm α → Nat → Option α
  | [], _ => none
  | b :: r, n => if Nat.ble n b.1 then z_bf b.2 n else z_bl r n
theorem z_bf_mem {α : Type} : ∀ {b : List (Nat × α)} {n : Nat} {v : α}, z_bf b n = some v → (n, v) ∈ b
  | [], _, _, h => by cases h
  | q :: r, n, v, h => by
    unfold z_bf at h
    split at h
    · rename_i e
      have e' : q.1 = n := by simpa using e
      cases h
      rw [← e']
      exact List.mem_cons_self
    · exact List.mem_cons_of_mem _ (z_bf_mem h)
theorem z_bl_mem {α : Type} : ∀ {m : z_bm α} {n : Nat} {v : α}, z_bl m n = some v → ∃ b ∈ m, (n, v) ∈ b.2
  | [], _, _, h => by cases h
  | b :: r, n, v, h => by
    unfold z_bl at h
    split at h
    · exact ⟨b, List.mem_cons_self, z_bf_mem h⟩
    · obtain ⟨b', h1, h2⟩ := z_bl_mem h
      exact ⟨b', List.mem_cons_of_mem _ h1, h2⟩
def z_bck {α : Type} (f : Nat → α → Bool) (m : z_bm α) : Bool := m.all fun b => b.2.all fun q => f q.1 q.2
theorem z_bck_use {α : Type} {f : Nat → α → Bool} {m : z_bm α} (h : z_bck f m = true) {n : Nat} {v : α} (hv : z_bl m n = some v) : f n v = true := by
  obtain ⟨b, h1, h2⟩ := z_bl_mem hv
  exact List.all_eq_true.mp (List.all_eq_true.mp h b h1) _ h2
/-- a method: name, bytes, (locals, arguments, cells, slots), what it returns, the class if a constructor, the receiver's class, its pool, its code; its kind (0 static, 1 on an object, 2 a constructor) and the places of its words -/
abbrev z_Mr : Type := MethodName × ByteArray × (Nat × Nat × Nat × Nat) × Option FieldType × Option Nat × Nat × Nat × z_bm (Instr × Nat) × (Nat × Nat × Nat × Nat × Nat)
/-- a class's pool: its name; fields (class, place, word); constants (value, word); classes (class, defaults, three words); arrays of objects (kind, two words); arrays of arrays (outer, inner, two words); methods (method, kind, word) -/
abbrev z_Pl : Type := String × z_bm (Nat × Nat × Nat) × z_bm (Value × Nat) × z_bm (Nat × List Value × Nat × Nat × Nat) × z_bm (Nat × Nat × Nat) × z_bm (Nat × Nat × Nat × Nat) × z_bm (Nat × Nat × Nat)
def z_m2 {α : Type} (M : List (List α)) (x : Nat) : Option α := match M[x / 16]? with
  | some r => r[x % 16]?
  | none => none
theorem z_m2_mem {α : Type} {M : List (List α)} {x : Nat} {a : α} (h : z_m2 M x = some a) : ∃ r ∈ M, a ∈ r := by
  unfold z_m2 at h
  split at h
  · rename_i r hr
    exact ⟨r, List.mem_of_getElem? hr, List.mem_of_getElem? h⟩
  · cases h
def z_pl (M : List (List z_Mr)) (PL : List z_Pl) (x : Nat) : Option z_Pl := match z_m2 M x with
  | some r => PL[r.2.2.2.2.2.2.1]?
  | none => none
abbrev z_Ct : Type := String × List (String × String × String × Bool)
def z_noF : String × String × String × Bool := ("", "", "", false)
def z_cl0 (CT : List z_Ct) : List vw_C := CT.map fun q => (q.1, fun k => q.2.getD k z_noF, q.2.length)
def z_mkG (M : List (List z_Mr)) (PL : List z_Pl) (CT : List z_Ct) (FT : List (List FieldType)) (ac : List (Option Nat)) (strs : z_Ss) : z_Pg :=
  (fun x pc => match z_m2 M x with | some r => z_bl r.2.2.2.2.2.2.2.1 pc | none => none,
   fun x n => match z_pl M PL x with | some q => (z_bl q.2.1 n).map fun v => (v.1, v.2.1) | none => none,
   fun x n => match z_pl M PL x with | some q => (z_bl q.2.2.1 n).map fun v => v.1 | none => none,
   fun x n => match z_pl M PL x with | some q => (z_bl q.2.2.2.1 n).map fun v => (v.1, v.2.1) | none => none,
   fun x n => match z_pl M PL x with | some q => (z_bl q.2.2.2.2.1 n).map fun v => v.1 | none => none,
   fun x n => match z_pl M PL x with | some q => (z_bl q.2.2.2.2.2.1 n).map fun v => (v.1, v.2.1) | none => none,
   fun x n => match z_pl M PL x with | some q => (z_bl q.2.2.2.2.2.2 n).map fun v => (v.1, v.2.1) | none => none,
   fun x => match z_m2 M x with | some r => r.2.2.1 | none => (0, 0, 0, 0),
   fun x => match z_m2 M x with | some r => r.2.2.2.1 | none => none,
   fun x => match z_m2 M x with | some r => r.2.2.2.2.1 | none => none,
   fun x => match z_m2 M x with | some r => r.2.2.2.2.2.1 | none => 0,
   fun ci k => (FT.getD ci []).getD k .int,
   fun ci k => ((CT.getD ci ("", [])).2.getD k z_noF).2.2.2,
   fun i => (ac[i]?).join,
   ac.length, strs)
def z_nm (M : List (List z_Mr)) (x : Nat) : MethodName := match z_m2 M x with
  | some r => r.1
  | none => ⟨"", "", ""⟩
def z_bt (M : List (List z_Mr)) (x : Nat) : ByteArray := match z_m2 M x with
  | some r => r.2.1
  | none => ⟨#[]⟩
def z_okDec (b : ByteArray) (pc : Nat) (i : Instr × Nat) : Bool := (match decode b pc with
  | .ok q => decide (q = i)
  | .error _ => false) && (match i.1 with
  | .tableswitch _ _ _ _ => true
  | ins => i.2 == z_len ins)
theorem z_okDec_use {b : ByteArray} {pc : Nat} {i : Instr × Nat} (h : z_okDec b pc i = true) : decode b pc = .ok (i.1, i.2) ∧ ((∃ d lo hi o, i.1 = .tableswitch d lo hi o) ∨ i.2 = z_len i.1) := by
  unfold z_okDec at h
  rw [Bool.and_eq_true] at h
  obtain ⟨h1, h2⟩ := h
  refine ⟨?_, ?_⟩
  · split at h1
    · rename_i q hq
      have : q = i := by simpa using h1
      rw [hq, this]
    · cases h1
  · split at h2
    · rename_i d lo hi o e
      exact Or.inl ⟨d, lo, hi, o, e⟩
    · exact Or.inr (by simpa using h2)
theorem z_tab_code {M : List (List z_Mr)} {PL : List z_Pl} {CT : List z_Ct} {FT : List (List FieldType)} {ac : List (Option Nat)} {strs : z_Ss} (h : ∀ r ∈ M, ∀ q ∈ r, z_bck (z_okDec q.2.1) q.2.2.2.2.2.2.2.1 = true) : z_OKc (z_mkG M PL CT FT ac strs) (z_bt M) := by
  intro x pc i hi
  have hi : (match z_m2 M x with | some r => z_bl r.2.2.2.2.2.2.2.1 pc | none => none) = some i := hi
  unfold z_bt
  split at hi
  · rename_i r hr
    obtain ⟨R, h1, h2⟩ := z_m2_mem hr
    exact z_okDec_use (z_bck_use (h R h1 r h2) hi)
  · cases hi
/-- the words: sels of private methods, the good ones of the tables; the others -/
def z_Ts (sels : List Cond) : List Cond := sels ++ tables_1.filter goodWord
def z_isN : Cond → Bool
  | .fieldLinkNest .. => true
  | .methodLinkNest .. => true
  | .arrayOver (.object _) => true
  | .arrayOver (.array _) => true
  | _ => false
def z_Ns : List Cond := tables_1.filter z_isN
theorem z_inT {sels : List Cond} {i : Nat} {w : Cond} (h : tables_1[i]? = some w) (hg : goodWord w = true) : w ∈ z_Ts sels := List.mem_append_right _ (List.mem_filter.mpr ⟨List.mem_of_getElem? h, hg⟩)
theorem z_inN {i : Nat} {w : Cond} (h : tables_1[i]? = some w) (hg : z_isN w = true) : w ∈ z_Ns := List.mem_filter.mpr ⟨List.mem_of_getElem? h, hg⟩
theorem z_AOA_moved {t : FieldType} {u U : State} {a : Array Value} (hvm : u.vm.Alike U.vm) (h : (Cond.arrayOver (.array t)).before #[] u = true) : (Cond.arrayOver (.array t)).before a U = true := by
  obtain ⟨comp, c, k, h1, h2, h3, h4, h5⟩ := arrayOverA_spec h
  obtain ⟨k', hk', he⟩ := hvm.2.2 _ _ h3
  have hi : (U.vm.classes.findIdx? fun (x : Class) => match x.kind with | .array component _ => component == comp | _ => false) = some c := by
    rw [hvm.findIdx?_eq _ (fun _ => rfl)]
    exact h2
  have hkind : k'.kind = .array comp (.array t) := by rw [he]; exact h4
  have f1 : U.vm.findClass (FieldType.array t).toString = some comp := by rw [hvm.findClass]; exact h1
  have f2 : U.vm.findClass ("[" ++ (FieldType.array t).toString) = some c := by rw [hvm.findClass]; exact h5
  unfold Cond.before Cond.holds
  simp only [Cond.value]
  rw [f1, Option.bind_some]
  refine (congrArg (fun o : Option Nat => (o.bind (fun c => (U.vm.classes[c]?).map fun (k : Class) => match k.kind with | .array _ ty => decide (ty = FieldType.array t) && decide (U.vm.findClass ("[" ++ (FieldType.array t).toString) = some c) | _ => false) == some true)) hi).trans ?_
  simp [hk', hkind, f2]
theorem z_Ns_ok : z_Nok z_Ns := by
  intro w hw s U a hW h
  obtain ⟨-, hN⟩ := List.mem_filter.mp hw
  unfold z_isN at hN
  split at hN
  · exact va_Nw.use rfl (va_Nw.warmF hW h)
  · exact va_Nw.use rfl (va_Nw.warmM hW h)
  · exact va_AO.use (va_AO.moved hW.alike (va_AO.of h))
  · exact z_AOA_moved hW.alike h
  · cases hN
end ZTAB
end
section
section ZCK
def z_isW (w : Nat) (u : Cond) : Bool := decide (tables_1[w]? = some u)
theorem z_isW_use {w : Nat} {u : Cond} (h : z_isW w u = true) : tables_1[w]? = some u := of_decide_eq_true h
/-- a field's entry -/
def z_ckF (CT : List z_Ct) (own : String) (n : Nat) (v : Nat × Nat × Nat) : Bool :=
  if v.1 = 98 then (v.2.1 == 0 && z_isW v.2.2 (.fieldLink own n "java/lang/String" "value" "[B")) || (v.2.1 == 1 && z_isW v.2.2 (.fieldLink own n "java/lang/String" "coder" "B"))
  else match CT[v.1]? with
    | none => false
    | some c => decide (v.2.1 < c.2.length) && (z_isW v.2.2 (.fieldLink own n (c.2.getD v.2.1 z_noF).1 (c.2.getD v.2.1 z_noF).2.1 (c.2.getD v.2.1 z_noF).2.2.1) ||
        ((!(c.2.getD v.2.1 z_noF).2.2.2 || decide ((c.2.getD v.2.1 z_noF).1 ≠ own)) && match tables_1[v.2.2]? with
          | some (.fieldLinkNest o m a b d _) => decide (o = own ∧ m = n ∧ a = (c.2.getD v.2.1 z_noF).1 ∧ b = (c.2.getD v.2.1 z_noF).2.1 ∧ d = (c.2.getD v.2.1 z_noF).2.2.1)
          | _ => false))
/-- a constant's -/
def z_ckC (rs : List (String × Nat × String × Nat)) (own : String) (n : Nat) (v : Value × Nat) : Bool :=
  if 100000 ≤ n then decide (v.1 = .int 1) && z_isW v.2 (.fieldLink own (n - 100000) "java/lang/String" "COMPACT_STRINGS" "Z") else match v.1 with
    | .int x => z_isW v.2 (.constant own n x)
    | .long x => z_isW v.2 (.constantLong own n x)
    | .ref k => rs.any fun r => decide (r.1 = own ∧ r.2.1 = n ∧ k = z_far + 2 * r.2.2.2)
    | _ => false
/-- a class's -/
def z_ckL (CT : List z_Ct) (FT : List (List FieldType)) (own : String) (n : Nat) (v : Nat × List Value × Nat × Nat × Nat) : Bool := match CT[v.1]? with
  | none => false
  | some c => decide ((FT.getD v.1 []).length = c.2.length) && decide (v.2.1 = (FT.getD v.1 []).map defaultValue) && z_isW v.2.2.1 (.classLink own n c.1) && z_isW v.2.2.2.1 (.instantiable c.1 c.2.length) && z_isW v.2.2.2.2 (.initialized c.1)
def z_ckA (aty : List FieldType) (own : String) (n : Nat) (v : Nat × Nat × Nat) : Bool := match aty[v.1]? with
  | some (.object C) => z_isW v.2.1 (.classLink own n C) && z_isW v.2.2 (.arrayOver (.object C))
  | _ => false
def z_ckM (aty : List FieldType) (own : String) (n : Nat) (v : Nat × Nat × Nat × Nat) : Bool := match aty[v.2.1]? with
  | some t => decide (v.2.1 < 5) && decide (aty[v.1]? = some (.array t)) && z_isW v.2.2.1 (.classLink own n ("[" ++ (FieldType.array t).toString)) && z_isW v.2.2.2 (.arrayOver (.array t))
  | none => false
/-- a method's entry at a place of call; gw: the words of Object's constructor and of arraycopy -/
def z_ckI (M : List (List z_Mr)) (own : String) (n : Nat) (v : Nat × Nat × Nat) : Bool :=
  if v.2.1 < 3 then match z_m2 M v.1 with
    | none => false
    | some r => v.2.1 == r.2.2.2.2.2.2.2.2.1 && (z_isW v.2.2 (.methodLink own n r.1) || match tables_1[v.2.2]? with
      | some (.methodLinkNest o m y _) => decide (o = own ∧ m = n ∧ y = r.1)
      | _ => false)
  else if v.2.1 = 3 then z_isW v.2.2 (.methodLink own n Lib.objectInit)
  else if v.2.1 = 5 then z_isW v.2.2 (.methodLink own n arraycopyName)
  else false
/-- a method's own words -/
def z_ckR (CT : List z_Ct) (sels : List Cond) (r : z_Mr) : Bool :=
  plainFor r.1 && z_isW r.2.2.2.2.2.2.2.2.2.1 (.code r.1 r.2.1 r.2.2.1.1 r.2.2.2.1) && z_isW r.2.2.2.2.2.2.2.2.2.2.1 (.initialized r.1.cls) && decide (r.1.cls ≠ "java/lang/invoke/MethodHandle") && decide (r.1.cls ≠ "java/lang/invoke/VarHandle") &&
  decide ((parseMethodDescriptor r.1.desc).map (fun d => d.parameters.length) = some (if r.2.2.2.2.2.2.2.2.1 = 0 then r.2.2.1.2.1 else r.2.2.1.2.1 - 1)) &&
  (if r.2.2.2.2.2.2.2.2.1 = 0 then z_isW r.2.2.2.2.2.2.2.2.2.2.2.1 (.static r.1)
   else if r.2.2.2.2.2.2.2.2.1 = 1 then z_isW r.2.2.2.2.2.2.2.2.2.2.2.1 (.instanceMethod r.1) && (if 100000 ≤ r.2.2.2.2.2.2.2.2.2.2.2.2 then decide (sels[r.2.2.2.2.2.2.2.2.2.2.2.2 - 100000]? = some (.selects r.1.cls r.1 r.1)) else z_isW r.2.2.2.2.2.2.2.2.2.2.2.2 (.selects r.1.cls r.1 r.1)) &&
     (if r.2.2.2.2.2.1 = 98 then decide (r.1.cls = "java/lang/String") else decide (r.2.2.2.2.2.1 < 98) && match CT[r.2.2.2.2.2.1]? with
       | some c => decide (c.1 = r.1.cls)
       | none => false)
   else decide (r.1.name = "<init>") && z_isW r.2.2.2.2.2.2.2.2.2.2.2.1 (.instanceMethod r.1) && decide (r.2.2.2.1 = none))
/-- a method's pool is its class's; a constructor's class has fields of its own alone -/
def z_ckP (PL : List z_Pl) (CT : List z_Ct) (r : z_Mr) : Bool := (match PL[r.2.2.2.2.2.2.1]? with
  | some q => decide (q.1 = r.1.cls)
  | none => true) && match r.2.2.2.2.1 with
  | none => true
  | some ci => match CT[ci]? with
    | some c => decide (r.1.name = "<init>") && c.2.all fun f => decide (f.1 = r.1.cls)
    | none => true
def z_ckPl (M : List (List z_Mr)) (CT : List z_Ct) (FT : List (List FieldType)) (aty : List FieldType) (rs : List (String × Nat × String × Nat)) (q : z_Pl) : Bool :=
  z_bck (z_ckF CT q.1) q.2.1 && z_bck (z_ckC rs q.1) q.2.2.1 && z_bck (z_ckL CT FT q.1) q.2.2.2.1 && z_bck (z_ckA aty q.1) q.2.2.2.2.1 && z_bck (z_ckM aty q.1) q.2.2.2.2.2.1 && z_bck (z_ckI M q.1) q.2.2.2.2.2.2
/-- a class: the types of its fields, their words, their names differ -/
def z_ckCl (c : z_Ct) (ft : List FieldType) (lw : List Nat) : Bool :=
  (List.range c.2.length).all (fun k => decide (parseFieldDescriptor (c.2.getD k z_noF).2.2.1 = some (ft.getD k .int)) && z_isW (lw.getD k 0) (u_lay c.1 (fun k => c.2.getD k z_noF) k)) && decide ((c.2.map fun f => f.2.1).Nodup)
/-- all that is checked beside the code -/
def z_ckAll (M : List (List z_Mr)) (PL : List z_Pl) (CT : List z_Ct) (FT : List (List FieldType)) (LW : List (List Nat)) (ac : List (Option Nat)) (aty : List FieldType) (rs : List (String × Nat × String × Nat)) (sels : List Cond) (gw : Nat × Nat × Nat × Nat × Nat) (aw : Nat × Nat × Nat × Nat × Nat) : Prop :=
  (∀ q ∈ PL, z_ckPl M CT FT aty rs q = true) ∧ (∀ r ∈ M, ∀ q ∈ r, z_ckR CT sels q = true ∨ q.2.2.2.2.2.2.2.2.1 = 9) ∧ (∀ r ∈ M, ∀ q ∈ r, z_ckP PL CT q = true) ∧ ((List.range CT.length).all (fun i => z_ckCl (CT.getD i ("", [])) (FT.getD i []) (LW.getD i [])) = true) ∧
  (decide (CT.length ≤ 98) && sels.all goodWord && decide (aty.length = ac.length) && decide (aty.take 5 = [.boolean, .byte, .char, .int, .long]) && (aty.drop 5).all (fun t => t.isReference) && z_isW aw.1 (.arrayClass .boolean) && z_isW aw.2.1 (.arrayClass .byte) && z_isW aw.2.2.1 (.arrayClass .char) && z_isW aw.2.2.2.1 (.arrayClass .int) && z_isW aw.2.2.2.2 (.arrayClass .long) &&
    (List.range ac.length).all (fun i => match (ac[i]?).join with
      | none => true
      | some ci => match CT[ci]? with
        | some c => decide (aty[i]? = some (.object c.1))
        | none => false) &&
    z_isW gw.1 (.instanceMethod Lib.objectInit) && z_isW gw.2.1 (.code Lib.objectInit ⟨#[0xb1]⟩ 1 none) && z_isW gw.2.2.1 (.native arraycopyName) && z_isW gw.2.2.2.1 (.static arraycopyName) && z_isW gw.2.2.2.2 (.initialized "java/lang/System") = true)
end ZCK
end
section
section ZTO
variable {M : List (List z_Mr)} {PL : List z_Pl} {CT : List z_Ct} {FT : List (List FieldType)} {LW : List (List Nat)} {ac : List (Option Nat)} {aty : List FieldType} {rs : List (String × Nat × String × Nat)} {sels : List Cond} {gw aw : Nat × Nat × Nat × Nat × Nat} {strs : z_Ss}
theorem z_gw {w : Nat} {u : Cond} (h : z_isW w u = true) (hg : goodWord u = true) : u ∈ z_Ts sels := z_inT (z_isW_use h) hg
theorem z_cl_get {ci : Nat} {r : vw_C} (h : (z_cl0 CT)[ci]? = some r) : ∃ c, CT[ci]? = some c ∧ r = (c.1, fun k => c.2.getD k z_noF, c.2.length) := by
  unfold z_cl0 at h
  rw [List.getElem?_map] at h
  cases hc : CT[ci]? with
  | none => rw [hc] at h; cases h
  | some c => rw [hc] at h; exact ⟨c, rfl, (Option.some.inj h).symm⟩
theorem z_cl_put {ci : Nat} {c : z_Ct} (h : CT[ci]? = some c) : (z_cl0 CT)[ci]? = some (c.1, fun k => c.2.getD k z_noF, c.2.length) := by
  unfold z_cl0
  rw [List.getElem?_map, h]
  rfl
theorem z_getD {α : Type} {l : List α} {i : Nat} {a d : α} (h : l[i]? = some a) : l.getD i d = a := by simp [h]
theorem z_own {x : Nat} {q : z_Pl} (h3 : ∀ r ∈ M, ∀ q ∈ r, z_ckP PL CT q = true) (h : z_pl M PL x = some q) : q ∈ PL ∧ q.1 = (z_nm M x).cls := by
  unfold z_pl at h
  split at h
  · rename_i r hr
    obtain ⟨R, g1, g2⟩ := z_m2_mem hr
    have hp := h3 R g1 r g2
    unfold z_ckP at hp
    rw [Bool.and_eq_true, h] at hp
    refine ⟨List.mem_of_getElem? h, ?_⟩
    unfold z_nm
    rw [hr]
    exact of_decide_eq_true hp.1
  · cases h
theorem z_plf {β γ : Type} {x n : Nat} {f : z_Pl → z_bm β} {g : β → γ} {c : γ} (h : (match z_pl M PL x with | some q => (z_bl (f q) n).map g | none => none) = some c) : ∃ q v, z_pl M PL x = some q ∧ z_bl (f q) n = some v ∧ g v = c := by
  split at h
  · rename_i q hq
    obtain ⟨v, h1, h2⟩ := z_map_some h
    exact ⟨q, v, hq, h1, h2⟩
  · cases h
theorem z_lay_good (C : String) (T : u_T) (k : Nat) : goodWord (u_lay C T k) = true := by
  unfold u_lay
  split <;> rfl
set_option maxHeartbeats 4000000 in
theorem z_tab_ok (hcode : ∀ r ∈ M, ∀ q ∈ r, z_bck (z_okDec q.2.1) q.2.2.2.2.2.2.2.1 = true) (hck : z_ckAll M PL CT FT LW ac aty rs sels gw aw) :
    z_OK (z_mkG M PL CT FT ac strs) (z_nm M) (z_bt M) (z_cl0 CT) aty (z_Ts sels) z_Ns rs := by
  obtain ⟨h1, h2, h3, h4, h5⟩ := hck
  simp only [Bool.and_eq_true, decide_eq_true_eq] at h5
  obtain ⟨⟨⟨⟨⟨⟨⟨⟨⟨⟨⟨⟨⟨⟨⟨q1, q2⟩, q3⟩, q4⟩, q5⟩, q6⟩, q7⟩, q8⟩, q9⟩, q10⟩, q11⟩, g1⟩, g2⟩, g3⟩, g4⟩, g5⟩ := h5
  have hcls : ∀ ci c, CT[ci]? = some c → z_ckCl c (FT.getD ci []) (LW.getD ci []) = true := fun ci c hc => by
    have hlt := (List.getElem?_eq_some_iff.mp hc).1
    have := List.all_eq_true.mp h4 ci (List.mem_range.mpr hlt)
    rwa [z_getD hc] at this
  have hfld : ∀ ci c k, CT[ci]? = some c → k < c.2.length → parseFieldDescriptor (c.2.getD k z_noF).2.2.1 = some ((FT.getD ci []).getD k .int) ∧ u_lay c.1 (fun k => c.2.getD k z_noF) k ∈ z_Ts sels := fun ci c k hc hk => by
    have h := hcls ci c hc
    unfold z_ckCl at h
    rw [Bool.and_eq_true] at h
    have h := List.all_eq_true.mp h.1 k (List.mem_range.mpr hk)
    rw [Bool.and_eq_true] at h
    exact ⟨of_decide_eq_true h.1, z_gw h.2 (z_lay_good _ _ _)⟩
  have hat : ∀ i, i < 5 → aty[i]? = ([.boolean, .byte, .char, .int, .long] : List FieldType)[i]? := fun i hi => by
    rw [← q4, List.getElem?_take_of_lt hi]
  refine ⟨z_tab_code hcode, ?_, ?_, ?_, ⟨?_, ?_, ?_, ?_⟩, ?_, ?_⟩
  · -- fields
    intro x n ci k r hf hr
    obtain ⟨q, v, hq, hv, e⟩ := z_plf (f := fun q => q.2.1) (g := fun v => (v.1, v.2.1)) hf
    cases e
    obtain ⟨hqm, hown⟩ := z_own h3 hq
    have hc := h1 q hqm
    unfold z_ckPl at hc
    simp only [Bool.and_eq_true] at hc
    have hc := z_bck_use hc.1.1.1.1.1 hv
    obtain ⟨c, hcc, rfl⟩ := z_cl_get hr
    unfold z_ckF at hc
    have h98 : v.1 ≠ 98 := by
      have := (List.getElem?_eq_some_iff.mp hcc).1
      omega
    rw [if_neg h98, hcc, hown] at hc
    simp only [Bool.and_eq_true, decide_eq_true_eq, Bool.or_eq_true, Bool.not_eq_true'] at hc
    obtain ⟨hk, hw⟩ := hc
    refine ⟨hk, ?_, ?_⟩
    · rcases hw with hw | ⟨-, hw⟩
      · exact Or.inl (z_gw hw rfl)
      · split at hw
        · rename_i o m a b d host he
          obtain ⟨e1, e2, e3, e4, e5⟩ := of_decide_eq_true hw
          subst e1; subst e2; subst e3; subst e4; subst e5
          exact Or.inr ⟨host, z_inN he rfl⟩
        · cases hw
    · intro hfin hini
      rcases hw with hw | ⟨hw, -⟩
      · exact z_gw hw rfl
      · have : ((CT.getD v.1 ("", [])).2.getD v.2.1 z_noF).2.2.2 = true := hfin
        rw [z_getD hcc] at this
        rw [this] at hw
        have hi : (match z_m2 M x with | some r => r.2.2.2.2.1 | none => none) = some v.1 := hini
        split at hi
        · rename_i r9 hr9
          obtain ⟨R, m1, m2⟩ := z_m2_mem hr9
          have h := h3 R m1 r9 m2
          unfold z_ckP at h
          rw [hi] at h
          dsimp only at h
          rw [hcc, Bool.and_eq_true, Bool.and_eq_true] at h
          have enm : z_nm M x = r9.1 := by unfold z_nm; rw [hr9]
          have hd := of_decide_eq_true (List.all_eq_true.mp h.2.2 (c.2[v.2.1]) (List.getElem_mem hk))
          rcases hw with hw | hw
          · cases hw
          · rw [z_getD (List.getElem?_eq_getElem hk), enm] at hw
            exact absurd hd hw
        · cases hi
  · -- Strings' fields
    intro x n k hf
    obtain ⟨q, v, hq, hv, e⟩ := z_plf (f := fun q => q.2.1) (g := fun v => (v.1, v.2.1)) hf
    obtain ⟨e1, e2⟩ := Prod.mk.inj e
    obtain ⟨hqm, hown⟩ := z_own h3 hq
    have hc := h1 q hqm
    unfold z_ckPl at hc
    simp only [Bool.and_eq_true] at hc
    have hc := z_bck_use hc.1.1.1.1.1 hv
    unfold z_ckF at hc
    rw [if_pos e1, hown, e2] at hc
    simp only [Bool.and_eq_true, Bool.or_eq_true, beq_iff_eq] at hc
    rcases hc with ⟨a1, a2⟩ | ⟨a1, a2⟩
    · exact Or.inl ⟨a1, z_gw a2 rfl⟩
    · exact Or.inr ⟨a1, z_gw a2 rfl⟩
  · -- constants
    intro x ins v hv
    have key : ∀ n w, z_cs (z_mkG M PL CT FT ac strs) x n = some w → ∃ wi, z_ckC rs (z_nm M x).cls n (w, wi) = true := fun n w hw => by
      obtain ⟨q, u, hq, hu, e⟩ := z_plf (f := fun q => q.2.2.1) (g := fun v => v.1) hw
      obtain ⟨hqm, hown⟩ := z_own h3 hq
      have hc := h1 q hqm
      unfold z_ckPl at hc
      simp only [Bool.and_eq_true] at hc
      have hc := z_bck_use hc.1.1.1.1.2 hu
      rw [hown] at hc
      exact ⟨u.2, by rw [← e]; exact hc⟩
    have small : ∀ n w, n < 100000 → z_cs (z_mkG M PL CT FT ac strs) x n = some w → (∃ y, w = .int y ∧ Cond.constant (z_nm M x).cls n y ∈ z_Ts sels) ∨ (∃ y, w = .long y ∧ Cond.constantLong (z_nm M x).cls n y ∈ z_Ts sels) ∨ ∃ tx i, w = .ref (z_far + 2 * i) ∧ ((z_nm M x).cls, n, tx, i) ∈ rs := fun n w hn hw => by
      obtain ⟨wi, hc⟩ := key n w hw
      unfold z_ckC at hc
      rw [if_neg (by omega)] at hc
      split at hc
      · rename_i y e
        have e : w = .int y := e
        exact Or.inl ⟨y, e, z_gw hc rfl⟩
      · rename_i y e
        have e : w = .long y := e
        exact Or.inr (Or.inl ⟨y, e, z_gw hc rfl⟩)
      · rename_i k e
        have e : w = .ref k := e
        obtain ⟨r, hr, hd⟩ := List.any_eq_true.mp hc
        obtain ⟨d1, d2, d3⟩ := of_decide_eq_true hd
        refine Or.inr (Or.inr ⟨r.2.2.1, r.2.2.2, by rw [e, d3], ?_⟩)
        rw [← d1, ← d2]
        exact hr
      · cases hc
    cases ins
    case ldc n =>
      obtain ⟨hn, ho, hk⟩ := z_okv_spec hv
      rcases small n v hn ho with h | ⟨y, rfl, -⟩ | h
      · exact Or.inl h
      · cases hk
      · exact Or.inr h
    case ldc_w n =>
      obtain ⟨hn, ho, hk⟩ := z_okv_spec hv
      rcases small n v hn ho with h | ⟨y, rfl, -⟩ | ⟨tx, i, rfl, -⟩
      · exact h
      · cases hk
      · cases hk
    case ldc2_w n =>
      obtain ⟨hn, ho, hk⟩ := z_okv_spec hv
      rcases small n v hn ho with ⟨y, rfl, -⟩ | h | ⟨tx, i, rfl, -⟩
      · cases hk
      · exact h
      · cases hk
    case getstatic n =>
      obtain ⟨wi, hc⟩ := key (n + 100000) v hv
      unfold z_ckC at hc
      rw [if_pos (by omega)] at hc
      simp only [Bool.and_eq_true, decide_eq_true_eq, Nat.add_sub_cancel] at hc
      exact ⟨hc.1, z_gw hc.2 rfl⟩
    all_goals (cases hv)
  · -- classes
    intro x n q9 hf
    obtain ⟨q, v, hq, hv, e⟩ := z_plf (f := fun q => q.2.2.2.1) (g := fun v => (v.1, v.2.1)) hf
    subst e
    obtain ⟨hqm, hown⟩ := z_own h3 hq
    have hc := h1 q hqm
    unfold z_ckPl at hc
    simp only [Bool.and_eq_true] at hc
    have hc := z_bck_use hc.1.1.1.2 hv
    unfold z_ckL at hc
    rw [hown] at hc
    split at hc
    · cases hc
    · rename_i c hcc
      simp only [Bool.and_eq_true, decide_eq_true_eq] at hc
      obtain ⟨⟨⟨⟨a1, a2⟩, a3⟩, a4⟩, a5⟩ := hc
      refine ⟨_, z_cl_put hcc, ?_, fun k hk => ?_, z_gw a3 rfl, z_gw a4 rfl, z_gw a5 rfl⟩
      · show v.2.1.length = c.2.length
        rw [a2, List.length_map, a1]
      · show v.2.1[k]? = some (defaultValue ((FT.getD v.1 []).getD k .int))
        have hk : k < (FT.getD v.1 []).length := by rw [a1]; exact hk
        rw [a2, List.getElem?_map]
        generalize FT.getD v.1 [] = F at hk ⊢
        simp [hk]
  · -- arrays of objects
    intro x n i hf
    obtain ⟨q, v, hq, hv, e⟩ := z_plf (f := fun q => q.2.2.2.2.1) (g := fun v => v.1) hf
    subst e
    obtain ⟨hqm, hown⟩ := z_own h3 hq
    have hc := h1 q hqm
    unfold z_ckPl at hc
    simp only [Bool.and_eq_true] at hc
    have hc := z_bck_use hc.1.1.2 hv
    unfold z_ckA at hc
    rw [hown] at hc
    split at hc
    · rename_i C hC
      simp only [Bool.and_eq_true] at hc
      exact ⟨C, hC, z_gw hc.1 rfl, z_inN (z_isW_use hc.2) rfl⟩
    · cases hc
  · -- arrays of arrays
    intro x n q9 hf
    obtain ⟨q, v, hq, hv, e⟩ := z_plf (f := fun q => q.2.2.2.2.2.1) (g := fun v => (v.1, v.2.1)) hf
    subst e
    obtain ⟨hqm, hown⟩ := z_own h3 hq
    have hc := h1 q hqm
    unfold z_ckPl at hc
    simp only [Bool.and_eq_true] at hc
    have hc := z_bck_use hc.1.2 hv
    unfold z_ckM at hc
    rw [hown] at hc
    split at hc
    · rename_i t ht
      simp only [Bool.and_eq_true, decide_eq_true_eq] at hc
      exact ⟨t, ht, hc.1.1.1, hc.1.1.2, z_gw hc.1.2 rfl, z_inN (z_isW_use hc.2) rfl⟩
    · cases hc
  · -- words of the arrays of numbers
    intro i t hi ht
    rw [hat i hi] at ht
    match i, hi with
    | 0, _ => cases ht; exact z_gw q6 rfl
    | 1, _ => cases ht; exact z_gw q7 rfl
    | 2, _ => cases ht; exact z_gw q8 rfl
    | 3, _ => cases ht; exact z_gw q9 rfl
    | 4, _ => cases ht; exact z_gw q10 rfl
  · -- calls
    intro x n y kd hf
    obtain ⟨q, v, hq, hv, e⟩ := z_plf (f := fun q => q.2.2.2.2.2.2) (g := fun v => (v.1, v.2.1)) hf
    obtain ⟨e1, e2⟩ := Prod.mk.inj e
    obtain ⟨hqm, hown⟩ := z_own h3 hq
    have hc := h1 q hqm
    unfold z_ckPl at hc
    simp only [Bool.and_eq_true] at hc
    have hc := z_bck_use hc.2 hv
    unfold z_ckI at hc
    rw [hown, e1, e2] at hc
    by_cases hkd : kd < 3
    · rw [if_pos hkd] at hc
      split at hc
      · cases hc
      · rename_i r hr
        simp only [Bool.and_eq_true, beq_iff_eq] at hc
        obtain ⟨hk, hw⟩ := hc
        have enm : z_nm M y = r.1 := by unfold z_nm; rw [hr]
        have ebt : z_bt M y = r.2.1 := by unfold z_bt; rw [hr]
        have einf : z_inf (z_mkG M PL CT FT ac strs) y = r.2.2.1 := by
          show (match z_m2 M y with | some r => r.2.2.1 | none => (0, 0, 0, 0)) = _
          rw [hr]
        have erty : z_rty (z_mkG M PL CT FT ac strs) y = r.2.2.2.1 := by
          show (match z_m2 M y with | some r => r.2.2.2.1 | none => none) = _
          rw [hr]
        have ercv : z_rcv (z_mkG M PL CT FT ac strs) y = r.2.2.2.2.2.1 := by
          show (match z_m2 M y with | some r => r.2.2.2.2.2.1 | none => 0) = _
          rw [hr]
        obtain ⟨R, m1, m2⟩ := z_m2_mem hr
        have hcr := (h2 R m1 r m2).resolve_right (by omega)
        unfold z_ckR at hcr
        rw [← hk] at hcr
        simp only [Bool.and_eq_true, decide_eq_true_eq] at hcr
        obtain ⟨⟨⟨⟨⟨⟨c1, c2⟩, c3⟩, c4⟩, c5⟩, c6⟩, c7⟩ := hcr
        unfold z_nL z_na
        rw [enm, ebt, einf, erty, ercv]
        refine ⟨fun _ => ⟨c1, z_gw c2 rfl, z_gw c3 rfl, ⟨c4, c5⟩, c6, ?_⟩, fun h => ?_, fun h => ?_, fun h => ?_, fun h => by omega, fun h => by omega⟩
        · rw [Bool.or_eq_true] at hw
          rcases hw with hw | hw
          · exact Or.inl (z_gw hw rfl)
          · split at hw
            · rename_i o m9 y9 host he
              obtain ⟨d1, d2, d3⟩ := of_decide_eq_true hw
              subst d1; subst d2; subst d3
              exact Or.inr ⟨host, z_inN he rfl⟩
            · cases hw
        · rw [if_pos h] at c7
          exact z_gw c7 rfl
        · rw [if_neg (by omega), if_pos h] at c7
          simp only [Bool.and_eq_true] at c7
          obtain ⟨⟨a1, a2⟩, a3⟩ := c7
          refine ⟨z_gw a1 rfl, ?_, ?_⟩
          · split at a2
            · exact List.mem_append_left _ (List.mem_of_getElem? (of_decide_eq_true a2))
            · exact z_gw a2 rfl
          · split at a3
            · rename_i h98
              exact Or.inl ⟨h98, of_decide_eq_true a3⟩
            · rw [Bool.and_eq_true] at a3
              obtain ⟨b1, b2⟩ := a3
              refine Or.inr ⟨of_decide_eq_true b1, ?_⟩
              split at b2
              · rename_i c hcc
                exact ⟨_, z_cl_put hcc, of_decide_eq_true b2⟩
              · cases b2
        · rw [if_neg (by omega), if_neg (by omega)] at c7
          simp only [Bool.and_eq_true, decide_eq_true_eq] at c7
          exact ⟨c7.1.1, z_gw c7.1.2 rfl, c7.2⟩
    · rw [if_neg hkd] at hc
      refine ⟨fun h => absurd h hkd, fun h => by omega, fun h => by omega, fun h => by omega, fun h => ?_, fun h => ?_⟩
      · rw [if_pos h] at hc
        exact ⟨z_gw hc rfl, z_gw g1 rfl, z_gw g2 rfl⟩
      · rw [if_neg (by omega), if_pos h] at hc
        exact ⟨z_gw hc rfl, z_gw g3 rfl, z_gw g4 rfl, z_gw g5 rfl⟩
  · -- the rest
    refine ⟨by unfold z_cl0; rw [List.length_map]; exact q1, ?_, z_Ns_ok, ⟨hat 0 (by omega), hat 1 (by omega), hat 2 (by omega), hat 3 (by omega), hat 4 (by omega), ?_⟩, q3, ?_, ?_, ?_, ?_⟩
    · intro w hw
      rcases List.mem_append.mp hw with hw | hw
      · exact List.all_eq_true.mp q2 w hw
      · exact (List.mem_filter.mp hw).2
    · intro i t hi ht
      refine List.all_eq_true.mp q5 t ?_
      refine List.mem_of_getElem? (i := i - 5) ?_
      rw [List.getElem?_drop, show 5 + (i - 5) = i by omega]
      exact ht
    · intro ci r k hr hk
      obtain ⟨c, hcc, rfl⟩ := z_cl_get hr
      refine ⟨(hfld ci c k hcc hk).1, ?_⟩
      show ((CT.getD ci ("", [])).2.getD k z_noF).2.2.2 = _
      rw [z_getD hcc]
    · intro ci r hr
      obtain ⟨c, hcc, rfl⟩ := z_cl_get hr
      refine ⟨fun w hw => ?_, ⟨fun k => (FT.getD ci []).getD k .int, fun k hk => (hfld ci c k hcc hk).1⟩, fun a ha b hb hab => ?_⟩
      · obtain ⟨k, hk, rfl⟩ := List.mem_map.mp hw
        exact (hfld ci c k hcc (List.mem_range.mp hk)).2
      · have h := hcls ci c hcc
        unfold z_ckCl at h
        rw [Bool.and_eq_true] at h
        have hnd := of_decide_eq_true h.2
        have ha : a < c.2.length := ha
        have hb : b < c.2.length := hb
        intro he
        have he : (c.2.getD a z_noF).2.1 = (c.2.getD b z_noF).2.1 := he
        have hla : a < (c.2.map fun f => f.2.1).length := by rw [List.length_map]; exact ha
        have hlb : b < (c.2.map fun f => f.2.1).length := by rw [List.length_map]; exact hb
        have e9 : (c.2.map fun f => f.2.1)[a] = (c.2.map fun f => f.2.1)[b] := by simpa [ha, hb] using he
        rcases Nat.lt_or_gt_of_ne hab with h9 | h9
        · exact (List.pairwise_iff_getElem.mp hnd) a b hla hlb h9 e9
        · exact (List.pairwise_iff_getElem.mp hnd) b a hlb hla h9 e9.symm
    · intro i ci hi
      have hi : (ac[i]?).join = some ci := hi
      have hlt : i < ac.length := by
        cases hq : ac[i]? with
        | none => rw [hq] at hi; cases hi
        | some o => exact (List.getElem?_eq_some_iff.mp hq).1
      have h := List.all_eq_true.mp q11 i (List.mem_range.mpr hlt)
      rw [hi] at h
      dsimp only at h
      split at h
      · rename_i c hcc
        exact ⟨_, z_cl_put hcc, of_decide_eq_true h⟩
      · cases h
    · intro x ci r k hi hr hk
      obtain ⟨c, hcc, rfl⟩ := z_cl_get hr
      have hi : (match z_m2 M x with | some r => r.2.2.2.2.1 | none => none) = some ci := hi
      split at hi
      · rename_i r9 hr9
        obtain ⟨R, m1, m2⟩ := z_m2_mem hr9
        have h := h3 R m1 r9 m2
        unfold z_ckP at h
        rw [hi] at h
        dsimp only at h
        rw [hcc, Bool.and_eq_true, Bool.and_eq_true] at h
        have enm : z_nm M x = r9.1 := by unfold z_nm; rw [hr9]
        rw [enm]
        refine ⟨of_decide_eq_true h.2.1, ?_⟩
        have hk : k < c.2.length := hk
        show (c.2.getD k z_noF).1 = _
        have := List.all_eq_true.mp h.2.2 (c.2[k]) (List.getElem_mem hk)
        rw [z_getD (List.getElem?_eq_getElem hk)]
        exact of_decide_eq_true this
      · cases hi
end ZTO
end
section
/-! Runs of the picture, put together from their ends; runs of a pile of frames. -/
section ZRUNS
variable {G : z_Pg}
theorem z_run_mono : ∀ {f d x : Nat} {q : z_S} {o : Option Value × z_H}, z_run G f d x q = some o → z_run G (f + 1) d x q = some o := by
  intro f
  induction f with
  | zero => intro d x q o h; cases h
  | succ f ih =>
    intro d x q o h
    unfold z_run at h ⊢
    split at h
    · cases h
    · exact h
    · exact ih h
    · split at h
      · rename_i o1 h1
        rw [ih h1]
        exact ih h
      · cases h
theorem z_run_le {f g d x : Nat} {q : z_S} {o : Option Value × z_H} (hfg : f ≤ g) (h : z_run G f d x q = some o) : z_run G g d x q = some o := by
  induction hfg with
  | refl => exact h
  | step _ ih => exact z_run_mono ih
theorem z_Runs_ret {d x : Nat} {q : z_S} {r : Option Value} (h : z_next G d x q = some (.inl r)) : z_Runs G d x q r q.2.2.2.1 := ⟨1, by unfold z_run; rw [h]⟩
theorem z_Runs_step {d x : Nat} {q q' : z_S} {r : Option Value} {P' : z_H} (h : z_next G d x q = some (.inr (.inl q'))) (k : z_Runs G d x q' r P') : z_Runs G d x q r P' := by
  obtain ⟨f, hf⟩ := k
  exact ⟨f + 1, by unfold z_run; rw [h]; exact hf⟩
theorem z_Runs_call {d x y : Nat} {as rst : List Value} {q : z_S} {r rv : Option Value} {P1 P' : z_H} (h : z_next G d x q = some (.inr (.inr (y, as, rst)))) (hc : z_Runs G (d - 1) y (0, lv_args 0 as, [], q.2.2.2.1, 0, 0) rv P1)
    (k : z_Runs G d x (q.1 + 3, q.2.1, rv.toList ++ rst, P1, q.2.2.2.2.1 + z_mc G y, q.2.2.2.2.2 + z_ms G y) r P') : z_Runs G d x q r P' := by
  obtain ⟨f1, h1⟩ := hc
  obtain ⟨f2, h2⟩ := k
  refine ⟨max f1 f2 + 1, ?_⟩
  unfold z_run
  rw [h]
  dsimp only
  rw [z_run_le (Nat.le_max_left f1 f2) h1]
  exact z_run_le (Nat.le_max_right f1 f2) h2
theorem z_Runs_one {d x : Nat} {q : z_S} {r r' : Option Value} {P P' : z_H} (h : z_Runs G d x q r P) (h' : z_Runs G d x q r' P') : r = r' ∧ P = P' := by
  obtain ⟨f, h⟩ := h
  obtain ⟨g, h'⟩ := h'
  have := (z_run_le (Nat.le_max_left f g) h).symm.trans (z_run_le (Nat.le_max_right f g) h')
  cases this
  exact ⟨rfl, rfl⟩
/-- a frame: method, pc, locals, stack, cells, slots -/
abbrev z_Fr : Type := Nat × Nat × z_L × List Value × Nat × Nat
def z_fs (f : z_Fr) (P : z_H) : z_S := (f.2.1, f.2.2.1, f.2.2.2.1, P, f.2.2.2.2.1, f.2.2.2.2.2)
/-- a frame behind its call of y -/
def z_fb (G : z_Pg) (g : z_Fr) (r : Option Value) (y : Nat) : z_Fr := (g.1, g.2.1 + 3, g.2.2.1, r.toList ++ g.2.2.2.1, g.2.2.2.2.1 + z_mc G y, g.2.2.2.2.2 + z_ms G y)
/-- the run of a pile: the top frame, then those below (each waits behind its call, its arguments taken) -/
def z_RF (G : z_Pg) : List z_Fr → z_Fr → Nat → z_H → Option Value → z_H → Prop
  | [], f, d, P, r, P' => z_Runs G d f.1 (z_fs f P) r P'
  | g :: rest, f, d, P, r, P' => ∃ r0 P0, z_Runs G d f.1 (z_fs f P) r0 P0 ∧ z_RF G rest (z_fb G g r0 f.1) (d + 1) P0 r P'
theorem z_RF_top {rest : List z_Fr} {f f' : z_Fr} {d : Nat} {P P1 P' : z_H} {r : Option Value} (he : f'.1 = f.1) (hk : ∀ r0 P0, z_Runs G d f'.1 (z_fs f' P1) r0 P0 → z_Runs G d f.1 (z_fs f P) r0 P0) (h : z_RF G rest f' d P1 r P') : z_RF G rest f d P r P' := by
  cases rest with
  | nil => exact hk _ _ h
  | cons g rest =>
    obtain ⟨r0, P0, h1, h2⟩ := h
    exact ⟨r0, P0, hk _ _ h1, by rw [← he]; exact h2⟩
theorem z_RF_step {rest : List z_Fr} {f : z_Fr} {q : z_S} {d : Nat} {P P' : z_H} {r : Option Value} (hn : z_next G d f.1 (z_fs f P) = some (.inr (.inl q))) (h : z_RF G rest (f.1, q.1, q.2.1, q.2.2.1, q.2.2.2.2.1, q.2.2.2.2.2) d q.2.2.2.1 r P') : z_RF G rest f d P r P' :=
  z_RF_top (f' := (f.1, q.1, q.2.1, q.2.2.1, q.2.2.2.2.1, q.2.2.2.2.2)) (P1 := q.2.2.2.1) rfl (fun _ _ k => z_Runs_step hn k) h
theorem z_RF_call {rest : List z_Fr} {f : z_Fr} {y d : Nat} {as rst : List Value} {P P' : z_H} {r : Option Value} (hd : 1 ≤ d) (hn : z_next G d f.1 (z_fs f P) = some (.inr (.inr (y, as, rst))))
    (h : z_RF G ((f.1, f.2.1, f.2.2.1, rst, f.2.2.2.2.1, f.2.2.2.2.2) :: rest) (y, 0, lv_args 0 as, [], 0, 0) (d - 1) P r P') : z_RF G rest f d P r P' := by
  obtain ⟨r0, P0, h1, h2⟩ := h
  rw [show d - 1 + 1 = d by omega] at h2
  exact z_RF_top (f' := z_fb G (f.1, f.2.1, f.2.2.1, rst, f.2.2.2.2.1, f.2.2.2.2.2) r0 y) rfl (fun _ _ k => z_Runs_call hn h1 k) h2
theorem z_RF_ret {rest : List z_Fr} {f g : z_Fr} {d : Nat} {P P' : z_H} {r r0 : Option Value} (hn : z_next G d f.1 (z_fs f P) = some (.inl r0)) (h : z_RF G rest (z_fb G g r0 f.1) (d + 1) P r P') : z_RF G (g :: rest) f d P r P' :=
  ⟨r0, P, z_Runs_ret hn, h⟩
theorem z_RF_end {f : z_Fr} {d : Nat} {P : z_H} {r0 : Option Value} (hn : z_next G d f.1 (z_fs f P) = some (.inl r0)) : z_RF G [] f d P r0 P := z_Runs_ret hn
end ZRUNS
end
section
/-! Intervals of ints and longs, and what the operations do to them. -/
section ZIVL
abbrev z_I : Type := Int × Int
def z_top32 : z_I := (-2147483648, 2147483647)
def z_top64 : z_I := (-9223372036854775808, 9223372036854775807)
def z_in32 (t : z_I) (x : Int32) : Prop := t.1 ≤ x.toInt ∧ x.toInt ≤ t.2
def z_in64 (t : z_I) (x : Int64) : Prop := t.1 ≤ x.toInt ∧ x.toInt ≤ t.2
theorem z_t32 (x : Int32) : z_in32 z_top32 x := by
  have h1 := x.le_toInt
  have h2 := x.toInt_lt
  unfold z_in32 z_top32
  constructor <;> dsimp only <;> omega
theorem z_t64 (x : Int64) : z_in64 z_top64 x := by
  have h1 := x.le_toInt
  have h2 := x.toInt_lt
  unfold z_in64 z_top64
  constructor <;> dsimp only <;> omega
/-- an interval of whole numbers as one of ints: all of them where it leaves the range -/
def z_r32 (lo hi : Int) : z_I := if -2147483648 ≤ lo ∧ hi ≤ 2147483647 then (lo, hi) else z_top32
def z_r64 (lo hi : Int) : z_I := if -9223372036854775808 ≤ lo ∧ hi ≤ 9223372036854775807 then (lo, hi) else z_top64
theorem z_r32_in {lo hi n : Int} {x : Int32} (hx : x.toInt = n.bmod (2 ^ 32)) (h1 : lo ≤ n) (h2 : n ≤ hi) : z_in32 (z_r32 lo hi) x := by
  unfold z_r32
  split
  · rename_i h
    have : n.bmod (2 ^ 32) = n := by
      unfold Int.bmod
      simp only [Nat.reducePow]
      omega
    unfold z_in32
    rw [hx, this]
    exact ⟨h1, h2⟩
  · exact z_t32 x
theorem z_r64_in {lo hi n : Int} {x : Int64} (hx : x.toInt = n.bmod (2 ^ 64)) (h1 : lo ≤ n) (h2 : n ≤ hi) : z_in64 (z_r64 lo hi) x := by
  unfold z_r64
  split
  · rename_i h
    have : n.bmod (2 ^ 64) = n := by
      unfold Int.bmod
      simp only [Nat.reducePow]
      omega
    unfold z_in64
    rw [hx, this]
    exact ⟨h1, h2⟩
  · exact z_t64 x
def z_one (t : z_I) : Bool := t.1 == t.2
theorem z_one32 {t : z_I} {x : Int32} (h : z_one t = true) (hx : z_in32 t x) : x = Int32.ofInt t.1 := by
  have e : t.1 = t.2 := by simpa [z_one] using h
  have e2 : x.toInt = t.1 := by
    obtain ⟨h1, h2⟩ := hx
    omega
  rw [← e2]
  exact (Int32.ofInt_toInt x).symm
theorem z_one64 {t : z_I} {x : Int64} (h : z_one t = true) (hx : z_in64 t x) : x = Int64.ofInt t.1 := by
  have e : t.1 = t.2 := by simpa [z_one] using h
  have e2 : x.toInt = t.1 := by
    obtain ⟨h1, h2⟩ := hx
    omega
  rw [← e2]
  exact (Int64.ofInt_toInt x).symm
def z_mul (a b : z_I) : z_I := if 0 ≤ b.1 ∧ b.1 = b.2 then (a.1 * b.1, a.2 * b.1) else if 0 ≤ a.1 ∧ a.1 = a.2 then (b.1 * a.1, b.2 * a.1) else if 0 ≤ a.1 ∧ 0 ≤ b.1 then (a.1 * b.1, a.2 * b.2) else
  let m := max (max (-a.1) a.2) 0 * max (max (-b.1) b.2) 0
  (-m, m)
theorem z_mul_in {a b : z_I} {x y : Int} (h1 : a.1 ≤ x) (h2 : x ≤ a.2) (h3 : b.1 ≤ y) (h4 : y ≤ b.2) : (z_mul a b).1 ≤ x * y ∧ x * y ≤ (z_mul a b).2 := by
  unfold z_mul
  split
  · rename_i h
    have hy : y = b.1 := by omega
    subst hy
    exact ⟨Int.mul_le_mul_of_nonneg_right h1 h.1, Int.mul_le_mul_of_nonneg_right h2 h.1⟩
  split
  · rename_i h
    have hx : x = a.1 := by omega
    subst hx
    rw [Int.mul_comm a.1 y]
    exact ⟨Int.mul_le_mul_of_nonneg_right h3 h.1, Int.mul_le_mul_of_nonneg_right h4 h.1⟩
  split
  · rename_i h
    exact ⟨Int.mul_le_mul h1 h3 h.2 (by omega), Int.mul_le_mul h2 h4 (by omega) (by omega)⟩
  · dsimp only
    have hA : -(max (max (-a.1) a.2) 0) ≤ x ∧ x ≤ max (max (-a.1) a.2) 0 := by omega
    have hB : -(max (max (-b.1) b.2) 0) ≤ y ∧ y ≤ max (max (-b.1) b.2) 0 := by omega
    generalize max (max (-a.1) a.2) 0 = A at hA
    generalize max (max (-b.1) b.2) 0 = B at hB
    have hA0 : 0 ≤ A := by omega
    have hB0 : 0 ≤ B := by omega
    have k1 : 0 ≤ (A - x) * (B + y) + (A + x) * (B - y) := Int.add_nonneg (Int.mul_nonneg (by omega) (by omega)) (Int.mul_nonneg (by omega) (by omega))
    have k2 : 0 ≤ (A - x) * (B - y) + (A + x) * (B + y) := Int.add_nonneg (Int.mul_nonneg (by omega) (by omega)) (Int.mul_nonneg (by omega) (by omega))
    have e1 : (A - x) * (B + y) + (A + x) * (B - y) = 2 * (A * B) - 2 * (x * y) := by
      simp only [Int.sub_mul, Int.add_mul, Int.mul_add, Int.mul_sub]
      omega
    have e2 : (A - x) * (B - y) + (A + x) * (B + y) = 2 * (A * B) + 2 * (x * y) := by
      simp only [Int.sub_mul, Int.add_mul, Int.mul_add, Int.mul_sub]
      omega
    omega
def z_and (a b : z_I) : z_I := if 0 ≤ a.1 then (if 0 ≤ b.1 then (0, min a.2 b.2) else (0, a.2)) else if 0 ≤ b.1 then (0, b.2) else z_top32
/-- two ints: the second divides -/
def z_div (a b : z_I) : Option z_I := if 1 ≤ b.1 then (if b.1 = b.2 then some (a.1.tdiv b.1, a.2.tdiv b.1) else some (min a.1 0, max a.2 0)) else if b.2 ≤ -1 then some z_top32 else none
def z_rem (a b : z_I) : Option z_I := if (z_one a && z_one b && decide (1 ≤ b.1)) = true then some ((Int32.ofInt a.1 - Int32.ofInt a.1 / Int32.ofInt b.1 * Int32.ofInt b.1).toInt, (Int32.ofInt a.1 - Int32.ofInt a.1 / Int32.ofInt b.1 * Int32.ofInt b.1).toInt) else if 1 ≤ b.1 then (if 0 ≤ a.1 then some (0, min a.2 (b.2 - 1)) else some z_top32) else if b.2 ≤ -1 then some z_top32 else none
theorem z_and_in {a b : z_I} {x y : Int32} (hx : z_in32 a x) (hy : z_in32 b y) : z_in32 (z_and a b) (x &&& y) := by
  have key : ∀ u v : Int32, 0 ≤ u.toInt → 0 ≤ (u &&& v).toInt ∧ (u &&& v).toInt ≤ u.toInt := by
    intro u v hu
    have hu' : ¬ u < 0 := fun q => by
      rw [Int32.lt_iff_toInt_lt] at q
      have : (0 : Int32).toInt = 0 := by decide
      omega
    have e1 : (u &&& v).toBitVec.toNat ≤ u.toBitVec.toNat := by
      rw [Int32.toBitVec_and, BitVec.toNat_and]
      exact Nat.and_le_left
    have e2 : u.toBitVec.toNat < 2 ^ 31 := by
      have : u.toInt = u.toBitVec.toInt := rfl
      rw [this, BitVec.toInt_eq_toNat_cond] at hu
      split at hu <;> omega
    have e3 : (u &&& v).toInt = ((u &&& v).toBitVec.toNat : Int) := by
      have : (u &&& v).toInt = (u &&& v).toBitVec.toInt := rfl
      rw [this, BitVec.toInt_eq_toNat_cond]
      split <;> omega
    have e4 : u.toInt = (u.toBitVec.toNat : Int) := by
      have : u.toInt = u.toBitVec.toInt := rfl
      rw [this, BitVec.toInt_eq_toNat_cond]
      split <;> omega
    omega
  obtain ⟨h1, h2⟩ := hx
  obtain ⟨h3, h4⟩ := hy
  unfold z_and
  split
  · split
    · obtain ⟨k1, k2⟩ := key x y (by omega)
      have hc : x &&& y = y &&& x := Int32.and_comm x y
      obtain ⟨k3, k4⟩ := key y x (by omega)
      rw [← hc] at k4
      exact ⟨k1, by show _ ≤ min a.2 b.2; omega⟩
    · obtain ⟨k1, k2⟩ := key x y (by omega)
      exact ⟨k1, by show _ ≤ a.2; omega⟩
  · split
    · have hc : x &&& y = y &&& x := Int32.and_comm x y
      obtain ⟨k3, k4⟩ := key y x (by omega)
      rw [hc]
      exact ⟨k3, by show _ ≤ b.2; omega⟩
    · exact z_t32 _
theorem z_div_in {a b r : z_I} {x y : Int32} (hx : z_in32 a x) (hy : z_in32 b y) (h : z_div a b = some r) : ¬ y = 0 ∧ z_in32 r (x / y) := by
  obtain ⟨h1, h2⟩ := hx
  obtain ⟨h3, h4⟩ := hy
  have hne : 1 ≤ b.1 ∨ b.2 ≤ -1 → ¬ y = 0 := by
    intro h9 q
    subst q
    have : (0 : Int32).toInt = 0 := by decide
    omega
  unfold z_div at h
  split at h
  · rename_i hb
    refine ⟨hne (Or.inl hb), ?_⟩
    have hd : (x / y).toInt = (x.toInt.tdiv y.toInt).bmod (2 ^ 32) := Int32.toInt_div x y
    have hx1 := x.le_toInt
    have hx2 := x.toInt_lt
    have bnd : min x.toInt 0 ≤ x.toInt.tdiv y.toInt ∧ x.toInt.tdiv y.toInt ≤ max x.toInt 0 := by
      have hy1 : 1 ≤ y.toInt := by omega
      rcases Int.le_total 0 x.toInt with hp | hp
      · have g1 := Int.tdiv_nonneg hp (by omega : (0 : Int) ≤ y.toInt)
        have g2 := Int.tdiv_le_self y.toInt hp
        omega
      · have hp' : 0 ≤ -x.toInt := by omega
        have g1 := Int.tdiv_nonneg hp' (by omega : (0 : Int) ≤ y.toInt)
        have g2 := Int.tdiv_le_self y.toInt hp'
        rw [Int.neg_tdiv] at g1 g2
        omega
    have hbm : (x.toInt.tdiv y.toInt).bmod (2 ^ 32) = x.toInt.tdiv y.toInt := by
      unfold Int.bmod
      simp only [Nat.reducePow]
      omega
    split at h
    · rename_i hc
      cases h
      have hy2 : y.toInt = b.1 := by omega
      unfold z_in32
      rw [hd, hbm, hy2]
      exact ⟨Int.tdiv_le_tdiv (by omega) h1, Int.tdiv_le_tdiv (by omega) h2⟩
    · cases h
      unfold z_in32
      rw [hd, hbm]
      refine ⟨?_, ?_⟩
      · show min a.1 0 ≤ _
        omega
      · show _ ≤ max a.2 0
        omega
  · split at h
    · rename_i hb
      cases h
      exact ⟨hne (Or.inr hb), z_t32 _⟩
    · cases h
theorem z_rem_in {a b r : z_I} {x y : Int32} (hx : z_in32 a x) (hy : z_in32 b y) (h : z_rem a b = some r) : ¬ y = 0 ∧ z_in32 r (x - x / y * y) := by
  obtain ⟨h1, h2⟩ := hx
  obtain ⟨h3, h4⟩ := hy
  have hne : 1 ≤ b.1 ∨ b.2 ≤ -1 → ¬ y = 0 := by
    intro h9 q
    subst q
    have : (0 : Int32).toInt = 0 := by decide
    omega
  unfold z_rem at h
  split at h
  · rename_i hc
    simp only [Bool.and_eq_true, decide_eq_true_eq] at hc
    cases h
    have ex := z_one32 hc.1.1 (x := x) ⟨h1, h2⟩
    have ey := z_one32 hc.1.2 (x := y) ⟨h3, h4⟩
    rw [← ex, ← ey]
    exact ⟨hne (Or.inl hc.2), Int.le_refl _, Int.le_refl _⟩
  split at h
  · rename_i hb
    refine ⟨hne (Or.inl hb), ?_⟩
    split at h
    · rename_i ha
      cases h
      have nn : ∀ u : Int32, 0 ≤ u.toInt → ∃ n : Nat, n < 2 ^ 31 ∧ u = nI n := fun u hu => by
        have : ¬ u < 0 := fun q => by
          rw [Int32.lt_iff_toInt_lt] at q
          have : (0 : Int32).toInt = 0 := by decide
          omega
        exact nI_of this
      obtain ⟨n, hn, rfl⟩ := nn x (by omega)
      obtain ⟨k, hk, rfl⟩ := nn y (by omega)
      rw [nI_toInt hn] at h1 h2
      rw [nI_toInt hk] at h3 h4
      have hk0 : 0 < k := by omega
      rw [pk_rem hn hk0 hk]
      have hm := Nat.mod_lt n hk0
      have hm2 := Nat.mod_le n k
      unfold z_in32
      rw [nI_toInt (by omega)]
      refine ⟨by show (0 : Int) ≤ _; omega, ?_⟩
      show _ ≤ min a.2 (b.2 - 1)
      omega
    · cases h
      exact z_t32 _
  · split at h
    · rename_i hb
      cases h
      exact ⟨hne (Or.inr hb), z_t32 _⟩
    · cases h
end ZIVL
end
section
/-! Abstract values, cells, frames and states, and what they stand for. -/
section ZABS
/-- a number: an identity (0: none), how far it lies from the identity's value, its interval -/
abbrev z_tk : Type := Nat × Int × Int × Int × Int
def z_lo (t : z_tk) : Int := t.2.2.2.1
def z_hi (t : z_tk) : Int := t.2.2.2.2
def z_iv (t : z_tk) : z_I := (t.2.2.2.1, t.2.2.2.2)
def z_tc (c : Int) : z_tk := (0, 0, 0, c, c)
def z_ti (i : z_I) : z_tk := (0, 0, 0, i.1, i.2)
/-- a value: an int, a long, a reference (null or one of some cells) -/
abbrev z_av : Type := z_tk ⊕ (z_tk ⊕ (Bool × List Nat))
def z_gi (N : List Int) (t : z_tk) (v : Int) : Prop := z_lo t ≤ v ∧ v ≤ z_hi t ∧ (t.1 = 0 ∨ ∃ w, N[t.1]? = some w ∧ w + t.2.1 ≤ v ∧ v ≤ w + t.2.2.1)
def z_gv (N : List Int) (al : Nat → Option Nat) : z_av → Value → Prop
  | .inl t, v => ∃ x : Int32, v = .int x ∧ z_gi N t x.toInt
  | .inr (.inl t), v => ∃ x : Int64, v = .long x ∧ z_gi N t x.toInt
  | .inr (.inr t), v => (v = .null ∧ t.1 = true) ∨ ∃ a c, v = .ref a ∧ al a = some c ∧ c ∈ t.2
/-- more identities, more cells -/
def z_le (N N' : List Int) (al al' : Nat → Option Nat) : Prop := (∃ X, N' = N ++ X) ∧ ∀ a c, al a = some c → al' a = some c
theorem z_le.rf {N : List Int} {al : Nat → Option Nat} : z_le N N al al := ⟨⟨[], by simp⟩, fun _ _ h => h⟩
theorem z_gi.mono {N N' : List Int} {t : z_tk} {v : Int} (h : z_gi N t v) (hN : ∃ X, N' = N ++ X) : z_gi N' t v := by
  obtain ⟨h1, h2, h3⟩ := h
  obtain ⟨X, rfl⟩ := hN
  refine ⟨h1, h2, h3.imp id ?_⟩
  rintro ⟨w, e, h4⟩
  exact ⟨w, by rw [List.getElem?_append_left (List.getElem?_eq_some_iff.mp e).1]; exact e, h4⟩
theorem z_gv.mono {N N' : List Int} {al al' : Nat → Option Nat} (hle : z_le N N' al al') : ∀ {t : z_av} {v : Value}, z_gv N al t v → z_gv N' al' t v
  | .inl _, _, ⟨x, e, h⟩ => ⟨x, e, h.mono hle.1⟩
  | .inr (.inl _), _, ⟨x, e, h⟩ => ⟨x, e, h.mono hle.1⟩
  | .inr (.inr _), _, Or.inl h => Or.inl h
  | .inr (.inr _), _, Or.inr ⟨a, c, e, h1, h2⟩ => Or.inr ⟨a, c, e, hle.2 _ _ h1, h2⟩
/-- lists, pointwise -/
def z_all2 {α β : Type} (R : α → β → Prop) : List α → List β → Prop
  | [], [] => True
  | a :: as, b :: bs => R a b ∧ z_all2 R as bs
  | _, _ => False
theorem z_all2.mono {α β : Type} {R S : α → β → Prop} (h : ∀ a b, R a b → S a b) : ∀ {as : List α} {bs : List β}, z_all2 R as bs → z_all2 S as bs
  | [], [], _ => trivial
  | _ :: _, _ :: _, ⟨h1, h2⟩ => ⟨h _ _ h1, h2.mono h⟩
  | [], _ :: _, h => h.elim
  | _ :: _, [], h => h.elim
theorem z_all2.len {α β : Type} {R : α → β → Prop} : ∀ {as : List α} {bs : List β}, z_all2 R as bs → as.length = bs.length
  | [], [], _ => rfl
  | _ :: _, _ :: _, ⟨_, h2⟩ => by simp [h2.len]
  | [], _ :: _, h => h.elim
  | _ :: _, [], h => h.elim
theorem z_all2.get {α β : Type} {R : α → β → Prop} : ∀ {as : List α} {bs : List β} {i : Nat} {a : α}, z_all2 R as bs → as[i]? = some a → ∃ b, bs[i]? = some b ∧ R a b
  | _ :: _, _ :: _, 0, _, ⟨h1, _⟩, e => by cases e; exact ⟨_, rfl, h1⟩
  | _ :: as, _ :: bs, i + 1, _, ⟨_, h2⟩, e => by
    obtain ⟨b, h3, h4⟩ := h2.get (i := i) (by simpa using e)
    exact ⟨b, by simpa using h3, h4⟩
  | [], [], _, _, _, e => by simp at e
  | [], _ :: _, _, _, h, _ => h.elim
  | _ :: _, [], _, _, h, _ => h.elim
theorem z_all2.getb {α β : Type} {R : α → β → Prop} : ∀ {as : List α} {bs : List β} {i : Nat} {b : β}, z_all2 R as bs → bs[i]? = some b → ∃ a, as[i]? = some a ∧ R a b
  | _ :: _, _ :: _, 0, _, ⟨h1, _⟩, e => by cases e; exact ⟨_, rfl, h1⟩
  | _ :: as, _ :: bs, i + 1, _, ⟨_, h2⟩, e => by
    obtain ⟨b, h3, h4⟩ := h2.getb (i := i) (by simpa using e)
    exact ⟨b, by simpa using h3, h4⟩
  | [], [], _, _, _, e => by simp at e
  | [], _ :: _, _, _, h, _ => h.elim
  | _ :: _, [], _, _, h, _ => h.elim
theorem z_all2.set {α β : Type} {R : α → β → Prop} : ∀ {as : List α} {bs : List β} {i : Nat} {a : α} {b : β}, z_all2 R as bs → R a b → z_all2 R (as.set i a) (bs.set i b)
  | [], [], _, _, _, _, _ => trivial
  | _ :: _, _ :: _, 0, _, _, ⟨_, h2⟩, h => ⟨h, h2⟩
  | _ :: _, _ :: _, i + 1, _, _, ⟨h1, h2⟩, h => ⟨h1, h2.set h⟩
  | [], _ :: _, _, _, _, h, _ => h.elim
  | _ :: _, [], _, _, _, h, _ => h.elim
theorem z_all2.map {α β : Type} {R S : α → β → Prop} {f : α → α} (h : ∀ a b, R a b → S (f a) b) : ∀ {as : List α} {bs : List β}, z_all2 R as bs → z_all2 S (as.map f) bs
  | [], [], _ => trivial
  | _ :: _, _ :: _, ⟨h1, h2⟩ => ⟨h _ _ h1, h2.map h⟩
  | [], _ :: _, h => h.elim
  | _ :: _, [], h => h.elim
/-- a cell: tag, (stands for one alone, is a near one), its length where all its places are told by one value, its values -/
abbrev z_ac_ : Type := Nat × (Bool × Bool) × Option Nat × List z_av
def z_gc (N : List Int) (al : Nat → Option Nat) (A : z_ac_) (q : z_C) : Prop := A.1 = q.1 ∧ match A.2.2.1 with
  | none => z_all2 (z_gv N al) A.2.2.2 q.2
  | some n => q.2.length = n ∧ ∃ t, A.2.2.2 = [t] ∧ ∀ v ∈ q.2, z_gv N al t v
theorem z_gc.mono {N N' : List Int} {al al' : Nat → Option Nat} (hle : z_le N N' al al') {A : z_ac_} {q : z_C} (h : z_gc N al A q) : z_gc N' al' A q := by
  obtain ⟨h1, h2⟩ := h
  refine ⟨h1, ?_⟩
  split at h2
  · exact h2.mono fun _ _ k => k.mono hle
  · obtain ⟨h3, t, h4, h5⟩ := h2
    exact ⟨h3, t, h4, fun v hv => (h5 v hv).mono hle⟩
/-- the heap -/
def z_gh (strs : z_Ss) (N : List Int) (al : Nat → Option Nat) (AH : List z_ac_) (P : z_H) : Prop :=
  ∀ a c, al a = some c → ∃ q A, z_lk strs P a = some q ∧ AH[c]? = some A ∧ z_gc N al A q ∧ (A.2.1.1 = true → ∀ b, al b = some c → b = a) ∧ (A.2.1.2 = true → a < z_far)
/-- the locals: what is known of them -/
def z_aget : List (Nat × z_av) → Nat → Option z_av
  | [], _ => none
  | q :: r, i => if q.1 == i then some q.2 else z_aget r i
def z_gl (N : List Int) (al : Nat → Option Nat) (L : List (Nat × z_av)) (l : z_L) : Prop := ∀ i t, z_aget L i = some t → ∃ v, z_get l i = some v ∧ z_gv N al t v
/-- a frame: method, pc, locals, stack, cells, slots -/
abbrev z_af : Type := Nat × Nat × List (Nat × z_av) × List z_av × Nat × Nat
def z_gf_ (N : List Int) (al : Nat → Option Nat) (F : z_af) (f : z_Fr) : Prop := F.1 = f.1 ∧ F.2.1 = f.2.1 ∧ z_gl N al F.2.2.1 f.2.2.1 ∧ z_all2 (z_gv N al) F.2.2.2.1 f.2.2.2.1 ∧ F.2.2.2.2.1 = f.2.2.2.2.1 ∧ F.2.2.2.2.2 = f.2.2.2.2.2
theorem z_gf_.mono {N N' : List Int} {al al' : Nat → Option Nat} (hle : z_le N N' al al') {F : z_af} {f : z_Fr} (h : z_gf_ N al F f) : z_gf_ N' al' F f := by
  obtain ⟨h1, h2, h3, h4, h5⟩ := h
  exact ⟨h1, h2, fun i t e => by
    obtain ⟨v, g1, g2⟩ := h3 i t e
    exact ⟨v, g1, g2.mono hle⟩, h4.mono fun _ _ k => k.mono hle, h5⟩
/-- a state: the top frame, those below, the heap, the next identity, what is known of two identities: one and a number are at most the other; how many cells there are at most -/
abbrev z_as_ : Type := z_af × List z_af × List z_ac_ × Nat × List (Nat × Nat × Int) × Nat
def z_gx (N : List Int) (F : List (Nat × Nat × Int)) : Prop := ∀ q ∈ F, ∃ a b, N[q.1]? = some a ∧ N[q.2.1]? = some b ∧ a + q.2.2 ≤ b
theorem z_gx.mono {N N' : List Int} {F : List (Nat × Nat × Int)} (h : z_gx N F) (hN : ∃ X, N' = N ++ X) : z_gx N' F := by
  intro q hq
  obtain ⟨X, rfl⟩ := hN
  obtain ⟨a, b, h1, h2, h3⟩ := h q hq
  exact ⟨a, b, by rw [List.getElem?_append_left (List.getElem?_eq_some_iff.mp h1).1]; exact h1, by rw [List.getElem?_append_left (List.getElem?_eq_some_iff.mp h2).1]; exact h2, h3⟩
def z_gs (strs : z_Ss) (N : List Int) (al : Nat → Option Nat) (S : z_as_) (f : z_Fr) (rest : List z_Fr) (P : z_H) : Prop :=
  z_gf_ N al S.1 f ∧ z_all2 (z_gf_ N al) S.2.1 rest ∧ z_gh strs N al S.2.2.1 P ∧ S.2.2.2.1 = N.length ∧ z_gx N S.2.2.2.2.1 ∧ P.length ≤ S.2.2.2.2.2
theorem z_gh.mono {strs : z_Ss} {N N' : List Int} {al : Nat → Option Nat} {AH : List z_ac_} {P : z_H} (hN : ∃ X, N' = N ++ X) (h : z_gh strs N al AH P) : z_gh strs N' al AH P := by
  intro a c hac
  obtain ⟨q, A, h1, h2, h3, h4⟩ := h a c hac
  exact ⟨q, A, h1, h2, h3.mono ⟨hN, fun _ _ k => k⟩, h4⟩
/-- a new value: a number without identity gets one -/
def z_new (n : Nat) (t : z_tk) : z_tk × Nat := if t.1 = 0 ∧ z_lo t ≠ z_hi t then ((n, 0, 0, z_lo t, z_hi t), n + 1) else (t, n)
theorem z_new_gi {N : List Int} {t : z_tk} {v : Int} (h : z_gi N t v) : ∃ N', (∃ X, N' = N ++ X) ∧ z_gi N' (z_new N.length t).1 v ∧ (z_new N.length t).2 = N'.length := by
  unfold z_new
  split
  · refine ⟨N ++ [v], ⟨_, rfl⟩, ⟨h.1, h.2.1, Or.inr ⟨v, by simp, by show v + 0 ≤ v; omega, by show v ≤ v + 0; omega⟩⟩, by simp⟩
  · exact ⟨N, ⟨[], by simp⟩, h, rfl⟩
def z_newv (n : Nat) : z_av → z_av × Nat
  | .inl t => (.inl (z_new n t).1, (z_new n t).2)
  | .inr (.inl t) => (.inr (.inl (z_new n t).1), (z_new n t).2)
  | .inr (.inr t) => (.inr (.inr t), n)
theorem z_newv_gv {N : List Int} {al : Nat → Option Nat} {t : z_av} {v : Value} (h : z_gv N al t v) : ∃ N', z_le N N' al al ∧ z_gv N' al (z_newv N.length t).1 v ∧ (z_newv N.length t).2 = N'.length := by
  match t, h with
  | .inl t, ⟨x, e, h⟩ =>
    obtain ⟨N', h1, h2, h3⟩ := z_new_gi h
    exact ⟨N', ⟨h1, fun _ _ k => k⟩, ⟨x, e, h2⟩, h3⟩
  | .inr (.inl t), ⟨x, e, h⟩ =>
    obtain ⟨N', h1, h2, h3⟩ := z_new_gi h
    exact ⟨N', ⟨h1, fun _ _ k => k⟩, ⟨x, e, h2⟩, h3⟩
  | .inr (.inr t), h => exact ⟨N, z_le.rf, h, rfl⟩
/-- an identity's value is narrowed: in all its exact numbers -/
def z_cl1 (k : Nat) (lo hi : Int) (t : z_tk) : z_tk := if t.1 = k ∧ t.2.1 = t.2.2.1 then (t.1, t.2.1, t.2.2.1, max (z_lo t) (lo + t.2.1), min (z_hi t) (hi + t.2.1)) else t
theorem z_cl1_gi {N : List Int} {k : Nat} {lo hi w : Int} (hk : k ≠ 0) (hw : N[k]? = some w) (h1 : lo ≤ w) (h2 : w ≤ hi) {t : z_tk} {v : Int} (h : z_gi N t v) : z_gi N (z_cl1 k lo hi t) v := by
  unfold z_cl1
  split
  · rename_i hc
    obtain ⟨g1, g2, g3⟩ := h
    rcases g3 with g3 | ⟨w', e, g4, g5⟩
    · exact absurd (hc.1.symm.trans g3) hk
    · rw [hc.1] at e
      have e1 : w' = w := Option.some.inj (e.symm.trans hw)
      subst e1
      have hd := hc.2
      refine ⟨?_, ?_, Or.inr ⟨w', by show N[t.1]? = some w'; rw [hc.1]; exact hw, g4, g5⟩⟩
      · show max (z_lo t) (lo + t.2.1) ≤ v
        omega
      · show v ≤ min (z_hi t) (hi + t.2.1)
        omega
  · exact h
def z_clv (k : Nat) (lo hi : Int) : z_av → z_av
  | .inl t => .inl (z_cl1 k lo hi t)
  | .inr (.inl t) => .inr (.inl (z_cl1 k lo hi t))
  | .inr (.inr t) => .inr (.inr t)
theorem z_clv_gv {N : List Int} {al : Nat → Option Nat} {k : Nat} {lo hi w : Int} (hk : k ≠ 0) (hw : N[k]? = some w) (h1 : lo ≤ w) (h2 : w ≤ hi) {t : z_av} {v : Value} (h : z_gv N al t v) : z_gv N al (z_clv k lo hi t) v := by
  match t, h with
  | .inl t, ⟨x, e, h⟩ => exact ⟨x, e, z_cl1_gi hk hw h1 h2 h⟩
  | .inr (.inl t), ⟨x, e, h⟩ => exact ⟨x, e, z_cl1_gi hk hw h1 h2 h⟩
  | .inr (.inr t), h => exact h
def z_clf (k : Nat) (lo hi : Int) (F : z_af) : z_af := (F.1, F.2.1, F.2.2.1.map (fun q => (q.1, z_clv k lo hi q.2)), F.2.2.2.1.map (z_clv k lo hi), F.2.2.2.2.1, F.2.2.2.2.2)
def z_clc (k : Nat) (lo hi : Int) (A : z_ac_) : z_ac_ := (A.1, A.2.1, A.2.2.1, A.2.2.2.map (z_clv k lo hi))
def z_cls_ (k : Nat) (lo hi : Int) (S : z_as_) : z_as_ := if k = 0 then S else (z_clf k lo hi S.1, S.2.1.map (z_clf k lo hi), S.2.2.1.map (z_clc k lo hi), S.2.2.2)
theorem z_aget_map (f : z_av → z_av) : ∀ (L : List (Nat × z_av)) (i : Nat), z_aget (L.map fun q => (q.1, f q.2)) i = (z_aget L i).map f
  | [], _ => rfl
  | q :: r, i => by
    show (if q.1 == i then some (f q.2) else z_aget (r.map fun q => (q.1, f q.2)) i) = (if q.1 == i then some q.2 else z_aget r i).map f
    rw [z_aget_map f r i]
    split <;> rfl
theorem z_clf_gf {N : List Int} {al : Nat → Option Nat} {k : Nat} {lo hi w : Int} (hk : k ≠ 0) (hw : N[k]? = some w) (h1 : lo ≤ w) (h2 : w ≤ hi) {F : z_af} {f : z_Fr} (h : z_gf_ N al F f) : z_gf_ N al (z_clf k lo hi F) f := by
  obtain ⟨g1, g2, g3, g4, g5⟩ := h
  refine ⟨g1, g2, fun i t e => ?_, g4.map fun _ _ q => z_clv_gv hk hw h1 h2 q, g5⟩
  have e : z_aget (F.2.2.1.map fun q => (q.1, z_clv k lo hi q.2)) i = some t := e
  rw [z_aget_map] at e
  obtain ⟨t', e1, e2⟩ := z_map_some e
  obtain ⟨v, g6, g7⟩ := g3 i t' e1
  exact ⟨v, g6, by rw [← e2]; exact z_clv_gv hk hw h1 h2 g7⟩
theorem z_cls_gs {strs : z_Ss} {N : List Int} {al : Nat → Option Nat} {k : Nat} {lo hi : Int} {S : z_as_} {f : z_Fr} {rest : List z_Fr} {P : z_H} (hw : k ≠ 0 → ∃ w, N[k]? = some w ∧ lo ≤ w ∧ w ≤ hi) (h : z_gs strs N al S f rest P) : z_gs strs N al (z_cls_ k lo hi S) f rest P := by
  unfold z_cls_
  split
  · exact h
  · rename_i hk
    obtain ⟨w, hw, h1, h2⟩ := hw hk
    obtain ⟨g1, g2, g3, g4⟩ := h
    refine ⟨z_clf_gf hk hw h1 h2 g1, g2.map fun _ _ q => z_clf_gf hk hw h1 h2 q, fun a c hac => ?_, g4⟩
    obtain ⟨q, A, e1, e2, ⟨e3, e4⟩, e5, e6⟩ := g3 a c hac
    refine ⟨q, z_clc k lo hi A, e1, ?_, ⟨e3, ?_⟩, e5, e6⟩
    · show (S.2.2.1.map (z_clc k lo hi))[c]? = _
      rw [List.getElem?_map, e2]
      rfl
    · show (match A.2.2.1 with | none => z_all2 (z_gv N al) (A.2.2.2.map (z_clv k lo hi)) q.2 | some n => q.2.length = n ∧ ∃ t, A.2.2.2.map (z_clv k lo hi) = [t] ∧ ∀ v ∈ q.2, z_gv N al t v)
      split at e4
      · exact e4.map fun _ _ q => z_clv_gv hk hw h1 h2 q
      · obtain ⟨e8, t, e9, e10⟩ := e4
        exact ⟨e8, _, by rw [e9]; rfl, fun v hv => z_clv_gv hk hw h1 h2 (e10 v hv)⟩
end ZABS
end
section
section ZAPU
theorem z_gi_iv32 {N : List Int} {t : z_tk} {x : Int32} (h : z_gi N t x.toInt) : z_in32 (z_iv t) x := ⟨h.1, h.2.1⟩
theorem z_gi_iv64 {N : List Int} {t : z_tk} {x : Int64} (h : z_gi N t x.toInt) : z_in64 (z_iv t) x := ⟨h.1, h.2.1⟩
theorem z_ti_gi {N : List Int} {i : z_I} {x : Int32} (h : z_in32 i x) : z_gi N (z_ti i) x.toInt := ⟨h.1, h.2, Or.inl rfl⟩
theorem z_ti_gi64 {N : List Int} {i : z_I} {x : Int64} (h : z_in64 i x) : z_gi N (z_ti i) x.toInt := ⟨h.1, h.2, Or.inl rfl⟩
theorem z_tc_gi {N : List Int} {c : Int} : z_gi N (z_tc c) c := ⟨Int.le_refl _, Int.le_refl _, Or.inl rfl⟩
/-- both told exactly: the operation itself -/
def z_ex2 (f : Int32 → Int32 → Int32) (g : z_tk → z_tk → z_tk) (x y : z_tk) : z_tk := if z_one (z_iv x) && z_one (z_iv y) then z_tc (f (Int32.ofInt (z_lo x)) (Int32.ofInt (z_lo y))).toInt else g x y
theorem z_ex2_gi {N : List Int} {f : Int32 → Int32 → Int32} {g : z_tk → z_tk → z_tk} {x y : z_tk} {a b : Int32} (hx : z_gi N x a.toInt) (hy : z_gi N y b.toInt) (hg : z_gi N (g x y) (f a b).toInt) : z_gi N (z_ex2 f g x y) (f a b).toInt := by
  unfold z_ex2
  split
  · rename_i h
    rw [Bool.and_eq_true] at h
    have ea := z_one32 h.1 (z_gi_iv32 hx)
    have eb := z_one32 h.2 (z_gi_iv32 hy)
    have ea : a = Int32.ofInt (z_lo x) := ea
    have eb : b = Int32.ofInt (z_lo y) := eb
    rw [← ea, ← eb]
    exact z_tc_gi
  · exact hg
def z_add32 (x y : z_tk) : z_tk := if -2147483648 ≤ z_lo x + z_lo y ∧ z_hi x + z_hi y ≤ 2147483647 then
    (if x.1 ≠ 0 then (x.1, x.2.1 + z_lo y, x.2.2.1 + z_hi y, z_lo x + z_lo y, z_hi x + z_hi y) else (y.1, y.2.1 + z_lo x, y.2.2.1 + z_hi x, z_lo x + z_lo y, z_hi x + z_hi y)) else z_ti z_top32
def z_sub32 (x y : z_tk) : z_tk := if -2147483648 ≤ z_lo x - z_hi y ∧ z_hi x - z_lo y ≤ 2147483647 then (x.1, x.2.1 - z_hi y, x.2.2.1 - z_lo y, z_lo x - z_hi y, z_hi x - z_lo y) else z_ti z_top32
theorem z_add32_gi {N : List Int} {x y : z_tk} {a b : Int32} (hx : z_gi N x a.toInt) (hy : z_gi N y b.toInt) : z_gi N (z_add32 x y) (a + b).toInt := by
  unfold z_add32
  split
  · rename_i h
    obtain ⟨x1, x2, x3⟩ := hx
    obtain ⟨y1, y2, y3⟩ := hy
    have e : (a + b).toInt = a.toInt + b.toInt := by
      rw [Int32.toInt_add]
      unfold Int.bmod
      simp only [Nat.reducePow]
      omega
    rw [e]
    split
    · rename_i hz
      refine ⟨by show z_lo x + z_lo y ≤ _; omega, by show _ ≤ z_hi x + z_hi y; omega, Or.inr ?_⟩
      rcases x3 with x3 | ⟨w, e1, e2, e3⟩
      · exact absurd x3 hz
      · exact ⟨w, e1, by show w + (x.2.1 + z_lo y) ≤ _; omega, by show _ ≤ w + (x.2.2.1 + z_hi y); omega⟩
    · refine ⟨by show z_lo x + z_lo y ≤ _; omega, by show _ ≤ z_hi x + z_hi y; omega, ?_⟩
      rcases y3 with y3 | ⟨w, e1, e2, e3⟩
      · exact Or.inl y3
      · exact Or.inr ⟨w, e1, by show w + (y.2.1 + z_lo x) ≤ _; omega, by show _ ≤ w + (y.2.2.1 + z_hi x); omega⟩
  · exact z_ti_gi (z_t32 _)
theorem z_sub32_gi {N : List Int} {x y : z_tk} {a b : Int32} (hx : z_gi N x a.toInt) (hy : z_gi N y b.toInt) : z_gi N (z_sub32 x y) (a - b).toInt := by
  unfold z_sub32
  split
  · rename_i h
    obtain ⟨x1, x2, x3⟩ := hx
    obtain ⟨y1, y2, y3⟩ := hy
    have e : (a - b).toInt = a.toInt - b.toInt := by
      rw [Int32.toInt_sub]
      unfold Int.bmod
      simp only [Nat.reducePow]
      omega
    rw [e]
    refine ⟨by show z_lo x - z_hi y ≤ _; omega, by show _ ≤ z_hi x - z_lo y; omega, ?_⟩
    rcases x3 with x3 | ⟨w, e1, e2, e3⟩
    · exact Or.inl x3
    · exact Or.inr ⟨w, e1, by show w + (x.2.1 - z_hi y) ≤ _; omega, by show _ ≤ w + (x.2.2.1 - z_lo y); omega⟩
  · exact z_ti_gi (z_t32 _)
def z_mul32 (x y : z_tk) : z_tk := z_ti (z_r32 (z_mul (z_iv x) (z_iv y)).1 (z_mul (z_iv x) (z_iv y)).2)
theorem z_mul32_gi {N : List Int} {x y : z_tk} {a b : Int32} (hx : z_gi N x a.toInt) (hy : z_gi N y b.toInt) : z_gi N (z_mul32 x y) (a * b).toInt := by
  obtain ⟨h1, h2⟩ := z_mul_in (a := z_iv x) (b := z_iv y) hx.1 hx.2.1 hy.1 hy.2.1
  exact z_ti_gi (z_r32_in (Int32.toInt_mul a b) h1 h2)
theorem z_sl : ∀ n, n < 32 → ((nI n &&& 31).toBitVec.smod 32).toNat = n := by decide
def z_shr32 (x y : z_tk) : z_tk := if z_one (z_iv y) ∧ 0 ≤ z_lo y ∧ z_lo y < 32 then z_ti (z_lo x >>> (z_lo y).toNat, z_hi x >>> (z_lo y).toNat) else z_ti z_top32
theorem z_shr_mono {a b : Int} (k : Nat) (h : a ≤ b) : a >>> k ≤ b >>> k := by
  rw [Int.shiftRight_eq_div_pow, Int.shiftRight_eq_div_pow]
  exact Int.ediv_le_ediv (by have : (0 : Int) < 2 ^ k := Int.pow_pos (by decide); exact_mod_cast this) h
theorem z_shr32_gi {N : List Int} {x y : z_tk} {a b : Int32} (hx : z_gi N x a.toInt) (hy : z_gi N y b.toInt) : z_gi N (z_shr32 x y) (a >>> (b &&& 31)).toInt := by
  unfold z_shr32
  split
  · rename_i h
    obtain ⟨h1, h2, h3⟩ := h
    have eb : b = Int32.ofInt (z_lo y) := z_one32 h1 (z_gi_iv32 hy)
    have ek : Int32.ofInt (z_lo y) = nI (z_lo y).toNat := by
      unfold nI
      have : z_lo y = ((z_lo y).toNat : Int) := by omega
      conv => lhs; rw [this]
      exact Int32.ofInt_eq_ofNat
    have hs : ((b &&& 31).toBitVec.smod 32).toNat = (z_lo y).toNat := by
      rw [eb, ek]
      exact z_sl _ (by omega)
    have e := pk_shr a (b &&& 31) (z_lo y).toNat hs
    rw [e]
    exact ⟨z_shr_mono _ hx.1, z_shr_mono _ hx.2.1, Or.inl rfl⟩
  · exact z_ti_gi (z_t32 _)
def z_top2 (_ _ : z_tk) : z_tk := z_ti z_top32
end ZAPU
end
section
section ZAOP
def z_add64 (x y : z_tk) : z_tk := z_ti (z_r64 (z_lo x + z_lo y) (z_hi x + z_hi y))
def z_sub64 (x y : z_tk) : z_tk := z_ti (z_r64 (z_lo x - z_hi y) (z_hi x - z_lo y))
def z_mul64 (x y : z_tk) : z_tk := z_ti (z_r64 (z_mul (z_iv x) (z_iv y)).1 (z_mul (z_iv x) (z_iv y)).2)
/-- the divisor isn't 0 -/
def z_nz (y : z_tk) : Bool := decide (1 ≤ z_lo y) || decide (z_hi y ≤ -1)
theorem z_nz64 {N : List Int} {y : z_tk} {b : Int64} (h : z_nz y = true) (hy : z_gi N y b.toInt) : ¬ b = 0 := by
  intro q
  subst q
  have h0 : (0 : Int64).toInt = 0 := by decide
  obtain ⟨h1, h2, -⟩ := hy
  unfold z_nz at h
  simp only [Bool.or_eq_true, decide_eq_true_eq] at h
  omega
def z_cmp64 (x y : z_tk) : z_tk := if z_hi x < z_lo y then z_tc (-1) else if z_hi y < z_lo x then z_tc 1 else if z_one (z_iv x) && z_one (z_iv y) then z_tc 0 else z_ti (-1, 1)
theorem z_cmp64_gi {N : List Int} {x y : z_tk} {a b : Int64} (hx : z_gi N x a.toInt) (hy : z_gi N y b.toInt) : z_gi N (z_cmp64 x y) (lg_cmp a b).toInt := by
  obtain ⟨x1, x2, -⟩ := hx
  obtain ⟨y1, y2, -⟩ := hy
  have hlt : (a > b) ↔ b.toInt < a.toInt := Int64.lt_iff_toInt_lt
  have heq : (a = b) ↔ a.toInt = b.toInt := ⟨fun h => by rw [h], fun h => Int64.toInt_inj.mp h⟩
  have v1 : (1 : Int32).toInt = 1 := by decide
  have v0 : (0 : Int32).toInt = 0 := by decide
  have vm : (-1 : Int32).toInt = -1 := by decide
  unfold z_cmp64
  split
  · rename_i h
    have : lg_cmp a b = -1 := by
      unfold lg_cmp
      rw [if_neg (by rw [hlt]; omega), if_neg (by rw [heq]; omega)]
    rw [this, vm]
    exact z_tc_gi
  split
  · rename_i h
    have : lg_cmp a b = 1 := by
      unfold lg_cmp
      rw [if_pos (by rw [hlt]; omega)]
    rw [this, v1]
    exact z_tc_gi
  split
  · rename_i h1 h2 h
    rw [Bool.and_eq_true] at h
    have e1 : z_lo x = z_hi x := by simpa [z_one, z_iv, z_lo, z_hi] using h.1
    have e2 : z_lo y = z_hi y := by simpa [z_one, z_iv, z_lo, z_hi] using h.2
    have : lg_cmp a b = 0 := by
      unfold lg_cmp
      rw [if_neg (by rw [hlt]; omega), if_pos (by rw [heq]; omega)]
    rw [this, v0]
    exact z_tc_gi
  · unfold lg_cmp
    split
    · rw [v1]; exact ⟨by show (-1 : Int) ≤ 1; omega, by show (1 : Int) ≤ 1; omega, Or.inl rfl⟩
    split
    · rw [v0]; exact ⟨by show (-1 : Int) ≤ 0; omega, by show (0 : Int) ≤ 1; omega, Or.inl rfl⟩
    · rw [vm]; exact ⟨by show (-1 : Int) ≤ -1; omega, by show (-1 : Int) ≤ 1; omega, Or.inl rfl⟩
def z_neg32 (x : z_tk) : z_tk := z_ti (z_r32 (-z_hi x) (-z_lo x))
/-- a number cut to a range: itself where it lies within -/
def z_cutto (lo hi : Int) (x : z_tk) : z_tk := if lo ≤ z_lo x ∧ z_hi x ≤ hi then x else z_ti (lo, hi)
theorem z_cutto_gi {N : List Int} {lo hi : Int} {x : z_tk} {a b : Int} (hx : z_gi N x a) (h1 : lo ≤ b) (h2 : b ≤ hi) (he : lo ≤ a → a ≤ hi → b = a) : z_gi N (z_cutto lo hi x) b := by
  unfold z_cutto
  split
  · rename_i h
    obtain ⟨g1, g2, -⟩ := id hx
    rw [he (by omega) (by omega)]
    exact hx
  · exact ⟨h1, h2, Or.inl rfl⟩
def z_a1 (f : z_tk → z_tk) : List z_av → Option (List z_av)
  | .inl x :: st => some (.inl (f x) :: st)
  | _ => none
def z_a1l (f : z_tk → z_tk) : List z_av → Option (List z_av)
  | .inl x :: st => some (.inr (.inl (f x)) :: st)
  | _ => none
def z_b1 (f : z_tk → z_tk) : List z_av → Option (List z_av)
  | .inr (.inl x) :: st => some (.inl (f x) :: st)
  | _ => none
def z_a2 (f : z_tk → z_tk → z_tk) : List z_av → Option (List z_av)
  | .inl y :: .inl x :: st => some (.inl (f x y) :: st)
  | _ => none
def z_a2o (f : z_tk → z_tk → Option z_tk) : List z_av → Option (List z_av)
  | .inl y :: .inl x :: st => (f x y).map fun t => .inl t :: st
  | _ => none
def z_b2 (f : z_tk → z_tk → z_tk) : List z_av → Option (List z_av)
  | .inr (.inl y) :: .inr (.inl x) :: st => some (.inr (.inl (f x y)) :: st)
  | _ => none
def z_b2c (f : z_tk → z_tk → z_tk) : List z_av → Option (List z_av)
  | .inr (.inl y) :: .inr (.inl x) :: st => some (.inl (f x y) :: st)
  | _ => none
/-- both told exactly: the operation itself -/
def z_exl (g : Int64 → Int64 → Int64) (x y : z_tk) : z_tk := if z_one (z_iv x) && z_one (z_iv y) then z_tc (g (Int64.ofInt (z_lo x)) (Int64.ofInt (z_lo y))).toInt else z_ti z_top64
def z_b2o (f : z_tk → z_tk → z_tk) : List z_av → Option (List z_av)
  | .inr (.inl y) :: .inr (.inl x) :: st => if z_nz y then some (.inr (.inl (f x y)) :: st) else none
  | _ => none
/-- the category of an abstract value -/
def z_acat : z_av → Nat
  | .inr (.inl _) => 2
  | _ => 1
theorem z_acat_eq {N : List Int} {al : Nat → Option Nat} : ∀ {t : z_av} {v : Value}, z_gv N al t v → v.category = z_acat t
  | .inl _, _, ⟨_, e, _⟩ => by rw [e]; rfl
  | .inr (.inl _), _, ⟨_, e, _⟩ => by rw [e]; rfl
  | .inr (.inr _), _, Or.inl ⟨e, _⟩ => by rw [e]; rfl
  | .inr (.inr _), _, Or.inr ⟨_, _, e, _⟩ => by rw [e]; rfl
def z_adup : List z_av → Option (List z_av)
  | v :: st => if z_acat v = 1 then some (v :: v :: st) else none
  | _ => none
def z_apop : List z_av → Option (List z_av)
  | v :: st => if z_acat v = 1 then some st else none
  | _ => none
def z_adupx1 : List z_av → Option (List z_av)
  | v :: w :: st => if z_acat v = 1 ∧ z_acat w = 1 then some (v :: w :: v :: st) else none
  | _ => none
def z_adup2 : List z_av → Option (List z_av)
  | v :: w :: st => if z_acat v = 1 ∧ z_acat w = 1 then some (v :: w :: v :: w :: st) else none
  | _ => none
def z_apure : Instr → List z_av → Option (List z_av)
  | .iconst n => fun st => some (.inl (z_tc (Int32.ofInt n).toInt) :: st)
  | .bipush n => fun st => some (.inl (z_tc (Int8.ofInt n).toInt32.toInt) :: st)
  | .sipush n => fun st => some (.inl (z_tc (Int16.ofInt n).toInt32.toInt) :: st)
  | .lconst n => fun st => some (.inr (.inl (z_tc (Int64.ofNat n).toInt)) :: st)
  | .aconst_null => fun st => some (.inr (.inr (true, [])) :: st)
  | .iadd => z_a2 (z_ex2 (fun a b => a + b) z_add32)
  | .isub => z_a2 (z_ex2 (fun a b => a - b) z_sub32)
  | .imul => z_a2 (z_ex2 (fun a b => a * b) z_mul32)
  | .iand => z_a2 (z_ex2 (fun a b => a &&& b) (fun x y => z_ti (z_and (z_iv x) (z_iv y))))
  | .ior => z_a2 (z_ex2 (fun a b => a ||| b) z_top2)
  | .ixor => z_a2 (z_ex2 (fun a b => a ^^^ b) z_top2)
  | .ishl => z_a2 (z_ex2 (fun a b => a <<< (b &&& 31)) z_top2)
  | .ishr => z_a2 (z_ex2 (fun a b => a >>> (b &&& 31)) z_shr32)
  | .iushr => z_a2 (z_ex2 (fun a b => (a.toUInt32 >>> (b.toUInt32 &&& Int32.toUInt32 31)).toInt32) z_top2)
  | .idiv => z_a2o fun x y => (z_div (z_iv x) (z_iv y)).map z_ti
  | .irem => z_a2o fun x y => (z_rem (z_iv x) (z_iv y)).map z_ti
  | .ineg => z_a1 z_neg32
  | .i2l => z_a1l id
  | .i2b => z_a1 (z_cutto (-128) 127)
  | .i2s => z_a1 (z_cutto (-32768) 32767)
  | .i2c => z_a1 (z_cutto 0 65535)
  | .l2i => z_b1 (z_cutto (-2147483648) 2147483647)
  | .ladd => z_b2 z_add64
  | .lsub => z_b2 z_sub64
  | .lmul => z_b2 z_mul64
  | .ldiv => z_b2o (z_exl fun a b => a / b)
  | .lrem => z_b2o (z_exl fun a b => a - a / b * b)
  | .lcmp => z_b2c z_cmp64
  | .dup => z_adup
  | .pop => z_apop
  | .dup_x1 => z_adupx1
  | .dup2 => z_adup2
  | _ => fun _ => none
variable {N : List Int} {al : Nat → Option Nat}
theorem z_a1_ok {f : z_tk → z_tk} {g : Int32 → Int32} (hf : ∀ x a, z_gi N x (Int32.toInt a) → z_gi N (f x) (g a).toInt) {ast ast' : List z_av} {st : List Value} (h : z_a1 f ast = some ast') (hs : z_all2 (z_gv N al) ast st) : ∃ st', z_i1 (fun a => .int (g a)) st = some st' ∧ z_all2 (z_gv N al) ast' st' := by
  unfold z_a1 at h
  split at h
  · cases h
    match st, hs with
    | _ :: st, ⟨⟨a, e, ha⟩, h2⟩ =>
      subst e
      exact ⟨_, rfl, ⟨_, rfl, hf _ _ ha⟩, h2⟩
  · cases h
theorem z_a2_ok {f : z_tk → z_tk → z_tk} {g : Int32 → Int32 → Int32} (hf : ∀ x y a b, z_gi N x (Int32.toInt a) → z_gi N y (Int32.toInt b) → z_gi N (f x y) (g a b).toInt) {ast ast' : List z_av} {st : List Value} (h : z_a2 f ast = some ast') (hs : z_all2 (z_gv N al) ast st) : ∃ st', z_i2 (fun a b => .int (g a b)) st = some st' ∧ z_all2 (z_gv N al) ast' st' := by
  unfold z_a2 at h
  split at h
  · cases h
    match st, hs with
    | _ :: _ :: st, ⟨⟨b, e1, hb⟩, ⟨a, e2, ha⟩, h2⟩ =>
      subst e1; subst e2
      exact ⟨_, rfl, ⟨_, rfl, hf _ _ _ _ ha hb⟩, h2⟩
  · cases h
theorem z_a2o_ok {f : z_tk → z_tk → Option z_tk} {g : Int32 → Int32 → Int32} (hf : ∀ x y a b t, z_gi N x (Int32.toInt a) → z_gi N y (Int32.toInt b) → f x y = some t → ¬ b = 0 ∧ z_gi N t (g a b).toInt) {ast ast' : List z_av} {st : List Value} (h : z_a2o f ast = some ast') (hs : z_all2 (z_gv N al) ast st) : ∃ st', z_i2d (fun a b => .int (g a b)) st = some st' ∧ z_all2 (z_gv N al) ast' st' := by
  unfold z_a2o at h
  split at h
  · obtain ⟨t, ht, rfl⟩ := z_map_some h
    match st, hs with
    | _ :: _ :: st, ⟨⟨b, e1, hb⟩, ⟨a, e2, ha⟩, h2⟩ =>
      subst e1; subst e2
      obtain ⟨h0, h3⟩ := hf _ _ _ _ _ ha hb ht
      refine ⟨.int (g a b) :: st, ?_, ⟨_, rfl, h3⟩, h2⟩
      show (if b = 0 then none else _) = _
      rw [if_neg h0]
  · cases h
theorem z_b2_ok {f : z_tk → z_tk → z_tk} {g : Int64 → Int64 → Int64} (hf : ∀ x y a b, z_gi N x (Int64.toInt a) → z_gi N y (Int64.toInt b) → z_gi N (f x y) (g a b).toInt) {ast ast' : List z_av} {st : List Value} (h : z_b2 f ast = some ast') (hs : z_all2 (z_gv N al) ast st) : ∃ st', z_l2 (fun a b => .long (g a b)) st = some st' ∧ z_all2 (z_gv N al) ast' st' := by
  unfold z_b2 at h
  split at h
  · cases h
    match st, hs with
    | _ :: _ :: st, ⟨⟨b, e1, hb⟩, ⟨a, e2, ha⟩, h2⟩ =>
      subst e1; subst e2
      exact ⟨_, rfl, ⟨_, rfl, hf _ _ _ _ ha hb⟩, h2⟩
  · cases h
theorem z_exl_gi {g : Int64 → Int64 → Int64} {x y : z_tk} {a b : Int64} (hx : z_gi N x a.toInt) (hy : z_gi N y b.toInt) : z_gi N (z_exl g x y) (g a b).toInt := by
  unfold z_exl
  split
  · rename_i h
    rw [Bool.and_eq_true] at h
    have ea : a = Int64.ofInt (z_lo x) := z_one64 h.1 (z_gi_iv64 hx)
    have eb : b = Int64.ofInt (z_lo y) := z_one64 h.2 (z_gi_iv64 hy)
    rw [← ea, ← eb]
    exact z_tc_gi
  · exact z_ti_gi64 (z_t64 _)
theorem z_b2o_ok {g : Int64 → Int64 → Int64} {ast ast' : List z_av} {st : List Value} (h : z_b2o (z_exl g) ast = some ast') (hs : z_all2 (z_gv N al) ast st) : ∃ st', z_l2d (fun a b => .long (g a b)) st = some st' ∧ z_all2 (z_gv N al) ast' st' := by
  unfold z_b2o at h
  split at h
  · split at h
    · rename_i hz
      cases h
      match st, hs with
      | _ :: _ :: st, ⟨⟨b, e1, hb⟩, ⟨a, e2, ha⟩, h2⟩ =>
        subst e1; subst e2
        refine ⟨.long (g a b) :: st, ?_, ⟨_, rfl, z_exl_gi ha hb⟩, h2⟩
        show (if b = 0 then none else _) = _
        rw [if_neg (z_nz64 hz hb)]
    · cases h
  · cases h
set_option maxHeartbeats 4000000 in
/-- what changes the stack alone goes as the abstract stack says -/
theorem z_apure_ok {ins : Instr} {ast ast' : List z_av} {st : List Value} (h : z_apure ins ast = some ast') (hs : z_all2 (z_gv N al) ast st) : ∃ st', z_pure ins st = some st' ∧ z_all2 (z_gv N al) ast' st' := by
  cases ins
  case iconst n => cases h; exact ⟨_, rfl, ⟨_, rfl, z_tc_gi⟩, hs⟩
  case bipush n => cases h; exact ⟨_, rfl, ⟨_, rfl, z_tc_gi⟩, hs⟩
  case sipush n => cases h; exact ⟨_, rfl, ⟨_, rfl, z_tc_gi⟩, hs⟩
  case lconst n => cases h; exact ⟨_, rfl, ⟨_, rfl, z_tc_gi⟩, hs⟩
  case aconst_null => cases h; exact ⟨_, rfl, Or.inl ⟨rfl, rfl⟩, hs⟩
  case iadd => exact z_a2_ok (fun x y a b hx hy => z_ex2_gi hx hy (z_add32_gi hx hy)) h hs
  case isub => exact z_a2_ok (fun x y a b hx hy => z_ex2_gi hx hy (z_sub32_gi hx hy)) h hs
  case imul => exact z_a2_ok (fun x y a b hx hy => z_ex2_gi hx hy (z_mul32_gi hx hy)) h hs
  case iand => exact z_a2_ok (fun x y a b hx hy => z_ex2_gi hx hy (z_ti_gi (z_and_in (z_gi_iv32 hx) (z_gi_iv32 hy)))) h hs
  case ior => exact z_a2_ok (fun x y a b hx hy => z_ex2_gi hx hy (z_ti_gi (z_t32 _))) h hs
  case ixor => exact z_a2_ok (fun x y a b hx hy => z_ex2_gi hx hy (z_ti_gi (z_t32 _))) h hs
  case ishl => exact z_a2_ok (fun x y a b hx hy => z_ex2_gi hx hy (z_ti_gi (z_t32 _))) h hs
  case ishr => exact z_a2_ok (fun x y a b hx hy => z_ex2_gi hx hy (z_shr32_gi hx hy)) h hs
  case iushr => exact z_a2_ok (fun x y a b hx hy => z_ex2_gi hx hy (z_ti_gi (z_t32 _))) h hs
  case idiv => exact z_a2o_ok (fun x y a b t hx hy ht => by
    obtain ⟨r, hr, rfl⟩ := z_map_some ht
    obtain ⟨g1, g2⟩ := z_div_in (z_gi_iv32 hx) (z_gi_iv32 hy) hr
    exact ⟨g1, z_ti_gi g2⟩) h hs
  case irem => exact z_a2o_ok (fun x y a b t hx hy ht => by
    obtain ⟨r, hr, rfl⟩ := z_map_some ht
    obtain ⟨g1, g2⟩ := z_rem_in (z_gi_iv32 hx) (z_gi_iv32 hy) hr
    exact ⟨g1, z_ti_gi g2⟩) h hs
  case ineg => exact z_a1_ok (f := z_neg32) (g := fun a => -a) (fun x a hx => z_ti_gi (z_r32_in (Int32.toInt_neg a) (by have := hx.2.1; omega) (by have := hx.1; omega))) h hs
  case i2l =>
    have h : z_a1l id ast = some ast' := h
    unfold z_a1l at h
    split at h
    · cases h
      match st, hs with
      | _ :: st, ⟨⟨a, e, ha⟩, h2⟩ =>
        subst e
        exact ⟨_, rfl, ⟨_, rfl, by rw [Int32.toInt_toInt64]; exact ha⟩, h2⟩
    · cases h
  case i2b =>
    have hf : ∀ x a, z_gi N x (Int32.toInt a) → z_gi N (z_cutto (-128) 127 x) (a.toInt8.toInt32).toInt := by
      intro x a hx
      have g1 := a.toInt8.le_toInt
      have g2 := a.toInt8.toInt_lt
      refine z_cutto_gi hx (by rw [Int8.toInt_toInt32]; omega) (by rw [Int8.toInt_toInt32]; omega) (fun g3 g4 => ?_)
      rw [Int8.toInt_toInt32, Int32.toInt_toInt8]
      unfold Int.bmod
      simp only [Nat.reducePow]
      omega
    exact z_a1_ok (g := fun a => a.toInt8.toInt32) hf h hs
  case i2s =>
    have hf : ∀ x a, z_gi N x (Int32.toInt a) → z_gi N (z_cutto (-32768) 32767 x) (a.toInt16.toInt32).toInt := by
      intro x a hx
      have g1 := a.toInt16.le_toInt
      have g2 := a.toInt16.toInt_lt
      refine z_cutto_gi hx (by rw [Int16.toInt_toInt32]; omega) (by rw [Int16.toInt_toInt32]; omega) (fun g3 g4 => ?_)
      rw [Int16.toInt_toInt32, Int32.toInt_toInt16]
      unfold Int.bmod
      simp only [Nat.reducePow]
      omega
    exact z_a1_ok (g := fun a => a.toInt16.toInt32) hf h hs
  case i2c =>
    have hf : ∀ x a, z_gi N x (Int32.toInt a) → z_gi N (z_cutto 0 65535 x) ((a.toUInt32 % 65536).toInt32).toInt := by
      intro x a hx
      have e : ((a.toUInt32 % 65536).toInt32).toInt = ((a.toBitVec.toNat % 65536 : Nat) : Int) := by
        rw [pk_char, nI_toInt (by omega)]
      have e2 : a.toInt = a.toBitVec.toInt := rfl
      rw [BitVec.toInt_eq_toNat_cond] at e2
      refine z_cutto_gi hx (by rw [e]; omega) (by rw [e]; omega) (fun g1 g2 => ?_)
      rw [e]
      split at e2 <;> omega
    exact z_a1_ok (g := fun a => (a.toUInt32 % 65536).toInt32) hf h hs
  case l2i =>
    have h : z_b1 (z_cutto (-2147483648) 2147483647) ast = some ast' := h
    unfold z_b1 at h
    split at h
    · cases h
      match st, hs with
      | _ :: st, ⟨⟨a, e, ha⟩, h2⟩ =>
        subst e
        have g1 := a.toInt32.le_toInt
        have g2 := a.toInt32.toInt_lt
        refine ⟨.int a.toInt32 :: st, rfl, ⟨_, rfl, z_cutto_gi ha (by omega) (by omega) (fun g3 g4 => ?_)⟩, h2⟩
        rw [Int64.toInt_toInt32]
        unfold Int.bmod
        simp only [Nat.reducePow]
        omega
    · cases h
  case ladd => exact z_b2_ok (fun x y a b hx hy => z_ti_gi64 (z_r64_in (Int64.toInt_add a b) (by have := hx.1; have := hy.1; omega) (by have := hx.2.1; have := hy.2.1; omega))) h hs
  case lsub => exact z_b2_ok (fun x y a b hx hy => z_ti_gi64 (z_r64_in (Int64.toInt_sub a b) (by have := hx.1; have := hy.2.1; omega) (by have := hx.2.1; have := hy.1; omega))) h hs
  case lmul => exact z_b2_ok (fun x y a b hx hy => by
    obtain ⟨h1, h2⟩ := z_mul_in (a := z_iv x) (b := z_iv y) hx.1 hx.2.1 hy.1 hy.2.1
    exact z_ti_gi64 (z_r64_in (Int64.toInt_mul a b) h1 h2)) h hs
  case ldiv => exact z_b2o_ok h hs
  case lrem => exact z_b2o_ok h hs
  case lcmp =>
    have h : z_b2c z_cmp64 ast = some ast' := h
    unfold z_b2c at h
    split at h
    · cases h
      match st, hs with
      | _ :: _ :: st, ⟨⟨b, e1, hb⟩, ⟨a, e2, ha⟩, h2⟩ =>
        subst e1; subst e2
        exact ⟨_, rfl, ⟨_, rfl, z_cmp64_gi ha hb⟩, h2⟩
    · cases h
  case dup =>
    have h : z_adup ast = some ast' := h
    unfold z_adup at h
    split at h
    · split at h
      · rename_i hc
        cases h
        match st, hs with
        | v :: st, ⟨h1, h2⟩ => exact ⟨v :: v :: st, by show (if v.category = 1 then some (v :: v :: st) else none) = _; rw [if_pos (by rw [z_acat_eq h1]; exact hc)], h1, h1, h2⟩
      · cases h
    · cases h
  case pop =>
    have h : z_apop ast = some ast' := h
    unfold z_apop at h
    split at h
    · split at h
      · rename_i hc
        cases h
        match st, hs with
        | v :: st, ⟨h1, h2⟩ => exact ⟨st, by show (if v.category = 1 then some st else none) = _; rw [if_pos (by rw [z_acat_eq h1]; exact hc)], h2⟩
      · cases h
    · cases h
  case dup_x1 =>
    have h : z_adupx1 ast = some ast' := h
    unfold z_adupx1 at h
    split at h
    · split at h
      · rename_i hc
        cases h
        match st, hs with
        | v :: w :: st, ⟨h1, h2, h3⟩ => exact ⟨v :: w :: v :: st, by show (if v.category = 1 ∧ w.category = 1 then some (v :: w :: v :: st) else none) = _; rw [if_pos ⟨by rw [z_acat_eq h1]; exact hc.1, by rw [z_acat_eq h2]; exact hc.2⟩], h1, h2, h1, h3⟩
      · cases h
    · cases h
  case dup2 =>
    have h : z_adup2 ast = some ast' := h
    unfold z_adup2 at h
    split at h
    · split at h
      · rename_i hc
        cases h
        match st, hs with
        | v :: w :: st, ⟨h1, h2, h3⟩ => exact ⟨v :: w :: v :: w :: st, by show (if v.category = 1 ∧ w.category = 1 then some (v :: w :: v :: w :: st) else none) = _; rw [if_pos ⟨by rw [z_acat_eq h1]; exact hc.1, by rw [z_acat_eq h2]; exact hc.2⟩], h1, h2, h1, h2, h3⟩
      · cases h
    · cases h
  all_goals (cases h)
end ZAOP
end
section
section ZAJ
/-- facts: does x + k ≤ y follow (exact numbers of two identities)? -/
def z_xt (t : z_tk) : Bool := decide (t.1 ≠ 0) && decide (t.2.1 = t.2.2.1)
def z_ge (F : List (Nat × Nat × Int)) (x y : z_tk) (k : Int) : Bool := z_xt x && z_xt y && ((decide (x.1 = y.1) && decide (x.2.1 + k ≤ y.2.1)) || F.any fun q => decide (q.1 = x.1) && decide (q.2.1 = y.1) && decide (x.2.1 + k ≤ q.2.2 + y.2.1))
theorem z_xt_eq {N : List Int} {t : z_tk} {v : Int} (h : z_xt t = true) (ht : z_gi N t v) : ∃ w, N[t.1]? = some w ∧ v = w + t.2.1 := by
  unfold z_xt at h
  simp only [Bool.and_eq_true, decide_eq_true_eq] at h
  obtain ⟨h1, h2⟩ := h
  obtain ⟨-, -, h3 | ⟨w, e, h4, h5⟩⟩ := ht
  · exact absurd h3 h1
  · exact ⟨w, e, by omega⟩
theorem z_ge_use {N : List Int} {F : List (Nat × Nat × Int)} {x y : z_tk} {a b k : Int} (hF : z_gx N F) (h : z_ge F x y k = true) (hx : z_gi N x a) (hy : z_gi N y b) : a + k ≤ b := by
  unfold z_ge at h
  simp only [Bool.and_eq_true, Bool.or_eq_true, decide_eq_true_eq] at h
  obtain ⟨⟨h1, h2⟩, h3⟩ := h
  obtain ⟨w, e1, rfl⟩ := z_xt_eq h1 hx
  obtain ⟨u, e2, rfl⟩ := z_xt_eq h2 hy
  rcases h3 with ⟨h3, h4⟩ | h3
  · rw [h3] at e1
    have : w = u := Option.some.inj (e1.symm.trans e2)
    omega
  · obtain ⟨q, hq, h4⟩ := List.any_eq_true.mp h3
    simp only [Bool.and_eq_true, decide_eq_true_eq] at h4
    obtain ⟨⟨h5, h6⟩, h7⟩ := h4
    obtain ⟨a', b', g1, g2, g3⟩ := hF q hq
    rw [h5] at g1
    rw [h6] at g2
    have : a' = w := Option.some.inj (g1.symm.trans e1)
    have : b' = u := Option.some.inj (g2.symm.trans e2)
    omega
/-- what is left of two intervals: x ≤ y + k -/
def z_cutle (F : List (Nat × Nat × Int)) (x y : z_tk) (k : Int) : Option (z_I × z_I) := if z_lo x ≤ z_hi y + k ∧ z_ge F y x (k + 1) = false then some ((z_lo x, min (z_hi x) (z_hi y + k)), (max (z_lo y) (z_lo x - k), z_hi y)) else none
def z_cuteq (F : List (Nat × Nat × Int)) (x y : z_tk) : Option (z_I × z_I) := if max (z_lo x) (z_lo y) ≤ min (z_hi x) (z_hi y) ∧ z_ge F y x 1 = false ∧ z_ge F x y 1 = false then some ((max (z_lo x) (z_lo y), min (z_hi x) (z_hi y)), (max (z_lo x) (z_lo y), min (z_hi x) (z_hi y))) else none
/-- an interval without an end -/
def z_cutoff (x y : z_tk) : z_I := if z_one (z_iv y) then (if z_lo x = z_lo y then z_lo x + 1 else z_lo x, if z_hi x = z_lo y then z_hi x - 1 else z_hi x) else z_iv x
def z_cutne (F : List (Nat × Nat × Int)) (x y : z_tk) : Option (z_I × z_I) := if (z_cutoff x y).1 ≤ (z_cutoff x y).2 ∧ (z_cutoff y x).1 ≤ (z_cutoff y x).2 ∧ (z_ge F x y 0 && z_ge F y x 0) = false then some (z_cutoff x y, z_cutoff y x) else none
def z_cut (F : List (Nat × Nat × Int)) (c : ClassFile.Cond) (b : Bool) (x y : z_tk) : Option (z_I × z_I) := match c, b with
  | .eq, true => z_cuteq F x y
  | .ne, false => z_cuteq F x y
  | .eq, false => z_cutne F x y
  | .ne, true => z_cutne F x y
  | .lt, true => z_cutle F x y (-1)
  | .ge, false => z_cutle F x y (-1)
  | .le, true => z_cutle F x y 0
  | .gt, false => z_cutle F x y 0
  | .gt, true => (z_cutle F y x (-1)).map fun q => (q.2, q.1)
  | .le, false => (z_cutle F y x (-1)).map fun q => (q.2, q.1)
  | .ge, true => (z_cutle F y x 0).map fun q => (q.2, q.1)
  | .lt, false => (z_cutle F y x 0).map fun q => (q.2, q.1)
variable {N : List Int} {F : List (Nat × Nat × Int)} {x y : z_tk} {a b : Int}
theorem z_cutle_ok (hF : z_gx N F) (hx : z_gi N x a) (hy : z_gi N y b) {k : Int} (h : a ≤ b + k) : ∃ r, z_cutle F x y k = some r ∧ r.1.1 ≤ a ∧ a ≤ r.1.2 ∧ r.2.1 ≤ b ∧ b ≤ r.2.2 := by
  unfold z_cutle
  obtain ⟨x1, x2, x3⟩ := id hx
  obtain ⟨y1, y2, y3⟩ := id hy
  rw [if_pos]
  · exact ⟨_, rfl, by show z_lo x ≤ a; omega, by show a ≤ min (z_hi x) (z_hi y + k); omega, by show max (z_lo y) (z_lo x - k) ≤ b; omega, by show b ≤ z_hi y; omega⟩
  · refine ⟨by omega, ?_⟩
    cases hg : z_ge F y x (k + 1) with
    | false => rfl
    | true =>
      have := z_ge_use hF hg hy hx
      omega
theorem z_cuteq_ok (hF : z_gx N F) (hx : z_gi N x a) (hy : z_gi N y b) (h : a = b) : ∃ r, z_cuteq F x y = some r ∧ r.1.1 ≤ a ∧ a ≤ r.1.2 ∧ r.2.1 ≤ b ∧ b ≤ r.2.2 := by
  unfold z_cuteq
  obtain ⟨x1, x2, x3⟩ := id hx
  obtain ⟨y1, y2, y3⟩ := id hy
  rw [if_pos]
  · exact ⟨_, rfl, by show max (z_lo x) (z_lo y) ≤ a; omega, by show a ≤ min (z_hi x) (z_hi y); omega, by show max (z_lo x) (z_lo y) ≤ b; omega, by show b ≤ min (z_hi x) (z_hi y); omega⟩
  · refine ⟨by omega, ?_, ?_⟩
    · cases hg : z_ge F y x 1 with
      | false => rfl
      | true =>
        have := z_ge_use hF hg hy hx
        omega
    · cases hg : z_ge F x y 1 with
      | false => rfl
      | true =>
        have := z_ge_use hF hg hx hy
        omega
theorem z_cutoff_ok {x y : z_tk} {a b : Int} (hx : z_gi N x a) (hy : z_gi N y b) (h : a ≠ b) : (z_cutoff x y).1 ≤ a ∧ a ≤ (z_cutoff x y).2 := by
  obtain ⟨x1, x2, -⟩ := hx
  obtain ⟨y1, y2, -⟩ := hy
  unfold z_cutoff
  split
  · rename_i h1
    have e : z_lo y = z_hi y := by simpa [z_one, z_iv, z_lo, z_hi] using h1
    refine ⟨?_, ?_⟩
    · show (if z_lo x = z_lo y then z_lo x + 1 else z_lo x) ≤ a
      split <;> omega
    · show a ≤ (if z_hi x = z_lo y then z_hi x - 1 else z_hi x)
      split <;> omega
  · exact ⟨x1, x2⟩
theorem z_cutne_ok (hF : z_gx N F) (hx : z_gi N x a) (hy : z_gi N y b) (h : a ≠ b) : ∃ r, z_cutne F x y = some r ∧ r.1.1 ≤ a ∧ a ≤ r.1.2 ∧ r.2.1 ≤ b ∧ b ≤ r.2.2 := by
  have g1 := z_cutoff_ok hx hy h
  have g2 := z_cutoff_ok hy hx (Ne.symm h)
  unfold z_cutne
  rw [if_pos]
  · exact ⟨_, rfl, g1.1, g1.2, g2.1, g2.2⟩
  · refine ⟨by omega, by omega, ?_⟩
    cases h1 : z_ge F x y 0 with
    | false => rfl
    | true =>
      cases h2 : z_ge F y x 0 with
      | false => rfl
      | true =>
        have := z_ge_use hF h1 hx hy
        have := z_ge_use hF h2 hy hx
        omega
theorem z_cut_ok (hF : z_gx N F) {c : ClassFile.Cond} {u v : Int32} (hx : z_gi N x u.toInt) (hy : z_gi N y v.toInt) : ∃ r, z_cut F c (z_cmp c u v) x y = some r ∧ r.1.1 ≤ u.toInt ∧ u.toInt ≤ r.1.2 ∧ r.2.1 ≤ v.toInt ∧ v.toInt ≤ r.2.2 := by
  have sw : ∀ {k : Int}, v.toInt ≤ u.toInt + k → ∃ r, (z_cutle F y x k).map (fun q => (q.2, q.1)) = some r ∧ r.1.1 ≤ u.toInt ∧ u.toInt ≤ r.1.2 ∧ r.2.1 ≤ v.toInt ∧ v.toInt ≤ r.2.2 := fun {k} h => by
    obtain ⟨r, h1, h2, h3, h4, h5⟩ := z_cutle_ok hF hy hx h
    exact ⟨(r.2, r.1), by rw [h1]; rfl, h4, h5, h2, h3⟩
  have eqi : u = v ↔ u.toInt = v.toInt := ⟨fun h => by rw [h], fun h => Int32.toInt_inj.mp h⟩
  have lti : u < v ↔ u.toInt < v.toInt := Int32.lt_iff_toInt_lt
  have gti : v < u ↔ v.toInt < u.toInt := Int32.lt_iff_toInt_lt
  have lei : u ≤ v ↔ u.toInt ≤ v.toInt := Int32.le_iff_toInt_le
  have gei : v ≤ u ↔ v.toInt ≤ u.toInt := Int32.le_iff_toInt_le
  cases c
  case eq =>
    by_cases h : u = v
    · rw [show z_cmp .eq u v = true by simp [z_cmp, h]]
      exact z_cuteq_ok hF hx hy (eqi.mp h)
    · rw [show z_cmp .eq u v = false by simp [z_cmp, h]]
      exact z_cutne_ok hF hx hy (fun q => h (eqi.mpr q))
  case ne =>
    by_cases h : u = v
    · rw [show z_cmp .ne u v = false by simp [z_cmp, h]]
      exact z_cuteq_ok hF hx hy (eqi.mp h)
    · rw [show z_cmp .ne u v = true by simp [z_cmp, h]]
      exact z_cutne_ok hF hx hy (fun q => h (eqi.mpr q))
  case lt =>
    by_cases h : u < v
    · rw [show z_cmp .lt u v = true by simp [z_cmp, h]]
      exact z_cutle_ok hF hx hy (by have := lti.mp h; omega)
    · rw [show z_cmp .lt u v = false by simp [z_cmp, h]]
      exact sw (by have : ¬ u.toInt < v.toInt := fun q => h (lti.mpr q); omega)
  case ge =>
    by_cases h : v ≤ u
    · rw [show z_cmp .ge u v = true by simp [z_cmp, h]]
      exact sw (by have := gei.mp h; omega)
    · rw [show z_cmp .ge u v = false by simp [z_cmp, h]]
      exact z_cutle_ok hF hx hy (by have : ¬ v.toInt ≤ u.toInt := fun q => h (gei.mpr q); omega)
  case gt =>
    by_cases h : v < u
    · rw [show z_cmp .gt u v = true by simp [z_cmp, h]]
      exact sw (by have := gti.mp h; omega)
    · rw [show z_cmp .gt u v = false by simp [z_cmp, h]]
      exact z_cutle_ok hF hx hy (by have : ¬ v.toInt < u.toInt := fun q => h (gti.mpr q); omega)
  case le =>
    by_cases h : u ≤ v
    · rw [show z_cmp .le u v = true by simp [z_cmp, h]]
      exact z_cutle_ok hF hx hy (by have := lei.mp h; omega)
    · rw [show z_cmp .le u v = false by simp [z_cmp, h]]
      exact sw (by have : ¬ u.toInt ≤ v.toInt := fun q => h (lei.mpr q); omega)
end ZAJ
end
section
section ZAL
variable {N : List Int} {al : Nat → Option Nat}
/-- may the entry of k be a wide one? -/
def z_awide (L : List (Nat × z_av)) (k : Nat) : Bool := match z_aget L k with
  | some t => z_acat t == 2
  | none => true
def z_aset1 (L : List (Nat × z_av)) (i : Nat) (t : z_av) : List (Nat × z_av) := (i, t) :: L.filter (fun q => !(q.1 == i) && !(q.1 + 1 == i && z_awide L q.1))
def z_aset2 (L : List (Nat × z_av)) (i : Nat) (t : z_av) : List (Nat × z_av) := (i, t) :: L.filter (fun q => !(q.1 == i) && (!(q.1 == i + 1) && !(q.1 + 1 == i && z_awide L q.1)))
theorem z_aget_filter (p : Nat → Bool) : ∀ (L : List (Nat × z_av)) (j : Nat), z_aget (L.filter fun q => p q.1) j = if p j = true then z_aget L j else none
  | [], j => by simp [z_aget]
  | q :: r, j => by
    have ih := z_aget_filter p r j
    by_cases hp : p q.1 = true
    · rw [List.filter_cons_of_pos (p := fun q : Nat × z_av => p q.1) (a := q) (l := r) hp]
      show (if q.1 == j then some q.2 else z_aget (r.filter fun q => p q.1) j) = if p j = true then (if q.1 == j then some q.2 else z_aget r j) else none
      rw [ih]
      by_cases hj : q.1 = j
      · subst hj
        simp [hp]
      · simp [hj]
    · rw [List.filter_cons_of_neg (p := fun q : Nat × z_av => p q.1) (a := q) (l := r) hp, ih]
      show _ = if p j = true then (if q.1 == j then some q.2 else z_aget r j) else none
      by_cases hj : q.1 = j
      · subst hj
        simp [hp]
      · simp [hj]
theorem z_get_keep {p : Nat × Value → Bool} {j : Nat} {w : Value} (hp : p (j, w) = true) : ∀ {l : z_L}, z_get l j = some w → (∀ q, q.1 = j → q.2 = w → p q = true) → z_get (l.filter p) j = some w
  | [], h, _ => by cases h
  | q :: r, h, hq => by
    unfold z_get at h
    split at h
    · rename_i e
      have e' : q.1 = j := by simpa using e
      cases h
      rw [List.filter_cons_of_pos (hq q e' rfl)]
      unfold z_get
      rw [if_pos e]
    · rename_i e
      have ih := z_get_keep hp h hq
      by_cases h2 : p q = true
      · rw [List.filter_cons_of_pos h2]
        unfold z_get
        rw [if_neg e]
        exact ih
      · rw [List.filter_cons_of_neg h2]
        exact ih
theorem z_aset1_ok {L : List (Nat × z_av)} {l : z_L} {i : Nat} {t : z_av} {v : Value} (hL : z_gl N al L l) (ht : z_gv N al t v) : z_gl N al (z_aset1 L i t) (z_set1 l i v) := by
  intro j u hu
  unfold z_aset1 at hu
  have hu : (if i == j then some t else z_aget (L.filter fun q => !(q.1 == i) && !(q.1 + 1 == i && z_awide L q.1)) j) = some u := hu
  by_cases hj : i = j
  · subst hj
    simp at hu
    subst hu
    exact ⟨v, by unfold z_set1 z_get; simp, ht⟩
  · have hne : (i == j) = false := by simpa using hj
    rw [hne] at hu
    rw [if_neg (by decide), z_aget_filter (fun k => !(k == i) && !(k + 1 == i && z_awide L k))] at hu
    split at hu
    · rename_i hp
      obtain ⟨w, h1, h2⟩ := hL j u hu
      refine ⟨w, ?_, h2⟩
      unfold z_set1 z_get
      rw [if_neg (by simpa using hj)]
      simp only [Bool.and_eq_true, Bool.not_eq_true'] at hp
      have hcat : (j + 1 == i && w.category == 2) = false := by
        have h3 := hp.2
        by_cases h4 : j + 1 = i
        · have h5 : z_awide L j = false := by simpa [h4] using h3
          unfold z_awide at h5
          rw [hu] at h5
          have h6 := z_acat_eq h2
          rw [h6]
          simp [h4]
          simpa using h5
        · simp [h4]
      refine z_get_keep ?_ h1 (fun q e1 e2 => ?_)
      · simp only [hcat, hp.1]
        rfl
      · rw [e1, e2, hcat, hp.1]
        rfl
    · cases hu
theorem z_aset2_ok {L : List (Nat × z_av)} {l : z_L} {i : Nat} {t : z_av} {v : Value} (hL : z_gl N al L l) (ht : z_gv N al t v) : z_gl N al (z_aset2 L i t) (z_set2 l i v) := by
  intro j u hu
  unfold z_aset2 at hu
  have hu : (if i == j then some t else z_aget (L.filter fun q => !(q.1 == i) && (!(q.1 == i + 1) && !(q.1 + 1 == i && z_awide L q.1))) j) = some u := hu
  by_cases hj : i = j
  · subst hj
    simp at hu
    subst hu
    exact ⟨v, by unfold z_set2 z_get; simp, ht⟩
  · have hne : (i == j) = false := by simpa using hj
    rw [hne] at hu
    rw [if_neg (by decide), z_aget_filter (fun k => !(k == i) && (!(k == i + 1) && !(k + 1 == i && z_awide L k)))] at hu
    split at hu
    · rename_i hp
      obtain ⟨w, h1, h2⟩ := hL j u hu
      refine ⟨w, ?_, h2⟩
      unfold z_set2 z_get
      rw [if_neg (by simpa using hj)]
      simp only [Bool.and_eq_true, Bool.not_eq_true'] at hp
      have hcat : (j + 1 == i && w.category == 2) = false := by
        have h3 := hp.2.2
        by_cases h4 : j + 1 = i
        · have h5 : z_awide L j = false := by simpa [h4] using h3
          unfold z_awide at h5
          rw [hu] at h5
          have h6 := z_acat_eq h2
          rw [h6]
          simp [h4]
          simpa using h5
        · simp [h4]
      refine z_get_keep ?_ h1 (fun q e1 e2 => ?_)
      · simp only [hcat, hp.1, hp.2.1]
        rfl
      · rw [e1, e2, hcat, hp.1, hp.2.1]
        rfl
    · cases hu
def z_akI : z_av → Bool
  | .inl _ => true
  | _ => false
def z_akL : z_av → Bool
  | .inr (.inl _) => true
  | _ => false
def z_akA : z_av → Bool
  | .inr (.inr _) => true
  | _ => false
theorem z_akI_ok : ∀ {t : z_av} {v : Value}, z_akI t = true → z_gv N al t v → z_isI v = true
  | .inl _, _, _, ⟨_, e, _⟩ => by rw [e]; rfl
  | .inr _, _, h, _ => by cases h
theorem z_akL_ok : ∀ {t : z_av} {v : Value}, z_akL t = true → z_gv N al t v → z_isL v = true
  | .inr (.inl _), _, _, ⟨_, e, _⟩ => by rw [e]; rfl
  | .inl _, _, h, _ => by cases h
  | .inr (.inr _), _, h, _ => by cases h
theorem z_akA_ok : ∀ {t : z_av} {v : Value}, z_akA t = true → z_gv N al t v → z_isA v = true
  | .inr (.inr _), _, _, Or.inl ⟨e, _⟩ => by rw [e]; rfl
  | .inr (.inr _), _, _, Or.inr ⟨_, _, e, _⟩ => by rw [e]; rfl
  | .inl _, _, h, _ => by cases h
  | .inr (.inl _), _, h, _ => by cases h
def z_ald (k : z_av → Bool) (L : List (Nat × z_av)) (i : Nat) (st : List z_av) : Option (List (Nat × z_av) × List z_av) := match z_aget L i with
  | some t => if k t then some (L, t :: st) else none
  | none => none
def z_ast1 (k : z_av → Bool) (nL : Nat) (L : List (Nat × z_av)) (i : Nat) : List z_av → Option (List (Nat × z_av) × List z_av)
  | t :: st => if k t && decide (i < nL) then some (z_aset1 L i t, st) else none
  | _ => none
def z_ast2 (nL : Nat) (L : List (Nat × z_av)) (i : Nat) : List z_av → Option (List (Nat × z_av) × List z_av)
  | .inr (.inl t) :: st => if i + 1 < nL then some (z_aset2 L i (.inr (.inl t)), st) else none
  | _ => none
def z_ainc (nL : Nat) (L : List (Nat × z_av)) (i : Nat) (n : Int) (st : List z_av) : Option (List (Nat × z_av) × List z_av) := match z_aget L i with
  | some (.inl t) => if i < nL then some (z_aset1 L i (.inl (z_ex2 (fun a b => a + b) z_add32 t (z_tc (Int32.ofInt n).toInt))), st) else none
  | _ => none
def z_aloc (nL : Nat) : Instr → List (Nat × z_av) → List z_av → Option (List (Nat × z_av) × List z_av)
  | .iload i => fun l st => z_ald z_akI l i st
  | .iload_n i => fun l st => z_ald z_akI l i st
  | .lload i => fun l st => z_ald z_akL l i st
  | .lload_n i => fun l st => z_ald z_akL l i st
  | .aload i => fun l st => z_ald z_akA l i st
  | .aload_n i => fun l st => z_ald z_akA l i st
  | .istore i => fun l st => z_ast1 z_akI nL l i st
  | .istore_n i => fun l st => z_ast1 z_akI nL l i st
  | .astore i => fun l st => z_ast1 z_akA nL l i st
  | .astore_n i => fun l st => z_ast1 z_akA nL l i st
  | .lstore i => fun l st => z_ast2 nL l i st
  | .lstore_n i => fun l st => z_ast2 nL l i st
  | .iinc i n => fun l st => z_ainc nL l i n st
  | _ => fun _ _ => none
theorem z_ald_ok {ka : z_av → Bool} {k : Value → Bool} (hk : ∀ {t v}, ka t = true → z_gv N al t v → k v = true) {L L' : List (Nat × z_av)} {l : z_L} {i : Nat} {ast ast' : List z_av} {st : List Value} (h : z_ald ka L i ast = some (L', ast')) (hL : z_gl N al L l) (hs : z_all2 (z_gv N al) ast st) : ∃ l' st', z_ld k l i st = some (l', st') ∧ z_gl N al L' l' ∧ z_all2 (z_gv N al) ast' st' := by
  unfold z_ald at h
  split at h
  · rename_i t ht
    split at h
    · rename_i hkt
      cases h
      obtain ⟨v, h1, h2⟩ := hL i t ht
      refine ⟨l, v :: st, ?_, hL, h2, hs⟩
      unfold z_ld
      rw [h1]
      show (if k v = true then some (l, v :: st) else none) = _
      rw [if_pos (hk hkt h2)]
    · cases h
  · cases h
theorem z_ast1_ok {ka : z_av → Bool} {k : Value → Bool} (hk : ∀ {t v}, ka t = true → z_gv N al t v → k v = true) {nL : Nat} {L L' : List (Nat × z_av)} {l : z_L} {i : Nat} {ast ast' : List z_av} {st : List Value} (h : z_ast1 ka nL L i ast = some (L', ast')) (hL : z_gl N al L l) (hs : z_all2 (z_gv N al) ast st) : ∃ l' st', z_st1 k nL l i st = some (l', st') ∧ z_gl N al L' l' ∧ z_all2 (z_gv N al) ast' st' := by
  unfold z_ast1 at h
  split at h
  · split at h
    · rename_i hkt
      rw [Bool.and_eq_true] at hkt
      cases h
      match st, hs with
      | v :: st, ⟨h1, h2⟩ =>
        refine ⟨z_set1 l i v, st, ?_, z_aset1_ok hL h1, h2⟩
        show (if (k v && decide (i < nL)) = true then some (z_set1 l i v, st) else none) = _
        rw [if_pos (by rw [Bool.and_eq_true]; exact ⟨hk hkt.1 h1, hkt.2⟩)]
    · cases h
  · cases h
theorem z_ast2_ok {nL : Nat} {L L' : List (Nat × z_av)} {l : z_L} {i : Nat} {ast ast' : List z_av} {st : List Value} (h : z_ast2 nL L i ast = some (L', ast')) (hL : z_gl N al L l) (hs : z_all2 (z_gv N al) ast st) : ∃ l' st', z_st2 nL l i st = some (l', st') ∧ z_gl N al L' l' ∧ z_all2 (z_gv N al) ast' st' := by
  unfold z_ast2 at h
  split at h
  · split at h
    · rename_i hi
      cases h
      match st, hs with
      | v :: st, ⟨h1, h2⟩ =>
        obtain ⟨x, e, hx⟩ := id h1
        subst e
        refine ⟨z_set2 l i (.long x), st, ?_, z_aset2_ok hL h1, h2⟩
        show (if i + 1 < nL then some (z_set2 l i (.long x), st) else none) = _
        rw [if_pos hi]
    · cases h
  · cases h
theorem z_ainc_ok {nL : Nat} {L L' : List (Nat × z_av)} {l : z_L} {i : Nat} {n : Int} {ast ast' : List z_av} {st : List Value} (h : z_ainc nL L i n ast = some (L', ast')) (hL : z_gl N al L l) (hs : z_all2 (z_gv N al) ast st) : ∃ l' st', z_inc nL l i n st = some (l', st') ∧ z_gl N al L' l' ∧ z_all2 (z_gv N al) ast' st' := by
  unfold z_ainc at h
  split at h
  · rename_i t ht
    split at h
    · rename_i hi
      cases h
      obtain ⟨v, h1, x, e, hx⟩ := hL i _ ht
      subst e
      refine ⟨z_set1 l i (.int (x + Int32.ofInt n)), st, ?_, z_aset1_ok hL ⟨_, rfl, z_ex2_gi hx z_tc_gi (z_add32_gi hx z_tc_gi)⟩, hs⟩
      unfold z_inc
      rw [h1]
      show (if i < nL then _ else none) = _
      rw [if_pos hi]
    · cases h
  · cases h
theorem z_aloc_ok {nL : Nat} {ins : Instr} {L L' : List (Nat × z_av)} {l : z_L} {ast ast' : List z_av} {st : List Value} (h : z_aloc nL ins L ast = some (L', ast')) (hL : z_gl N al L l) (hs : z_all2 (z_gv N al) ast st) : ∃ l' st', z_loc nL ins l st = some (l', st') ∧ z_gl N al L' l' ∧ z_all2 (z_gv N al) ast' st' := by
  cases ins
  case iload i => exact z_ald_ok (fun h1 h2 => z_akI_ok h1 h2) h hL hs
  case iload_n i => exact z_ald_ok (fun h1 h2 => z_akI_ok h1 h2) h hL hs
  case lload i => exact z_ald_ok (fun h1 h2 => z_akL_ok h1 h2) h hL hs
  case lload_n i => exact z_ald_ok (fun h1 h2 => z_akL_ok h1 h2) h hL hs
  case aload i => exact z_ald_ok (fun h1 h2 => z_akA_ok h1 h2) h hL hs
  case aload_n i => exact z_ald_ok (fun h1 h2 => z_akA_ok h1 h2) h hL hs
  case istore i => exact z_ast1_ok (fun h1 h2 => z_akI_ok h1 h2) h hL hs
  case istore_n i => exact z_ast1_ok (fun h1 h2 => z_akI_ok h1 h2) h hL hs
  case astore i => exact z_ast1_ok (fun h1 h2 => z_akA_ok h1 h2) h hL hs
  case astore_n i => exact z_ast1_ok (fun h1 h2 => z_akA_ok h1 h2) h hL hs
  case lstore i => exact z_ast2_ok h hL hs
  case lstore_n i => exact z_ast2_ok h hL hs
  case iinc i n => exact z_ainc_ok h hL hs
  all_goals (cases h)
end ZAL
end
section
section ZABR
variable {strs : z_Ss} {N : List Int} {al : Nat → Option Nat}
def z_go (S : z_as_) (t : Nat) (L : List (Nat × z_av)) (r : List z_av) : z_as_ := ((S.1.1, t, L, r, S.1.2.2.2.2), S.2)
theorem z_go_gs {S : z_as_} {f : z_Fr} {rest : List z_Fr} {P : z_H} {t : Nat} {L : List (Nat × z_av)} {l : z_L} {r : List z_av} {r' : List Value} (hS : z_gs strs N al S f rest P) (hL : z_gl N al L l) (hr : z_all2 (z_gv N al) r r') : z_gs strs N al (z_go S t L r) (f.1, t, l, r', f.2.2.2.2.1, f.2.2.2.2.2) rest P := by
  obtain ⟨⟨h1, h2, h3, h4, h5, h6⟩, h7⟩ := hS
  exact ⟨⟨h1, rfl, hL, hr, h5, h6⟩, h7⟩
def z_nar (x : z_tk) (i : z_I) (S : z_as_) : z_as_ := z_cls_ x.1 (i.1 - x.2.2.1) (i.2 - x.2.1) S
theorem z_nar_gs {S : z_as_} {f : z_Fr} {rest : List z_Fr} {P : z_H} {x : z_tk} {i : z_I} {v : Int} (hx : z_gi N x v) (h1 : i.1 ≤ v) (h2 : v ≤ i.2) (hS : z_gs strs N al S f rest P) : z_gs strs N al (z_nar x i S) f rest P := by
  refine z_cls_gs (fun hk => ?_) hS
  obtain ⟨-, -, h0 | ⟨w, e, h4, h5⟩⟩ := hx
  · exact absurd h0 hk
  · exact ⟨w, e, by omega, by omega⟩
def z_addf (X : List (Nat × Nat × Int)) (S : z_as_) : z_as_ := (S.1, S.2.1, S.2.2.1, S.2.2.2.1, X ++ S.2.2.2.2.1, S.2.2.2.2.2)
theorem z_addf_gs {S : z_as_} {f : z_Fr} {rest : List z_Fr} {P : z_H} {X : List (Nat × Nat × Int)} (hX : z_gx N X) (hS : z_gs strs N al S f rest P) : z_gs strs N al (z_addf X S) f rest P := by
  obtain ⟨h1, h2, h3, h4, h5, h6⟩ := hS
  refine ⟨h1, h2, h3, h4, fun q hq => ?_, h6⟩
  rcases List.mem_append.mp hq with hq | hq
  · exact hX q hq
  · exact h5 q hq
/-- x + k ≤ y as a fact -/
def z_f1 (x y : z_tk) (k : Int) : List (Nat × Nat × Int) := if z_xt x && z_xt y then [(x.1, y.1, x.2.1 + k - y.2.1)] else []
theorem z_f1_ok {x y : z_tk} {a b k : Int} (hx : z_gi N x a) (hy : z_gi N y b) (h : a + k ≤ b) : z_gx N (z_f1 x y k) := by
  unfold z_f1
  split
  · rename_i hc
    rw [Bool.and_eq_true] at hc
    obtain ⟨w, e1, r1⟩ := z_xt_eq hc.1 hx
    obtain ⟨u, e2, r2⟩ := z_xt_eq hc.2 hy
    intro q hq
    rw [List.mem_singleton] at hq
    subst hq
    exact ⟨w, u, e1, e2, by show w + (x.2.1 + k - y.2.1) ≤ u; omega⟩
  · intro q hq
    cases hq
theorem z_gx_app {X Y : List (Nat × Nat × Int)} (h1 : z_gx N X) (h2 : z_gx N Y) : z_gx N (X ++ Y) := by
  intro q hq
  rcases List.mem_append.mp hq with hq | hq
  · exact h1 q hq
  · exact h2 q hq
theorem z_gx_nil : z_gx N [] := fun q hq => by cases hq
def z_fcts (c : ClassFile.Cond) (b : Bool) (x y : z_tk) : List (Nat × Nat × Int) := match c, b with
  | .eq, true => z_f1 x y 0 ++ z_f1 y x 0
  | .ne, false => z_f1 x y 0 ++ z_f1 y x 0
  | .lt, true => z_f1 x y 1
  | .ge, false => z_f1 x y 1
  | .le, true => z_f1 x y 0
  | .gt, false => z_f1 x y 0
  | .gt, true => z_f1 y x 1
  | .le, false => z_f1 y x 1
  | .ge, true => z_f1 y x 0
  | .lt, false => z_f1 y x 0
  | _, _ => []
theorem z_fcts_ok {c : ClassFile.Cond} {x y : z_tk} {u v : Int32} (hx : z_gi N x u.toInt) (hy : z_gi N y v.toInt) : z_gx N (z_fcts c (z_cmp c u v) x y) := by
  have eqi : u = v ↔ u.toInt = v.toInt := ⟨fun h => by rw [h], fun h => Int32.toInt_inj.mp h⟩
  have lti : u < v ↔ u.toInt < v.toInt := Int32.lt_iff_toInt_lt
  have gti : v < u ↔ v.toInt < u.toInt := Int32.lt_iff_toInt_lt
  have lei : u ≤ v ↔ u.toInt ≤ v.toInt := Int32.le_iff_toInt_le
  have gei : v ≤ u ↔ v.toInt ≤ u.toInt := Int32.le_iff_toInt_le
  cases c
  case eq =>
    by_cases h : u = v
    · rw [show z_cmp .eq u v = true by simp [z_cmp, h]]
      have := eqi.mp h
      exact z_gx_app (z_f1_ok hx hy (by omega)) (z_f1_ok hy hx (by omega))
    · rw [show z_cmp .eq u v = false by simp [z_cmp, h]]
      exact z_gx_nil
  case ne =>
    by_cases h : u = v
    · rw [show z_cmp .ne u v = false by simp [z_cmp, h]]
      have := eqi.mp h
      exact z_gx_app (z_f1_ok hx hy (by omega)) (z_f1_ok hy hx (by omega))
    · rw [show z_cmp .ne u v = true by simp [z_cmp, h]]
      exact z_gx_nil
  case lt =>
    by_cases h : u < v
    · rw [show z_cmp .lt u v = true by simp [z_cmp, h]]
      exact z_f1_ok hx hy (by have := lti.mp h; omega)
    · rw [show z_cmp .lt u v = false by simp [z_cmp, h]]
      exact z_f1_ok hy hx (by have : ¬ u.toInt < v.toInt := fun q => h (lti.mpr q); omega)
  case ge =>
    by_cases h : v ≤ u
    · rw [show z_cmp .ge u v = true by simp [z_cmp, h]]
      exact z_f1_ok hy hx (by have := gei.mp h; omega)
    · rw [show z_cmp .ge u v = false by simp [z_cmp, h]]
      exact z_f1_ok hx hy (by have : ¬ v.toInt ≤ u.toInt := fun q => h (gei.mpr q); omega)
  case gt =>
    by_cases h : v < u
    · rw [show z_cmp .gt u v = true by simp [z_cmp, h]]
      exact z_f1_ok hy hx (by have := gti.mp h; omega)
    · rw [show z_cmp .gt u v = false by simp [z_cmp, h]]
      exact z_f1_ok hx hy (by have : ¬ v.toInt < u.toInt := fun q => h (gti.mpr q); omega)
  case le =>
    by_cases h : u ≤ v
    · rw [show z_cmp .le u v = true by simp [z_cmp, h]]
      exact z_f1_ok hx hy (by have := lei.mp h; omega)
    · rw [show z_cmp .le u v = false by simp [z_cmp, h]]
      exact z_f1_ok hy hx (by have : ¬ u.toInt ≤ v.toInt := fun q => h (lei.mpr q); omega)
/-- the branch b of a compare -/
def z_br1 (S : z_as_) (t : Nat) (r : List z_av) (c : ClassFile.Cond) (b : Bool) (x y : z_tk) : List z_as_ := match z_cut S.2.2.2.2.1 c b x y with
  | none => []
  | some q => [z_nar x q.1 (z_nar y q.2 (z_addf (z_fcts c b x y) (z_go S t S.1.2.2.1 r)))]
theorem z_br1_ok {S : z_as_} {f : z_Fr} {rest : List z_Fr} {P : z_H} {t : Nat} {r : List z_av} {r' : List Value} {c : ClassFile.Cond} {x y : z_tk} {u v : Int32} (hx : z_gi N x u.toInt) (hy : z_gi N y v.toInt) (hS : z_gs strs N al S f rest P) (hr : z_all2 (z_gv N al) r r') : ∃ S' ∈ z_br1 S t r c (z_cmp c u v) x y, z_gs strs N al S' (f.1, t, f.2.2.1, r', f.2.2.2.2.1, f.2.2.2.2.2) rest P := by
  obtain ⟨q, h1, h2, h3, h4, h5⟩ := z_cut_ok (c := c) hS.2.2.2.2.1 hx hy
  unfold z_br1
  rw [h1]
  exact ⟨_, List.mem_singleton_self _, z_nar_gs hx h2 h3 (z_nar_gs hy h4 h5 (z_addf_gs (z_fcts_ok hx hy) (z_go_gs hS hS.1.2.2.1 hr)))⟩
/-- unlike: less or greater -/
def z_ned : ClassFile.Cond → Bool → Bool
  | .ne, true => true
  | .eq, false => true
  | _, _ => false
theorem z_ned_ok {c : ClassFile.Cond} {u v : Int32} (h : z_ned c (z_cmp c u v) = true) : z_cmp .lt u v = true ∨ z_cmp .gt u v = true := by
  have key : u ≠ v → u < v ∨ v < u := fun hne => by
    have h1 : u.toInt ≠ v.toInt := fun q => hne (Int32.toInt_inj.mp q)
    rcases Int.lt_or_gt_of_ne h1 with h2 | h2
    · exact Or.inl (Int32.lt_iff_toInt_lt.mpr h2)
    · exact Or.inr (Int32.lt_iff_toInt_lt.mpr h2)
  have fin : u ≠ v → z_cmp .lt u v = true ∨ z_cmp .gt u v = true := fun hne => (key hne).imp (fun q => decide_eq_true q) (fun q => decide_eq_true q)
  cases c
  case eq =>
    refine fin fun q => ?_
    rw [show z_cmp .eq u v = true from decide_eq_true q] at h
    cases h
  case ne =>
    refine fin fun q => ?_
    rw [show z_cmp .ne u v = false from decide_eq_false fun k => k q] at h
    cases h
  all_goals
    exfalso
    generalize z_cmp _ u v = b at h
    cases b <;> cases h
def z_br (S : z_as_) (t : Nat) (r : List z_av) (c : ClassFile.Cond) (b : Bool) (x y : z_tk) : List z_as_ := if (z_ned c b && (z_xt x && z_xt y)) = true then z_br1 S t r .lt true x y ++ z_br1 S t r .gt true x y else z_br1 S t r c b x y
theorem z_br_ok {S : z_as_} {f : z_Fr} {rest : List z_Fr} {P : z_H} {t : Nat} {r : List z_av} {r' : List Value} {c : ClassFile.Cond} {x y : z_tk} {u v : Int32} (hx : z_gi N x u.toInt) (hy : z_gi N y v.toInt) (hS : z_gs strs N al S f rest P) (hr : z_all2 (z_gv N al) r r') : ∃ S' ∈ z_br S t r c (z_cmp c u v) x y, z_gs strs N al S' (f.1, t, f.2.2.1, r', f.2.2.2.2.1, f.2.2.2.2.2) rest P := by
  unfold z_br
  split
  · rename_i hc
    rw [Bool.and_eq_true] at hc
    rcases z_ned_ok hc.1 with h | h
    · obtain ⟨S', g1, g2⟩ := z_br1_ok (t := t) (c := .lt) hx hy hS hr
      rw [h] at g1
      exact ⟨S', List.mem_append.mpr (Or.inl g1), g2⟩
    · obtain ⟨S', g1, g2⟩ := z_br1_ok (t := t) (c := .gt) hx hy hS hr
      rw [h] at g1
      exact ⟨S', List.mem_append.mpr (Or.inr g1), g2⟩
  · exact z_br1_ok hx hy hS hr
/-- the places of a switch, from the k-th on -/
def z_sws (S : z_as_) (r : List z_av) (x : z_tk) (pc : Nat) : Int → List Int → Option (List z_as_)
  | _, [] => some []
  | k, off :: offs => if z_lo x ≤ k ∧ k ≤ z_hi x then (match z_tg pc off, z_sws S r x pc (k + 1) offs with
      | some t, some W => some (z_nar x (k, k) (z_go S t S.1.2.2.1 r) :: W)
      | _, _ => none) else z_sws S r x pc (k + 1) offs
theorem z_sws_ok {S : z_as_} {f : z_Fr} {rest : List z_Fr} {P : z_H} {r : List z_av} {r' : List Value} {x : z_tk} {pc : Nat} {u : Int} (hx : z_gi N x u) (hS : z_gs strs N al S f rest P) (hr : z_all2 (z_gv N al) r r') : ∀ {offs : List Int} {k : Int} {W : List z_as_}, z_sws S r x pc k offs = some W → k ≤ u → u < k + offs.length → ∃ off t, offs[(u - k).toNat]? = some off ∧ z_tg pc off = some t ∧ ∃ S' ∈ W, z_gs strs N al S' (f.1, t, f.2.2.1, r', f.2.2.2.2.1, f.2.2.2.2.2) rest P
  | [], k, W, _, h1, h2 => by simp at h2; omega
  | off :: offs, k, W, h, h1, h2 => by
    unfold z_sws at h
    by_cases hu : u = k
    · subst hu
      rw [if_pos ⟨hx.1, hx.2.1⟩] at h
      split at h
      · rename_i t W' ht hW
        cases h
        exact ⟨off, t, by simp, ht, _, List.mem_cons_self, z_nar_gs hx (by show u ≤ u; omega) (by show u ≤ u; omega) (z_go_gs hS hS.1.2.2.1 hr)⟩
      · cases h
    · have hlen : u < (k + 1) + offs.length := by
        simp at h2
        omega
      have hidx : ∀ o, offs[(u - (k + 1)).toNat]? = some o → (off :: offs)[(u - k).toNat]? = some o := fun o ho => by
        rw [show (u - k).toNat = (u - (k + 1)).toNat + 1 by omega]
        simpa using ho
      split at h
      · split at h
        · rename_i t W' ht hW
          cases h
          obtain ⟨o, t', g1, g2, S', g3, g4⟩ := z_sws_ok hx hS hr hW (by omega) hlen
          exact ⟨o, t', hidx o g1, g2, S', List.mem_cons_of_mem _ g3, g4⟩
        · cases h
      · obtain ⟨o, t', g1, g2, S', g3, g4⟩ := z_sws_ok hx hS hr h (by omega) hlen
        exact ⟨o, t', hidx o g1, g2, S', g3, g4⟩
def z_sw (S : z_as_) (r : List z_av) (x : z_tk) (pc : Nat) (dflt lo hi : Int) (offs : List Int) : Option (List z_as_) := match z_sws S r x pc lo offs, z_tg pc dflt with
  | some W, some t => if hi + 1 = lo + offs.length then some (W ++ ((if z_lo x < lo then [z_nar x (z_lo x, lo - 1) (z_go S t S.1.2.2.1 r)] else []) ++ (if hi < z_hi x then [z_nar x (hi + 1, z_hi x) (z_go S t S.1.2.2.1 r)] else []))) else none
  | _, _ => none
/-- jumps -/
def z_ajmp (S : z_as_) : Instr → Nat → List z_av → Option (List z_as_)
  | .goto off => fun pc st => (z_tg pc off).map fun t => [z_go S t S.1.2.2.1 st]
  | .ifCond c off => fun pc st => match st with
    | .inl x :: r => (z_tg pc off).map fun t => z_br S t r c true x (z_tc 0) ++ z_br S (pc + 3) r c false x (z_tc 0)
    | _ => none
  | .if_icmp c off => fun pc st => match st with
    | .inl y :: .inl x :: r => (z_tg pc off).map fun t => z_br S t r c true x y ++ z_br S (pc + 3) r c false x y
    | _ => none
  | .ifnull off => fun pc st => match st with
    | .inr (.inr q) :: r => (z_tg pc off).map fun t => (if q.1 then [z_go S t S.1.2.2.1 r] else []) ++ (if q.2.isEmpty then [] else [z_go S (pc + 3) S.1.2.2.1 r])
    | _ => none
  | .ifnonnull off => fun pc st => match st with
    | .inr (.inr q) :: r => (z_tg pc off).map fun t => (if q.1 then [z_go S (pc + 3) S.1.2.2.1 r] else []) ++ (if q.2.isEmpty then [] else [z_go S t S.1.2.2.1 r])
    | _ => none
  | .tableswitch dflt lo hi offs => fun pc st => match st with
    | .inl x :: r => z_sw S r x pc dflt lo hi offs.toList
    | _ => none
  | _ => fun _ _ => none
theorem z_zero_gi : z_gi N (z_tc 0) (0 : Int32).toInt := z_tc_gi
theorem z_ajmp_ok {S : z_as_} {ins : Instr} {pc : Nat} {Ss : List z_as_} {ast : List z_av} {f : z_Fr} {rest : List z_Fr} {P : z_H} {st : List Value} (h : z_ajmp S ins pc ast = some Ss) (hS : z_gs strs N al S f rest P) (hs : z_all2 (z_gv N al) ast st) : ∃ q, z_jmp ins pc st = some q ∧ ∃ S' ∈ Ss, z_gs strs N al S' (f.1, q.1, f.2.2.1, q.2, f.2.2.2.2.1, f.2.2.2.2.2) rest P := by
  cases ins
  case goto off =>
    obtain ⟨t, h1, h2⟩ := z_map_some h
    subst h2
    exact ⟨(t, st), by show (z_tg pc off).map _ = _; rw [h1]; rfl, _, List.mem_singleton_self _, z_go_gs hS hS.1.2.2.1 hs⟩
  case ifCond c off =>
    unfold z_ajmp at h
    dsimp only at h
    split at h
    · obtain ⟨t, h1, h2⟩ := z_map_some h
      subst h2
      match st, hs with
      | _ :: st, ⟨⟨u, e, hu⟩, hr⟩ =>
        subst e
        refine ⟨(if z_cmp c u 0 then t else pc + 3, st), by show (z_tg pc off).map _ = _; rw [h1]; rfl, ?_⟩
        cases hc : z_cmp c u 0 with
        | true =>
          obtain ⟨S', g1, g2⟩ := z_br_ok (t := t) (c := c) (v := 0) hu z_zero_gi hS hr
          rw [hc] at g1
          exact ⟨S', List.mem_append.mpr (Or.inl g1), g2⟩
        | false =>
          obtain ⟨S', g1, g2⟩ := z_br_ok (t := pc + 3) (c := c) (v := 0) hu z_zero_gi hS hr
          rw [hc] at g1
          exact ⟨S', List.mem_append.mpr (Or.inr g1), g2⟩
    · cases h
  case if_icmp c off =>
    unfold z_ajmp at h
    dsimp only at h
    split at h
    · obtain ⟨t, h1, h2⟩ := z_map_some h
      subst h2
      match st, hs with
      | _ :: _ :: st, ⟨⟨v, e1, hv⟩, ⟨u, e2, hu⟩, hr⟩ =>
        subst e1; subst e2
        refine ⟨(if z_cmp c u v then t else pc + 3, st), by show (z_tg pc off).map _ = _; rw [h1]; rfl, ?_⟩
        cases hc : z_cmp c u v with
        | true =>
          obtain ⟨S', g1, g2⟩ := z_br_ok (t := t) (c := c) hu hv hS hr
          rw [hc] at g1
          exact ⟨S', List.mem_append.mpr (Or.inl g1), g2⟩
        | false =>
          obtain ⟨S', g1, g2⟩ := z_br_ok (t := pc + 3) (c := c) hu hv hS hr
          rw [hc] at g1
          exact ⟨S', List.mem_append.mpr (Or.inr g1), g2⟩
    · cases h
  case ifnull off =>
    unfold z_ajmp at h
    dsimp only at h
    split at h
    · rename_i q r
      obtain ⟨t, h1, h2⟩ := z_map_some h
      subst h2
      match st, hs with
      | _ :: st, ⟨Or.inl ⟨e, hq⟩, hr⟩ =>
        subst e
        exact ⟨(t, st), by show (z_tg pc off).map _ = _; rw [h1]; rfl, z_go S t S.1.2.2.1 r, by rw [if_pos hq]; simp, z_go_gs hS hS.1.2.2.1 hr⟩
      | _ :: st, ⟨Or.inr ⟨a, c, e, hq, hc⟩, hr⟩ =>
        subst e
        have hne : q.2 ≠ [] := fun hq2 => by
          rw [hq2] at hc
          cases hc
        exact ⟨(pc + 3, st), rfl, z_go S (pc + 3) S.1.2.2.1 r, by simp [hne], z_go_gs hS hS.1.2.2.1 hr⟩
    · cases h
  case ifnonnull off =>
    unfold z_ajmp at h
    dsimp only at h
    split at h
    · rename_i q r
      obtain ⟨t, h1, h2⟩ := z_map_some h
      subst h2
      match st, hs with
      | _ :: st, ⟨Or.inl ⟨e, hq⟩, hr⟩ =>
        subst e
        exact ⟨(pc + 3, st), rfl, z_go S (pc + 3) S.1.2.2.1 r, by rw [if_pos hq]; simp, z_go_gs hS hS.1.2.2.1 hr⟩
      | _ :: st, ⟨Or.inr ⟨a, c, e, hq, hc⟩, hr⟩ =>
        subst e
        have hne : q.2 ≠ [] := fun hq2 => by
          rw [hq2] at hc
          cases hc
        exact ⟨(t, st), by show (z_tg pc off).map _ = _; rw [h1]; rfl, z_go S t S.1.2.2.1 r, by simp [hne], z_go_gs hS hS.1.2.2.1 hr⟩
    · cases h
  case tableswitch dflt lo hi offs =>
    unfold z_ajmp at h
    dsimp only at h
    split at h
    · rename_i x r
      unfold z_sw at h
      split at h
      · rename_i W t hW ht
        split at h
        · rename_i hlen
          cases h
          match st, hs with
          | _ :: st, ⟨⟨u, e, hu⟩, hr⟩ =>
            subst e
            by_cases hlo : u.toInt < lo
            · refine ⟨(t, st), by show (if u.toInt < lo ∨ hi < u.toInt then (z_tg pc dflt).map _ else _) = _; rw [if_pos (Or.inl hlo), ht]; rfl, z_nar x (z_lo x, lo - 1) (z_go S t S.1.2.2.1 r), ?_, z_nar_gs hu hu.1 (by show u.toInt ≤ lo - 1; omega) (z_go_gs hS hS.1.2.2.1 hr)⟩
              rw [if_pos (show z_lo x < lo by have := hu.1; omega)]
              simp
            · by_cases hhi : hi < u.toInt
              · refine ⟨(t, st), by show (if u.toInt < lo ∨ hi < u.toInt then (z_tg pc dflt).map _ else _) = _; rw [if_pos (Or.inr hhi), ht]; rfl, z_nar x (hi + 1, z_hi x) (z_go S t S.1.2.2.1 r), ?_, z_nar_gs hu (by show hi + 1 ≤ u.toInt; omega) hu.2.1 (z_go_gs hS hS.1.2.2.1 hr)⟩
                rw [if_pos (show hi < z_hi x by have := hu.2.1; omega)]
                simp
              · obtain ⟨off, t', g1, g2, S', g3, g4⟩ := z_sws_ok hu hS hr hW (by omega) (by omega)
                refine ⟨(t', st), ?_, S', List.mem_append.mpr (Or.inl g3), g4⟩
                show (if u.toInt < lo ∨ hi < u.toInt then _ else match offs[(u.toInt - lo).toNat]? with | some off => (z_tg pc off).map _ | none => none) = _
                rw [if_neg (by omega), ← Array.getElem?_toList, g1]
                show (z_tg pc off).map _ = _
                rw [g2]
                rfl
        · cases h
      · cases h
    · cases h
  all_goals (cases h)
end ZABR
end
section
section ZARD
variable {strs : z_Ss} {N : List Int} {al : Nat → Option Nat}
/-- two values in one -/
def z_jt (s t : z_tk) : z_tk := if s.1 = t.1 then (s.1, min s.2.1 t.2.1, max s.2.2.1 t.2.2.1, min (z_lo s) (z_lo t), max (z_hi s) (z_hi t)) else (0, 0, 0, min (z_lo s) (z_lo t), max (z_hi s) (z_hi t))
theorem z_jt_l {s t : z_tk} {v : Int} (h : z_gi N s v) : z_gi N (z_jt s t) v := by
  obtain ⟨h1, h2, h3⟩ := h
  unfold z_jt
  split
  · refine ⟨by show min (z_lo s) (z_lo t) ≤ v; omega, by show v ≤ max (z_hi s) (z_hi t); omega, h3.imp id ?_⟩
    rintro ⟨w, e, h4, h5⟩
    exact ⟨w, e, by show w + min s.2.1 t.2.1 ≤ v; omega, by show v ≤ w + max s.2.2.1 t.2.2.1; omega⟩
  · exact ⟨by show min (z_lo s) (z_lo t) ≤ v; omega, by show v ≤ max (z_hi s) (z_hi t); omega, Or.inl rfl⟩
theorem z_jt_r {s t : z_tk} {v : Int} (h : z_gi N t v) : z_gi N (z_jt s t) v := by
  obtain ⟨h1, h2, h3⟩ := h
  unfold z_jt
  split
  · rename_i hst
    refine ⟨by show min (z_lo s) (z_lo t) ≤ v; omega, by show v ≤ max (z_hi s) (z_hi t); omega, ?_⟩
    rcases h3 with h3 | ⟨w, e, h4, h5⟩
    · exact Or.inl (hst.trans h3)
    · exact Or.inr ⟨w, by show N[s.1]? = some w; rw [hst]; exact e, by show w + min s.2.1 t.2.1 ≤ v; omega, by show v ≤ w + max s.2.2.1 t.2.2.1; omega⟩
  · exact ⟨by show min (z_lo s) (z_lo t) ≤ v; omega, by show v ≤ max (z_hi s) (z_hi t); omega, Or.inl rfl⟩
def z_jn : z_av → z_av → Option z_av
  | .inl s, .inl t => some (.inl (z_jt s t))
  | .inr (.inl s), .inr (.inl t) => some (.inr (.inl (z_jt s t)))
  | .inr (.inr s), .inr (.inr t) => some (.inr (.inr (s.1 || t.1, s.2 ++ t.2.filter fun c => !s.2.contains c)))
  | _, _ => none
theorem z_jn_l : ∀ {s t u : z_av} {v : Value}, z_jn s t = some u → z_gv N al s v → z_gv N al u v
  | .inl s, .inl t, _, _, h, ⟨x, e, g⟩ => by cases h; exact ⟨x, e, z_jt_l g⟩
  | .inr (.inl s), .inr (.inl t), _, _, h, ⟨x, e, g⟩ => by cases h; exact ⟨x, e, z_jt_l g⟩
  | .inr (.inr s), .inr (.inr t), _, _, h, Or.inl ⟨e, g⟩ => by cases h; exact Or.inl ⟨e, by show (s.1 || t.1) = true; rw [g]; rfl⟩
  | .inr (.inr s), .inr (.inr t), _, _, h, Or.inr ⟨a, c, e, g1, g2⟩ => by cases h; exact Or.inr ⟨a, c, e, g1, List.mem_append.mpr (Or.inl g2)⟩
  | .inl _, .inr _, _, _, h, _ => by cases h
  | .inr (.inl _), .inl _, _, _, h, _ => by cases h
  | .inr (.inl _), .inr (.inr _), _, _, h, _ => by cases h
  | .inr (.inr _), .inl _, _, _, h, _ => by cases h
  | .inr (.inr _), .inr (.inl _), _, _, h, _ => by cases h
theorem z_jn_r : ∀ {s t u : z_av} {v : Value}, z_jn s t = some u → z_gv N al t v → z_gv N al u v
  | .inl s, .inl t, _, _, h, ⟨x, e, g⟩ => by cases h; exact ⟨x, e, z_jt_r g⟩
  | .inr (.inl s), .inr (.inl t), _, _, h, ⟨x, e, g⟩ => by cases h; exact ⟨x, e, z_jt_r g⟩
  | .inr (.inr s), .inr (.inr t), _, _, h, Or.inl ⟨e, g⟩ => by cases h; exact Or.inl ⟨e, by show (s.1 || t.1) = true; rw [g]; simp⟩
  | .inr (.inr s), .inr (.inr t), _, _, h, Or.inr ⟨a, c, e, g1, g2⟩ => by
    cases h
    refine Or.inr ⟨a, c, e, g1, List.mem_append.mpr ?_⟩
    by_cases hc : c ∈ s.2
    · exact Or.inl hc
    · exact Or.inr (List.mem_filter.mpr ⟨g2, by simpa using hc⟩)
  | .inl _, .inr _, _, _, h, _ => by cases h
  | .inr (.inl _), .inl _, _, _, h, _ => by cases h
  | .inr (.inl _), .inr (.inr _), _, _, h, _ => by cases h
  | .inr (.inr _), .inl _, _, _, h, _ => by cases h
  | .inr (.inr _), .inr (.inl _), _, _, h, _ => by cases h
/-- many values in one -/
def z_jns : List z_av → Option z_av
  | [] => none
  | t :: ts => match ts with
    | [] => some t
    | _ :: _ => match z_jns ts with
      | some u => z_jn t u
      | none => none
theorem z_jns_ok : ∀ {ts : List z_av} {t u : z_av} {v : Value}, z_jns ts = some u → t ∈ ts → z_gv N al t v → z_gv N al u v
  | [], _, _, _, h, _, _ => by cases h
  | [s], t, u, v, h, hm, hv => by
    rw [List.mem_singleton] at hm
    subst hm
    cases h
    exact hv
  | s :: s' :: ts, t, u, v, h, hm, hv => by
    have h : (match z_jns (s' :: ts) with | some u => z_jn s u | none => none) = some u := h
    split at h
    · rename_i w hw
      rcases List.mem_cons.mp hm with hm | hm
      · subst hm
        exact z_jn_l h hv
      · exact z_jn_r h (z_jns_ok hw hm hv)
    · cases h
/-- what some cells give, one by one -/
def z_rds (AH : List z_ac_) (p : z_ac_ → Option z_av) : List Nat → Option (List z_av)
  | [] => some []
  | c :: cs => match AH[c]? with
    | some A => match p A, z_rds AH p cs with
      | some t, some ts => some (t :: ts)
      | _, _ => none
    | none => none
theorem z_rds_ok {AH : List z_ac_} {p : z_ac_ → Option z_av} : ∀ {cs : List Nat} {ts : List z_av} {c : Nat}, z_rds AH p cs = some ts → c ∈ cs → ∃ A t, AH[c]? = some A ∧ p A = some t ∧ t ∈ ts
  | [], _, _, _, h => by cases h
  | c' :: cs, ts, c, h, hc => by
    unfold z_rds at h
    split at h
    · rename_i A hA
      split at h
      · rename_i t ts' ht hts
        cases h
        rcases List.mem_cons.mp hc with hc | hc
        · subst hc
          exact ⟨A, t, hA, ht, List.mem_cons_self⟩
        · obtain ⟨A', t', h1, h2, h3⟩ := z_rds_ok hts hc
          exact ⟨A', t', h1, h2, List.mem_cons_of_mem _ h3⟩
      · cases h
    · cases h
def z_rdj (AH : List z_ac_) (p : z_ac_ → Option z_av) (cs : List Nat) : Option z_av := match z_rds AH p cs with
  | some ts => z_jns ts
  | none => none
theorem z_rdj_ok {AH : List z_ac_} {p : z_ac_ → Option z_av} {cs : List Nat} {u : z_av} {c : Nat} (h : z_rdj AH p cs = some u) (hc : c ∈ cs) : ∃ A t, AH[c]? = some A ∧ p A = some t ∧ ∀ v, z_gv N al t v → z_gv N al u v := by
  unfold z_rdj at h
  split at h
  · rename_i ts hts
    obtain ⟨A, t, h1, h2, h3⟩ := z_rds_ok hts hc
    exact ⟨A, t, h1, h2, fun v hv => z_jns_ok h h3 hv⟩
  · cases h
/-- an element of a cell: its values with the length -/
def z_ael (i : z_tk) (A : z_ac_) : Option z_av := match A.2.2.1 with
  | some n => if 0 ≤ z_lo i ∧ z_hi i < n then A.2.2.2.head? else none
  | none => if 0 ≤ z_lo i ∧ z_hi i < A.2.2.2.length then z_jns ((A.2.2.2.drop (z_lo i).toNat).take (z_hi i - z_lo i + 1).toNat) else none
theorem z_ael_ok {i : z_tk} {A : z_ac_} {t : z_av} {q : z_C} {x : Int32} (h : z_ael i A = some t) (hi : z_gi N i x.toInt) (hA : z_gc N al A q) : 0 ≤ x.toInt ∧ ∃ v, q.2[x.toNatClampNeg]? = some v ∧ z_gv N al t v := by
  obtain ⟨-, hA⟩ := hA
  have hx : x.toNatClampNeg = x.toInt.toNat := rfl
  unfold z_ael at h
  split at h
  · rename_i n hn
    split at h
    · rename_i hc
      rw [hn] at hA
      obtain ⟨hl, s, e1, e2⟩ := hA
      rw [e1] at h
      cases h
      have h0 : 0 ≤ x.toInt := by have := hi.1; omega
      have h1 : x.toNatClampNeg < q.2.length := by have := hi.2.1; omega
      exact ⟨h0, q.2[x.toNatClampNeg], List.getElem?_eq_getElem h1, e2 _ (List.getElem_mem h1)⟩
    · cases h
  · rename_i hn
    split at h
    · rename_i hc
      rw [hn] at hA
      have h0 : 0 ≤ x.toInt := by have := hi.1; omega
      have hlt : x.toNatClampNeg < A.2.2.2.length := by have := hi.2.1; omega
      obtain ⟨v, e1, e2⟩ := z_all2.get hA (List.getElem?_eq_getElem hlt)
      refine ⟨h0, v, e1, z_jns_ok h ?_ e2⟩
      have e3 : ((A.2.2.2.drop (z_lo i).toNat).take (z_hi i - z_lo i + 1).toNat)[x.toNatClampNeg - (z_lo i).toNat]? = some A.2.2.2[x.toNatClampNeg] := by
        rw [List.getElem?_take_of_lt (by have := hi.1; have := hi.2.1; omega), List.getElem?_drop, show (z_lo i).toNat + (x.toNatClampNeg - (z_lo i).toNat) = x.toNatClampNeg by have := hi.1; omega]
        exact List.getElem?_eq_getElem hlt
      exact List.mem_of_getElem? e3
    · cases h
def z_chk (k : z_av → Bool) : Option z_av → Option z_av
  | some t => if k t then some t else none
  | none => none
theorem z_chk_ok {k : z_av → Bool} {o : Option z_av} {t : z_av} (h : z_chk k o = some t) : o = some t ∧ k t = true := by
  unfold z_chk at h
  split at h
  · split at h
    · rename_i hk
      cases h
      exact ⟨rfl, hk⟩
    · cases h
  · cases h
/-- an element out of a cell of the kind t -/
def z_pe (t : Nat → Bool) (k : z_av → Bool) (i : z_tk) (A : z_ac_) : Option z_av := if t A.1 then z_chk k (z_ael i A) else none
def z_arl (t : Nat → Bool) (k : z_av → Bool) (AH : List z_ac_) : List z_av → Option (List z_av)
  | .inl i :: .inr (.inr r) :: st => if r.1 then none else (z_rdj AH (z_pe t k i) r.2).map (· :: st)
  | _ => none
theorem z_arl_ok {t : Nat → Bool} {ka : z_av → Bool} {k : Value → Bool} (hk : ∀ {t v}, ka t = true → z_gv N al t v → k v = true) {AH : List z_ac_} {P : z_H} {ast ast' : List z_av} {st : List Value} (h : z_arl t ka AH ast = some ast') (hH : z_gh strs N al AH P) (hs : z_all2 (z_gv N al) ast st) :
    ∃ i a r q v, st = .int i :: .ref a :: r ∧ z_lk strs P a = some q ∧ t q.1 = true ∧ 0 ≤ i.toInt ∧ q.2[i.toNatClampNeg]? = some v ∧ k v = true ∧ z_all2 (z_gv N al) ast' (v :: r) := by
  unfold z_arl at h
  split at h
  · split at h
    · cases h
    · rename_i i r as hr
      obtain ⟨u, h1, h2⟩ := z_map_some h
      subst h2
      match st, hs with
      | _ :: _ :: st, ⟨⟨x, e, hx⟩, Or.inl ⟨e2, h3⟩, h4⟩ => exact absurd h3 hr
      | _ :: _ :: st, ⟨⟨x, e, hx⟩, Or.inr ⟨a, c, e2, hac, hc⟩, h4⟩ =>
        subst e; subst e2
        obtain ⟨q, A, g1, g2, g3, -⟩ := hH a c hac
        obtain ⟨A', s, g4, g5, g6⟩ := z_rdj_ok (N := N) (al := al) h1 hc
        rw [g2] at g4
        cases g4
        unfold z_pe at g5
        split at g5
        · rename_i ht
          obtain ⟨g7, g8⟩ := z_chk_ok g5
          obtain ⟨g9, v, g10, g11⟩ := z_ael_ok g7 hx g3
          exact ⟨x, a, st, q, v, rfl, g1, by rw [← g3.1]; exact ht, g9, g10, hk g8 g11, g6 v g11, h4⟩
        · cases g5
  · cases h
def z_plen (nA : Nat) (A : z_ac_) : Option z_av := if 100 ≤ A.1 ∧ A.1 < 100 + nA then match A.2.2.1 with
    | some n => if n < 2147483648 then some (.inl (z_tc n)) else none
    | none => if A.2.2.2.length < 2147483648 then some (.inl (z_tc A.2.2.2.length)) else none
  else none
theorem z_plen_ok {nA : Nat} {A : z_ac_} {q : z_C} {t : z_av} (h : z_plen nA A = some t) (hA : z_gc N al A q) : 100 ≤ q.1 ∧ q.1 < 100 + nA ∧ z_gv N al t (.int (Int32.ofNat q.2.length)) := by
  obtain ⟨h0, hA⟩ := hA
  have hf : ∀ n : Nat, n < 2147483648 → z_gi N (z_tc n) (Int32.ofNat n).toInt := fun n hn => by
    have : (Int32.ofNat n).toInt = (n : Int) := by
      rw [Int32.toInt_ofNat_of_lt (by omega)]
    rw [this]
    exact z_tc_gi
  unfold z_plen at h
  split at h
  · rename_i hc
    rw [h0] at hc
    refine ⟨hc.1, hc.2, ?_⟩
    split at h
    · rename_i n hn
      split at h
      · rename_i hl
        cases h
        rw [hn] at hA
        rw [hA.1]
        exact ⟨_, rfl, hf n hl⟩
      · cases h
    · rename_i hn
      split at h
      · rename_i hl
        cases h
        rw [hn] at hA
        rw [← z_all2.len hA]
        exact ⟨_, rfl, hf _ hl⟩
      · cases h
  · cases h
def z_pfl (f : Nat × Nat) (A : z_ac_) : Option z_av := if A.1 = f.1 ∧ A.1 < 99 then match A.2.2.1 with
    | none => A.2.2.2[f.2]?
    | some _ => none
  else none
theorem z_pfl_ok {f : Nat × Nat} {A : z_ac_} {q : z_C} {t : z_av} (h : z_pfl f A = some t) (hA : z_gc N al A q) : q.1 = f.1 ∧ q.1 < 99 ∧ ∃ v, q.2[f.2]? = some v ∧ z_gv N al t v := by
  obtain ⟨h0, hA⟩ := hA
  unfold z_pfl at h
  split at h
  · rename_i hc
    rw [h0] at hc
    split at h
    · rename_i hn
      rw [hn] at hA
      exact ⟨hc.1, hc.2, z_all2.get hA h⟩
    · cases h
  · cases h
def z_aone (p : z_ac_ → Option z_av) (AH : List z_ac_) : List z_av → Option (List z_av)
  | .inr (.inr r) :: st => if r.1 then none else (z_rdj AH p r.2).map (· :: st)
  | _ => none
theorem z_aone_ok {p : z_ac_ → Option z_av} {AH : List z_ac_} {P : z_H} {ast ast' : List z_av} {st : List Value} (h : z_aone p AH ast = some ast') (hH : z_gh strs N al AH P) (hs : z_all2 (z_gv N al) ast st) :
    ∃ a r q A t u r', st = .ref a :: r ∧ z_lk strs P a = some q ∧ z_gc N al A q ∧ p A = some t ∧ ast' = u :: r' ∧ (∀ v, z_gv N al t v → z_gv N al u v) ∧ z_all2 (z_gv N al) r' r := by
  unfold z_aone at h
  split at h
  · split at h
    · cases h
    · rename_i r as hr
      obtain ⟨u, h1, h2⟩ := z_map_some h
      subst h2
      match st, hs with
      | _ :: st, ⟨Or.inl ⟨e2, h3⟩, h4⟩ => exact absurd h3 hr
      | _ :: st, ⟨Or.inr ⟨a, c, e2, hac, hc⟩, h4⟩ =>
        subst e2
        obtain ⟨q, A, g1, g2, g3, -⟩ := hH a c hac
        obtain ⟨A', s, g4, g5, g6⟩ := z_rdj_ok (N := N) (al := al) h1 hc
        rw [g2] at g4
        cases g4
        exact ⟨a, st, q, A, s, u, as, rfl, g1, g3, g5, rfl, g6, h4⟩
  · cases h
def z_ard (fld : Nat → Option (Nat × Nat)) (nA : Nat) (AH : List z_ac_) : Instr → List z_av → Option (List z_av)
  | .getfield n => fun st => match fld n with
    | some f => z_aone (z_pfl f) AH st
    | none => none
  | .iaload => z_arl (fun t => t == 103) z_akI AH
  | .caload => z_arl (fun t => t == 102) z_akI AH
  | .baload => z_arl (fun t => t == 101 || t == 100) z_akI AH
  | .laload => z_arl (fun t => t == 104) z_akL AH
  | .aaload => z_arl (fun t => decide (105 ≤ t) && decide (t < 100 + nA)) z_akA AH
  | .arraylength => z_aone (z_plen nA) AH
  | _ => fun _ => none
theorem z_ard_ok {fld : Nat → Option (Nat × Nat)} {nA : Nat} {AH : List z_ac_} {P : z_H} {ins : Instr} {ast ast' : List z_av} {st : List Value} (h : z_ard fld nA AH ins ast = some ast') (hH : z_gh strs N al AH P) (hs : z_all2 (z_gv N al) ast st) : ∃ st', z_rd fld nA (z_lk strs P) ins st = some st' ∧ z_all2 (z_gv N al) ast' st' := by
  cases ins
  case getfield n =>
    have h : (match fld n with | some f => z_aone (z_pfl f) AH ast | none => none) = some ast' := h
    split at h
    · rename_i f hf
      obtain ⟨a, r, q, A, t, u, r', e, g1, g2, g3, e2, g4, g5⟩ := z_aone_ok h hH hs
      obtain ⟨g6, g7, v, g8, g9⟩ := z_pfl_ok g3 g2
      subst e; subst e2
      refine ⟨v :: r, ?_, g4 v g9, g5⟩
      show z_gf (fld n) (z_lk strs P) (.ref a :: r) = _
      unfold z_gf
      dsimp only
      rw [hf]
      dsimp only
      rw [g1]
      dsimp only
      rw [if_pos ⟨g6, g7⟩, g8]
    · cases h
  case arraylength =>
    obtain ⟨a, r, q, A, t, u, r', e, g1, g2, g3, e2, g4, g5⟩ := z_aone_ok (p := z_plen nA) h hH hs
    obtain ⟨g6, g7, g8⟩ := z_plen_ok g3 g2
    subst e; subst e2
    refine ⟨.int (Int32.ofNat q.2.length) :: r, ?_, g4 _ g8, g5⟩
    show z_alen nA (z_lk strs P) (.ref a :: r) = _
    unfold z_alen
    dsimp only
    rw [g1]
    dsimp only
    rw [if_pos ⟨g6, g7⟩]
  case iaload =>
    obtain ⟨i, a, r, q, v, e, g1, g2, g3, g4, g5, g6⟩ := z_arl_ok (t := fun t => t == 103) (k := z_isI) (fun h1 h2 => z_akI_ok h1 h2) h hH hs
    subst e
    refine ⟨v :: r, ?_, g6⟩
    show z_al 103 z_isI (z_lk strs P) (.int i :: .ref a :: r) = some (v :: r)
    unfold z_al
    dsimp only
    rw [g1]
    dsimp only
    rw [if_pos ⟨by simpa using g2, g3⟩, g4]
    dsimp only
    rw [if_pos g5]
  case caload =>
    obtain ⟨i, a, r, q, v, e, g1, g2, g3, g4, g5, g6⟩ := z_arl_ok (t := fun t => t == 102) (k := z_isI) (fun h1 h2 => z_akI_ok h1 h2) h hH hs
    subst e
    refine ⟨v :: r, ?_, g6⟩
    show z_al 102 z_isI (z_lk strs P) (.int i :: .ref a :: r) = some (v :: r)
    unfold z_al
    dsimp only
    rw [g1]
    dsimp only
    rw [if_pos ⟨by simpa using g2, g3⟩, g4]
    dsimp only
    rw [if_pos g5]
  case laload =>
    obtain ⟨i, a, r, q, v, e, g1, g2, g3, g4, g5, g6⟩ := z_arl_ok (t := fun t => t == 104) (k := z_isL) (fun h1 h2 => z_akL_ok h1 h2) h hH hs
    subst e
    refine ⟨v :: r, ?_, g6⟩
    show z_al 104 z_isL (z_lk strs P) (.int i :: .ref a :: r) = some (v :: r)
    unfold z_al
    dsimp only
    rw [g1]
    dsimp only
    rw [if_pos ⟨by simpa using g2, g3⟩, g4]
    dsimp only
    rw [if_pos g5]
  case baload =>
    obtain ⟨i, a, r, q, v, e, g1, g2, g3, g4, g5, g6⟩ := z_arl_ok (t := fun t => t == 101 || t == 100) (k := z_isI) (fun h1 h2 => z_akI_ok h1 h2) h hH hs
    subst e
    refine ⟨v :: r, ?_, g6⟩
    show (z_al 101 z_isI (z_lk strs P) _).or (z_al 100 z_isI (z_lk strs P) _) = _
    unfold z_al
    dsimp only
    rw [g1]
    dsimp only
    rw [g4]
    dsimp only
    rw [if_pos g5]
    have h2 : q.1 = 101 ∨ q.1 = 100 := by simpa using g2
    rcases h2 with h2 | h2
    · rw [if_pos ⟨h2, g3⟩]
      rfl
    · rw [if_neg (by omega), if_pos ⟨h2, g3⟩]
      rfl
  case aaload =>
    obtain ⟨i, a, r, q, v, e, g1, g2, g3, g4, g5, g6⟩ := z_arl_ok (t := fun t => decide (105 ≤ t) && decide (t < 100 + nA)) (k := z_isA) (fun h1 h2 => z_akA_ok h1 h2) h hH hs
    subst e
    refine ⟨v :: r, ?_, g6⟩
    show z_alq nA (z_lk strs P) (.int i :: .ref a :: r) = some (v :: r)
    unfold z_alq
    dsimp only
    rw [g1]
    dsimp only
    simp only [Bool.and_eq_true, decide_eq_true_eq] at g2
    rw [if_pos ⟨g2.1, g2.2, g3⟩, g4]
    dsimp only
    rw [if_pos g5]
  all_goals (cases h)
end ZARD
end
section
section ZAWR
variable {strs : z_Ss} {N : List Int} {al : Nat → Option Nat}
/-- a cell is at most another -/
def z_wk (A A' : z_ac_) : Prop := A'.2.1 = A.2.1 ∧ ∀ N al q0, z_gc N al A q0 → z_gc N al A' q0
theorem z_wk.rf {A : z_ac_} : z_wk A A := ⟨rfl, fun _ _ _ h => h⟩
theorem z_wk.tr {A B C : z_ac_} (h : z_wk A B) (k : z_wk B C) : z_wk A C := ⟨k.1.trans h.1, fun _ _ _ g => k.2 _ _ _ (h.2 _ _ _ g)⟩
def z_jnr (lo hi : Int) (v : z_av) : Nat → List z_av → Option (List z_av)
  | _, [] => some []
  | k, t :: ts => match (if lo ≤ (k : Int) ∧ (k : Int) ≤ hi then z_jn t v else some t), z_jnr lo hi v (k + 1) ts with
    | some a, some b => some (a :: b)
    | _, _ => none
theorem z_jnr_old {lo hi : Int} {v : z_av} : ∀ {ts us : List z_av} {k : Nat} {vs : List Value}, z_jnr lo hi v k ts = some us → z_all2 (z_gv N al) ts vs → z_all2 (z_gv N al) us vs
  | [], _, _, [], h, _ => by cases h; trivial
  | t :: ts, us, k, w :: vs, h, ⟨h1, h2⟩ => by
    unfold z_jnr at h
    split at h
    · rename_i a b ha hb
      cases h
      refine ⟨?_, z_jnr_old hb h2⟩
      split at ha
      · exact z_jn_l ha h1
      · cases ha
        exact h1
    · cases h
  | [], _, _, _ :: _, _, h => h.elim
  | _ :: _, _, _, [], _, h => h.elim
theorem z_jnr_new {lo hi : Int} {v : z_av} {w : Value} : ∀ {ts us : List z_av} {k i : Nat} {vs : List Value}, z_jnr lo hi v k ts = some us → z_all2 (z_gv N al) ts vs → z_gv N al v w → lo ≤ ((k + i : Nat) : Int) → ((k + i : Nat) : Int) ≤ hi → z_all2 (z_gv N al) us (vs.set i w)
  | [], _, _, _, [], h, _, _, _, _ => by cases h; trivial
  | t :: ts, us, k, i, x :: vs, h, ⟨h1, h2⟩, hw, g1, g2 => by
    unfold z_jnr at h
    split at h
    · rename_i a b ha hb
      cases h
      cases i with
      | zero =>
        refine ⟨?_, z_jnr_old hb h2⟩
        rw [if_pos ⟨by simpa using g1, by simpa using g2⟩] at ha
        exact z_jn_r ha hw
      | succ i =>
        refine ⟨?_, z_jnr_new (i := i) hb h2 hw (by rw [show k + 1 + i = k + (i + 1) by omega]; exact g1) (by rw [show k + 1 + i = k + (i + 1) by omega]; exact g2)⟩
        split at ha
        · exact z_jn_l ha h1
        · cases ha
          exact h1
    · cases h
  | [], _, _, _, _ :: _, _, h, _, _, _ => h.elim
  | _ :: _, _, _, _, [], _, h, _, _, _ => h.elim
/-- a cell written at i, or not -/
def z_wka (tg : Nat → Bool) (v : z_av) (i : z_tk) (A : z_ac_) : Option z_ac_ := if tg A.1 && A.2.1.2 then match A.2.2.1 with
    | some n => if 0 ≤ z_lo i ∧ z_hi i < n then match A.2.2.2 with
        | [t] => (z_jn t v).map fun u => (A.1, A.2.1, some n, [u])
        | _ => none
      else none
    | none => if 0 ≤ z_lo i ∧ z_hi i < A.2.2.2.length then (z_jnr (z_lo i) (z_hi i) v 0 A.2.2.2).map fun w => (A.1, A.2.1, none, w) else none
  else none
theorem z_wka_old {tg : Nat → Bool} {v : z_av} {i : z_tk} {A A' : z_ac_} (h : z_wka tg v i A = some A') : z_wk A A' := by
  unfold z_wka at h
  split at h
  · split at h
    · rename_i n hn
      split at h
      · split at h
        · rename_i t ht
          obtain ⟨u, h1, h2⟩ := z_map_some h
          subst h2
          refine ⟨rfl, fun N al q0 hq => ?_⟩
          obtain ⟨g1, g2⟩ := hq
          rw [hn] at g2
          obtain ⟨g3, s, g4, g5⟩ := g2
          rw [ht] at g4
          cases g4
          exact ⟨g1, g3, u, rfl, fun w hw => z_jn_l h1 (g5 w hw)⟩
        · cases h
      · cases h
    · rename_i hn
      split at h
      · obtain ⟨u, h1, h2⟩ := z_map_some h
        subst h2
        refine ⟨rfl, fun N al q0 hq => ?_⟩
        obtain ⟨g1, g2⟩ := hq
        rw [hn] at g2
        exact ⟨g1, z_jnr_old h1 g2⟩
      · cases h
  · cases h
theorem z_wka_new {tg : Nat → Bool} {v : z_av} {i : z_tk} {A A' : z_ac_} {q : z_C} {k : Nat} {w : Value} (h : z_wka tg v i A = some A') (hA : z_gc N al A q) (hi : z_gi N i k) (hv : z_gv N al v w) : tg q.1 = true ∧ A.2.1.2 = true ∧ k < q.2.length ∧ z_gc N al A' (q.1, q.2.set k w) := by
  unfold z_wka at h
  split at h
  · rename_i ht
    rw [Bool.and_eq_true] at ht
    obtain ⟨g1, g2⟩ := hA
    refine ⟨by rw [← g1]; exact ht.1, ht.2, ?_⟩
    split at h
    · rename_i n hn
      split at h
      · rename_i hb
        split at h
        · rename_i t ht
          obtain ⟨u, h1, h2⟩ := z_map_some h
          subst h2
          rw [hn] at g2
          obtain ⟨g3, s, g4, g5⟩ := g2
          rw [ht] at g4
          cases g4
          refine ⟨by have := hi.2.1; omega, g1, by show (q.2.set k w).length = n; simpa using g3, u, rfl, fun w' hw => ?_⟩
          rcases List.mem_or_eq_of_mem_set hw with hw | hw
          · exact z_jn_l h1 (g5 w' hw)
          · subst hw
            exact z_jn_r h1 hv
        · cases h
      · cases h
    · rename_i hn
      split at h
      · rename_i hb
        obtain ⟨u, h1, h2⟩ := z_map_some h
        subst h2
        rw [hn] at g2
        refine ⟨by have := hi.2.1; have := g2.len; omega, g1, z_jnr_new h1 g2 hv (by have := hi.1; simpa using this) (by have := hi.2.1; simpa using this)⟩
      · cases h
  · cases h
def z_upd (f : z_ac_ → Option z_ac_) : List z_ac_ → List Nat → Option (List z_ac_)
  | AH, [] => some AH
  | AH, c :: cs => match AH[c]? with
    | some A => match f A with
      | some A' => z_upd f (AH.set c A') cs
      | none => none
    | none => none
theorem z_upd_ok {f : z_ac_ → Option z_ac_} (hf : ∀ {A A'}, f A = some A' → z_wk A A') {c' : Nat} : ∀ {cs : List Nat} {AH AH' : List z_ac_} {A : z_ac_}, z_upd f AH cs = some AH' → AH[c']? = some A → ∃ A', AH'[c']? = some A' ∧ z_wk A A' ∧ (c' ∈ cs → ∃ B B', z_wk A B ∧ f B = some B' ∧ z_wk B' A')
  | [], AH, AH', A, h, hA => by
    cases h
    exact ⟨A, hA, z_wk.rf, fun h => by cases h⟩
  | c :: cs, AH, AH', A, h, hA => by
    unfold z_upd at h
    split at h
    · rename_i A1 hA1
      split at h
      · rename_i A2 hA2
        by_cases hc : c' = c
        · subst hc
          have e : A1 = A := Option.some.inj (hA1.symm.trans hA)
          subst e
          have hlt : c' < AH.length := (List.getElem?_eq_some_iff.mp hA).1
          obtain ⟨A', h1, h2, h3⟩ := z_upd_ok hf (A := A2) h (by rw [List.getElem?_set_self hlt])
          exact ⟨A', h1, (hf hA2).tr h2, fun _ => ⟨A1, A2, z_wk.rf, hA2, h2⟩⟩
        · obtain ⟨A', h1, h2, h3⟩ := z_upd_ok hf (A := A) h (by rw [List.getElem?_set_ne (fun q => hc q.symm)]; exact hA)
          refine ⟨A', h1, h2, fun hm => h3 ?_⟩
          rcases List.mem_cons.mp hm with hm | hm
          · exact absurd hm hc
          · exact hm
      · cases h
    · cases h
/-- may it be written over? -/
def z_str (tg : Nat → Bool) (i : z_tk) (A : z_ac_) : Bool := tg A.1 && (A.2.1.2 && (A.2.1.1 && (A.2.2.1.isNone && (decide (z_lo i = z_hi i) && (decide (0 ≤ z_lo i) && decide (z_lo i < A.2.2.2.length))))))
def z_aw1 (tg : Nat → Bool) (v : z_av) (i : z_tk) (AH : List z_ac_) (c : Nat) : Option (List z_ac_) := match AH[c]? with
  | some A => if z_str tg i A then some (AH.set c (A.1, A.2.1, none, A.2.2.2.set (z_lo i).toNat v)) else none
  | none => none
def z_awa (tg : Nat → Bool) (v : z_av) (i : z_tk) (AH : List z_ac_) (cs : List Nat) : Option (List z_ac_) := match cs with
  | [c] => match z_aw1 tg v i AH c with
    | some X => some X
    | none => z_upd (z_wka tg v i) AH cs
  | _ => z_upd (z_wka tg v i) AH cs
/-- a heap after a write -/
theorem z_gh_set {AH AH' : List z_ac_} {P : z_H} {a : Nat} {q' : z_C} (hH : z_gh strs N al AH P) (ha : a < z_far) (hP : a < P.length) (hx : ∀ c' A, AH[c']? = some A → ∃ A', AH'[c']? = some A' ∧ A'.2.1 = A.2.1 ∧ (∀ b q0, b ≠ a → al b = some c' → z_gc N al A q0 → z_gc N al A' q0) ∧ (al a = some c' → z_gc N al A' q')) : z_gh strs N al AH' (P.set a q') := by
  intro b c hb
  obtain ⟨q, A, h1, h2, h3, h4, h5⟩ := hH b c hb
  obtain ⟨A', g1, g2, g3, g4⟩ := hx c A h2
  by_cases hba : b = a
  · subst hba
    refine ⟨q', A', ?_, g1, g4 hb, by rw [g2]; exact h4, by rw [g2]; exact h5⟩
    unfold z_lk
    rw [if_pos ha, List.getElem?_set_self hP]
  · refine ⟨q, A', ?_, g1, g3 b q hba hb h3, by rw [g2]; exact h4, by rw [g2]; exact h5⟩
    unfold z_lk at h1 ⊢
    split
    · rename_i hlt
      rw [if_pos hlt] at h1
      rw [List.getElem?_set_ne (fun e => hba e.symm)]
      exact h1
    · rename_i hlt
      rw [if_neg hlt] at h1
      exact h1
theorem z_awa_ok {tg : Nat → Bool} {v : z_av} {i : z_tk} {AH AH' : List z_ac_} {cs : List Nat} {P : z_H} {a c k : Nat} {w : Value} (h : z_awa tg v i AH cs = some AH') (hH : z_gh strs N al AH P) (hac : al a = some c) (hc : c ∈ cs) (hi : z_gi N i k) (hv : z_gv N al v w) :
    ∃ q, P[a]? = some q ∧ tg q.1 = true ∧ k < q.2.length ∧ z_gh strs N al AH' (P.set a (q.1, q.2.set k w)) := by
  obtain ⟨q, A, e1, e2, e3, e4, e5⟩ := hH a c hac
  have weak : z_upd (z_wka tg v i) AH cs = some AH' → ∃ q, P[a]? = some q ∧ tg q.1 = true ∧ k < q.2.length ∧ z_gh strs N al AH' (P.set a (q.1, q.2.set k w)) := by
    intro h
    obtain ⟨A', g1, g2, g3⟩ := z_upd_ok z_wka_old h e2
    obtain ⟨B, B', g4, g5, g6⟩ := g3 hc
    obtain ⟨g7, g8, g9, g10⟩ := z_wka_new g5 (g4.2 _ _ _ e3) hi hv
    have hfar : a < z_far := e5 (by rw [← g4.1]; exact g8)
    have hPa : P[a]? = some q := by
      unfold z_lk at e1
      rw [if_pos hfar] at e1
      exact e1
    refine ⟨q, hPa, g7, g9, z_gh_set hH hfar (List.getElem?_eq_some_iff.mp hPa).1 fun c' C hC => ?_⟩
    obtain ⟨C', k1, k2, -⟩ := z_upd_ok z_wka_old h hC
    refine ⟨C', k1, k2.1, fun b q0 _ _ k3 => k2.2 _ _ _ k3, fun hc' => ?_⟩
    have : c = c' := Option.some.inj (hac.symm.trans hc')
    subst this
    rw [g1] at k1
    cases k1
    exact g6.2 _ _ _ g10
  unfold z_awa at h
  split at h
  · rename_i c0
    split at h
    · rename_i X hX
      cases h
      rw [List.mem_singleton] at hc
      subst hc
      unfold z_aw1 at hX
      rw [e2] at hX
      dsimp only at hX
      split at hX
      · rename_i hs
        cases hX
        unfold z_str at hs
        simp only [Bool.and_eq_true, decide_eq_true_eq, Option.isNone_iff_eq_none] at hs
        obtain ⟨s1, s2, s3, s4, s5, s6, s7⟩ := hs
        have hfar : a < z_far := e5 s2
        have hPa : P[a]? = some q := by
          unfold z_lk at e1
          rw [if_pos hfar] at e1
          exact e1
        obtain ⟨e6, e7⟩ := e3
        rw [s4] at e7
        have hk : (z_lo i).toNat = k := by have := hi.1; have := hi.2.1; omega
        refine ⟨q, hPa, by rw [← e6]; exact s1, by have := e7.len; omega, z_gh_set hH hfar (List.getElem?_eq_some_iff.mp hPa).1 fun c' C hC => ?_⟩
        by_cases hcc : c' = c
        · subst hcc
          have : A = C := Option.some.inj (e2.symm.trans hC)
          subst this
          have hlt : c' < AH.length := (List.getElem?_eq_some_iff.mp e2).1
          refine ⟨_, List.getElem?_set_self hlt, rfl, fun b q0 hb hbc _ => absurd (e4 s3 b hbc) hb, fun _ => ⟨e6, ?_⟩⟩
          show z_all2 (z_gv N al) (A.2.2.2.set (z_lo i).toNat v) (q.2.set k w)
          rw [hk]
          exact e7.set hv
        · refine ⟨C, by rw [List.getElem?_set_ne (fun e => hcc e.symm)]; exact hC, rfl, fun _ _ _ _ k3 => k3, fun hc' => absurd (Option.some.inj (hc'.symm.trans hac)) hcc⟩
      · cases hX
    · exact weak h
  · exact weak h
end ZAWR
end
section
section ZAWI
variable {strs : z_Ss} {N : List Int} {al : Nat → Option Nat}
def z_asI (tg : Nat → Bool) (nf : z_tk → z_tk) (AH : List z_ac_) : List z_av → Option (List z_av × List z_ac_)
  | .inl x :: .inl i :: .inr (.inr r) :: st => if r.1 then none else (z_awa tg (.inl (nf x)) i AH r.2).map fun X => (st, X)
  | _ => none
def z_asL (AH : List z_ac_) : List z_av → Option (List z_av × List z_ac_)
  | .inr (.inl x) :: .inl i :: .inr (.inr r) :: st => if r.1 then none else (z_awa (fun t => t == 104) (.inr (.inl x)) i AH r.2).map fun X => (st, X)
  | _ => none
def z_asA (ac : Nat → Option Nat) (AH : List z_ac_) : List z_av → Option (List z_av × List z_ac_)
  | .inr (.inr v) :: .inl i :: .inr (.inr r) :: st => if r.1 || v.1 then none else (z_awa (fun t => decide (105 ≤ t) && v.2.all fun c => match AH[c]? with
      | some W => W.2.1.2 && (decide (W.1 < 99) && decide (ac (t - 100) = some W.1))
      | none => false) (.inr (.inr v)) i AH r.2).map fun X => (st, X)
  | _ => none
def z_afit : FieldType → z_av → Bool
  | .boolean, .inl t => decide (0 ≤ z_lo t) && decide (z_hi t ≤ 1)
  | .int, .inl _ => true
  | .long, .inr (.inl _) => true
  | .object _, .inr (.inr _) => true
  | .array _, .inr (.inr _) => true
  | _, _ => false
theorem z_afit_ok {ty : FieldType} {t : z_av} {v : Value} (h : z_afit ty t = true) (ht : z_gv N al t v) : fits ty v = true ∧ narrow ty v = v := by
  unfold z_afit at h
  split at h
  · rename_i t
    obtain ⟨x, e, g1, g2, -⟩ := ht
    subst e
    simp only [Bool.and_eq_true, decide_eq_true_eq] at h
    have h01 : x.toInt = 0 ∨ x.toInt = 1 := by omega
    have hx : x = 0 ∨ x = 1 := h01.imp (fun q => Int32.toInt_inj.mp (by rw [q]; decide)) (fun q => Int32.toInt_inj.mp (by rw [q]; decide))
    rcases hx with hx | hx <;> subst hx <;> exact ⟨rfl, rfl⟩
  · obtain ⟨x, e, -⟩ := ht
    subst e
    exact ⟨rfl, rfl⟩
  · obtain ⟨x, e, -⟩ := ht
    subst e
    exact ⟨rfl, rfl⟩
  · rcases ht with ⟨e, -⟩ | ⟨a, c, e, -⟩ <;> subst e <;> exact ⟨rfl, rfl⟩
  · rcases ht with ⟨e, -⟩ | ⟨a, c, e, -⟩ <;> subst e <;> exact ⟨rfl, rfl⟩
  · cases h
def z_apf (fk : Option (Nat × Nat)) (fty : Nat → Nat → FieldType) (fin : Nat → Nat → Bool) (ini : Option Nat) (AH : List z_ac_) : List z_av → Option (List z_av × List z_ac_)
  | v :: .inr (.inr r) :: st => match fk with
    | some f => if r.1 = false ∧ f.1 < 99 ∧ z_afit (fty f.1 f.2) v = true ∧ (fin f.1 f.2 = false ∨ ini = some f.1) then (z_awa (fun t => t == f.1) v (z_tc f.2) AH r.2).map fun X => (st, X) else none
    | none => none
  | _ => none
def z_awr (fld : Nat → Option (Nat × Nat)) (fty : Nat → Nat → FieldType) (fin : Nat → Nat → Bool) (ini : Option Nat) (ac : Nat → Option Nat) (AH : List z_ac_) : Instr → List z_av → Option (List z_av × List z_ac_)
  | .putfield n => z_apf (fld n) fty fin ini AH
  | .iastore => z_asI (fun t => t == 103) (fun x => x) AH
  | .castore => z_asI (fun t => t == 102) (z_cutto 0 65535) AH
  | .bastore => fun st => (z_asI (fun t => t == 101) (z_cutto (-128) 127) AH st).or (z_asI (fun t => t == 100) (z_cutto 0 1) AH st)
  | .lastore => z_asL AH
  | .aastore => z_asA ac AH
  | _ => fun _ => none
theorem z_awa_lo {tg : Nat → Bool} {v : z_av} {i : z_tk} {AH AH' : List z_ac_} {cs : List Nat} (h : z_awa tg v i AH cs = some AH') (hne : cs ≠ []) : 0 ≤ z_lo i := by
  refine Decidable.byContradiction fun hlo => ?_
  have hw : ∀ A, z_wka tg v i A = none := by
    intro A
    unfold z_wka
    split
    · split
      · rw [if_neg (fun q => hlo q.1)]
      · rw [if_neg (fun q => hlo q.1)]
    · rfl
  have hu : ∀ cs, cs ≠ [] → z_upd (z_wka tg v i) AH cs = none := by
    intro cs hcs
    cases cs with
    | nil => exact absurd rfl hcs
    | cons c' cs =>
      unfold z_upd
      split
      · rw [hw]
      · rfl
  unfold z_awa at h
  split at h
  · rename_i c0
    split at h
    · rename_i Y hY
      unfold z_aw1 at hY
      split at hY
      · split at hY
        · rename_i hs
          unfold z_str at hs
          simp only [Bool.and_eq_true, decide_eq_true_eq] at hs
          exact hlo hs.2.2.2.2.2.1
        · cases hY
      · cases hY
    · rw [hu _ hne] at h
      cases h
  · rw [hu _ hne] at h
    cases h
theorem z_awa_ix {tg : Nat → Bool} {v : z_av} {i : z_tk} {AH AH' : List z_ac_} {cs : List Nat} {P : z_H} {a c : Nat} {j : Int32} {w : Value} (h : z_awa tg v i AH cs = some AH') (hH : z_gh strs N al AH P) (hac : al a = some c) (hc : c ∈ cs) (hj : z_gi N i j.toInt) (hv : z_gv N al v w) :
    ∃ q, P[a]? = some q ∧ tg q.1 = true ∧ 0 ≤ j.toInt ∧ j.toNatClampNeg < q.2.length ∧ z_gh strs N al AH' (P.set a (q.1, q.2.set j.toNatClampNeg w)) := by
  have hlo := z_awa_lo h (fun q => by rw [q] at hc; cases hc)
  have hj0 : 0 ≤ j.toInt := by have := hj.1; omega
  have hj' : z_gi N i ((j.toNatClampNeg : Nat) : Int) := by
    have : ((j.toNatClampNeg : Nat) : Int) = j.toInt := by show ((j.toInt.toNat : Nat) : Int) = j.toInt; omega
    rw [this]
    exact hj
  obtain ⟨q, g1, g2, g3, g4⟩ := z_awa_ok h hH hac hc hj' hv
  exact ⟨q, g1, g2, hj0, g3, g4⟩
theorem z_asI_ok {t : Nat} {nf : z_tk → z_tk} {g : Int32 → Int32} (hg : ∀ x a, z_gi N x (Int32.toInt a) → z_gi N (nf x) (g a).toInt) {AH AH' : List z_ac_} {P : z_H} {ast ast' : List z_av} {st : List Value} (h : z_asI (fun k => k == t) nf AH ast = some (ast', AH')) (hH : z_gh strs N al AH P) (hs : z_all2 (z_gv N al) ast st) : ∃ st' P', z_as t g P st = some (st', P') ∧ z_all2 (z_gv N al) ast' st' ∧ z_gh strs N al AH' P' := by
  unfold z_asI at h
  split at h
  · split at h
    · cases h
    · rename_i x i r ast hr
      obtain ⟨X, h1, h2⟩ := z_map_some h
      cases h2
      match st, hs with
      | _ :: _ :: _ :: st, ⟨_, _, Or.inl ⟨_, h3⟩, _⟩ => exact absurd h3 hr
      | _ :: _ :: _ :: st, ⟨⟨a, e1, ha⟩, ⟨j, e2, hj⟩, Or.inr ⟨b, c, e3, hb, hc⟩, h4⟩ =>
        subst e1; subst e2; subst e3
        obtain ⟨q, g1, g2, g5, g3, g4⟩ := z_awa_ix (w := .int (g a)) h1 hH hb hc hj ⟨_, rfl, hg x a ha⟩
        have g2 : q.1 = t := by simpa using g2
        refine ⟨st, P.set b (t, q.2.set j.toNatClampNeg (.int (g a))), ?_, h4, by rw [← g2]; exact g4⟩
        unfold z_as
        dsimp only
        rw [g1]
        dsimp only
        rw [if_pos ⟨g2, g5, g3⟩]
  · cases h
theorem z_asI_no {t : Nat} {nf : z_tk → z_tk} {g : Int32 → Int32} {t' : Nat} (htt : t ≠ t') {AH AH' : List z_ac_} {P : z_H} {ast ast' : List z_av} {st : List Value} (hg : ∀ x a, z_gi N x (Int32.toInt a) → z_gi N (nf x) (g a).toInt) (h : z_asI (fun k => k == t) nf AH ast = some (ast', AH')) (hH : z_gh strs N al AH P) (hs : z_all2 (z_gv N al) ast st) (f : Int32 → Int32) : z_as t' f P st = none := by
  obtain ⟨st', P', h1, -⟩ := z_asI_ok hg h hH hs
  unfold z_as at h1 ⊢
  split at h1
  · split at h1
    · rename_i q hq
      split at h1
      · rename_i hc
        rw [if_neg (fun k => htt (hc.1.symm.trans k.1))]
      · cases h1
    · cases h1
  · cases h1
theorem z_asL_ok {AH AH' : List z_ac_} {P : z_H} {ast ast' : List z_av} {st : List Value} (h : z_asL AH ast = some (ast', AH')) (hH : z_gh strs N al AH P) (hs : z_all2 (z_gv N al) ast st) : ∃ st' P', z_las P st = some (st', P') ∧ z_all2 (z_gv N al) ast' st' ∧ z_gh strs N al AH' P' := by
  unfold z_asL at h
  split at h
  · split at h
    · cases h
    · rename_i x i r ast hr
      obtain ⟨X, h1, h2⟩ := z_map_some h
      cases h2
      match st, hs with
      | _ :: _ :: _ :: st, ⟨_, _, Or.inl ⟨_, h3⟩, _⟩ => exact absurd h3 hr
      | _ :: _ :: _ :: st, ⟨⟨a, e1, ha⟩, ⟨j, e2, hj⟩, Or.inr ⟨b, c, e3, hb, hc⟩, h4⟩ =>
        subst e1; subst e2; subst e3
        obtain ⟨q, g1, g2, g5, g3, g4⟩ := z_awa_ix (w := .long a) h1 hH hb hc hj ⟨_, rfl, ha⟩
        have g2 : q.1 = 104 := by simpa using g2
        refine ⟨st, P.set b (104, q.2.set j.toNatClampNeg (.long a)), ?_, h4, by rw [← g2]; exact g4⟩
        unfold z_las
        dsimp only
        rw [g1]
        dsimp only
        rw [if_pos ⟨g2, g5, g3⟩]
  · cases h
theorem z_asA_ok {ac : Nat → Option Nat} {AH AH' : List z_ac_} {P : z_H} {ast ast' : List z_av} {st : List Value} (h : z_asA ac AH ast = some (ast', AH')) (hH : z_gh strs N al AH P) (hs : z_all2 (z_gv N al) ast st) : ∃ st' P', z_aas ac P st = some (st', P') ∧ z_all2 (z_gv N al) ast' st' ∧ z_gh strs N al AH' P' := by
  unfold z_asA at h
  split at h
  · split at h
    · cases h
    · rename_i x i r ast hr
      obtain ⟨X, h1, h2⟩ := z_map_some h
      cases h2
      rw [Bool.not_eq_true, Bool.or_eq_false_iff] at hr
      match st, hs with
      | _ :: _ :: _ :: st, ⟨_, _, Or.inl ⟨_, h3⟩, _⟩ => rw [hr.1] at h3; cases h3
      | _ :: _ :: _ :: st, ⟨Or.inl ⟨_, h3⟩, _, _, _⟩ => rw [hr.2] at h3; cases h3
      | _ :: _ :: _ :: st, ⟨Or.inr ⟨a, ca, e1, ha, hca⟩, ⟨j, e2, hj⟩, Or.inr ⟨b, c, e3, hb, hc⟩, h4⟩ =>
        subst e1; subst e2; subst e3
        obtain ⟨q, g1, g2, g5, g3, g4⟩ := z_awa_ix (w := .ref a) h1 hH hb hc hj (Or.inr ⟨a, ca, rfl, ha, hca⟩)
        simp only [Bool.and_eq_true, decide_eq_true_eq] at g2
        obtain ⟨g6, g7⟩ := g2
        have g8 := List.all_eq_true.mp g7 ca hca
        obtain ⟨qa, W, k1, k2, k3, -, k5⟩ := hH a ca ha
        rw [k2] at g8
        simp only [Bool.and_eq_true, decide_eq_true_eq] at g8
        obtain ⟨g9, g10, g11⟩ := g8
        have hPa : P[a]? = some qa := by
          unfold z_lk at k1
          rw [if_pos (k5 g9)] at k1
          exact k1
        refine ⟨st, P.set b (q.1, q.2.set j.toNatClampNeg (.ref a)), ?_, h4, g4⟩
        unfold z_aas
        dsimp only
        rw [g1]
        dsimp only
        rw [hPa]
        dsimp only
        rw [if_pos ⟨g6, by rw [← k3.1]; exact g10, by rw [← k3.1]; exact g11, g5, g3⟩]
  · cases h
theorem z_apf_ok {fk : Option (Nat × Nat)} {fty : Nat → Nat → FieldType} {fin : Nat → Nat → Bool} {ini : Option Nat} {AH AH' : List z_ac_} {P : z_H} {ast ast' : List z_av} {st : List Value} (h : z_apf fk fty fin ini AH ast = some (ast', AH')) (hH : z_gh strs N al AH P) (hs : z_all2 (z_gv N al) ast st) : ∃ st' P', z_pf fk fty fin ini P st = some (st', P') ∧ z_all2 (z_gv N al) ast' st' ∧ z_gh strs N al AH' P' := by
  unfold z_apf at h
  split at h
  · rename_i v r ast
    split at h
    · rename_i f
      split at h
      · rename_i hc
        obtain ⟨c1, c2, c3, c4⟩ := hc
        obtain ⟨X, h1, h2⟩ := z_map_some h
        cases h2
        match st, hs with
        | _ :: _ :: st, ⟨_, Or.inl ⟨_, h3⟩, _⟩ => rw [c1] at h3; cases h3
        | w :: _ :: st, ⟨hv, Or.inr ⟨b, c, e3, hb, hcc⟩, h4⟩ =>
          subst e3
          obtain ⟨q, g1, g2, g3, g4⟩ := z_awa_ok (k := f.2) h1 hH hb hcc z_tc_gi hv
          have g2 : q.1 = f.1 := by simpa using g2
          obtain ⟨g5, g6⟩ := z_afit_ok c3 hv
          refine ⟨st, P.set b (f.1, q.2.set f.2 w), ?_, h4, by rw [← g2]; exact g4⟩
          unfold z_pf
          dsimp only
          rw [g1]
          dsimp only
          rw [if_pos ⟨g2, by omega, g3, g5, g6, c4⟩]
      · cases h
    · cases h
  · cases h
theorem z_awr_ok {fld : Nat → Option (Nat × Nat)} {fty : Nat → Nat → FieldType} {fin : Nat → Nat → Bool} {ini : Option Nat} {ac : Nat → Option Nat} {ins : Instr} {AH AH' : List z_ac_} {P : z_H} {ast ast' : List z_av} {st : List Value} (h : z_awr fld fty fin ini ac AH ins ast = some (ast', AH')) (hH : z_gh strs N al AH P) (hs : z_all2 (z_gv N al) ast st) : ∃ st' P', z_wr fld fty fin ini ac P ins st = some (st', P') ∧ z_all2 (z_gv N al) ast' st' ∧ z_gh strs N al AH' P' := by
  have hb : ∀ x a, z_gi N x (Int32.toInt a) → z_gi N (z_cutto (-128) 127 x) (a.toInt8.toInt32).toInt := by
    intro x a hx
    have g1 := a.toInt8.le_toInt
    have g2 := a.toInt8.toInt_lt
    refine z_cutto_gi hx (by rw [Int8.toInt_toInt32]; omega) (by rw [Int8.toInt_toInt32]; omega) (fun g3 g4 => ?_)
    rw [Int8.toInt_toInt32, Int32.toInt_toInt8]
    unfold Int.bmod
    simp only [Nat.reducePow]
    omega
  have hz : ∀ x a, z_gi N x (Int32.toInt a) → z_gi N (z_cutto 0 1 x) (a &&& 1).toInt := by
    intro x a hx
    have g := z_and_in (a := (-2147483648, 2147483647)) (b := (1, 1)) (x := a) (y := 1) ⟨a.le_toInt, by have := a.toInt_lt; omega⟩ ⟨by decide, by decide⟩
    refine z_cutto_gi hx g.1 g.2 (fun g3 g4 => ?_)
    have h01 : a.toInt = 0 ∨ a.toInt = 1 := by omega
    have hx : a = 0 ∨ a = 1 := h01.imp (fun q => Int32.toInt_inj.mp (by rw [q]; decide)) (fun q => Int32.toInt_inj.mp (by rw [q]; decide))
    rcases hx with hx | hx <;> subst hx <;> decide
  have hc : ∀ x a, z_gi N x (Int32.toInt a) → z_gi N (z_cutto 0 65535 x) (a.toUInt32.toUInt16.toUInt32.toInt32).toInt := by
    intro x a hx
    have e : (a.toUInt32.toUInt16.toUInt32.toInt32).toInt = ((a.toBitVec.toNat % 65536 : Nat) : Int) := by
      rw [UInt32.toUInt32_toUInt16, pk_char, nI_toInt (by omega)]
    have e2 : a.toInt = a.toBitVec.toInt := rfl
    rw [BitVec.toInt_eq_toNat_cond] at e2
    refine z_cutto_gi hx (by rw [e]; omega) (by rw [e]; omega) (fun g1 g2 => ?_)
    rw [e]
    split at e2 <;> omega
  cases ins
  case putfield n => exact z_apf_ok h hH hs
  case iastore => exact z_asI_ok (nf := fun x => x) (g := fun x => x) (fun x a hx => hx) h hH hs
  case castore => exact z_asI_ok (g := fun x => x.toUInt32.toUInt16.toUInt32.toInt32) hc h hH hs
  case lastore => exact z_asL_ok h hH hs
  case aastore => exact z_asA_ok h hH hs
  case bastore =>
    have h : (z_asI (fun t => t == 101) (z_cutto (-128) 127) AH ast).or (z_asI (fun t => t == 100) (z_cutto 0 1) AH ast) = some (ast', AH') := h
    cases h1 : z_asI (fun t => t == 101) (z_cutto (-128) 127) AH ast with
    | some X =>
      rw [h1] at h
      cases h
      obtain ⟨st', P', g1, g2⟩ := z_asI_ok (g := fun x => x.toInt8.toInt32) hb h1 hH hs
      refine ⟨st', P', ?_, g2⟩
      show (z_as 101 (fun x => x.toInt8.toInt32) P st).or _ = _
      rw [g1]
      rfl
    | none =>
      rw [h1] at h
      obtain ⟨st', P', g1, g2⟩ := z_asI_ok (g := fun x => x &&& 1) hz h hH hs
      refine ⟨st', P', ?_, g2⟩
      show (z_as 101 (fun x => x.toInt8.toInt32) P st).or (z_as 100 (fun x => x &&& 1) P st) = _
      rw [z_asI_no (t' := 101) (by decide) hz h hH hs, g1]
      rfl
  all_goals (cases h)
end ZAWI
end
section
section ZAMK
variable {strs : z_Ss} {N : List Int} {al : Nat → Option Nat}
def z_vabs : Value → Option z_av
  | .int x => some (.inl (z_tc x.toInt))
  | .long x => some (.inr (.inl (z_tc x.toInt)))
  | .null => some (.inr (.inr (true, [])))
  | _ => none
theorem z_vabs_ok {v : Value} {t : z_av} (h : z_vabs v = some t) : z_gv N al t v := by
  unfold z_vabs at h
  split at h
  · cases h
    exact ⟨_, rfl, z_tc_gi⟩
  · cases h
    exact ⟨_, rfl, z_tc_gi⟩
  · cases h
    exact Or.inl ⟨rfl, rfl⟩
  · cases h
def z_vabsl : List Value → Option (List z_av)
  | [] => some []
  | v :: vs => match z_vabs v, z_vabsl vs with
    | some t, some ts => some (t :: ts)
    | _, _ => none
theorem z_vabsl_ok : ∀ {vs : List Value} {ts : List z_av}, z_vabsl vs = some ts → z_all2 (z_gv N al) ts vs
  | [], _, h => by cases h; trivial
  | v :: vs, ts, h => by
    unfold z_vabsl at h
    split at h
    · rename_i t ts' h1 h2
      cases h
      exact ⟨z_vabs_ok h1, z_vabsl_ok h2⟩
    · cases h
theorem z_all2_rep {t : z_av} {v : Value} (h : z_gv N al t v) : ∀ n, z_all2 (z_gv N al) (List.replicate n t) (List.replicate n v)
  | 0 => trivial
  | n + 1 => ⟨h, z_all2_rep h n⟩
/-- new cells behind the old ones -/
def z_alx (al : Nat → Option Nat) (p n k : Nat) (g : Nat → Nat) (a : Nat) : Option Nat := if p ≤ a ∧ a < p + n then some (k + g (a - p)) else al a
theorem z_alx_le {AH : List z_ac_} {P : z_H} {n k : Nat} {g : Nat → Nat} (hH : z_gh strs N al AH P) (hf : P.length + n ≤ z_far) : z_le N N al (z_alx al P.length n k g) := by
  refine ⟨⟨[], by simp⟩, fun a c hac => ?_⟩
  unfold z_alx
  rw [if_neg]
  · exact hac
  · rintro ⟨h1, h2⟩
    obtain ⟨q, A, e, -⟩ := hH a c hac
    unfold z_lk at e
    rw [if_pos (by omega), List.getElem?_eq_none h1] at e
    cases e
theorem z_gh_app {AH AQ : List z_ac_} {P Q : z_H} {g : Nat → Nat} (hH : z_gh strs N al AH P) (hf : P.length + Q.length ≤ z_far)
    (hq : ∀ j q, Q[j]? = some q → ∃ A, AQ[g j]? = some A ∧ z_gc N (z_alx al P.length Q.length AH.length g) A q ∧ (A.2.1.1 = true → ∀ j', j' < Q.length → g j' = g j → j' = j)) : z_gh strs N (z_alx al P.length Q.length AH.length g) (AH ++ AQ) (P ++ Q) := by
  have hle := z_alx_le (n := Q.length) (k := AH.length) (g := g) hH hf
  intro a c hac
  unfold z_alx at hac
  split at hac
  · rename_i hr
    cases hac
    have hlt : a - P.length < Q.length := by omega
    obtain ⟨A, h1, h2, h3⟩ := hq (a - P.length) _ (List.getElem?_eq_getElem hlt)
    refine ⟨Q[a - P.length], A, ?_, ?_, h2, fun hs b hb => ?_, fun _ => by omega⟩
    · unfold z_lk
      rw [if_pos (by omega), List.getElem?_append_right hr.1]
      exact List.getElem?_eq_getElem hlt
    · rw [List.getElem?_append_right (by omega), show AH.length + g (a - P.length) - AH.length = g (a - P.length) by omega]
      exact h1
    · unfold z_alx at hb
      split at hb
      · rename_i hr'
        have hb := Option.some.inj hb
        have := h3 hs (b - P.length) (by omega) (by omega)
        omega
      · obtain ⟨q', A', -, k2, -⟩ := hH b _ hb
        have := (List.getElem?_eq_some_iff.mp k2).1
        omega
  · rename_i hr
    obtain ⟨q, A, h1, h2, h3, h4, h5⟩ := hH a c hac
    have hc := (List.getElem?_eq_some_iff.mp h2).1
    refine ⟨q, A, ?_, by rw [List.getElem?_append_left hc]; exact h2, h3.mono hle, fun hs b hb => ?_, h5⟩
    · unfold z_lk at h1 ⊢
      split
      · rename_i hl
        rw [if_pos hl] at h1
        rw [List.getElem?_append_left (List.getElem?_eq_some_iff.mp h1).1]
        exact h1
      · rename_i hl
        rw [if_neg hl] at h1
        exact h1
    · unfold z_alx at hb
      split at hb
      · have := Option.some.inj hb
        omega
      · exact h4 hs b hb
/-- an array of n values: one by one or in one -/
def z_row (md : Bool) (tg n : Nat) (t : z_av) (sg : Bool) : z_ac_ := if md then (tg, (sg, true), some n, [t]) else (tg, (sg, true), none, List.replicate n t)
theorem z_row_ok {md : Bool} {tg n : Nat} {t : z_av} {v : Value} {sg : Bool} (h : z_gv N al t v) : z_gc N al (z_row md tg n t sg) (tg, List.replicate n v) := by
  unfold z_row
  split
  · exact ⟨rfl, by simp, t, rfl, fun w hw => by rw [(List.mem_replicate.mp hw).2]; exact h⟩
  · exact ⟨rfl, z_all2_rep h n⟩
def z_ama (md : Bool) (o : Option Nat) (dv : Nat → Value) (AH : List z_ac_) (B : Nat) : List z_av → Option (List z_av × List z_ac_ × Nat × Nat)
  | .inl i :: st => match o with
    | some t => match z_vabs (dv t) with
      | some d => if z_lo i = z_hi i ∧ 0 ≤ z_lo i ∧ z_hi i ≤ 10000 ∧ B < z_far then some (.inr (.inr (false, [AH.length])) :: st, AH ++ [z_row md (100 + t) (z_lo i).toNat d true], 1, (z_lo i).toNat) else none
      | none => none
    | none => none
  | _ => none
theorem z_ama_ok {md : Bool} {o : Option Nat} {dv : Nat → Value} {AH AH' : List z_ac_} {B dc ds : Nat} {P : z_H} {ast ast' : List z_av} {st : List Value} (h : z_ama md o dv AH B ast = some (ast', AH', dc, ds)) (hH : z_gh strs N al AH P) (hs : z_all2 (z_gv N al) ast st) (hB : P.length ≤ B) :
    ∃ st' P' al', z_mka o dv P st = some (st', P', dc, ds) ∧ z_le N N al al' ∧ z_all2 (z_gv N al') ast' st' ∧ z_gh strs N al' AH' P' ∧ P'.length = P.length + dc := by
  unfold z_ama at h
  split at h
  · split at h
    · rename_i i r o' t
      split at h
      · rename_i d hd
        split at h
        · rename_i hc
          cases h
          obtain ⟨c1, c2, c3, c4⟩ := hc
          match st, hs with
          | _ :: st, ⟨⟨x, e, hx⟩, h2⟩ =>
            subst e
            have hn : x.toNatClampNeg = (z_lo i).toNat := by
              show x.toInt.toNat = _
              have := hx.1
              have := hx.2.1
              congr 1
              omega
            have h0 : 0 ≤ x.toInt := by have := hx.1; omega
            have hle := z_alx_le (n := 1) (k := AH.length) (g := fun _ => 0) hH (by omega)
            refine ⟨.ref P.length :: st, P ++ [(100 + t, List.replicate x.toNatClampNeg (dv t))], z_alx al P.length 1 AH.length (fun _ => 0), ?_, hle, ⟨Or.inr ⟨P.length, AH.length, rfl, ?_, by simp⟩, h2.mono fun _ _ k => k.mono hle⟩, ?_, by simp⟩
            · unfold z_mka
              dsimp only
              rw [if_pos ⟨h0, by omega, by omega⟩, hn]
            · unfold z_alx
              rw [if_pos ⟨by omega, by omega⟩]
              rfl
            · refine z_gh_app (Q := [(100 + t, List.replicate x.toNatClampNeg (dv t))]) (g := fun _ => 0) hH (by show P.length + 1 ≤ z_far; omega) fun j q hj => ?_
              have hj0 : j = 0 := by
                have := (List.getElem?_eq_some_iff.mp hj).1
                simp at this
                exact this
              subst hj0
              cases hj
              exact ⟨_, rfl, by rw [hn]; exact z_row_ok (z_vabs_ok hd), fun _ j' hj' _ => by simp at hj'; exact hj'⟩
        · cases h
      · cases h
    · cases h
  · cases h
def z_amn (o : Option (Nat × List Value)) (AH : List z_ac_) (B : Nat) (st : List z_av) : Option (List z_av × List z_ac_ × Nat × Nat) := match o with
  | some q => match z_vabsl q.2 with
    | some ts => if q.1 < 99 ∧ B < z_far then some (.inr (.inr (false, [AH.length])) :: st, AH ++ [(q.1, (true, true), none, ts)], 1, q.2.length) else none
    | none => none
  | none => none
theorem z_amn_ok {o : Option (Nat × List Value)} {AH AH' : List z_ac_} {B dc ds : Nat} {P : z_H} {ast ast' : List z_av} {st : List Value} (h : z_amn o AH B ast = some (ast', AH', dc, ds)) (hH : z_gh strs N al AH P) (hs : z_all2 (z_gv N al) ast st) (hB : P.length ≤ B) :
    ∃ st' P' al', (match o with | some q => if q.1 < 99 ∧ P.length < z_far then some (Value.ref P.length :: st, P ++ [q], 1, q.2.length) else none | none => none) = some (st', P', dc, ds) ∧ z_le N N al al' ∧ z_all2 (z_gv N al') ast' st' ∧ z_gh strs N al' AH' P' ∧ P'.length = P.length + dc := by
  unfold z_amn at h
  split at h
  · rename_i q
    split at h
    · rename_i ts hts
      split at h
      · rename_i hc
        cases h
        have hle := z_alx_le (n := 1) (k := AH.length) (g := fun _ => 0) hH (by omega)
        refine ⟨.ref P.length :: st, P ++ [q], z_alx al P.length 1 AH.length (fun _ => 0), ?_, hle, ⟨Or.inr ⟨P.length, AH.length, rfl, ?_, by simp⟩, hs.mono fun _ _ k => k.mono hle⟩, ?_, by simp⟩
        · rw [if_pos ⟨hc.1, by omega⟩]
        · unfold z_alx
          rw [if_pos ⟨by omega, by omega⟩]
          rfl
        · refine z_gh_app (Q := [q]) (g := fun _ => 0) hH (by show P.length + 1 ≤ z_far; omega) fun j q' hj => ?_
          have hj0 : j = 0 := by
            have := (List.getElem?_eq_some_iff.mp hj).1
            simp at this
            exact this
          subst hj0
          cases hj
          exact ⟨_, rfl, ⟨rfl, z_vabsl_ok hts⟩, fun _ j' hj' _ => by simp at hj'; exact hj'⟩
      · cases h
    · cases h
  · cases h
/-- rows of rows: all one by one, or the inner ones all in one -/
def z_amm (md : Bool) (o : Option (Nat × Nat)) (AH : List z_ac_) (B : Nat) : List z_av → Option (List z_av × List z_ac_ × Nat × Nat)
  | .inl k :: .inl n :: st => match o with
    | some t => match z_vabs (z_dv t.2) with
      | some d => if z_lo k = z_hi k ∧ 0 ≤ z_lo k ∧ z_hi k ≤ 10000 ∧ z_lo n = z_hi n ∧ 0 ≤ z_lo n ∧ z_hi n ≤ 10000 ∧ B + 1 + (z_lo n).toNat ≤ z_far then
          some (.inr (.inr (false, [AH.length])) :: st, AH ++ (if md then [(100 + t.1, (true, true), some (z_lo n).toNat, [.inr (.inr (false, [AH.length + 1]))]), z_row md (100 + t.2) (z_lo k).toNat d false] else (100 + t.1, (true, true), none, (List.range (z_lo n).toNat).map fun j => .inr (.inr (false, [AH.length + 1 + j]))) :: List.replicate (z_lo n).toNat (z_row md (100 + t.2) (z_lo k).toNat d true)), 1 + (z_lo n).toNat, (z_lo n).toNat + (z_lo n).toNat * (z_lo k).toNat) else none
      | none => none
    | none => none
  | _ => none
theorem z_all2_map {α β γ : Type} {R : α → β → Prop} {f : γ → α} {g : γ → β} : ∀ {l : List γ}, (∀ x ∈ l, R (f x) (g x)) → z_all2 R (l.map f) (l.map g)
  | [], _ => trivial
  | x :: l, h => ⟨h x List.mem_cons_self, z_all2_map fun y hy => h y (List.mem_cons_of_mem _ hy)⟩
theorem z_amm_ok {md : Bool} {o : Option (Nat × Nat)} {AH AH' : List z_ac_} {B dc ds : Nat} {P : z_H} {ast ast' : List z_av} {st : List Value} (h : z_amm md o AH B ast = some (ast', AH', dc, ds)) (hH : z_gh strs N al AH P) (hs : z_all2 (z_gv N al) ast st) (hB : P.length ≤ B) :
    ∃ st' P' al', z_mkm o P st = some (st', P', dc, ds) ∧ z_le N N al al' ∧ z_all2 (z_gv N al') ast' st' ∧ z_gh strs N al' AH' P' ∧ P'.length = P.length + dc := by
  unfold z_amm at h
  split at h
  · split at h
    · rename_i k n r o' t
      split at h
      · rename_i d hd
        split at h
        · rename_i hc
          cases h
          obtain ⟨c1, c2, c3, c4, c5, c6, c7⟩ := hc
          match st, hs with
          | _ :: _ :: st, ⟨⟨y, e1, hy⟩, ⟨x, e2, hx⟩, h2⟩ =>
            subst e1; subst e2
            have hn : x.toNatClampNeg = (z_lo n).toNat := by
              show x.toInt.toNat = _
              have := hx.1
              have := hx.2.1
              congr 1
              omega
            have hk : y.toNatClampNeg = (z_lo k).toNat := by
              show y.toInt.toNat = _
              have := hy.1
              have := hy.2.1
              congr 1
              omega
            have hx0 : 0 ≤ x.toInt := by have := hx.1; omega
            have hy0 : 0 ≤ y.toInt := by have := hy.1; omega
            have hmk : z_mkm (some t) P (.int y :: .int x :: st) = some (.ref P.length :: st, P ++ (100 + t.1, (List.range (z_lo n).toNat).map (fun j => Value.ref (P.length + 1 + j))) :: List.replicate (z_lo n).toNat (100 + t.2, List.replicate (z_lo k).toNat (z_dv t.2)), 1 + (z_lo n).toNat, (z_lo n).toNat + (z_lo n).toNat * (z_lo k).toNat) := by
              unfold z_mkm
              dsimp only
              rw [if_pos ⟨hx0, hy0, by omega, by omega, by omega⟩, hn, hk]
            have hlen : ((100 + t.1, (List.range (z_lo n).toNat).map (fun j => Value.ref (P.length + 1 + j))) :: List.replicate (z_lo n).toNat (100 + t.2, List.replicate (z_lo k).toNat (z_dv t.2))).length = 1 + (z_lo n).toNat := by simp; omega
            cases md with
            | true =>
              have hle := z_alx_le (n := 1 + (z_lo n).toNat) (k := AH.length) (g := fun j => if j = 0 then 0 else 1) hH (by omega)
              refine ⟨_, _, z_alx al P.length (1 + (z_lo n).toNat) AH.length (fun j => if j = 0 then 0 else 1), hmk, hle, ⟨Or.inr ⟨P.length, AH.length, rfl, ?_, by simp⟩, h2.mono fun _ _ k => k.mono hle⟩, ?_, by rw [List.length_append, hlen]⟩
              · unfold z_alx
                rw [if_pos ⟨by omega, by omega⟩]
                simp
              · rw [← hlen]
                refine z_gh_app (g := fun j => if j = 0 then 0 else 1) hH (by rw [hlen]; omega) fun j q hj => ?_
                rw [hlen]
                cases j with
                | zero =>
                  cases hj
                  refine ⟨_, rfl, ⟨rfl, by simp, _, rfl, fun w hw => ?_⟩, fun _ j' _ hj' => ?_⟩
                  · obtain ⟨i, hi, rfl⟩ := List.mem_map.mp hw
                    have hi := List.mem_range.mp hi
                    refine Or.inr ⟨_, AH.length + 1, rfl, ?_, by simp⟩
                    unfold z_alx
                    rw [if_pos ⟨by omega, by omega⟩]
                    show some (AH.length + (if P.length + 1 + i - P.length = 0 then 0 else 1)) = _
                    rw [if_neg (by omega)]
                  · have hj' : (if j' = 0 then 0 else 1) = (if 0 = 0 then 0 else 1) := hj'
                    split at hj'
                    · assumption
                    · simp at hj'
                | succ j =>
                  have hj : (List.replicate (z_lo n).toNat (100 + t.2, List.replicate (z_lo k).toNat (z_dv t.2)))[j]? = some q := by simpa using hj
                  have hq := (List.mem_replicate.mp (List.mem_of_getElem? hj)).2
                  subst hq
                  exact ⟨_, rfl, z_row_ok (z_vabs_ok hd), fun hs => by cases hs⟩
            | false =>
              have hle := z_alx_le (n := 1 + (z_lo n).toNat) (k := AH.length) (g := fun j => j) hH (by omega)
              refine ⟨_, _, z_alx al P.length (1 + (z_lo n).toNat) AH.length (fun j => j), hmk, hle, ⟨Or.inr ⟨P.length, AH.length, rfl, ?_, by simp⟩, h2.mono fun _ _ k => k.mono hle⟩, ?_, by rw [List.length_append, hlen]⟩
              · unfold z_alx
                rw [if_pos ⟨by omega, by omega⟩]
                simp
              · rw [← hlen]
                refine z_gh_app (g := fun j => j) hH (by rw [hlen]; omega) fun j q hj => ?_
                rw [hlen]
                cases j with
                | zero =>
                  cases hj
                  refine ⟨_, rfl, ⟨rfl, z_all2_map fun i hi => ?_⟩, fun _ j' _ hj' => hj'⟩
                  have hi := List.mem_range.mp hi
                  refine Or.inr ⟨_, AH.length + 1 + i, rfl, ?_, by simp⟩
                  unfold z_alx
                  rw [if_pos ⟨by omega, by omega⟩]
                  show some (AH.length + (P.length + 1 + i - P.length)) = _
                  congr 1
                  omega
                | succ j =>
                  have hj : (List.replicate (z_lo n).toNat (100 + t.2, List.replicate (z_lo k).toNat (z_dv t.2)))[j]? = some q := by simpa using hj
                  have hq := (List.mem_replicate.mp (List.mem_of_getElem? hj)).2
                  subst hq
                  have hlt : j < (z_lo n).toNat := by simpa using (List.getElem?_eq_some_iff.mp hj).1
                  exact ⟨z_row false (100 + t.2) (z_lo k).toNat d true, by simp [hlt], z_row_ok (z_vabs_ok hd), fun _ j' _ hj' => hj'⟩
        · cases h
      · cases h
    · cases h
  · cases h
def z_amk (md : Bool) (cls : Nat → Option (Nat × List Value)) (aan : Nat → Option Nat) (mna : Nat → Option (Nat × Nat)) (AH : List z_ac_) (B : Nat) : Instr → List z_av → Option (List z_av × List z_ac_ × Nat × Nat)
  | .new n => z_amn (cls n) AH B
  | .newarray t => z_ama md (z_atc t) z_dv AH B
  | .anewarray n => z_ama md (aan n) (fun _ => .null) AH B
  | .multianewarray n d => fun st => if d = 2 then z_amm md (mna n) AH B st else none
  | _ => fun _ => none
theorem z_amk_ok {md : Bool} {cls : Nat → Option (Nat × List Value)} {aan : Nat → Option Nat} {mna : Nat → Option (Nat × Nat)} {ins : Instr} {AH AH' : List z_ac_} {B dc ds : Nat} {P : z_H} {ast ast' : List z_av} {st : List Value} (h : z_amk md cls aan mna AH B ins ast = some (ast', AH', dc, ds)) (hH : z_gh strs N al AH P) (hs : z_all2 (z_gv N al) ast st) (hB : P.length ≤ B) :
    ∃ st' P' al', z_mk cls aan mna P ins st = some (st', P', dc, ds) ∧ z_le N N al al' ∧ z_all2 (z_gv N al') ast' st' ∧ z_gh strs N al' AH' P' ∧ P'.length = P.length + dc := by
  cases ins
  case new n => exact z_amn_ok h hH hs hB
  case newarray t => exact z_ama_ok h hH hs hB
  case anewarray n => exact z_ama_ok h hH hs hB
  case multianewarray n d =>
    have h : (if d = 2 then z_amm md (mna n) AH B ast else none) = some (ast', AH', dc, ds) := h
    split at h
    · rename_i hd
      obtain ⟨st', P', al', g1, g2⟩ := z_amm_ok h hH hs hB
      exact ⟨st', P', al', by show (if d = 2 then z_mkm (mna n) P st else none) = _; rw [if_pos hd]; exact g1, g2⟩
    · cases h
  all_goals (cases h)
end ZAMK
end
section
section ZAST
/-- the group of an instruction -/
def z_grp : Instr → Nat
  | .iload _ | .iload_n _ | .lload _ | .lload_n _ | .aload _ | .aload_n _ | .istore _ | .istore_n _ | .astore _ | .astore_n _ | .lstore _ | .lstore_n _ | .iinc _ _ => 1
  | .goto _ | .ifCond _ _ | .if_icmp _ _ | .ifnull _ | .ifnonnull _ | .tableswitch _ _ _ _ => 2
  | .getfield _ | .iaload | .caload | .baload | .laload | .aaload | .arraylength => 3
  | .putfield _ | .iastore | .castore | .bastore | .lastore | .aastore => 4
  | .new _ | .newarray _ | .anewarray _ | .multianewarray _ _ => 5
  | .ldc _ | .ldc_w _ | .ldc2_w _ | .getstatic _ => 6
  | _ => 0
theorem z_no0 {ins : Instr} (h : z_grp ins ≠ 0) (st : List Value) : z_pure ins st = none := by
  cases ins <;> first | rfl | exact absurd rfl h
theorem z_no1 {ins : Instr} (h : z_grp ins ≠ 1) (nL : Nat) (l : z_L) (st : List Value) : z_loc nL ins l st = none := by
  cases ins <;> first | rfl | exact absurd rfl h
theorem z_no2 {ins : Instr} (h : z_grp ins ≠ 2) (pc : Nat) (st : List Value) : z_jmp ins pc st = none := by
  cases ins <;> first | rfl | exact absurd rfl h
theorem z_no3 {ins : Instr} (h : z_grp ins ≠ 3) (fld : Nat → Option (Nat × Nat)) (nA : Nat) (H : Nat → Option z_C) (st : List Value) : z_rd fld nA H ins st = none := by
  cases ins <;> first | rfl | exact absurd rfl h
theorem z_no4 {ins : Instr} (h : z_grp ins ≠ 4) (fld : Nat → Option (Nat × Nat)) (fty : Nat → Nat → FieldType) (fin : Nat → Nat → Bool) (ini : Option Nat) (ac : Nat → Option Nat) (P : z_H) (st : List Value) : z_wr fld fty fin ini ac P ins st = none := by
  cases ins <;> first | rfl | exact absurd rfl h
theorem z_no5 {ins : Instr} (h : z_grp ins ≠ 5) (cls : Nat → Option (Nat × List Value)) (aan : Nat → Option Nat) (mna : Nat → Option (Nat × Nat)) (P : z_H) (st : List Value) : z_mk cls aan mna P ins st = none := by
  cases ins <;> first | rfl | exact absurd rfl h
theorem z_as_len {t : Nat} {nf : Int32 → Int32} {P P' : z_H} {st st' : List Value} (h : z_as t nf P st = some (st', P')) : P'.length = P.length := by
  unfold z_as at h
  split at h
  · split at h
    · split at h
      · cases h
        simp
      · cases h
    · cases h
  · cases h
theorem z_wr_len {fld : Nat → Option (Nat × Nat)} {fty : Nat → Nat → FieldType} {fin : Nat → Nat → Bool} {ini : Option Nat} {ac : Nat → Option Nat} {ins : Instr} {P P' : z_H} {st st' : List Value} (h : z_wr fld fty fin ini ac P ins st = some (st', P')) : P'.length = P.length := by
  cases ins
  case putfield n =>
    have h : z_pf (fld n) fty fin ini P st = some (st', P') := h
    unfold z_pf at h
    split at h
    · split at h
      · split at h
        · split at h
          · cases h
            simp
          · cases h
        · cases h
      · cases h
    · cases h
  case iastore => exact z_as_len h
  case castore => exact z_as_len h
  case bastore =>
    have h : (z_as 101 (fun x => x.toInt8.toInt32) P st).or (z_as 100 (fun x => x &&& 1) P st) = some (st', P') := h
    cases h1 : z_as 101 (fun x => x.toInt8.toInt32) P st with
    | some q =>
      rw [h1] at h
      cases h
      exact z_as_len h1
    | none =>
      rw [h1] at h
      exact z_as_len h
  case lastore =>
    have h : z_las P st = some (st', P') := h
    unfold z_las at h
    split at h
    · split at h
      · split at h
        · cases h
          simp
        · cases h
      · cases h
    · cases h
  case aastore =>
    have h : z_aas ac P st = some (st', P') := h
    unfold z_aas at h
    split at h
    · split at h
      · split at h
        · split at h
          · cases h
            simp
          · cases h
        · cases h
      · cases h
    · cases h
  all_goals (cases h)
variable {strs : z_Ss} {N : List Int} {al : Nat → Option Nat}
/-- the Strings' cells stand first in the abstract heap -/
def z_fr (n : Nat) (al : Nat → Option Nat) : Prop := ∀ j, j < n → al (z_far + j) = some j
theorem z_fr.mono {n : Nat} {N N' : List Int} {al al' : Nat → Option Nat} (h : z_fr n al) (hle : z_le N N' al al') : z_fr n al' := fun j hj => hle.2 _ _ (h j hj)
/-- the next place, with a new value on top -/
def z_pu (S : z_as_) (t : Nat) (L : List (Nat × z_av)) (s : List z_av) : z_as_ := match s with
  | [] => z_go S t L []
  | v :: r => ((S.1.1, t, L, (z_newv S.2.2.2.1 v).1 :: r, S.1.2.2.2.2), S.2.1, S.2.2.1, (z_newv S.2.2.2.1 v).2, S.2.2.2.2)
theorem z_gs.mono {S : z_as_} {f : z_Fr} {rest : List z_Fr} {P : z_H} {X : List Int} (h : z_gs strs N al S f rest P) : z_gf_ (N ++ X) al S.1 f ∧ z_all2 (z_gf_ (N ++ X) al) S.2.1 rest ∧ z_gh strs (N ++ X) al S.2.2.1 P ∧ z_gx (N ++ X) S.2.2.2.2.1 ∧ P.length ≤ S.2.2.2.2.2 := by
  have hle : z_le N (N ++ X) al al := ⟨⟨X, rfl⟩, fun _ _ k => k⟩
  obtain ⟨h1, h2, h3, h4, h5, h6⟩ := h
  exact ⟨h1.mono hle, h2.mono fun _ _ k => k.mono hle, h3.mono ⟨X, rfl⟩, h5.mono ⟨X, rfl⟩, h6⟩
theorem z_gl.mono {N' : List Int} {al' : Nat → Option Nat} {L : List (Nat × z_av)} {l : z_L} (h : z_gl N al L l) (hle : z_le N N' al al') : z_gl N' al' L l := fun i t e => by
  obtain ⟨v, g1, g2⟩ := h i t e
  exact ⟨v, g1, g2.mono hle⟩
theorem z_pu_gs {S : z_as_} {f : z_Fr} {rest : List z_Fr} {P : z_H} {t : Nat} {L : List (Nat × z_av)} {l : z_L} {r : List z_av} {r' : List Value} (hS : z_gs strs N al S f rest P) (hL : z_gl N al L l) (hr : z_all2 (z_gv N al) r r') : ∃ N', z_le N N' al al ∧ z_gs strs N' al (z_pu S t L r) (f.1, t, l, r', f.2.2.2.2.1, f.2.2.2.2.2) rest P := by
  match r, r', hr with
  | [], [], hr => exact ⟨N, z_le.rf, z_go_gs hS hL hr⟩
  | v :: r, w :: r', ⟨h1, h2⟩ =>
    obtain ⟨N', hle, g1, g2⟩ := z_newv_gv (N := N) h1
    obtain ⟨⟨X, rfl⟩, -⟩ := id hle
    obtain ⟨k1, k2, k3, k4, k5⟩ := hS.mono (X := X)
    refine ⟨N ++ X, hle, ⟨k1.1, rfl, hL.mono hle, ⟨?_, h2.mono fun _ _ k => k.mono hle⟩, k1.2.2.2.2⟩, k2, k3, ?_, k4, k5⟩
    · show z_gv (N ++ X) al (z_newv S.2.2.2.1 v).1 w
      rw [hS.2.2.2.1]
      exact g1
    · show (z_newv S.2.2.2.1 v).2 = _
      rw [hS.2.2.2.1]
      exact g2
/-- the heap becomes another -/
def z_hp (S : z_as_) (AH : List z_ac_) : z_as_ := (S.1, S.2.1, AH, S.2.2.2)
def z_cva (ns : Nat) : Value → Option z_av
  | .ref a => if z_far ≤ a ∧ a < z_far + ns then some (.inr (.inr (false, [a - z_far]))) else none
  | v => z_vabs v
theorem z_cva_ok {ns : Nat} {v : Value} {t : z_av} (hf : z_fr ns al) (h : z_cva ns v = some t) : z_gv N al t v := by
  unfold z_cva at h
  split at h
  · rename_i a
    split at h
    · rename_i hc
      cases h
      refine Or.inr ⟨a, a - z_far, rfl, ?_, by simp⟩
      have := hf (a - z_far) (Nat.sub_lt_left_of_lt_add hc.1 hc.2)
      rw [Nat.add_sub_of_le hc.1] at this
      exact this
    · cases h
  · exact z_vabs_ok h
/-- an instruction that calls nobody -/
def z_astp (G : z_Pg) (md : Bool) (ns : Nat) (S : z_as_) (ins : Instr) (len : Nat) : Option (List z_as_) := match z_grp ins with
  | 0 => (z_apure ins S.1.2.2.2.1).map fun s => [z_pu S (S.1.2.1 + len) S.1.2.2.1 s]
  | 1 => (z_aloc (z_nL G S.1.1) ins S.1.2.2.1 S.1.2.2.2.1).map fun q => [z_go S (S.1.2.1 + len) q.1 q.2]
  | 2 => z_ajmp S ins S.1.2.1 S.1.2.2.2.1
  | 3 => (z_ard (z_fld G S.1.1) (z_nA G) S.2.2.1 ins S.1.2.2.2.1).map fun s => [z_pu S (S.1.2.1 + len) S.1.2.2.1 s]
  | 4 => (z_awr (z_fld G S.1.1) (z_fty G) (z_fin G) (z_ini G S.1.1) (z_ac G) S.2.2.1 ins S.1.2.2.2.1).map fun q => [z_hp (z_go S (S.1.2.1 + len) S.1.2.2.1 q.1) q.2]
  | 5 => match z_amk md (z_cls G S.1.1) (z_aan G S.1.1) (z_mna G S.1.1) S.2.2.1 S.2.2.2.2.2 ins S.1.2.2.2.1 with
    | some q => if S.1.2.2.2.2.1 + q.2.2.1 ≤ z_mc G S.1.1 ∧ S.1.2.2.2.2.2 + q.2.2.2 ≤ z_ms G S.1.1 then some [((S.1.1, S.1.2.1 + len, S.1.2.2.1, q.1, S.1.2.2.2.2.1 + q.2.2.1, S.1.2.2.2.2.2 + q.2.2.2), S.2.1, q.2.1, S.2.2.2.1, S.2.2.2.2.1, S.2.2.2.2.2 + q.2.2.1)] else none
    | none => none
  | 6 => match z_cstv (z_cs G S.1.1) ins with
    | some v => (z_cva ns v).map fun t => [z_go S (S.1.2.1 + len) S.1.2.2.1 (t :: S.1.2.2.2.1)]
    | none => none
  | _ => none
theorem z_astp_ok {G : z_Pg} {md : Bool} {ns : Nat} {S : z_as_} {ins : Instr} {len : Nat} {Ss : List z_as_} {f : z_Fr} {rest : List z_Fr} {P : z_H} (h : z_astp G md ns S ins len = some Ss) (hS : z_gs (z_strs G) N al S f rest P) (hf : z_fr ns al) :
    ∃ q, z_step G f.1 ins len f.2.1 f.2.2.1 f.2.2.2.1 P f.2.2.2.2.1 f.2.2.2.2.2 = some q ∧ ∃ S' ∈ Ss, ∃ N' al', z_le N N' al al' ∧ z_gs (z_strs G) N' al' S' (f.1, q.1, q.2.1, q.2.2.1, q.2.2.2.2.1, q.2.2.2.2.2) rest q.2.2.2.1 := by
  obtain ⟨⟨a1, a2, a3, a4, a5, a6⟩, b1, b2, b3, b4, b5⟩ := id hS
  unfold z_astp at h
  split at h
  · rename_i hg
    obtain ⟨s, h1, h2⟩ := z_map_some h
    subst h2
    obtain ⟨st', g1, g2⟩ := z_apure_ok h1 a4
    obtain ⟨N', g3, g4⟩ := z_pu_gs (t := f.2.1 + len) hS a3 g2
    refine ⟨(f.2.1 + len, f.2.2.1, st', P, f.2.2.2.2.1, f.2.2.2.2.2), ?_, _, List.mem_singleton_self _, N', al, g3, by rw [a2]; exact g4⟩
    unfold z_step
    rw [g1]
  · rename_i hg
    obtain ⟨s, h1, h2⟩ := z_map_some h
    subst h2
    obtain ⟨l', st', g1, g2, g3⟩ := z_aloc_ok h1 a3 a4
    rw [a1] at g1
    refine ⟨(f.2.1 + len, l', st', P, f.2.2.2.2.1, f.2.2.2.2.2), ?_, _, List.mem_singleton_self _, N, al, z_le.rf, by rw [a2]; exact z_go_gs hS g2 g3⟩
    unfold z_step
    rw [z_no0 (by rw [hg]; decide), g1]
  · rename_i hg
    obtain ⟨q, g1, S', g2, g3⟩ := z_ajmp_ok h hS a4
    rw [a2] at g1
    refine ⟨(q.1, f.2.2.1, q.2, P, f.2.2.2.2.1, f.2.2.2.2.2), ?_, S', g2, N, al, z_le.rf, g3⟩
    unfold z_step
    rw [z_no0 (by rw [hg]; decide), z_no1 (by rw [hg]; decide), g1]
  · rename_i hg
    obtain ⟨s, h1, h2⟩ := z_map_some h
    subst h2
    obtain ⟨st', g1, g2⟩ := z_ard_ok h1 b2 a4
    rw [a1] at g1
    obtain ⟨N', g3, g4⟩ := z_pu_gs (t := f.2.1 + len) hS a3 g2
    refine ⟨(f.2.1 + len, f.2.2.1, st', P, f.2.2.2.2.1, f.2.2.2.2.2), ?_, _, List.mem_singleton_self _, N', al, g3, by rw [a2]; exact g4⟩
    unfold z_step
    rw [z_no0 (by rw [hg]; decide), z_no1 (by rw [hg]; decide), z_no2 (by rw [hg]; decide), g1]
  · rename_i hg
    obtain ⟨s, h1, h2⟩ := z_map_some h
    subst h2
    obtain ⟨st', P', g1, g2, g3⟩ := z_awr_ok h1 b2 a4
    rw [a1] at g1
    refine ⟨(f.2.1 + len, f.2.2.1, st', P', f.2.2.2.2.1, f.2.2.2.2.2), ?_, _, List.mem_singleton_self _, N, al, z_le.rf, ⟨a1, congrArg (· + len) a2, a3, g2, a5, a6⟩, b1, g3, b3, b4, ?_⟩
    · unfold z_step
      rw [z_no0 (by rw [hg]; decide), z_no1 (by rw [hg]; decide), z_no2 (by rw [hg]; decide), z_no3 (by rw [hg]; decide), g1]
    · show P'.length ≤ S.2.2.2.2.2
      rw [z_wr_len g1]
      exact b5
  · rename_i hg
    split at h
    · rename_i q hq
      split at h
      · rename_i hc
        cases h
        obtain ⟨st', P', al', g1, g2, g3, g4, g5⟩ := z_amk_ok (AH' := q.2.1) (dc := q.2.2.1) (ds := q.2.2.2) hq b2 a4 b5
        rw [a1] at g1 hc
        rw [a5, a6] at hc
        refine ⟨(f.2.1 + len, f.2.2.1, st', P', f.2.2.2.2.1 + q.2.2.1, f.2.2.2.2.2 + q.2.2.2), ?_, _, List.mem_singleton_self _, N, al', g2, ⟨a1, by rw [a2], a3.mono g2, g3, by rw [a5], by rw [a6]⟩, b1.mono fun _ _ k => k.mono g2, g4, b3, b4, ?_⟩
        · unfold z_step
          rw [z_no0 (by rw [hg]; decide), z_no1 (by rw [hg]; decide), z_no2 (by rw [hg]; decide), z_no3 (by rw [hg]; decide), z_no4 (by rw [hg]; decide), g1]
          show z_bump G f.1 _ = _
          unfold z_bump
          rw [if_pos hc]
        · show P'.length ≤ S.2.2.2.2.2 + q.2.2.1
          omega
      · cases h
    · cases h
  · rename_i hg
    split at h
    · rename_i v hv
      obtain ⟨t, h1, h2⟩ := z_map_some h
      subst h2
      rw [a1] at hv
      refine ⟨(f.2.1 + len, f.2.2.1, v :: f.2.2.2.1, P, f.2.2.2.2.1, f.2.2.2.2.2), ?_, _, List.mem_singleton_self _, N, al, z_le.rf, by rw [a2]; exact z_go_gs hS a3 ⟨z_cva_ok hf h1, a4⟩⟩
      unfold z_step
      rw [z_no0 (by rw [hg]; decide), z_no1 (by rw [hg]; decide), z_no2 (by rw [hg]; decide), z_no3 (by rw [hg]; decide), z_no4 (by rw [hg]; decide), z_no5 (by rw [hg]; decide)]
      show (match (z_cstv (z_cs G f.1) ins).map (· :: f.2.2.2.1) with | some s' => some (f.2.1 + len, f.2.2.1, s', P, f.2.2.2.2.1, f.2.2.2.2.2) | none => none) = _
      rw [hv]
      rfl
    · cases h
  · cases h
end ZAST
end
section
section ZACK
variable {N : List Int} {al : Nat → Option Nat}
theorem z_all2.take {α β : Type} {R : α → β → Prop} : ∀ {as : List α} {bs : List β} (n : Nat), z_all2 R as bs → z_all2 R (as.take n) (bs.take n)
  | _, _, 0, _ => by simp [z_all2]
  | [], [], n + 1, _ => trivial
  | _ :: _, _ :: _, n + 1, ⟨h1, h2⟩ => ⟨h1, h2.take n⟩
  | [], _ :: _, _ + 1, h => h.elim
  | _ :: _, [], _ + 1, h => h.elim
theorem z_all2.drop {α β : Type} {R : α → β → Prop} : ∀ {as : List α} {bs : List β} (n : Nat), z_all2 R as bs → z_all2 R (as.drop n) (bs.drop n)
  | _, _, 0, h => h
  | [], [], n + 1, _ => trivial
  | _ :: _, _ :: _, n + 1, ⟨_, h2⟩ => h2.drop n
  | [], _ :: _, _ + 1, h => h.elim
  | _ :: _, [], _ + 1, h => h.elim
theorem z_all2.app {α β : Type} {R : α → β → Prop} : ∀ {as : List α} {bs : List β} {cs : List α} {ds : List β}, z_all2 R as bs → z_all2 R cs ds → z_all2 R (as ++ cs) (bs ++ ds)
  | [], [], _, _, _, h => h
  | _ :: _, _ :: _, _, _, ⟨h1, h2⟩, h => ⟨h1, h2.app h⟩
  | [], _ :: _, _, _, h, _ => h.elim
  | _ :: _, [], _, _, h, _ => h.elim
theorem z_all2.rev {α β : Type} {R : α → β → Prop} : ∀ {as : List α} {bs : List β}, z_all2 R as bs → z_all2 R as.reverse bs.reverse
  | [], [], _ => trivial
  | a :: as, b :: bs, ⟨h1, h2⟩ => by
    rw [List.reverse_cons, List.reverse_cons]
    exact h2.rev.app ⟨h1, trivial⟩
  | [], _ :: _, h => h.elim
  | _ :: _, [], h => h.elim
def z_acs (st : List z_av) : Nat := (st.map z_acat).sum
theorem z_acs_eq : ∀ {ts : List z_av} {vs : List Value}, z_all2 (z_gv N al) ts vs → z_cat vs = z_acs ts
  | [], [], _ => rfl
  | t :: ts, v :: vs, ⟨h1, h2⟩ => by
    have := z_acs_eq h2
    unfold z_cat z_acs at this ⊢
    rw [List.map_cons, List.map_cons, List.sum_cons, List.sum_cons, this, z_acat_eq h1]
  | [], _ :: _, h => h.elim
  | _ :: _, [], h => h.elim
def z_alv : Nat → List z_av → List (Nat × z_av)
  | _, [] => []
  | i, t :: ts => (i, t) :: z_alv (if z_acat t = 2 then i + 2 else i + 1) ts
theorem z_alv_ok : ∀ {ts : List z_av} {vs : List Value} {i : Nat}, z_all2 (z_gv N al) ts vs → z_gl N al (z_alv i ts) (lv_args i vs)
  | [], [], _, _ => fun j t h => by cases h
  | t :: ts, v :: vs, i, ⟨h1, h2⟩ => fun j u h => by
    have h : (if i == j then some t else z_aget (z_alv (if z_acat t = 2 then i + 2 else i + 1) ts) j) = some u := h
    show ∃ w, (if i == j then some v else z_get (lv_args (if v.category = 2 then i + 2 else i + 1) vs) j) = some w ∧ z_gv N al u w
    split at h
    · rename_i hj
      cases h
      exact ⟨v, by rw [if_pos hj], h1⟩
    · rename_i hj
      rw [if_neg hj, z_acat_eq h1]
      exact z_alv_ok h2 j u h
  | [], _ :: _, _, h => h.elim
  | _ :: _, [], _, h => h.elim
def z_aat (G : z_Pg) (AH : List z_ac_) (y kd : Nat) : List z_av → Bool
  | .inr (.inr r) :: _ => !r.1 && (!(kd == 1) || r.2.all fun c => match AH[c]? with
      | some A => A.1 == z_rcv G y
      | none => false)
  | _ => false
theorem z_aat_ok {G : z_Pg} {AH : List z_ac_} {P : z_H} {y kd : Nat} {ts : List z_av} {vs : List Value} (h : z_aat G AH y kd ts = true) (hH : z_gh (z_strs G) N al AH P) (hs : z_all2 (z_gv N al) ts vs) : z_at? G P y kd vs = true := by
  unfold z_aat at h
  split at h
  · rename_i r ts
    rw [Bool.and_eq_true, Bool.not_eq_true'] at h
    match vs, hs with
    | _ :: vs, ⟨Or.inl ⟨_, h3⟩, _⟩ => rw [h.1] at h3; cases h3
    | _ :: vs, ⟨Or.inr ⟨a, c, e, hac, hc⟩, _⟩ =>
      subst e
      unfold z_at?
      dsimp only
      split
      · rename_i hk
        have h2 := h.2
        rw [hk] at h2
        have h2 : (r.2.all fun c => match AH[c]? with | some A => A.1 == z_rcv G y | none => false) = true := by simpa using h2
        have h3 := List.all_eq_true.mp h2 c hc
        obtain ⟨q, A, g1, g2, g3, -⟩ := hH a c hac
        rw [g2] at h3
        rw [g1]
        dsimp only at h3 ⊢
        rw [← g3.1]
        exact h3
      · rfl
  · cases h
/-- a call of y -/
def z_aargs (G : z_Pg) (d y kd : Nat) (S : z_as_) : Option z_as_ :=
  if z_na G y ≤ S.1.2.2.2.1.length ∧ 1 ≤ d ∧ z_acs (S.1.2.2.2.1.drop (z_na G y)) ≤ 8 ∧ z_nL G y ≤ 45 ∧ z_acs ((S.1.2.2.2.1.take (z_na G y)).reverse) ≤ z_nL G y ∧ S.1.2.2.2.2.1 + z_mc G y ≤ z_mc G S.1.1 ∧ S.1.2.2.2.2.2 + z_ms G y ≤ z_ms G S.1.1 ∧ (kd = 0 ∨ 1 ≤ z_na G y) ∧ (kd = 0 ∨ z_aat G S.2.2.1 y kd ((S.1.2.2.2.1.take (z_na G y)).reverse) = true) then
    some ((y, 0, z_alv 0 ((S.1.2.2.2.1.take (z_na G y)).reverse), [], 0, 0), (S.1.1, S.1.2.1, S.1.2.2.1, S.1.2.2.2.1.drop (z_na G y), S.1.2.2.2.2) :: S.2.1, S.2.2) else none
theorem z_aargs_ok {G : z_Pg} {d y kd : Nat} {S S' : z_as_} {f : z_Fr} {rest : List z_Fr} {P : z_H} (h : z_aargs G d y kd S = some S') (hS : z_gs (z_strs G) N al S f rest P) :
    1 ≤ d ∧ ∃ as r, z_args G d y kd f.1 f.2.2.2.1 P f.2.2.2.2.1 f.2.2.2.2.2 = some (as, r) ∧ z_gs (z_strs G) N al S' (y, 0, lv_args 0 as, [], 0, 0) ((f.1, f.2.1, f.2.2.1, r, f.2.2.2.2.1, f.2.2.2.2.2) :: rest) P := by
  obtain ⟨⟨a1, a2, a3, a4, a5, a6⟩, b1, b2, b3, b4, b5⟩ := id hS
  unfold z_aargs at h
  split at h
  · rename_i hc
    cases h
    obtain ⟨c1, c2, c3, c4, c5, c6, c7, c8, c9⟩ := hc
    have htk := (a4.take (z_na G y)).rev
    have hdr := a4.drop (z_na G y)
    refine ⟨c2, (f.2.2.2.1.take (z_na G y)).reverse, f.2.2.2.1.drop (z_na G y), ?_, ⟨rfl, rfl, z_alv_ok htk, trivial, rfl, rfl⟩, ⟨⟨a1, a2, a3, hdr, a5, a6⟩, b1⟩, b2, b3, b4, b5⟩
    unfold z_args
    dsimp only
    rw [if_pos]
    refine ⟨by rw [← a4.len]; exact c1, c2, by rw [z_acs_eq hdr]; exact c3, c4, by rw [z_acs_eq htk]; exact c5, by rw [← a1, ← a5]; exact c6, by rw [← a1, ← a6]; exact c7, c8, c9.imp id fun k => z_aat_ok k b2 htk⟩
  · cases h
def z_isr : Instr → Bool
  | .return_ => true
  | .ireturn => true
  | .lreturn => true
  | .areturn => true
  | _ => false
theorem z_isr_no {rt : Option FieldType} {ins : Instr} {st : List Value} (h : z_isr ins = false) : z_ret rt ins st = none := by
  cases ins <;> first | rfl | cases h
def z_aret (rt : Option FieldType) : Instr → List z_av → Option (Option z_av)
  | .return_, [] => if rt = none then some none else none
  | .ireturn, [.inl t] => match rt with
    | some ty => if z_afit ty (.inl t) then some (some (.inl t)) else none
    | none => none
  | .lreturn, [.inr (.inl t)] => if rt = some .long then some (some (.inr (.inl t))) else none
  | .areturn, [.inr (.inr t)] => match rt with
    | some (.object _) => some (some (.inr (.inr t)))
    | some (.array _) => some (some (.inr (.inr t)))
    | _ => none
  | _, _ => none
def z_go_ (N : List Int) (al : Nat → Option Nat) : Option z_av → Option Value → Prop
  | none, none => True
  | some t, some v => z_gv N al t v
  | _, _ => False
theorem z_go_l {t : Option z_av} {v : Option Value} (h : z_go_ N al t v) : z_all2 (z_gv N al) t.toList v.toList := by
  match t, v, h with
  | none, none, _ => exact trivial
  | some t, some v, h => exact ⟨h, trivial⟩
theorem z_aret_ok {rt : Option FieldType} {ins : Instr} {ast : List z_av} {st : List Value} {r : Option z_av} (h : z_aret rt ins ast = some r) (hs : z_all2 (z_gv N al) ast st) : ∃ v, z_ret rt ins st = some v ∧ z_go_ N al r v := by
  unfold z_aret at h
  split at h
  · split at h
    · rename_i hrt
      cases h
      match st, hs with
      | [], _ => exact ⟨none, by unfold z_ret; rw [if_pos hrt], trivial⟩
    · cases h
  · rename_i t
    split at h
    · rename_i ty
      split at h
      · rename_i hf
        cases h
        match st, hs with
        | [_], ⟨⟨x, e, hx⟩, _⟩ =>
          subst e
          have hv : z_gv N al (.inl t) (.int x) := ⟨x, rfl, hx⟩
          refine ⟨some (.int x), ?_, hv⟩
          unfold z_ret
          dsimp only
          rw [if_pos (z_afit_ok hf hv).2]
      · cases h
    · cases h
  · rename_i t
    split at h
    · rename_i hrt
      cases h
      match st, hs with
      | [_], ⟨⟨x, e, hx⟩, _⟩ =>
        subst e
        refine ⟨some (.long x), ?_, ⟨x, rfl, hx⟩⟩
        unfold z_ret
        dsimp only
        rw [if_pos hrt]
    · cases h
  · rename_i t
    match st, hs with
    | [v], ⟨hv, _⟩ =>
      have hA : z_isA v = true := z_akA_ok (t := .inr (.inr t)) rfl hv
      split at h
      · cases h
        refine ⟨some v, ?_, hv⟩
        unfold z_ret
        dsimp only
        rw [if_pos hA]
      · cases h
        refine ⟨some v, ?_, hv⟩
        unfold z_ret
        dsimp only
        rw [if_pos hA]
      · cases h
  · cases h
end ZACK
end
section
section ZASN
variable {N : List Int} {al : Nat → Option Nat}
theorem z_all2.mem0 {α β : Type} {R : α → β → Prop} : ∀ {as : List α} {bs : List β} {b : β}, z_all2 R as bs → b ∈ bs → ∃ a ∈ as, R a b
  | _ :: _, _ :: _, b, ⟨h1, h2⟩, hb => by
    rcases List.mem_cons.mp hb with rfl | hb
    · exact ⟨_, List.mem_cons_self, h1⟩
    · obtain ⟨a, ha, h3⟩ := h2.mem0 hb
      exact ⟨a, List.mem_cons_of_mem _ ha, h3⟩
  | [], [], _, _, hb => by cases hb
  | [], _ :: _, _, h, _ => h.elim
  | _ :: _, [], _, h, _ => h.elim
theorem z_all2_mapk {α β γ : Type} {R : α → β → Prop} {f : γ → α} {g : γ → β} : ∀ {l : List γ}, (∀ k ∈ l, R (f k) (g k)) → z_all2 R (l.map f) (l.map g)
  | [], _ => trivial
  | k :: l, h => ⟨h k List.mem_cons_self, z_all2_mapk fun k' hk => h k' (List.mem_cons_of_mem _ hk)⟩
theorem z_all2.getD {α β : Type} {R : α → β → Prop} {as : List α} {bs : List β} {i : Nat} {d : α} {e : β} (h : z_all2 R as bs) (hi : i < as.length) : R (as.getD i d) (bs.getD i e) := by
  obtain ⟨b, h1, h2⟩ := h.get (List.getElem?_eq_getElem hi)
  rw [List.getD_eq_getElem?_getD, List.getD_eq_getElem?_getD, List.getElem?_eq_getElem hi, h1]
  exact h2
/-- System.arraycopy between rows of ints, all told exactly -/
def z_acy (AH : List z_ac_) : List z_av → Option (List z_av × List z_ac_)
  | .inl n :: .inl dp :: .inr (.inr (false, [cb])) :: .inl sp :: .inr (.inr (false, [ca])) :: st => match AH[ca]?, AH[cb]? with
    | some A, some B => if A.1 = 103 ∧ B.1 = 103 ∧ A.2.1.2 = true ∧ B.2.1 = (true, true) ∧ A.2.2.1 = none ∧ B.2.2.1 = none ∧ z_lo n = z_hi n ∧ z_lo dp = z_hi dp ∧ z_lo sp = z_hi sp ∧ 0 ≤ z_lo n ∧ 0 ≤ z_lo dp ∧ 0 ≤ z_lo sp ∧ (z_lo sp).toNat + (z_lo n).toNat ≤ A.2.2.2.length ∧ (z_lo dp).toNat + (z_lo n).toNat ≤ B.2.2.2.length ∧ A.2.2.2.all z_akI = true then
        some (st, AH.set cb (103, B.2.1, none, (List.range B.2.2.2.length).map fun k => if (z_lo dp).toNat ≤ k ∧ k < (z_lo dp).toNat + (z_lo n).toNat then A.2.2.2.getD ((z_lo sp).toNat + (k - (z_lo dp).toNat)) (.inl (z_tc 0)) else B.2.2.2.getD k (.inl (z_tc 0)))) else none
    | _, _ => none
  | _ => none
theorem z_acy_ok {strs : z_Ss} {AH AH' : List z_ac_} {P : z_H} {ast ast' : List z_av} {st : List Value} (h : z_acy AH ast = some (ast', AH')) (hH : z_gh strs N al AH P) (hs : z_all2 (z_gv N al) ast st) : ∃ st' P', z_acp P st = some (st', P') ∧ z_all2 (z_gv N al) ast' st' ∧ z_gh strs N al AH' P' ∧ P'.length = P.length := by
  unfold z_acy at h
  split at h
  rotate_left
  · cases h
  rename_i n dp cb sp ca ast0
  split at h
  rotate_left
  · cases h
  rename_i A B hA hB
  split at h
  rotate_left
  · cases h
  rename_i hc
  cases h
  obtain ⟨c1, c2, c3, c4, c5, c6, c7, c8, c9, c10, c11, c12, c13, c14, c15⟩ := hc
  match st, hs with
  | _ :: _ :: _ :: _ :: _ :: st, ⟨⟨n', e1, hn⟩, ⟨dp', e2, hdp⟩, hb, ⟨sp', e3, hsp⟩, ha, hr⟩ =>
    subst e1; subst e2; subst e3
    rcases hb with ⟨-, q⟩ | ⟨b, cb', e4, hb, hbm⟩
    · cases q
    rcases ha with ⟨-, q⟩ | ⟨a, ca', e5, ha, ham⟩
    · cases q
    subst e4; subst e5
    have hbm : cb' = cb := by simpa using hbm
    have ham : ca' = ca := by simpa using ham
    subst hbm; subst ham
    obtain ⟨q, A', g1, g2, g3, g4, g5⟩ := hH a _ ha
    cases hA.symm.trans g2
    obtain ⟨w, B', k1, k2, k3, k4, k5⟩ := hH b _ hb
    cases hB.symm.trans k2
    have hfa : a < z_far := g5 c3
    have hfb : b < z_far := k5 (by rw [c4])
    have hPa : P[a]? = some q := by
      unfold z_lk at g1
      rw [if_pos hfa] at g1
      exact g1
    have hPb : P[b]? = some w := by
      unfold z_lk at k1
      rw [if_pos hfb] at k1
      exact k1
    obtain ⟨g6, g7⟩ := g3
    rw [c5] at g7
    have g7 : z_all2 (z_gv N al) A.2.2.2 q.2 := g7
    obtain ⟨k6, k7⟩ := k3
    rw [c6] at k7
    have k7 : z_all2 (z_gv N al) B.2.2.2 w.2 := k7
    have en : n'.toInt = z_lo n := by have := hn.1; have := hn.2.1; omega
    have edp : dp'.toInt = z_lo dp := by have := hdp.1; have := hdp.2.1; omega
    have esp : sp'.toInt = z_lo sp := by have := hsp.1; have := hsp.2.1; omega
    have tn : n'.toNatClampNeg = (z_lo n).toNat := by rw [← en]; rfl
    have tdp : dp'.toNatClampNeg = (z_lo dp).toNat := by rw [← edp]; rfl
    have tsp : sp'.toNatClampNeg = (z_lo sp).toNat := by rw [← esp]; rfl
    have hall : q.2.all z_isI = true := by
      refine List.all_eq_true.mpr fun v hv => ?_
      obtain ⟨u, hu, huv⟩ := z_all2.mem0 g7 hv
      exact z_akI_ok (List.all_eq_true.mp c15 u hu) huv
    refine ⟨st, P.set b (103, z_cpy w.2 q.2 sp'.toNatClampNeg dp'.toNatClampNeg n'.toNatClampNeg), ?_, hr, ?_, by simp⟩
    · unfold z_acp
      dsimp only
      rw [hPa, hPb]
      dsimp only
      rw [if_pos ⟨by rw [← g6, c1], by rw [← k6, c2], by omega, by omega, by omega, by rw [tn, tsp, ← g7.len]; exact c13, by rw [tn, tdp, ← k7.len]; exact c14, hall⟩]
    · refine z_gh_set hH hfb (List.getElem?_eq_some_iff.mp hPb).1 fun c' C hC => ?_
      by_cases hcc : c' = cb'
      · subst hcc
        cases hB.symm.trans hC
        refine ⟨_, List.getElem?_set_self (List.getElem?_eq_some_iff.mp hB).1, rfl, fun b' q0 hne hb' => absurd (k4 (by rw [c4]) b' hb') hne, fun _ => ⟨rfl, ?_⟩⟩
        show z_all2 (z_gv N al) ((List.range B.2.2.2.length).map _) (z_cpy w.2 q.2 _ _ _)
        unfold z_cpy
        rw [tn, tdp, tsp, ← k7.len]
        refine z_all2_mapk fun k hk => ?_
        have hk := List.mem_range.mp hk
        split
        · rename_i hin
          exact g7.getD (by omega)
        · exact k7.getD hk
      · exact ⟨C, by rw [List.getElem?_set_ne (fun e => hcc e.symm)]; exact hC, rfl, fun _ _ _ _ h => h, fun e => absurd (Option.some.inj (e.symm.trans hb)) hcc⟩
/-- Object's own constructor, arraycopy -/
def z_aprim (kd d : Nat) (S : z_as_) : Option z_as_ := if kd = 3 then match S.1.2.2.2.1 with
    | .inr (.inr r) :: st => if r.1 = false ∧ 1 ≤ d ∧ z_acs st ≤ 8 then some (z_go S (S.1.2.1 + 3) S.1.2.2.1 st) else none
    | _ => none
  else if kd = 5 then match z_acy S.2.2.1 S.1.2.2.2.1 with
    | some q => if 1 ≤ d ∧ z_acs q.1 ≤ 8 then some (z_hp (z_go S (S.1.2.1 + 3) S.1.2.2.1 q.1) q.2) else none
    | none => none
  else none
theorem z_aprim_ok {G : z_Pg} {kd d : Nat} {S S' : z_as_} {f : z_Fr} {rest : List z_Fr} {P : z_H} (h : z_aprim kd d S = some S') (hS : z_gs (z_strs G) N al S f rest P) :
    ∃ q, z_prim kd d f.2.1 f.2.2.1 f.2.2.2.1 P f.2.2.2.2.1 f.2.2.2.2.2 = some q ∧ z_gs (z_strs G) N al S' (f.1, q.1, q.2.1, q.2.2.1, q.2.2.2.2.1, q.2.2.2.2.2) rest q.2.2.2.1 := by
  obtain ⟨⟨a1, a2, a3, a4, a5, a6⟩, b1, b2, b3, b4, b5⟩ := id hS
  unfold z_aprim at h
  split at h
  · rename_i hk
    split at h
    · rename_i r st hst
      split at h
      · rename_i hc
        cases h
        rw [hst] at a4
        generalize hv : f.2.2.2.1 = vs at a4
        match vs, a4 with
        | _ :: vs, ⟨Or.inl ⟨_, h3⟩, _⟩ => rw [hc.1] at h3; cases h3
        | _ :: vs, ⟨Or.inr ⟨a, c, e, _⟩, h4⟩ =>
          subst e
          refine ⟨(f.2.1 + 3, f.2.2.1, vs, P, f.2.2.2.2.1, f.2.2.2.2.2), ?_, by rw [a2]; exact z_go_gs hS a3 h4⟩
          unfold z_prim
          rw [if_pos hk]
          dsimp only
          rw [if_pos ⟨hc.2.1, by rw [z_acs_eq h4]; exact hc.2.2⟩]
      · cases h
    · cases h
  · rename_i hk
    split at h
    rotate_left
    · cases h
    rename_i hk5
    split at h
    rotate_left
    · cases h
    rename_i q hq
    split at h
    rotate_left
    · cases h
    rename_i hc
    cases h
    obtain ⟨st', P', g1, g2, g3, g4⟩ := z_acy_ok (ast' := q.1) (AH' := q.2) hq b2 a4
    refine ⟨(f.2.1 + 3, f.2.2.1, st', P', f.2.2.2.2.1, f.2.2.2.2.2), ?_, ⟨a1, congrArg (· + 3) a2, a3, g2, a5, a6⟩, b1, g3, b3, b4, by show P'.length ≤ S.2.2.2.2.2; rw [g4]; exact b5⟩
    unfold z_prim
    rw [if_neg hk, if_pos hk5, g1]
    dsimp only
    rw [if_pos ⟨hc.1, by rw [z_acs_eq g2]; exact hc.2⟩]
/-- behind a call that gave r -/
def z_afb (G : z_Pg) (g : z_af) (r : Option z_av) (y : Nat) : z_af := (g.1, g.2.1 + 3, g.2.2.1, r.toList ++ g.2.2.2.1, g.2.2.2.2.1 + z_mc G y, g.2.2.2.2.2 + z_ms G y)
/-- what comes next: an end, or some states with their depths -/
def z_succ (G : z_Pg) (md : Nat → Nat → Bool) (ns d : Nat) (S : z_as_) : Option (Option z_av ⊕ List (Nat × z_as_)) := match z_cod G S.1.1 S.1.2.1 with
  | none => none
  | some i => match z_call G S.1.1 i.1 with
    | some yk => if yk.2 < 3 then match z_aargs G d yk.1 yk.2 S with
        | some S' => some (.inr [(d - 1, S')])
        | none => none
      else match z_aprim yk.2 d S with
        | some S' => some (.inr [(d, S')])
        | none => none
    | none => if z_isr i.1 then match z_aret (z_rty G S.1.1) i.1 S.1.2.2.2.1 with
        | some r => match S.2.1 with
          | [] => some (.inl r)
          | g :: rest => some (.inr [(d + 1, (z_afb G g r S.1.1, rest, S.2.2))])
        | none => none
      else match z_astp G (md S.1.1 S.1.2.1) ns S i.1 i.2 with
        | some Ss => some (.inr (Ss.map fun S' => (d, S')))
        | none => none
/-- the walk of all roads: every end is told to Q -/
def z_walk (G : z_Pg) (md : Nat → Nat → Bool) (ns : Nat) (Q : z_as_ → Option z_av → Bool) : Nat → List (Nat × z_as_) → Bool
  | _, [] => true
  | 0, _ :: _ => false
  | f + 1, x :: W => match z_succ G md ns x.1 x.2 with
    | none => false
    | some (.inl r) => match Q x.2 r with
      | true => z_walk G md ns Q f W
      | false => false
    | some (.inr Ss) => z_walk G md ns Q f (Ss ++ W)
/-- what is known of an end -/
def z_end (G : z_Pg) (Q : z_as_ → Option z_av → Bool) (N : List Int) (al : Nat → Option Nat) (r : Option Value) (P' : z_H) : Prop :=
  ∃ S' t N' al', Q S' t = true ∧ z_le N N' al al' ∧ z_gh (z_strs G) N' al' S'.2.2.1 P' ∧ S'.2.2.2.1 = N'.length ∧ z_gx N' S'.2.2.2.2.1 ∧ P'.length ≤ S'.2.2.2.2.2 ∧ z_go_ N' al' t r
theorem z_end.mono {G : z_Pg} {Q : z_as_ → Option z_av → Bool} {N N1 : List Int} {al al1 : Nat → Option Nat} {r : Option Value} {P' : z_H} (hle : z_le N N1 al al1) (h : z_end G Q N1 al1 r P') : z_end G Q N al r P' := by
  obtain ⟨⟨X, rfl⟩, k⟩ := hle
  obtain ⟨S', t, N', al', g1, ⟨⟨Y, rfl⟩, k'⟩, g3⟩ := h
  exact ⟨S', t, _, al', g1, ⟨⟨X ++ Y, by rw [List.append_assoc]⟩, fun a c hac => k' a c (k a c hac)⟩, g3⟩
/-- one step of the walk -/
theorem z_succ_ok {G : z_Pg} {md : Nat → Nat → Bool} {ns : Nat} {Q : z_as_ → Option z_av → Bool} {d : Nat} {S : z_as_} {N : List Int} {al : Nat → Option Nat} {f : z_Fr} {rest : List z_Fr} {P : z_H} {o : Option z_av ⊕ List (Nat × z_as_)} (h : z_succ G md ns d S = some o) (hS : z_gs (z_strs G) N al S f rest P) (hf : z_fr ns al)
    (hend : ∀ r, o = .inl r → Q S r = true) (hgo : ∀ Ss, o = .inr Ss → ∀ x ∈ Ss, ∀ {N al f rest P}, z_gs (z_strs G) N al x.2 f rest P → z_fr ns al → ∃ r P', z_RF G rest f x.1 P r P' ∧ z_end G Q N al r P') : ∃ r P', z_RF G rest f d P r P' ∧ z_end G Q N al r P' := by
    obtain ⟨⟨a1, a2, a3, a4, a5, a6⟩, b1, b2, b3, b4, b5⟩ := id hS
    unfold z_succ at h
    rw [a1, a2] at h
    split at h
    · cases h
    · rename_i i hi
      split at h
      · rename_i yk hyk
        split at h
        · rename_i hlt
          split at h
          · rename_i S' hS'
            cases h
            obtain ⟨hd, as, r, g1, g2⟩ := z_aargs_ok hS' hS
            obtain ⟨rv, P', k1, k2⟩ := hgo _ rfl (d - 1, S') (List.mem_singleton_self _) g2 hf
            refine ⟨rv, P', z_RF_call hd ?_ k1, k2⟩
            unfold z_next
            show (match z_cod G f.1 f.2.1 with | none => none | some i => _) = _
            rw [hi]
            dsimp only
            rw [hyk]
            dsimp only
            rw [if_pos hlt]
            show (match z_args G d yk.1 yk.2 f.1 f.2.2.2.1 P f.2.2.2.2.1 f.2.2.2.2.2 with | some ar => _ | none => none) = _
            rw [g1]
          · cases h
        · rename_i hlt
          split at h
          · rename_i S' hS'
            cases h
            obtain ⟨q, g1, g2⟩ := z_aprim_ok hS' hS
            obtain ⟨rv, P', k1, k2⟩ := hgo _ rfl (d, S') (List.mem_singleton_self _) g2 hf
            refine ⟨rv, P', z_RF_step ?_ k1, k2⟩
            unfold z_next
            show (match z_cod G f.1 f.2.1 with | none => none | some i => _) = _
            rw [hi]
            dsimp only
            rw [hyk]
            dsimp only
            rw [if_neg hlt]
            show (match z_prim yk.2 d f.2.1 f.2.2.1 f.2.2.2.1 P f.2.2.2.2.1 f.2.2.2.2.2 with | some q' => _ | none => none) = _
            rw [g1]
          · cases h
      · rename_i hno
        split at h
        · rename_i hisr
          split at h
          · rename_i r hr
            obtain ⟨v, g1, g2⟩ := z_aret_ok hr a4
            have hn : z_next G d f.1 (z_fs f P) = some (.inl v) := by
              unfold z_next
              show (match z_cod G f.1 f.2.1 with | none => none | some i => _) = _
              rw [hi]
              dsimp only
              rw [hno]
              show (match z_ret (z_rty G f.1) i.1 f.2.2.2.1 with | some r => _ | none => _) = _
              rw [g1]
            split at h
            · rename_i hrest
              cases h
              rw [hrest] at b1
              match rest, b1 with
              | [], _ => exact ⟨v, P, z_RF_end hn, S, r, N, al, hend r rfl, z_le.rf, b2, b3, b4, b5, g2⟩
            · rename_i g grest hrest
              cases h
              rw [hrest] at b1
              match rest, b1 with
              | fr :: rest, ⟨c1, c2⟩ =>
                obtain ⟨e1, e2, e3, e4, e5, e6⟩ := c1
                have hS2 : z_gs (z_strs G) N al (z_afb G g r f.1, grest, S.2.2) (z_fb G fr v f.1) rest P := ⟨⟨e1, congrArg (· + 3) e2, e3, (z_go_l g2).app e4, congrArg (· + z_mc G f.1) e5, congrArg (· + z_ms G f.1) e6⟩, c2, b2, b3, b4, b5⟩
                obtain ⟨rv, P', k1, k2⟩ := hgo _ rfl (d + 1, (z_afb G g r f.1, grest, S.2.2)) (List.mem_singleton_self _) hS2 hf
                exact ⟨rv, P', z_RF_ret hn k1, k2⟩
          · cases h
        · rename_i hisr
          split at h
          · rename_i Ss hSs
            cases h
            obtain ⟨q, g1, S', g2, N1, al1, g3, g4⟩ := z_astp_ok hSs hS hf
            obtain ⟨rv, P', k1, k2⟩ := hgo _ rfl (d, S') (List.mem_map.mpr ⟨S', g2, rfl⟩) g4 (hf.mono g3)
            refine ⟨rv, P', z_RF_step ?_ k1, k2.mono g3⟩
            unfold z_next
            show (match z_cod G f.1 f.2.1 with | none => none | some i => _) = _
            rw [hi]
            dsimp only
            rw [hno]
            show (match z_ret (z_rty G f.1) i.1 f.2.2.2.1 with | some r => _ | none => _) = _
            rw [z_isr_no (by simpa using hisr)]
            show (match z_step G f.1 i.1 i.2 f.2.1 f.2.2.1 f.2.2.2.1 P f.2.2.2.2.1 f.2.2.2.2.2 with | some q' => _ | none => none) = _
            rw [g1]
          · cases h
theorem z_walk_ok {G : z_Pg} {md : Nat → Nat → Bool} {ns : Nat} {Q : z_as_ → Option z_av → Bool} : ∀ {fu : Nat} {W : List (Nat × z_as_)}, z_walk G md ns Q fu W = true → ∀ x ∈ W, ∀ {N : List Int} {al : Nat → Option Nat} {f : z_Fr} {rest : List z_Fr} {P : z_H}, z_gs (z_strs G) N al x.2 f rest P → z_fr ns al → ∃ r P', z_RF G rest f x.1 P r P' ∧ z_end G Q N al r P'
  | _, [], _, x, hx => by cases hx
  | 0, _ :: _, h, _, _ => by cases h
  | fu + 1, y :: W, h, x, hx => by
    unfold z_walk at h
    split at h
    · cases h
    · rename_i r hr
      split at h
      · rename_i hq
        rcases List.mem_cons.mp hx with hx | hx
        · subst hx
          intro hS hf
          exact z_succ_ok hr hS hf (fun r' e => by cases e; exact hq) (fun Ss e => by cases e)
        · exact z_walk_ok h x hx
      · cases h
    · rename_i Ss hr
      rcases List.mem_cons.mp hx with hx | hx
      · subst hx
        intro hS hf
        exact z_succ_ok hr hS hf (fun r' e => by cases e) (fun Ss' e x' hx' => by
          cases e
          exact z_walk_ok h x' (List.mem_append.mpr (Or.inl hx')))
      · exact z_walk_ok h x (List.mem_append.mpr (Or.inr hx))
end ZASN
end
section
/-! One abstract state held against another: what the first stands for, the second stands for too. -/
section ZCUT
/-- what an identity of the second state is in the first: (0, c): the number c; (j, e): the value of the identity j, and e more -/
abbrev z_bd : Type := List (Nat × Nat × Int)
def z_bget : z_bd → Nat → Option (Nat × Int)
  | [], _ => none
  | q :: r, k => bif Nat.beq q.1 k then some q.2 else z_bget r k
def z_bval (N : List Int) (bd : z_bd) (k : Nat) : Int := match z_bget bd k with
  | some (0, c) => c
  | some (j + 1, e) => (N[j + 1]?).getD 0 + e
  | none => 0
def z_bN (N : List Int) (bd : z_bd) (n : Nat) : List Int := (List.range n).map (z_bval N bd)
theorem z_bN_get {N : List Int} {bd : z_bd} {n k : Nat} (h : k < n) : (z_bN N bd n)[k]? = some (z_bval N bd k) := by
  unfold z_bN
  rw [List.getElem?_map, List.getElem?_range h]
  rfl
def z_ile (a b : Int) : Bool := decide (a ≤ b)
/-- a number's token below another's -/
def z_tle (bd : z_bd) (n : Nat) (s t : z_tk) : Bool := z_ile (z_lo t) (z_lo s) && (z_ile (z_hi s) (z_hi t) && (Nat.beq t.1 0 || (Nat.ble (t.1 + 1) n && match z_bget bd t.1 with
  | some (0, c) => z_ile (c + t.2.1) (z_lo s) && z_ile (z_hi s) (c + t.2.2.1)
  | some (j + 1, e) => Nat.beq (j + 1) s.1 && (z_ile (e + t.2.1) s.2.1 && z_ile s.2.2.1 (e + t.2.2.1))
  | none => false)))
theorem z_tle_ok {bd : z_bd} {n : Nat} {s t : z_tk} {N : List Int} {v : Int} (h : z_tle bd n s t = true) (hs : z_gi N s v) : z_gi (z_bN N bd n) t v := by
  unfold z_tle z_ile at h
  simp only [Bool.and_eq_true, Bool.or_eq_true, decide_eq_true_eq] at h
  obtain ⟨h1, h2, h3⟩ := h
  obtain ⟨s1, s2, s3⟩ := hs
  refine ⟨Int.le_trans h1 s1, Int.le_trans s2 h2, h3.imp (fun h => Nat.eq_of_beq_eq_true h) ?_⟩
  rintro ⟨h4, h5⟩
  have h4 := Nat.le_of_ble_eq_true h4
  refine ⟨z_bval N bd t.1, z_bN_get h4, ?_⟩
  unfold z_bval
  split at h5
  · rename_i c hc
    simp only [Bool.and_eq_true, decide_eq_true_eq] at h5
    exact ⟨Int.le_trans h5.1 s1, Int.le_trans s2 h5.2⟩
  · rename_i j e hj
    simp only [Bool.and_eq_true, decide_eq_true_eq] at h5
    obtain ⟨h6, h7, h8⟩ := h5
    have h6 := Nat.eq_of_beq_eq_true h6
    rcases s3 with s3 | ⟨w, e1, e2, e3⟩
    · omega
    · rw [← h6] at e1
      show (N[j + 1]?).getD 0 + e + t.2.1 ≤ v ∧ v ≤ (N[j + 1]?).getD 0 + e + t.2.2.1
      rw [e1]
      show w + e + t.2.1 ≤ v ∧ v ≤ w + e + t.2.2.1
      omega
  · cases h5
/-- the cells of the second state are the first ones of the first -/
def z_alc (al : Nat → Option Nat) (m : Nat) (a : Nat) : Option Nat := match al a with
  | some c => if c < m then some c else none
  | none => none
theorem z_alc_get {al : Nat → Option Nat} {m a c : Nat} (h : z_alc al m a = some c) : al a = some c ∧ c < m := by
  unfold z_alc at h
  split at h
  · rename_i c' hc
    split at h
    · rename_i hl
      cases h
      exact ⟨hc, hl⟩
    · cases h
  · cases h
theorem z_alc_put {al : Nat → Option Nat} {m a c : Nat} (h : al a = some c) (hl : c < m) : z_alc al m a = some c := by
  unfold z_alc
  rw [h]
  dsimp only
  rw [if_pos hl]
def z_nin (c : Nat) : List Nat → Bool
  | [] => false
  | d :: r => bif Nat.beq c d then true else z_nin c r
theorem z_nin_ok {c : Nat} : ∀ {l : List Nat}, z_nin c l = true → c ∈ l
  | [], h => by cases h
  | d :: r, h => by
    unfold z_nin at h
    cases hb : Nat.beq c d with
    | true => rw [Nat.eq_of_beq_eq_true hb]; exact List.mem_cons_self
    | false =>
      rw [hb] at h
      exact List.mem_cons_of_mem _ (z_nin_ok h)
def z_vle (bd : z_bd) (n m : Nat) : z_av → z_av → Bool
  | .inl s, .inl t => z_tle bd n s t
  | .inr (.inl s), .inr (.inl t) => z_tle bd n s t
  | .inr (.inr s), .inr (.inr t) => (!s.1 || t.1) && s.2.all fun c => z_nin c t.2 && Nat.ble (c + 1) m
  | _, _ => false
theorem z_vle_ok {bd : z_bd} {n m : Nat} {N : List Int} {al : Nat → Option Nat} : ∀ {s t : z_av} {v : Value}, z_vle bd n m s t = true → z_gv N al s v → z_gv (z_bN N bd n) (z_alc al m) t v
  | .inl _, .inl _, _, h, ⟨x, e, k⟩ => ⟨x, e, z_tle_ok h k⟩
  | .inr (.inl _), .inr (.inl _), _, h, ⟨x, e, k⟩ => ⟨x, e, z_tle_ok h k⟩
  | .inr (.inr s), .inr (.inr t), v, h, k => by
    have h : ((!s.1 || t.1) && s.2.all fun c => z_nin c t.2 && Nat.ble (c + 1) m) = true := h
    rw [Bool.and_eq_true] at h
    obtain ⟨h1, h2⟩ := h
    rcases k with ⟨k1, k2⟩ | ⟨a, c, k1, k2, k3⟩
    · rw [k2] at h1
      exact Or.inl ⟨k1, by simpa using h1⟩
    · have h3 := List.all_eq_true.mp h2 c k3
      rw [Bool.and_eq_true] at h3
      exact Or.inr ⟨a, c, k1, z_alc_put k2 (Nat.le_of_ble_eq_true h3.2), z_nin_ok h3.1⟩
  | .inl _, .inr _, _, h, _ => by cases h
  | .inr (.inl _), .inl _, _, h, _ => by cases h
  | .inr (.inr _), .inl _, _, h, _ => by cases h
  | .inr (.inl _), .inr (.inr _), _, h, _ => by cases h
  | .inr (.inr _), .inr (.inl _), _, h, _ => by cases h
def z_lle (f : z_av → z_av → Bool) : List z_av → List z_av → Bool
  | [], [] => true
  | s :: ss, t :: ts => match f s t with
    | true => z_lle f ss ts
    | false => false
  | _, _ => false
theorem z_lle_ok {bd : z_bd} {n m : Nat} {N : List Int} {al : Nat → Option Nat} : ∀ {ss ts : List z_av} {vs : List Value}, z_lle (z_vle bd n m) ss ts = true → z_all2 (z_gv N al) ss vs → z_all2 (z_gv (z_bN N bd n) (z_alc al m)) ts vs
  | [], [], [], _, _ => trivial
  | s :: ss, t :: ts, v :: vs, h, ⟨k1, k2⟩ => by
    unfold z_lle at h
    split at h
    · rename_i h1
      exact ⟨z_vle_ok h1 k1, z_lle_ok h k2⟩
    · cases h
  | [], [], _ :: _, _, k => k.elim
  | _ :: _, _, [], _, k => k.elim
  | [], _ :: _, _, h, _ => by cases h
  | _ :: _, [], _ :: _, h, _ => by cases h
def z_cle (bd : z_bd) (n m : Nat) (s t : z_ac_) : Bool := Nat.beq s.1 t.1 && ((s.2.1.1 || !t.2.1.1) && ((s.2.1.2 || !t.2.1.2) && match s.2.2.1, t.2.2.1 with
  | none, none => z_lle (z_vle bd n m) s.2.2.2 t.2.2.2
  | some k, some k' => Nat.beq k k' && match s.2.2.2, t.2.2.2 with
    | [u], [w] => z_vle bd n m u w
    | _, _ => false
  | none, some k' => Nat.beq s.2.2.2.length k' && match t.2.2.2 with
    | [w] => s.2.2.2.all fun u => z_vle bd n m u w
    | _ => false
  | some _, none => false))
theorem z_all2.mem {α β : Type} {R : α → β → Prop} : ∀ {as : List α} {bs : List β} {b : β}, z_all2 R as bs → b ∈ bs → ∃ a ∈ as, R a b
  | _ :: _, _ :: _, b, ⟨h1, h2⟩, hb => by
    rcases List.mem_cons.mp hb with rfl | hb
    · exact ⟨_, List.mem_cons_self, h1⟩
    · obtain ⟨a, ha, h3⟩ := h2.mem hb
      exact ⟨a, List.mem_cons_of_mem _ ha, h3⟩
  | [], [], _, _, hb => by cases hb
  | [], _ :: _, _, h, _ => h.elim
  | _ :: _, [], _, h, _ => h.elim
theorem z_cle_ok {bd : z_bd} {n m : Nat} {N : List Int} {al : Nat → Option Nat} {s t : z_ac_} {q : z_C} (h : z_cle bd n m s t = true) (k : z_gc N al s q) : z_gc (z_bN N bd n) (z_alc al m) t q ∧ (t.2.1.1 = true → s.2.1.1 = true) ∧ (t.2.1.2 = true → s.2.1.2 = true) := by
  unfold z_cle at h
  simp only [Bool.and_eq_true] at h
  obtain ⟨h1, h2, h3, h4⟩ := h
  have fl : ∀ a b : Bool, (a || !b) = true → b = true → a = true := by decide
  refine ⟨⟨(Nat.eq_of_beq_eq_true h1).symm.trans k.1, ?_⟩, fl _ _ h2, fl _ _ h3⟩
  obtain ⟨-, k⟩ := k
  split at h4
  · rename_i e1 e2
    rw [e1] at k
    rw [e2]
    exact z_lle_ok h4 k
  · rename_i k1 k2 e1 e2
    rw [e1] at k
    rw [e2]
    rw [Bool.and_eq_true] at h4
    obtain ⟨h5, h6⟩ := h4
    obtain ⟨g1, u, g2, g3⟩ := k
    split at h6
    · rename_i u' w e3 e4
      rw [e3] at g2
      cases g2
      exact ⟨g1.trans (Nat.eq_of_beq_eq_true h5), w, e4, fun v hv => z_vle_ok h6 (g3 v hv)⟩
    · cases h6
  · rename_i k2 e1 e2
    rw [e1] at k
    rw [e2]
    rw [Bool.and_eq_true] at h4
    obtain ⟨h5, h6⟩ := h4
    split at h6
    · rename_i w e4
      refine ⟨?_, w, e4, fun v hv => ?_⟩
      · rw [← z_all2.len k]
        exact Nat.eq_of_beq_eq_true h5
      · obtain ⟨u, hu, g⟩ := z_all2.mem k hv
        exact z_vle_ok (List.all_eq_true.mp h6 u hu) g
    · cases h6
  · cases h4
def z_hle (f : z_ac_ → z_ac_ → Bool) : List z_ac_ → List z_ac_ → Bool
  | _, [] => true
  | s :: ss, t :: ts => match f s t with
    | true => z_hle f ss ts
    | false => false
  | [], _ :: _ => false
theorem z_hle_get {f : z_ac_ → z_ac_ → Bool} : ∀ {ss ts : List z_ac_} {c : Nat} {t : z_ac_}, z_hle f ss ts = true → ts[c]? = some t → ∃ s, ss[c]? = some s ∧ f s t = true
  | _, [], c, t, _, e => by simp at e
  | s :: ss, t' :: ts, 0, t, h, e => by
    cases e
    unfold z_hle at h
    split at h
    · rename_i h1
      exact ⟨s, rfl, h1⟩
    · cases h
  | s :: ss, t' :: ts, c + 1, t, h, e => by
    unfold z_hle at h
    split at h
    · obtain ⟨s', g1, g2⟩ := z_hle_get h (c := c) (by simpa using e)
      exact ⟨s', by simpa using g1, g2⟩
    · cases h
  | [], _ :: _, _, _, h, _ => by cases h
def z_fle (bd : z_bd) (n m : Nat) (s t : z_af) : Bool := Nat.beq s.1 t.1 && (Nat.beq s.2.1 t.2.1 && ((t.2.2.1.all fun q => match z_aget s.2.2.1 q.1 with
  | some u => z_vle bd n m u q.2
  | none => false) && (z_lle (z_vle bd n m) s.2.2.2.1 t.2.2.2.1 && (Nat.beq s.2.2.2.2.1 t.2.2.2.2.1 && Nat.beq s.2.2.2.2.2 t.2.2.2.2.2))))
theorem z_aget_mem : ∀ {L : List (Nat × z_av)} {i : Nat} {t : z_av}, z_aget L i = some t → (i, t) ∈ L
  | [], _, _, h => by cases h
  | q :: r, i, t, h => by
    unfold z_aget at h
    split at h
    · rename_i e
      have e' : q.1 = i := by simpa using e
      cases h
      rw [← e']
      exact List.mem_cons_self
    · exact List.mem_cons_of_mem _ (z_aget_mem h)
theorem z_fle_ok {bd : z_bd} {n m : Nat} {N : List Int} {al : Nat → Option Nat} {s t : z_af} {f : z_Fr} (h : z_fle bd n m s t = true) (k : z_gf_ N al s f) : z_gf_ (z_bN N bd n) (z_alc al m) t f := by
  unfold z_fle at h
  simp only [Bool.and_eq_true] at h
  obtain ⟨h1, h2, h3, h4, h5, h6⟩ := h
  obtain ⟨k1, k2, k3, k4, k5, k6⟩ := k
  refine ⟨(Nat.eq_of_beq_eq_true h1).symm.trans k1, (Nat.eq_of_beq_eq_true h2).symm.trans k2, fun i w e => ?_, z_lle_ok h4 k4, (Nat.eq_of_beq_eq_true h5).symm.trans k5, (Nat.eq_of_beq_eq_true h6).symm.trans k6⟩
  have h7 := List.all_eq_true.mp h3 _ (z_aget_mem e)
  dsimp only at h7
  split at h7
  · rename_i u hu
    obtain ⟨v, g1, g2⟩ := k3 i u hu
    exact ⟨v, g1, z_vle_ok h7 g2⟩
  · cases h7
def z_rle (f : z_af → z_af → Bool) : List z_af → List z_af → Bool
  | [], [] => true
  | s :: ss, t :: ts => f s t && z_rle f ss ts
  | _, _ => false
theorem z_rle_ok {bd : z_bd} {n m : Nat} {N : List Int} {al : Nat → Option Nat} : ∀ {ss ts : List z_af} {fs : List z_Fr}, z_rle (z_fle bd n m) ss ts = true → z_all2 (z_gf_ N al) ss fs → z_all2 (z_gf_ (z_bN N bd n) (z_alc al m)) ts fs
  | [], [], [], _, _ => trivial
  | s :: ss, t :: ts, f :: fs, h, ⟨k1, k2⟩ => by
    unfold z_rle at h
    rw [Bool.and_eq_true] at h
    exact ⟨z_fle_ok h.1 k1, z_rle_ok h.2 k2⟩
  | [], [], _ :: _, _, k => k.elim
  | _ :: _, _, [], _, k => k.elim
  | [], _ :: _, _, h, _ => by cases h
  | _ :: _, [], _ :: _, h, _ => by cases h
/-- what the second state holds of two identities, the first holds -/
def z_xle (bd : z_bd) (n : Nat) (F : List (Nat × Nat × Int)) (q : Nat × Nat × Int) : Bool := Nat.ble (q.1 + 1) n && (Nat.ble (q.2.1 + 1) n && match z_bget bd q.1, z_bget bd q.2.1 with
  | some (i + 1, a), some (j + 1, b) => F.any fun p => Nat.beq p.1 (i + 1) && (Nat.beq p.2.1 (j + 1) && z_ile (a + q.2.2) (p.2.2 + b))
  | _, _ => false)
theorem z_xle_ok {bd : z_bd} {n : Nat} {F : List (Nat × Nat × Int)} {q : Nat × Nat × Int} {N : List Int} (h : z_xle bd n F q = true) (k : z_gx N F) : ∃ a b, (z_bN N bd n)[q.1]? = some a ∧ (z_bN N bd n)[q.2.1]? = some b ∧ a + q.2.2 ≤ b := by
  unfold z_xle at h
  simp only [Bool.and_eq_true] at h
  obtain ⟨h1, h2, h3⟩ := h
  refine ⟨_, _, z_bN_get (Nat.le_of_ble_eq_true h1), z_bN_get (Nat.le_of_ble_eq_true h2), ?_⟩
  split at h3
  · rename_i i a j b e1 e2
    obtain ⟨p, hp, hd⟩ := List.any_eq_true.mp h3
    simp only [Bool.and_eq_true] at hd
    obtain ⟨d1, d2, d3⟩ := hd
    obtain ⟨u, v, g1, g2, g3⟩ := k p hp
    rw [Nat.eq_of_beq_eq_true d1] at g1
    rw [Nat.eq_of_beq_eq_true d2] at g2
    have d3 : a + q.2.2 ≤ p.2.2 + b := of_decide_eq_true d3
    have f1 : z_bval N bd q.1 = u + a := by
      unfold z_bval
      rw [e1]
      show (N[i + 1]?).getD 0 + a = _
      rw [g1]
      rfl
    have f2 : z_bval N bd q.2.1 = v + b := by
      unfold z_bval
      rw [e2]
      show (N[j + 1]?).getD 0 + b = _
      rw [g2]
      rfl
    rw [f1, f2]
    omega
  · cases h3
def z_sle (bd : z_bd) (ns : Nat) (s t : z_as_) : Bool := Nat.ble ns t.2.2.1.length && (z_fle bd t.2.2.2.1 t.2.2.1.length s.1 t.1 && (z_rle (z_fle bd t.2.2.2.1 t.2.2.1.length) s.2.1 t.2.1 && (z_hle (z_cle bd t.2.2.2.1 t.2.2.1.length) s.2.2.1 t.2.2.1 && (t.2.2.2.2.1.all (z_xle bd t.2.2.2.1 s.2.2.2.2.1) && Nat.ble s.2.2.2.2.2 t.2.2.2.2.2))))
theorem z_sle_ok {bd : z_bd} {ns : Nat} {s t : z_as_} {strs : z_Ss} {N : List Int} {al : Nat → Option Nat} {f : z_Fr} {rest : List z_Fr} {P : z_H} (h : z_sle bd ns s t = true) (k : z_gs strs N al s f rest P) (hf : z_fr ns al) :
    z_gs strs (z_bN N bd t.2.2.2.1) (z_alc al t.2.2.1.length) t f rest P ∧ z_fr ns (z_alc al t.2.2.1.length) := by
  unfold z_sle at h
  simp only [Bool.and_eq_true] at h
  obtain ⟨h0, h1, h2, h3, h4, h5⟩ := h
  obtain ⟨k1, k2, k3, k4, k5, k6⟩ := k
  refine ⟨⟨z_fle_ok h1 k1, z_rle_ok h2 k2, fun a c hac => ?_, by simp [z_bN], fun q hq => ?_, Nat.le_trans k6 (Nat.le_of_ble_eq_true h5)⟩, fun j hj => z_alc_put (hf j hj) (Nat.lt_of_lt_of_le hj (Nat.le_of_ble_eq_true h0))⟩
  · obtain ⟨g1, g2⟩ := z_alc_get hac
    obtain ⟨q, A, e1, e2, e3, e4, e5⟩ := k3 a c g1
    obtain ⟨A', e6, e7⟩ := z_hle_get h3 (List.getElem?_eq_getElem g2)
    cases e2.symm.trans e6
    obtain ⟨m1, m2, m3⟩ := z_cle_ok e7 e3
    exact ⟨q, _, e1, List.getElem?_eq_getElem g2, m1, fun hs b hb => e4 (m2 hs) b (z_alc_get hb).1, fun hn => e5 (m3 hn)⟩
  · exact z_xle_ok (List.all_eq_true.mp h4 q hq) k5
end ZCUT
end
section
/-! A walk with places of return: a road may end in a state that is walked by itself, if a measure has fallen. -/
section ZCWK
variable {strs : z_Ss} {N : List Int} {al : Nat → Option Nat}
/-- where a number stands: (0, f, i) the local i of the frame f; (1, c, e) the place e of the cell c -/
abbrev z_pc : Type := Nat × Nat × Nat
def z_avt : z_av → Option z_tk
  | .inl t => some t
  | .inr (.inl t) => some t
  | _ => none
def z_plc (S : z_as_) (p : z_pc) : Option z_tk := bif Nat.beq p.1 0 then (match (S.1 :: S.2.1)[p.2.1]? with
    | some F => match z_aget F.2.2.1 p.2.2 with
      | some v => z_avt v
      | none => none
    | none => none)
  else match S.2.2.1[p.2.1]? with
    | some A => match A.2.2.1 with
      | none => match A.2.2.2[p.2.2]? with
        | some v => z_avt v
        | none => none
      | some _ => none
    | none => none
/-- a place of return: depth, state, where its identities stand, the measure: (0, n, _): n; (1, k, c): how far the identity k is below c; (2, k, c): above c -/
abbrev z_ce : Type := Nat × z_as_ × List (Nat × z_pc) × List (Nat × Nat × Int)
def z_ptk (T : z_as_) : List (Nat × z_pc) → Nat → Option z_tk
  | [], _ => none
  | q :: r, k => bif Nat.beq q.1 k && Nat.beq q.2.1 0 then z_plc T q.2 else z_ptk T r k
def z_mB : Nat := 1099511627776
/-- a term's bounds: kind, identity, bound -/
def z_mt (C : z_ce) (q : Nat × Nat × Int) : Option (Nat × Nat × Int) := match q.1 with
  | 0 => if q.2.1 < z_mB then some (0, 0, (q.2.1 : Int)) else none
  | 1 => match z_ptk C.2.1 C.2.2.1 q.2.1 with
    | some t => if t.1 = q.2.1 ∧ q.2.1 ≠ 0 ∧ t.2.1 = 0 ∧ t.2.2.1 = 0 ∧ z_hi t ≤ q.2.2 ∧ q.2.2 - z_lo t < (z_mB : Int) then some (1, q.2.1, q.2.2) else none
    | none => none
  | _ => match z_ptk C.2.1 C.2.2.1 q.2.1 with
    | some t => if t.1 = q.2.1 ∧ q.2.1 ≠ 0 ∧ t.2.1 = 0 ∧ t.2.2.1 = 0 ∧ q.2.2 ≤ z_lo t ∧ z_hi t - q.2.2 < (z_mB : Int) then some (2, q.2.1, q.2.2) else none
    | none => none
def z_tv (N : List Int) (q : Nat × Nat × Int) : Int := match q.1 with
  | 0 => q.2.2
  | 1 => q.2.2 - (N[q.2.1]?).getD 0
  | _ => (N[q.2.1]?).getD 0 - q.2.2
/-- a place of a state: the number that stands there -/
theorem z_avt_ok {a : z_av} {t : z_tk} {v : Value} (h : z_avt a = some t) (k : z_gv N al a v) : ∃ x : Int, z_gi N t x := by
  match a, h, k with
  | .inl _, h, ⟨x, _, k⟩ => cases h; exact ⟨_, k⟩
  | .inr (.inl _), h, ⟨x, _, k⟩ => cases h; exact ⟨_, k⟩
theorem z_plc_ok {S : z_as_} {p : z_pc} {t : z_tk} {f : z_Fr} {rest : List z_Fr} {P : z_H} (h0 : p.1 = 0) (h : z_plc S p = some t) (hS : z_gs strs N al S f rest P) : ∃ x : Int, z_gi N t x := by
  obtain ⟨k1, k2, k3, -⟩ := hS
  unfold z_plc at h
  rw [h0] at h
  have h : (match (S.1 :: S.2.1)[p.2.1]? with | some F => (match z_aget F.2.2.1 p.2.2 with | some v => z_avt v | none => none) | none => none) = some t := h
  split at h
  · rename_i F hF
    split at h
    · rename_i v hv
      have hall : z_all2 (z_gf_ N al) (S.1 :: S.2.1) (f :: rest) := ⟨k1, k2⟩
      obtain ⟨fr, -, g⟩ := hall.get hF
      obtain ⟨w, -, g2⟩ := g.2.2.1 _ _ hv
      exact z_avt_ok h g2
    · cases h
  · cases h
theorem z_ptk_ok {S : z_as_} {t : z_tk} {f : z_Fr} {rest : List z_Fr} {P : z_H} (hS : z_gs strs N al S f rest P) : ∀ {l : List (Nat × z_pc)} {k : Nat}, z_ptk S l k = some t → ∃ x : Int, z_gi N t x
  | [], _, h => by cases h
  | q :: r, k, h => by
    unfold z_ptk at h
    cases hb : (Nat.beq q.1 k && Nat.beq q.2.1 0) with
    | true =>
      rw [hb] at h
      rw [Bool.and_eq_true] at hb
      exact z_plc_ok (Nat.eq_of_beq_eq_true hb.2) h hS
    | false =>
      rw [hb] at h
      exact z_ptk_ok hS h
/-- a term's value lies between 0 and the bound -/
theorem z_mt_ok {C : z_ce} {q : Nat × Nat × Int} {u : Nat × Nat × Int} {f : z_Fr} {rest : List z_Fr} {P : z_H} (h : z_mt C q = some u) (hS : z_gs strs N al C.2.1 f rest P) : 0 ≤ z_tv N u ∧ z_tv N u < (z_mB : Int) := by
  unfold z_mt at h
  split at h
  · split at h
    · rename_i hq
      cases h
      show 0 ≤ (q.2.1 : Int) ∧ (q.2.1 : Int) < _
      omega
    · cases h
  · split at h
    · rename_i t ht
      split at h
      · rename_i hc
        cases h
        obtain ⟨x, h1, h2, h3⟩ := z_ptk_ok hS ht
        obtain ⟨c1, c2, c3, c4, c5, c6⟩ := hc
        rcases h3 with h3 | ⟨w, e1, e2, e3⟩
        · omega
        · rw [c1] at e1
          have : w = x := by omega
          show 0 ≤ q.2.2 - (N[q.2.1]?).getD 0 ∧ q.2.2 - (N[q.2.1]?).getD 0 < _
          rw [e1]
          show 0 ≤ q.2.2 - w ∧ q.2.2 - w < _
          omega
      · cases h
    · cases h
  · split at h
    · rename_i t ht
      split at h
      · rename_i hc
        cases h
        obtain ⟨x, h1, h2, h3⟩ := z_ptk_ok hS ht
        obtain ⟨c1, c2, c3, c4, c5, c6⟩ := hc
        rcases h3 with h3 | ⟨w, e1, e2, e3⟩
        · omega
        · rw [c1] at e1
          have : w = x := by omega
          show 0 ≤ (N[q.2.1]?).getD 0 - q.2.2 ∧ (N[q.2.1]?).getD 0 - q.2.2 < _
          rw [e1]
          show 0 ≤ w - q.2.2 ∧ w - q.2.2 < _
          omega
      · cases h
    · cases h
/-- all terms of a measure -/
def z_mts (C : z_ce) : List (Nat × Nat × Int) → Option (List (Nat × Nat × Int))
  | [] => some []
  | q :: r => match z_mt C q, z_mts C r with
    | some u, some us => some (u :: us)
    | _, _ => none
def z_num (N : List Int) : List (Nat × Nat × Int) → Nat
  | [] => 0
  | u :: r => (z_tv N u).toNat * z_mB ^ r.length + z_num N r
theorem z_num_lt {us : List (Nat × Nat × Int)} (h : ∀ u ∈ us, 0 ≤ z_tv N u ∧ z_tv N u < (z_mB : Int)) : z_num N us < z_mB ^ us.length := by
  induction us with
  | nil => show 0 < 1; omega
  | cons u r ih =>
    have h1 := ih fun w hw => h w (List.mem_cons_of_mem _ hw)
    have h2 := h u List.mem_cons_self
    have h3 : (z_tv N u).toNat + 1 ≤ z_mB := by omega
    have h4 := Nat.mul_le_mul_right (z_mB ^ r.length) h3
    show (z_tv N u).toNat * z_mB ^ r.length + z_num N r < z_mB ^ (r.length + 1)
    rw [Nat.pow_succ, Nat.mul_comm (z_mB ^ r.length) z_mB]
    rw [Nat.add_mul, Nat.one_mul] at h4
    omega
theorem z_mts_ok {C : z_ce} {f : z_Fr} {rest : List z_Fr} {P : z_H} (hS : z_gs strs N al C.2.1 f rest P) : ∀ {l : List (Nat × Nat × Int)} {us : List (Nat × Nat × Int)}, z_mts C l = some us → ∀ u ∈ us, 0 ≤ z_tv N u ∧ z_tv N u < (z_mB : Int)
  | [], us, h, u, hu => by cases h; cases hu
  | q :: r, us, h, u, hu => by
    unfold z_mts at h
    split at h
    · rename_i a as h1 h2
      cases h
      rcases List.mem_cons.mp hu with rfl | hu
      · exact z_mt_ok h1 hS
      · exact z_mts_ok hS h2 u hu
    · cases h
/-- the new term, by what its identity is in the old state: 0 less, 1 equal, 2 unknown -/
def z_tc2 (bd : z_bd) (n : Nat) (u w : Nat × Nat × Int) : Nat := bif Nat.beq u.1 0 then (bif Nat.beq w.1 0 then (bif z_ile u.2.2 w.2.2 then (bif z_ile w.2.2 u.2.2 then 1 else 2) else 0) else 2)
  else match z_bget bd w.2.1 with
  | some (j + 1, e) => bif Nat.beq (j + 1) u.2.1 && (Nat.beq u.1 w.1 && Nat.ble (w.2.1 + 1) n) then
      (bif Nat.beq u.1 1 then (bif z_ile u.2.2 (w.2.2 - e) then (bif z_ile (w.2.2 - e) u.2.2 then 1 else 2) else 0)
       else (bif z_ile (e - w.2.2) (-u.2.2) then (bif z_ile (-u.2.2) (e - w.2.2) then 1 else 0) else 2)) else 2
  | _ => 2
theorem z_ile_t {a b : Int} (h : z_ile a b = true) : a ≤ b := of_decide_eq_true h
theorem z_ile_f {a b : Int} (h : z_ile a b = false) : b < a := by
  have : ¬ a ≤ b := of_decide_eq_false h
  omega
theorem z_tc2_ok {bd : z_bd} {n : Nat} {u w : Nat × Nat × Int} (hu : u.1 ≤ 2) : (z_tc2 bd n u w = 0 → z_tv (z_bN N bd n) w < z_tv N u) ∧ (z_tc2 bd n u w = 1 → z_tv (z_bN N bd n) w = z_tv N u) := by
  obtain ⟨u1, u2, u3⟩ := u
  obtain ⟨w1, w2, w3⟩ := w
  unfold z_tc2
  dsimp only
  cases h1 : Nat.beq u1 0 with
  | true =>
    have h1 := Nat.eq_of_beq_eq_true h1
    subst h1
    cases h2 : Nat.beq w1 0 with
    | true =>
      have h2 := Nat.eq_of_beq_eq_true h2
      subst h2
      show ((bif z_ile u3 w3 then (bif z_ile w3 u3 then 1 else 2) else 0) = 0 → w3 < u3) ∧ ((bif z_ile u3 w3 then (bif z_ile w3 u3 then 1 else 2) else 0) = 1 → w3 = u3)
      cases h3 : z_ile u3 w3 with
      | true =>
        have := z_ile_t h3
        cases h4 : z_ile w3 u3 with
        | true =>
          have := z_ile_t h4
          exact ⟨fun h => (by cases h), fun _ => by omega⟩
        | false => exact ⟨fun h => (by cases h), fun h => (by cases h)⟩
      | false =>
        have := z_ile_f h3
        exact ⟨fun _ => this, fun h => (by cases h)⟩
    | false => exact ⟨fun h => (by cases h), fun h => (by cases h)⟩
  | false =>
    have h1n : u1 ≠ 0 := fun q => by subst q; cases h1
    cases hb : z_bget bd w2 with
    | none => exact ⟨fun h => (by cases h), fun h => (by cases h)⟩
    | some p =>
      obtain ⟨j, e⟩ := p
      cases j with
      | zero => exact ⟨fun h => (by cases h), fun h => (by cases h)⟩
      | succ j =>
        cases hc : (Nat.beq (j + 1) u2 && (Nat.beq u1 w1 && Nat.ble (w2 + 1) n)) with
        | false => dsimp only; rw [hc]; exact ⟨fun h => (by cases h), fun h => (by cases h)⟩
        | true =>
          dsimp only
          rw [hc]
          simp only [Bool.and_eq_true] at hc
          obtain ⟨c1, c2, c3⟩ := hc
          have c1 := Nat.eq_of_beq_eq_true c1
          have c2 := Nat.eq_of_beq_eq_true c2
          have c3 := Nat.le_of_ble_eq_true c3
          subst c1
          subst c2
          have hv : ((z_bN N bd n)[w2]?).getD 0 = (N[j + 1]?).getD 0 + e := by
            rw [z_bN_get c3]
            show z_bval N bd w2 = _
            unfold z_bval
            rw [hb]
          match u1, hu, h1n with
          | 1, _, _ =>
            show ((bif z_ile u3 (w3 - e) then (bif z_ile (w3 - e) u3 then 1 else 2) else 0) = 0 → w3 - ((z_bN N bd n)[w2]?).getD 0 < u3 - (N[j + 1]?).getD 0) ∧ ((bif z_ile u3 (w3 - e) then (bif z_ile (w3 - e) u3 then 1 else 2) else 0) = 1 → w3 - ((z_bN N bd n)[w2]?).getD 0 = u3 - (N[j + 1]?).getD 0)
            rw [hv]
            cases h3 : z_ile u3 (w3 - e) with
            | true =>
              have := z_ile_t h3
              cases h4 : z_ile (w3 - e) u3 with
              | true =>
                have := z_ile_t h4
                exact ⟨fun h => (by cases h), fun _ => by omega⟩
              | false => exact ⟨fun h => (by cases h), fun h => (by cases h)⟩
            | false =>
              have := z_ile_f h3
              exact ⟨fun _ => by omega, fun h => (by cases h)⟩
          | 2, _, _ =>
            show ((bif z_ile (e - w3) (-u3) then (bif z_ile (-u3) (e - w3) then 1 else 0) else 2) = 0 → ((z_bN N bd n)[w2]?).getD 0 - w3 < (N[j + 1]?).getD 0 - u3) ∧ ((bif z_ile (e - w3) (-u3) then (bif z_ile (-u3) (e - w3) then 1 else 0) else 2) = 1 → ((z_bN N bd n)[w2]?).getD 0 - w3 = (N[j + 1]?).getD 0 - u3)
            rw [hv]
            cases h3 : z_ile (e - w3) (-u3) with
            | true =>
              have := z_ile_t h3
              cases h4 : z_ile (-u3) (e - w3) with
              | true =>
                have := z_ile_t h4
                exact ⟨fun h => (by cases h), fun _ => by omega⟩
              | false =>
                have := z_ile_f h4
                exact ⟨fun _ => by omega, fun h => (by cases h)⟩
            | false => exact ⟨fun h => (by cases h), fun h => (by cases h)⟩
          | 0, _, h => exact absurd rfl h
          | k + 3, h, _ => omega
def z_mlt (bd : z_bd) (n : Nat) : List (Nat × Nat × Int) → List (Nat × Nat × Int) → Bool
  | u :: us, w :: ws => match z_tc2 bd n u w with
    | 0 => Nat.beq us.length ws.length
    | 1 => z_mlt bd n us ws
    | _ => false
  | _, _ => false
theorem z_mlt_len {bd : z_bd} {n : Nat} : ∀ {us ws : List (Nat × Nat × Int)}, z_mlt bd n us ws = true → us.length = ws.length
  | [], _, h => by cases h
  | _ :: _, [], h => by cases h
  | u :: us, w :: ws, h => by
    unfold z_mlt at h
    split at h
    · show us.length + 1 = ws.length + 1
      rw [Nat.eq_of_beq_eq_true h]
    · show us.length + 1 = ws.length + 1
      rw [z_mlt_len h]
    · cases h
theorem z_mlt_ok {bd : z_bd} {n : Nat} : ∀ {us ws : List (Nat × Nat × Int)}, (∀ u ∈ us, u.1 ≤ 2) → (∀ u ∈ us, 0 ≤ z_tv N u ∧ z_tv N u < (z_mB : Int)) → (∀ w ∈ ws, 0 ≤ z_tv (z_bN N bd n) w ∧ z_tv (z_bN N bd n) w < (z_mB : Int)) → z_mlt bd n us ws = true → z_num (z_bN N bd n) ws < z_num N us
  | [], _, _, _, _, h => by cases h
  | _ :: _, [], _, _, _, h => by cases h
  | u :: us, w :: ws, h0, h1, h2, h => by
    have hlen : us.length = ws.length := by
      have := z_mlt_len h
      simpa using this
    unfold z_mlt at h
    obtain ⟨k0, k1⟩ := z_tc2_ok (N := N) (bd := bd) (n := n) (u := u) (w := w) (h0 u List.mem_cons_self)
    have hu := h1 u List.mem_cons_self
    have hw := h2 w List.mem_cons_self
    show (z_tv (z_bN N bd n) w).toNat * z_mB ^ ws.length + z_num (z_bN N bd n) ws < (z_tv N u).toNat * z_mB ^ us.length + z_num N us
    rw [hlen]
    split at h
    · rename_i e
      have hlt := k0 e
      have h5 := z_num_lt (N := z_bN N bd n) (us := ws) fun x hx => h2 x (List.mem_cons_of_mem _ hx)
      have h6 : (z_tv (z_bN N bd n) w).toNat + 1 ≤ (z_tv N u).toNat := by omega
      have h7 := Nat.mul_le_mul_right (z_mB ^ ws.length) h6
      rw [Nat.add_mul, Nat.one_mul] at h7
      omega
    · rename_i e
      have heq := k1 e
      rw [heq]
      have := z_mlt_ok (fun x hx => h0 x (List.mem_cons_of_mem _ hx)) (fun x hx => h1 x (List.mem_cons_of_mem _ hx)) (fun x hx => h2 x (List.mem_cons_of_mem _ hx)) h
      omega
    · cases h
theorem z_mt_known {C : z_ce} {q : Nat × Nat × Int} {u : Nat × Nat × Int} {f : z_Fr} {rest : List z_Fr} {P : z_H} (h : z_mt C q = some u) (hS : z_gs strs N al C.2.1 f rest P) : u.1 = 0 ∨ ∃ w, N[u.2.1]? = some w := by
  unfold z_mt at h
  split at h
  · split at h
    · cases h
      exact Or.inl rfl
    · cases h
  all_goals
    split at h
    · rename_i t ht
      split at h
      · rename_i hc
        cases h
        obtain ⟨x, h1, h2, h3⟩ := z_ptk_ok hS ht
        obtain ⟨c1, c2, c3, c4, c5, c6⟩ := hc
        rcases h3 with h3 | ⟨w, e1, e2, e3⟩
        · omega
        · rw [c1] at e1
          exact Or.inr ⟨w, e1⟩
      · cases h
    · cases h
theorem z_mts_known {C : z_ce} {f : z_Fr} {rest : List z_Fr} {P : z_H} (hS : z_gs strs N al C.2.1 f rest P) : ∀ {l : List (Nat × Nat × Int)} {us : List (Nat × Nat × Int)}, z_mts C l = some us → ∀ u ∈ us, u.1 = 0 ∨ ∃ w, N[u.2.1]? = some w
  | [], us, h, u, hu => by cases h; cases hu
  | q :: r, us, h, u, hu => by
    unfold z_mts at h
    split at h
    · rename_i a as h1 h2
      cases h
      rcases List.mem_cons.mp hu with rfl | hu
      · exact z_mt_known h1 hS
      · exact z_mts_known hS h2 u hu
    · cases h
theorem z_tv_more {u : Nat × Nat × Int} {X : List Int} (h : u.1 = 0 ∨ ∃ w, N[u.2.1]? = some w) : z_tv (N ++ X) u = z_tv N u := by
  obtain ⟨u1, u2, u3⟩ := u
  rcases h with h | ⟨w, h⟩
  · have h : u1 = 0 := h
    subst h
    rfl
  · have h : N[u2]? = some w := h
    have e : (N ++ X)[u2]? = N[u2]? := List.getElem?_append_left (List.getElem?_eq_some_iff.mp h).1
    unfold z_tv
    dsimp only
    rw [e]
theorem z_num_more {X : List Int} : ∀ {us : List (Nat × Nat × Int)}, (∀ u ∈ us, u.1 = 0 ∨ ∃ w, N[u.2.1]? = some w) → z_num (N ++ X) us = z_num N us
  | [], _ => rfl
  | u :: us, h => by
    show (z_tv (N ++ X) u).toNat * z_mB ^ us.length + z_num (N ++ X) us = (z_tv N u).toNat * z_mB ^ us.length + z_num N us
    rw [z_tv_more (h u List.mem_cons_self), z_num_more fun w hw => h w (List.mem_cons_of_mem _ hw)]
theorem z_mts_kind {C : z_ce} : ∀ {l : List (Nat × Nat × Int)} {us : List (Nat × Nat × Int)}, z_mts C l = some us → ∀ u ∈ us, u.1 ≤ 2
  | [], us, h, u, hu => by cases h; cases hu
  | q :: r, us, h, u, hu => by
    unfold z_mts at h
    split at h
    · rename_i a as h1 h2
      cases h
      rcases List.mem_cons.mp hu with rfl | hu
      · unfold z_mt at h1
        split at h1
        · split at h1 <;> cases h1 <;> exact Nat.le_of_ble_eq_true rfl
        · split at h1
          · split at h1 <;> cases h1 <;> exact Nat.le_of_ble_eq_true rfl
          · cases h1
        · split at h1
          · split at h1 <;> cases h1 <;> exact Nat.le_of_ble_eq_true rfl
          · cases h1
      · exact z_mts_kind h2 u hu
    · cases h
end ZCWK
end
section
section ZCSN
/-- what is told of a pile of frames (depth, top frame, those below, cells), step by step from behind; its end is told to Q -/
def z_Clo (G : z_Pg) (Q : z_as_ → Option z_av → Bool) (Φ : Nat → z_Fr → List z_Fr → z_H → Prop) : Prop :=
  (∀ {d : Nat} {f : z_Fr} {rest : List z_Fr} {P : z_H} {q : z_S}, z_next G d f.1 (z_fs f P) = some (.inr (.inl q)) → Φ d (f.1, q.1, q.2.1, q.2.2.1, q.2.2.2.2.1, q.2.2.2.2.2) rest q.2.2.2.1 → Φ d f rest P) ∧
  (∀ {d y : Nat} {f : z_Fr} {rest : List z_Fr} {P : z_H} {as rst : List Value}, 1 ≤ d → z_next G d f.1 (z_fs f P) = some (.inr (.inr (y, as, rst))) → Φ (d - 1) (y, 0, lv_args 0 as, [], 0, 0) ((f.1, f.2.1, f.2.2.1, rst, f.2.2.2.2.1, f.2.2.2.2.2) :: rest) P → Φ d f rest P) ∧
  (∀ {d : Nat} {f g : z_Fr} {rest : List z_Fr} {P : z_H} {r0 : Option Value}, z_next G d f.1 (z_fs f P) = some (.inl r0) → Φ (d + 1) (z_fb G g r0 f.1) rest P → Φ d f (g :: rest) P) ∧
  (∀ {d : Nat} {f : z_Fr} {P : z_H} {r0 : Option Value} {S : z_as_} {t : Option z_av} {N : List Int} {al : Nat → Option Nat}, z_next G d f.1 (z_fs f P) = some (.inl r0) → Q S t = true → z_gs (z_strs G) N al S f [] P → z_go_ N al t r0 → Φ d f [] P)
/-- one step of the walk, as z_succ_ok -/
theorem z_succ_dn {G : z_Pg} {md : Nat → Nat → Bool} {ns : Nat} {Q : z_as_ → Option z_av → Bool} {Φ : Nat → z_Fr → List z_Fr → z_H → Prop} (hΦ : z_Clo G Q Φ) {d : Nat} {S : z_as_} {N : List Int} {al : Nat → Option Nat} {f : z_Fr} {rest : List z_Fr} {P : z_H} {o : Option z_av ⊕ List (Nat × z_as_)} (h : z_succ G md ns d S = some o) (hS : z_gs (z_strs G) N al S f rest P) (hf : z_fr ns al)
    (hend : ∀ r, o = .inl r → Q S r = true) (hgo : ∀ Ss, o = .inr Ss → ∀ x ∈ Ss, ∀ {N1 al1 f rest P}, z_le N N1 al al1 → z_gs (z_strs G) N1 al1 x.2 f rest P → z_fr ns al1 → Φ x.1 f rest P) : Φ d f rest P := by
    obtain ⟨φ1, φ2, φ3, φ4⟩ := hΦ
    obtain ⟨⟨a1, a2, a3, a4, a5, a6⟩, b1, b2, b3, b4, b5⟩ := id hS
    unfold z_succ at h
    rw [a1, a2] at h
    split at h
    · cases h
    · rename_i i hi
      split at h
      · rename_i yk hyk
        split at h
        · rename_i hlt
          split at h
          · rename_i S' hS'
            cases h
            obtain ⟨hd, as, r, g1, g2⟩ := z_aargs_ok hS' hS
            have hnx : z_next G d f.1 (z_fs f P) = some (.inr (.inr (yk.1, as, r))) := by
              unfold z_next
              show (match z_cod G f.1 f.2.1 with | none => none | some i => _) = _
              rw [hi]
              dsimp only
              rw [hyk]
              dsimp only
              rw [if_pos hlt]
              show (match z_args G d yk.1 yk.2 f.1 f.2.2.2.1 P f.2.2.2.2.1 f.2.2.2.2.2 with | some ar => _ | none => none) = _
              rw [g1]
            exact φ2 hd hnx (hgo _ rfl (d - 1, S') (List.mem_singleton_self _) z_le.rf g2 hf)
          · cases h
        · rename_i hlt
          split at h
          · rename_i S' hS'
            cases h
            obtain ⟨q, g1, g2⟩ := z_aprim_ok hS' hS
            have hnx : z_next G d f.1 (z_fs f P) = some (.inr (.inl q)) := by
              unfold z_next
              show (match z_cod G f.1 f.2.1 with | none => none | some i => _) = _
              rw [hi]
              dsimp only
              rw [hyk]
              dsimp only
              rw [if_neg hlt]
              show (match z_prim yk.2 d f.2.1 f.2.2.1 f.2.2.2.1 P f.2.2.2.2.1 f.2.2.2.2.2 with | some q' => _ | none => none) = _
              rw [g1]
            exact φ1 hnx (hgo _ rfl (d, S') (List.mem_singleton_self _) z_le.rf g2 hf)
          · cases h
      · rename_i hno
        split at h
        · rename_i hisr
          split at h
          · rename_i r hr
            obtain ⟨v, g1, g2⟩ := z_aret_ok hr a4
            have hn : z_next G d f.1 (z_fs f P) = some (.inl v) := by
              unfold z_next
              show (match z_cod G f.1 f.2.1 with | none => none | some i => _) = _
              rw [hi]
              dsimp only
              rw [hno]
              show (match z_ret (z_rty G f.1) i.1 f.2.2.2.1 with | some r => _ | none => _) = _
              rw [g1]
            split at h
            · rename_i hrest
              cases h
              rw [hrest] at b1
              match rest, b1, hS with
              | [], _, hS => exact φ4 hn (hend r rfl) hS g2
            · rename_i g grest hrest
              cases h
              rw [hrest] at b1
              match rest, b1 with
              | fr :: rest, ⟨c1, c2⟩ =>
                obtain ⟨e1, e2, e3, e4, e5, e6⟩ := c1
                have hS2 : z_gs (z_strs G) N al (z_afb G g r f.1, grest, S.2.2) (z_fb G fr v f.1) rest P := ⟨⟨e1, congrArg (· + 3) e2, e3, (z_go_l g2).app e4, congrArg (· + z_mc G f.1) e5, congrArg (· + z_ms G f.1) e6⟩, c2, b2, b3, b4, b5⟩
                exact φ3 hn (hgo _ rfl (d + 1, (z_afb G g r f.1, grest, S.2.2)) (List.mem_singleton_self _) z_le.rf hS2 hf)
          · cases h
        · rename_i hisr
          split at h
          · rename_i Ss hSs
            cases h
            obtain ⟨q, g1, S', g2, N1, al1, g3, g4⟩ := z_astp_ok hSs hS hf
            have hnx : z_next G d f.1 (z_fs f P) = some (.inr (.inl q)) := by
              unfold z_next
              show (match z_cod G f.1 f.2.1 with | none => none | some i => _) = _
              rw [hi]
              dsimp only
              rw [hno]
              show (match z_ret (z_rty G f.1) i.1 f.2.2.2.1 with | some r => _ | none => _) = _
              rw [z_isr_no (by simpa using hisr)]
              show (match z_step G f.1 i.1 i.2 f.2.1 f.2.2.1 f.2.2.2.1 P f.2.2.2.2.1 f.2.2.2.2.2 with | some q' => _ | none => none) = _
              rw [g1]
            exact φ1 hnx (hgo _ rfl (d, S') (List.mem_map.mpr ⟨S', g2, rfl⟩) g3 g4 (hf.mono g3))
          · cases h
/-- what the identities of the place are in the state that has come to it -/
def z_bind (S : z_as_) : List (Nat × z_pc) → z_bd
  | [] => []
  | q :: r => (match z_plc S q.2 with
    | some t => if t.1 ≠ 0 ∧ t.2.1 = t.2.2.1 then (q.1, t.1, t.2.1) else (q.1, 0, z_lo t)
    | none => (q.1, 0, 0)) :: z_bind S r
/-- a state has come to the place D, from the place with the measure us -/
def z_arr (ns : Nat) (us : List (Nat × Nat × Int)) (d : Nat) (S : z_as_) (D : z_ce) : Bool := Nat.beq d D.1 && (z_sle (z_bind S D.2.2.1) ns S D.2.1 && match z_mts D D.2.2.2 with
  | some ws => z_mlt (z_bind S D.2.2.1) D.2.1.2.2.2.1 us ws
  | none => false)
/-- .. to a place that is known to end -/
def z_ar0 (ns : Nat) (d : Nat) (S : z_as_) (D : z_ce) : Bool := Nat.beq d D.1 && z_sle (z_bind S D.2.2.1) ns S D.2.1
/-- a number told plainly -/
def z_frc {α : Type} (n : Nat) (k : Nat → α) : α := match n with
  | 0 => k 0
  | m + 1 => k (Nat.succ m)
theorem z_frc_eq {α : Type} (n : Nat) (k : Nat → α) : z_frc n k = k n := by cases n <;> rfl
/-- z_succ, of a method and a pc that are told plainly -/
def z_succ2 (G : z_Pg) (md : Nat → Nat → Bool) (ns d x pc : Nat) (S : z_as_) : Option (Option z_av ⊕ List (Nat × z_as_)) := match z_cod G x pc with
  | none => none
  | some i => match z_call G x i.1 with
    | some yk => if yk.2 < 3 then match z_aargs G d yk.1 yk.2 S with
        | some S' => some (.inr [(d - 1, S')])
        | none => none
      else match z_aprim yk.2 d S with
        | some S' => some (.inr [(d, S')])
        | none => none
    | none => if z_isr i.1 then match z_aret (z_rty G x) i.1 S.1.2.2.2.1 with
        | some r => match S.2.1 with
          | [] => some (.inl r)
          | g :: rest => some (.inr [(d + 1, (z_afb G g r x, rest, S.2.2))])
        | none => none
      else match z_astp G (md x pc) ns S i.1 i.2 with
        | some Ss => some (.inr (Ss.map fun S' => (d, S')))
        | none => none
def z_fsuc (G : z_Pg) (md : Nat → Nat → Bool) (ns d : Nat) (S : z_as_) : Option (Option z_av ⊕ List (Nat × z_as_)) := z_frc S.1.1 fun x => z_frc S.1.2.1 fun pc => z_succ2 G md ns d x pc S
theorem z_fsuc_eq (G : z_Pg) (md : Nat → Nat → Bool) (ns d : Nat) (S : z_as_) : z_fsuc G md ns d S = z_succ G md ns d S := by
  unfold z_fsuc
  rw [z_frc_eq, z_frc_eq]
  rfl
def z_fat (at_ : Nat → Nat → Bool) (S : z_as_) : Bool := z_frc S.1.1 fun x => z_frc S.1.2.1 fun pc => at_ x pc
/-- the walk: 'at_' says where a place may be; Es: places that are known to end -/
def z_cwk (G : z_Pg) (md : Nat → Nat → Bool) (ns : Nat) (Q : z_as_ → Option z_av → Bool) (at_ : Nat → Nat → Bool) (Es Ds : List z_ce) (us : List (Nat × Nat × Int)) : Nat → List (Nat × z_as_) → Bool
  | _, [] => true
  | 0, _ :: _ => false
  | f + 1, x :: W => match z_fat at_ x.2 && (Es.any (z_ar0 ns x.1 x.2) || Ds.any (z_arr ns us x.1 x.2)) with
    | true => z_cwk G md ns Q at_ Es Ds us f W
    | false => match z_fsuc G md ns x.1 x.2 with
      | none => false
      | some (.inl r) => match Q x.2 r with
        | true => z_cwk G md ns Q at_ Es Ds us f W
        | false => false
      | some (.inr Ss) => z_cwk G md ns Q at_ Es Ds us f (Ss ++ W)
def z_cok (G : z_Pg) (md : Nat → Nat → Bool) (ns : Nat) (Q : z_as_ → Option z_av → Bool) (at_ : Nat → Nat → Bool) (Es Ds : List z_ce) (fu : Nat) (C : z_ce) : Bool := match z_mts C C.2.2.2 with
  | some us => z_cwk G md ns Q at_ Es Ds us fu [(C.1, C.2.1)]
  | none => false
/-- all places of a table end -/
theorem z_cut_all {G : z_Pg} {md : Nat → Nat → Bool} {ns : Nat} {Q : z_as_ → Option z_av → Bool} {at_ : Nat → Nat → Bool} {Es Ds : List z_ce} {fu : Nat} {Φ : Nat → z_Fr → List z_Fr → z_H → Prop} (hΦ : z_Clo G Q Φ) (hEs : ∀ D ∈ Es, ∀ {N : List Int} {al : Nat → Option Nat} {f : z_Fr} {rest : List z_Fr} {P : z_H}, z_gs (z_strs G) N al D.2.1 f rest P → z_fr ns al → Φ D.1 f rest P) (hall : ∀ C ∈ Ds, z_cok G md ns Q at_ Es Ds fu C = true) :
    ∀ (M : Nat) (C : z_ce), C ∈ Ds → ∀ {us : List (Nat × Nat × Int)} {N : List Int} {al : Nat → Option Nat} {f : z_Fr} {rest : List z_Fr} {P : z_H}, z_mts C C.2.2.2 = some us → z_num N us ≤ M → z_gs (z_strs G) N al C.2.1 f rest P → z_fr ns al → Φ C.1 f rest P := by
  intro M
  induction M using Nat.strongRecOn with
  | ind M IH =>
    intro C hC us N0 al0 f0 rest0 P0 hus hM hS0 hf0
    have hb := z_mts_ok hS0 hus
    have hk := z_mts_kind hus
    have hw := hall C hC
    unfold z_cok at hw
    rw [hus] at hw
    dsimp only at hw
    have key : ∀ (g : Nat) (W : List (Nat × z_as_)), z_cwk G md ns Q at_ Es Ds us g W = true → ∀ x ∈ W, ∀ {N : List Int} {al : Nat → Option Nat} {f : z_Fr} {rest : List z_Fr} {P : z_H}, (∃ X, N = N0 ++ X) → z_gs (z_strs G) N al x.2 f rest P → z_fr ns al → Φ x.1 f rest P := by
      intro g
      induction g with
      | zero =>
        intro W h x hx
        cases W with
        | nil => cases hx
        | cons y W => cases h
      | succ g ih =>
        intro W h x hx N al f rest P hN hS hf
        cases W with
        | nil => cases hx
        | cons y W =>
          unfold z_cwk at h
          split at h
          · rename_i hat
            rcases List.mem_cons.mp hx with rfl | hx
            · rw [Bool.and_eq_true, Bool.or_eq_true] at hat
              rcases hat.2 with hat | hat
              · obtain ⟨D, hD, harr⟩ := List.any_eq_true.mp hat
                unfold z_ar0 at harr
                rw [Bool.and_eq_true] at harr
                obtain ⟨k1, k2⟩ := z_sle_ok harr.2 hS hf
                rw [Nat.eq_of_beq_eq_true harr.1]
                exact hEs D hD k1 k2
              obtain ⟨D, hD, harr⟩ := List.any_eq_true.mp hat
              unfold z_arr at harr
              simp only [Bool.and_eq_true] at harr
              obtain ⟨h1, h2, h3⟩ := harr
              obtain ⟨k1, k2⟩ := z_sle_ok h2 hS hf
              split at h3
              · rename_i ws hws
                have hbD := z_mts_ok k1 hws
                obtain ⟨X, rfl⟩ := hN
                have hkn := z_mts_known hS0 hus
                have hbN : ∀ u ∈ us, 0 ≤ z_tv (N0 ++ X) u ∧ z_tv (N0 ++ X) u < (z_mB : Int) := fun u hu => by
                  rw [z_tv_more (hkn u hu)]
                  exact hb u hu
                have hlt := z_mlt_ok hk hbN hbD h3
                have heq : z_num (N0 ++ X) us = z_num N0 us := z_num_more hkn
                have := IH (z_num (z_bN (N0 ++ X) (z_bind x.2 D.2.2.1) D.2.1.2.2.2.1) ws) (by omega) D hD hws (Nat.le_refl _) k1 k2
                rw [Nat.eq_of_beq_eq_true h1]
                exact this
              · cases h3
            · exact ih W h x hx hN hS hf
          · split at h
            · cases h
            · rename_i r hr
              rw [z_fsuc_eq] at hr
              split at h
              · rename_i hq
                rcases List.mem_cons.mp hx with rfl | hx
                · exact z_succ_dn hΦ hr hS hf (fun r' e => by cases e; exact hq) (fun Ss e => by cases e)
                · exact ih W h x hx hN hS hf
              · cases h
            · rename_i Ss hr
              rw [z_fsuc_eq] at hr
              rcases List.mem_cons.mp hx with rfl | hx
              · refine z_succ_dn hΦ hr hS hf (fun r' e => by cases e) (fun Ss' e x' hx' => ?_)
                intro N1 al1 f1 rest1 P1 hle hS1 hf1
                cases e
                obtain ⟨X, rfl⟩ := hN
                obtain ⟨⟨Y, rfl⟩, -⟩ := id hle
                exact ih (Ss ++ W) h x' (List.mem_append.mpr (Or.inl hx')) ⟨X ++ Y, List.append_assoc _ _ _⟩ hS1 hf1
              · exact ih (Ss ++ W) h x (List.mem_append.mpr (Or.inr hx)) hN hS hf
    exact key fu _ hw _ (List.mem_singleton_self _) ⟨[], by simp⟩ hS0 hf0
theorem z_cut_one {G : z_Pg} {md : Nat → Nat → Bool} {ns : Nat} {Q : z_as_ → Option z_av → Bool} {at_ : Nat → Nat → Bool} {Es Ds : List z_ce} {fu : Nat} {Φ : Nat → z_Fr → List z_Fr → z_H → Prop} (hΦ : z_Clo G Q Φ) (hEs : ∀ D ∈ Es, ∀ {N : List Int} {al : Nat → Option Nat} {f : z_Fr} {rest : List z_Fr} {P : z_H}, z_gs (z_strs G) N al D.2.1 f rest P → z_fr ns al → Φ D.1 f rest P) (hall : ∀ C ∈ Ds, z_cok G md ns Q at_ Es Ds fu C = true) {C : z_ce} (hC : C ∈ Ds) {N : List Int} {al : Nat → Option Nat} {f : z_Fr} {rest : List z_Fr} {P : z_H} (hS : z_gs (z_strs G) N al C.2.1 f rest P) (hf : z_fr ns al) : Φ C.1 f rest P := by
  have hw := hall C hC
  unfold z_cok at hw
  split at hw
  · rename_i us hus
    exact z_cut_all hΦ hEs hall _ C hC hus (Nat.le_refl _) hS hf
  · cases hw
end ZCSN
end
section
/-! Runs that go to a place of their own frame; the two things that a walk is told to. -/
section ZPART
variable {G : z_Pg}
def z_tow (G : z_Pg) : Nat → Nat → Nat → z_S → z_S → Prop
  | 0, _, _, q, q' => q = q'
  | n + 1, d, x, q, q' => q = q' ∨ (∃ q1, z_next G d x q = some (.inr (.inl q1)) ∧ z_tow G n d x q1 q') ∨
      ∃ y as rst rv P1, z_next G d x q = some (.inr (.inr (y, as, rst))) ∧ z_Runs G (d - 1) y (0, lv_args 0 as, [], q.2.2.2.1, 0, 0) rv P1 ∧ z_tow G n d x (q.1 + 3, q.2.1, rv.toList ++ rst, P1, q.2.2.2.2.1 + z_mc G y, q.2.2.2.2.2 + z_ms G y) q'
/-- a run to a place of the same frame -/
def z_To (G : z_Pg) (d x : Nat) (q q' : z_S) : Prop := ∃ n, z_tow G n d x q q'
theorem z_To_rf {d x : Nat} {q : z_S} : z_To G d x q q := ⟨0, rfl⟩
theorem z_To_step {d x : Nat} {q q1 q' : z_S} (h : z_next G d x q = some (.inr (.inl q1))) (k : z_To G d x q1 q') : z_To G d x q q' := by
  obtain ⟨n, k⟩ := k
  exact ⟨n + 1, Or.inr (Or.inl ⟨q1, h, k⟩)⟩
theorem z_To_call {d x y : Nat} {as rst : List Value} {q q' : z_S} {rv : Option Value} {P1 : z_H} (h : z_next G d x q = some (.inr (.inr (y, as, rst)))) (hc : z_Runs G (d - 1) y (0, lv_args 0 as, [], q.2.2.2.1, 0, 0) rv P1)
    (k : z_To G d x (q.1 + 3, q.2.1, rv.toList ++ rst, P1, q.2.2.2.2.1 + z_mc G y, q.2.2.2.2.2 + z_ms G y) q') : z_To G d x q q' := by
  obtain ⟨n, k⟩ := k
  exact ⟨n + 1, Or.inr (Or.inr ⟨y, as, rst, rv, P1, h, hc, k⟩)⟩
/-- a pile of frames whose lowest comes to a place of Ψ -/
def z_PF (G : z_Pg) (Ψ : Nat → z_Fr → z_H → Prop) : List z_Fr → z_Fr → Nat → z_H → Prop
  | [], f, d, P => ∃ q', z_To G d f.1 (z_fs f P) q' ∧ Ψ d (f.1, q'.1, q'.2.1, q'.2.2.1, q'.2.2.2.2.1, q'.2.2.2.2.2) q'.2.2.2.1
  | g :: rest, f, d, P => ∃ r0 P0, z_Runs G d f.1 (z_fs f P) r0 P0 ∧ z_PF G Ψ rest (z_fb G g r0 f.1) (d + 1) P0
theorem z_PF_clo {Ψ : Nat → z_Fr → z_H → Prop} : z_Clo G (fun _ _ => false) (fun d f rest P => z_PF G Ψ rest f d P) := by
  refine ⟨?_, ?_, ?_, ?_⟩
  · intro d f rest P q hn h
    cases rest with
    | nil =>
      obtain ⟨q', h1, h2⟩ := h
      exact ⟨q', z_To_step hn h1, h2⟩
    | cons g rest =>
      obtain ⟨r0, P0, h1, h2⟩ := h
      exact ⟨r0, P0, z_Runs_step hn h1, h2⟩
  · intro d y f rest P as rst hd hn h
    obtain ⟨r0, P0, h1, h2⟩ := h
    rw [show d - 1 + 1 = d by omega] at h2
    cases rest with
    | nil =>
      obtain ⟨q', h3, h4⟩ := h2
      exact ⟨q', z_To_call hn h1 h3, h4⟩
    | cons g rest =>
      obtain ⟨r1, P1, h3, h4⟩ := h2
      exact ⟨r1, P1, z_Runs_call hn h1 h3, h4⟩
  · intro d f g rest P r0 hn h
    exact ⟨r0, P, z_Runs_ret hn, h⟩
  · intro d f P r0 S t N al _ hq
    cases hq
/-- the end: 1 -/
def z_Q1 (_ : z_as_) (t : Option z_av) : Bool := match t with
  | some (.inl u) => decide (z_lo u = 1) && decide (z_hi u = 1)
  | _ => false
theorem z_RF_clo : z_Clo G z_Q1 (fun d f rest P => ∃ P', z_RF G rest f d P (some (.int 1)) P') := by
  refine ⟨?_, ?_, ?_, ?_⟩
  · intro d f rest P q hn ⟨P', h⟩
    exact ⟨P', z_RF_step hn h⟩
  · intro d y f rest P as rst hd hn ⟨P', h⟩
    exact ⟨P', z_RF_call hd hn h⟩
  · intro d f g rest P r0 hn ⟨P', h⟩
    exact ⟨P', z_RF_ret hn h⟩
  · intro d f P r0 S t N al hn hq _ hg
    refine ⟨P, ?_⟩
    have : r0 = some (.int 1) := by
      unfold z_Q1 at hq
      split at hq
      · rename_i u
        rw [Bool.and_eq_true] at hq
        have h1 := of_decide_eq_true hq.1
        have h2 := of_decide_eq_true hq.2
        match r0, hg with
        | some v, hg =>
          obtain ⟨x, e, g1, g2, -⟩ := hg
          have hx : x.toInt = 1 := by omega
          have : x = 1 := by
            have h3 : x.toInt = (1 : Int32).toInt := by rw [hx]; decide
            exact Int32.toInt_inj.mp h3
          rw [e, this]
        | none, hg => exact hg.elim
      · cases hq
    subst this
    exact z_RF_end hn
end ZPART
end
section
/-! The machine follows a partial run. -/
section ZSTO
variable {l : Launch}
variable {G : z_Pg} {nm : Nat → MethodName} {by_ : Nat → ByteArray} {cl : List vw_C} {aty : List FieldType} {Ts Ns : List Cond} {rs : List (String × Nat × String × Nat)} {D : va_G} {ta : Nat → ClassId} {ext : Nat → Nat} {base : Nat}
set_option maxHeartbeats 8000000 in
theorem z_simto (hOK : z_OK G nm by_ cl aty Ts Ns rs) : ∀ (n d x : Nat) (q q9 : z_S), z_tow G n d x q q9 → q.2.2.2.2.1 ≤ z_mc G x → q.2.2.2.2.2 ≤ z_ms G x →
  ∀ (p : Program) (e : Env) (s : State) (m : MethodId) (args : Array Value) (below : List Frame) (meth : Method) (c : Code) (R : Room) (H : Heap) (locs : List Loc) (ls : Array Slot) (Q : State → Prop),
    z_Cx G nm by_ cl aty Ts Ns rs D ta ext base p s m args meth c x → R.cells = z_mc G x → R.slots = z_ms G x → d ≤ R.frames → 100 * d ≤ R.locals → z_R D cl ta ext base q.2.2.2.1 H → va_S (fun q => base ≤ q) s.heap H locs → lv_has ls (z_nL G x) (z_cl ext base q.2.1) →
    (∀ H1 locs1 ls1, z_R D cl ta ext base q9.2.2.2.1 H1 → va_S (fun q => base ≤ q) s.heap H1 locs1 → lv_has ls1 (z_nL G x) (z_cl ext base q9.2.1) → q9.2.2.2.2.1 ≤ z_mc G x → q9.2.2.2.2.2 ≤ z_ms G x → W p l e R s m args below meth c H1 locs1 q9.2.2.2.2.1 q9.2.2.2.2.2 Q (F0 m q9.1 ls1 (q9.2.2.1.map (z_cv ext base)))) →
    W p l e R s m args below meth c H locs q.2.2.2.2.1 q.2.2.2.2.2 Q (F0 m q.1 ls (q.2.2.1.map (z_cv ext base))) := by
  intro n
  induction n with
  | zero =>
    intro d x q q9 h hmc hms p e s m args below meth c R H locs ls Q hC hRc hRs hRf hRl hR hS hl kk
    have h : q = q9 := h
    subst h
    exact kk H locs ls hR hS hl hmc hms
  | succ n ih =>
    intro d x q q9 h hmc hms p e s m args below meth c R H locs ls Q hC hRc hRs hRf hRl hR hS hl kk
    rcases h with h | ⟨q', hn, h⟩ | ⟨y, as, rst, rv, P1, hn, hcr, h⟩
    · subst h
      exact kk H locs ls hR hS hl hmc hms
    · -- a step
      obtain ⟨pc, ll, st, P, cn, sn⟩ := q
      have hOK' := hOK
      have hC' := hC
      obtain ⟨o1, -, -, -, -, o6, oL, og, oN, oa, oA, oF, oC, oac, oi⟩ := hOK'
      obtain ⟨hx, hb, hr, hml, hown, hts, hns, hK, hlk, hnm, hX, hbs⟩ := hC'
      have hsz : ls.size = z_nL G x := hl.1
      unfold z_next at hn
      split at hn
      · cases hn
      · rename_i i hi
        split at hn
        · rename_i yk hyk
          split at hn
          · split at hn <;> cases hn
          · split at hn
            · rename_i q2 hq2
              cases hn
              -- Object's constructor, arraycopy
              have hcall : ∃ n, (i.1 = .invokestatic n ∧ z_inv G x n = some yk ∧ yk.2 ≠ 3) ∨ (i.1 = .invokespecial n ∧ z_inv G x n = some yk ∧ yk.2 ≠ 5) := by
                unfold z_call at hyk
                split at hyk
                · rename_i n h3
                  unfold z_only at hyk
                  split at hyk
                  · rename_i q9 hq9
                    split at hyk
                    · rename_i h9
                      cases hyk
                      have : yk.2 = 1 := by simpa using h9
                      omega
                    · cases hyk
                  · cases hyk
                · rename_i n h3
                  unfold z_only at hyk
                  split at hyk
                  · rename_i q9 hq9
                    split at hyk
                    · rename_i h9
                      cases hyk
                      refine ⟨n, Or.inl ⟨h3, hq9, fun h4 => ?_⟩⟩
                      rw [h4] at h9
                      simp at h9
                    · cases hyk
                  · cases hyk
                · rename_i n h3
                  unfold z_only at hyk
                  split at hyk
                  · rename_i q9 hq9
                    split at hyk
                    · rename_i h9
                      cases hyk
                      refine ⟨n, Or.inr ⟨h3, hq9, fun h4 => ?_⟩⟩
                      rw [h4] at h9
                      simp at h9
                    · cases hyk
                  · cases hyk
                · cases hyk
              obtain ⟨n, hcall⟩ := hcall
              obtain ⟨hd, hlen⟩ := o1 x pc i hi
              unfold z_prim at hq2
              split at hq2
              · rename_i h3
                rcases hcall with ⟨-, -, h4⟩ | ⟨hins, hinv, -⟩
                · exact absurd h3 h4
                obtain ⟨-, -, -, -, w3, -⟩ := o6 x n yk.1 yk.2 hinv
                obtain ⟨w31, w32, w33⟩ := w3 h3
                dsimp only at hq2
                split at hq2
                · rename_i a r9
                  split at hq2
                  · rename_i h5
                    cases hq2
                    have hd : decode (by_ x) pc = .ok (.invokespecial n, 3) := by
                      rcases hlen with ⟨a1, a2, a3, a4, a5⟩ | hz
                      · rw [hins] at a5; cases a5
                      · rw [hins] at hz hd; rw [hd, hz]; rfl
                    obtain ⟨h51, h52⟩ := h5
                    have hc9 : ((r9.map (z_cv ext base)).map fun v => v.category).sum ≤ 8 := by rw [z_cat_cv]; exact h52
                    refine W.objInit hx hb hown (hts _ w31) (hts _ w32) (hts _ w33) (g := F0 m pc ls (z_cv ext base (.ref a) :: r9.map (z_cv ext base))) rfl (by rw [hml]; exact hsz) rfl hd (Nat.le_trans h51 hRf) (by show 2 * 0 + _ + 12 ≤ _; omega) ?_
                    exact ih d x (pc + 3, ll, r9, P, cn, sn) q9 h hmc hms p e s m args below meth c R H locs ls Q hC hRc hRs hRf hRl hR hS hl kk
                  · cases hq2
                · cases hq2
              · split at hq2
                · rename_i h3n h5
                  rcases hcall with ⟨hins, hinv, -⟩ | ⟨-, -, h4⟩
                  rotate_left
                  · exact absurd h5 h4
                  obtain ⟨-, -, -, -, -, w5⟩ := o6 x n yk.1 yk.2 hinv
                  obtain ⟨w51, w52, w53, w54⟩ := w5 h5
                  split at hq2
                  · rename_i q5 hq5
                    split at hq2
                    · rename_i h6
                      cases hq2
                      obtain ⟨h61, h62⟩ := h6
                      have hd : decode (by_ x) pc = .ok (.invokestatic n, 3) := by
                        rcases hlen with ⟨a1, a2, a3, a4, a5⟩ | hz
                        · rw [hins] at a5; cases a5
                        · rw [hins] at hz hd; rw [hd, hz]; rfl
                      have hn5 : nativeFrameWords "java/lang/System" "arraycopy" 5 + 11 ≤ 60 := by decide +kernel
                      refine z_sim_acp hx hb hml hown hK oa hR hS (fun _ h => h) (hts _ w51) (hts _ w52) (hts _ w53) (hts _ w54) hsz (Nat.le_trans h61 hRf) (by have : ((q5.1).map fun v => v.category).sum ≤ 8 := h62; omega) hd (st' := q5.1) (P' := q5.2) hq5 ?_
                      intro H1 locs1 g1 g2
                      exact ih d x (pc + 3, ll, q5.1, q5.2, cn, sn) q9 h hmc hms p e s m args below meth c R H1 locs1 ls Q hC hRc hRs hRf hRl g1 g2 hl kk
                    · cases hq2
                  · cases hq2
                · cases hq2
            · cases hn
        · split at hn
          · cases hn
          · split at hn
            · rename_i q2 hq2
              cases hn
              refine z_sim_step hOK hC hRc hRs hi hq2 hR hS hl ?_
              intro H1 locs1 ls1 g1 g2 g3
              have hbump : q'.2.2.2.2.1 ≤ z_mc G x ∧ q'.2.2.2.2.2 ≤ z_ms G x := by
                have hq3 := hq2
                unfold z_step at hq3
                split at hq3
                · cases hq3; exact ⟨hmc, hms⟩
                split at hq3
                · cases hq3; exact ⟨hmc, hms⟩
                split at hq3
                · cases hq3; exact ⟨hmc, hms⟩
                split at hq3
                · cases hq3; exact ⟨hmc, hms⟩
                split at hq3
                · cases hq3; exact ⟨hmc, hms⟩
                split at hq3
                · unfold z_bump at hq3
                  split at hq3
                  · rename_i h8
                    cases hq3
                    exact h8
                  · cases hq3
                split at hq3
                · cases hq3; exact ⟨hmc, hms⟩
                · cases hq3
              exact ih d x q' q9 h hbump.1 hbump.2 p e s m args below meth c R H1 locs1 ls1 Q hC hRc hRs hRf hRl g1 g2 g3 kk
            · cases hn
    · -- a call
      obtain ⟨pc, ll, st, P, cn, sn⟩ := q
      have hOK' := hOK
      have hC' := hC
      obtain ⟨o1, -, -, -, -, o6, oL, og, oN, oa, oA, oF, oC, oac, oi⟩ := hOK'
      obtain ⟨hx, hb, hr, hml, hown, hts, hns, hK, hlk, hnm, hX, hbs⟩ := hC'
      have hsz : ls.size = z_nL G x := hl.1
      unfold z_next at hn
      split at hn
      · cases hn
      · rename_i i hi
        split at hn
        rotate_left
        · split at hn
          · cases hn
          · split at hn <;> cases hn
        · rename_i yk hyk
          split at hn
          rotate_left
          · split at hn <;> cases hn
          · rename_i hkd
            split at hn
            rotate_left
            · cases hn
            · rename_i ar har
              cases hn
              · obtain ⟨fu, ho⟩ := hcr
                obtain ⟨y, kd⟩ := yk
                obtain ⟨as, rst⟩ := ar
                dsimp only at h ho hkd har
                obtain ⟨hst, hna, hd1, hc8, hnL, hca, hcm, hsm, hk1, hkat⟩ := z_args_spec har
                subst hst
                have hinv : ∃ n, z_inv G x n = some (y, kd) ∧ ((i.1 = .invokestatic n ∧ kd = 0) ∨ (i.1 = .invokevirtual n ∧ kd = 1) ∨ (i.1 = .invokespecial n ∧ kd = 2)) := by
                  unfold z_call at hyk
                  split at hyk
                  · rename_i n h3
                    unfold z_only at hyk
                    split at hyk
                    · rename_i q9 hq9
                      split at hyk
                      · rename_i h9
                        cases hyk
                        exact ⟨n, hq9, Or.inr (Or.inl ⟨h3, by simpa using h9⟩)⟩
                      · cases hyk
                    · cases hyk
                  · rename_i n h3
                    unfold z_only at hyk
                    split at hyk
                    · rename_i q9 hq9
                      split at hyk
                      · rename_i h9
                        cases hyk
                        refine ⟨n, hq9, Or.inl ⟨h3, ?_⟩⟩
                        simp at h9
                        omega
                      · cases hyk
                    · cases hyk
                  · rename_i n h3
                    unfold z_only at hyk
                    split at hyk
                    · rename_i q9 hq9
                      split at hyk
                      · rename_i h9
                        cases hyk
                        refine ⟨n, hq9, Or.inr (Or.inr ⟨h3, ?_⟩)⟩
                        simp at h9
                        omega
                      · cases hyk
                    · cases hyk
                  · cases hyk
                obtain ⟨n, hinv, hkind⟩ := hinv
                obtain ⟨w0, ws0, ws1, ws2, -, -⟩ := o6 x n y kd hinv
                obtain ⟨w01, w02, w03, w04, w05, w06⟩ := w0 hkd
                obtain ⟨hd, hlen⟩ := o1 x pc i hi
                have hM : Met l (nm y) (z_ws G nm by_ Ts y) (z_room G y (d - 1)) (z_Pc cl aty Ns (z_strs G) rs D ta ext base as P) (z_Qc cl D ta ext base rv P1) (z_mc G y) (z_ms G y) (fun q => base ≤ q) := z_met hOK (z_sim hOK fu) w01 hca ho
                have hblind : FrameBlind (z_Pc cl aty Ns (z_strs G) rs D ta ext base as P) := z_blind oN
                have hGood : GoodIn Ts (z_ws G nm by_ Ts y) := fun w hw => by
                  rcases List.mem_cons.mp hw with rfl | hw
                  · exact ⟨w02, good_of_word (og _ w02)⟩
                  · exact ⟨hw, good_of_word (og _ hw)⟩
                have hroom : (z_room G y (d - 1)).frames + 1 ≤ R.frames ∧ 8 + (z_nL G y + 11) + (z_room G y (d - 1)).locals ≤ R.locals := by
                  refine ⟨?_, ?_⟩
                  · show d - 1 + 1 ≤ _
                    omega
                  · show 8 + (z_nL G y + 11) + 100 * (d - 1) ≤ _
                    omega
                have hpre : ∀ U : State, U.heap = H → s.WarmedH U.vm → z_Pc cl aty Ns (z_strs G) rs D ta ext base as P (as.map (z_cv ext base)).toArray U := fun U hU hW =>
                  ⟨rfl, by rw [hU]; exact hR, z_K.moved hW.alike hK, fun w hw => oN w hw s U #[] hW (hns w hw), hX.on hW (fun a h1 h2 => by rw [hU]; exact hS.2.1 a h1 h2)⟩
                have hfix : CallFix p m c (by_ x) (z_nL G x) s args Ts (nm x).cls := ⟨hx, hb, hml, hown, hts⟩
                have hWd : 2 * (F0 m pc ls ((as.reverse ++ rst).map (z_cv ext base))).monitorRoom + ((rst.map (z_cv ext base)).map fun v => v.category).sum ≤ 8 := by
                  show 2 * 0 + _ ≤ 8
                  rw [z_cat_cv]
                  have : ((rst.map fun v => v.category)).sum ≤ 8 := hc8
                  omega
                have hfit : cn + z_mc G y ≤ R.cells ∧ sn + z_ms G y ≤ R.slots := by rw [hRc, hRs]; exact ⟨hcm, hsm⟩
                have back : ∀ aa, va_Run p l e R s m args below meth c H locs cn sn (z_mc G y) (z_ms G y) (F0 m pc ls ((as.reverse ++ rst).map (z_cv ext base))) (rst.map (z_cv ext base)) (z_Qc cl D ta ext base rv P1 aa) (fun q => base ≤ q) →
                    W p l e R s m args below meth c H locs cn sn Q (F0 m pc ls ((as.reverse ++ rst).map (z_cv ext base))) := fun aa hrun => by
                  refine z_sim_back hrun hS ?_
                  intro H1 locs1 g1 g2
                  have k9 := ih d x (pc + 3, ll, rv.toList ++ rst, P1, cn + z_mc G y, sn + z_ms G y) q9 h hcm hsm p e s m args below meth c R H1 locs1 ls Q hC hRc hRs hRf hRl g1 g2 hl kk
                  rw [z_toList_map] at k9
                  exact k9
                have hdec : ∀ ins, i.1 = ins → (∀ a1 a2 a3 a4, ins ≠ .tableswitch a1 a2 a3 a4) → z_len ins = 3 → decode (by_ x) pc = .ok (ins, 3) := fun ins h1 h2 h3 => by
                  rcases hlen with ⟨a1, a2, a3, a4, a5⟩ | hz
                  · rw [h1] at a5; exact absurd a5 (h2 _ _ _ _)
                  · rw [h1] at hz hd; rw [hd, hz, h3]
                have hstack : (as.reverse ++ rst).map (z_cv ext base) = (as.map (z_cv ext base)).reverse ++ rst.map (z_cv ext base) := by rw [List.map_append, List.map_reverse]
                rcases hkind with ⟨hins, rfl⟩ | ⟨hins, rfl⟩ | ⟨hins, rfl⟩
                · -- static
                  have hd3 := hdec _ hins (fun _ _ _ _ h => by cases h) rfl
                  have hlen3 : (as.map (z_cv ext base)).length = z_na G y := by rw [List.length_map]; exact hna
                  rcases w06 with w6 | ⟨host, w6⟩
                  · exact back _ (va_runS (n := z_na G y) hfix hM ⟨callB_of (z_na G y) hts hGood rfl rfl rfl (hts _ w03) (hts _ w6) ⟨w04.1, w04.2, w05⟩ hroom, hts _ (ws0 rfl)⟩ ⟨hblind, hpre⟩ rfl hlen3 hsz hstack hWd hd3 hfit)
                  · exact back _ (va_runSN (n := z_na G y) hfix hM ⟨va_cnB (z_na G y) hts hGood rfl rfl rfl (hns _ w6) (hts _ w03) ⟨w04.1, w04.2, w05⟩ hroom, hts _ (ws0 rfl), trivial⟩ ⟨hblind, hpre⟩ rfl hlen3 hsz hstack hWd hd3 hfit)
                · -- on an object
                  have hd3 := hdec _ hins (fun _ _ _ _ h => by cases h) rfl
                  obtain ⟨v1, v2, v3⟩ := ws1 rfl
                  have hat : z_at? G P y 1 as = true := hkat.elim (fun h => by cases h) id
                  unfold z_at? at hat
                  split at hat
                  rotate_left
                  · cases hat
                  · rename_i b As
                    rw [if_pos rfl] at hat
                    split at hat
                    rotate_left
                    · cases hat
                    · rename_i qb hqb
                      have hqt : qb.1 = z_rcv G y := by simpa using hat
                      have hlen3 : (As.map (z_cv ext base)).length = z_na G y - 1 := by
                        have : (Value.ref b :: As).length = z_na G y := hna
                        rw [List.length_map]
                        simp at this
                        omega
                      have hstk : ((Value.ref b :: As).reverse ++ rst).map (z_cv ext base) = (As.map (z_cv ext base)).reverse ++ z_cv ext base (.ref b) :: rst.map (z_cv ext base) := by
                        rw [hstack]; simp
                      obtain ⟨b', hb'⟩ : ∃ b', z_cv ext base (.ref b) = .ref b' := ⟨_, rfl⟩
                      have hrecv : ∃ cellB : Cell, H[b']? = some cellB ∧ cellB.vm.isStatics = false ∧ s.vm.findClass (nm y).cls = some cellB.cls := by
                        rcases z_lk_far hqb with hP | ⟨j, bb, hj, ⟨rfl, hq⟩ | ⟨rfl, hq⟩⟩ | ⟨-, hq⟩
                        rotate_left 3
                        · rw [hq] at hqt
                          rcases v3 with ⟨v31, -⟩ | ⟨v31, -⟩
                          · rw [v31] at hqt; cases hqt
                          · have : (103 : Nat) = z_rcv G y := hqt
                            omega
                        · rcases v3 with ⟨v31, v32⟩ | ⟨v31, r9, v32, v33⟩
                          · -- a near thing can't be a String
                            obtain ⟨r9, hr9, -⟩ := (hR.at hP).1 (by omega)
                            have := (List.getElem?_eq_some_iff.mp hr9).1
                            omega
                          · obtain ⟨r8, hr8, -, cell, g1, g2, g3, g4⟩ := (hR.at hP).1 (by omega)
                            have e1 := hR.near hP
                            rw [hb'] at e1
                            cases e1
                            refine ⟨cell, g1, by rw [g3]; rfl, ?_⟩
                            rw [g2, ← v33, hqt]
                            exact (hK.1 _ _ v32).2.1
                        · have hji : j < (z_strs G).1.length := (List.getElem?_eq_some_iff.mp hj).1
                          rcases v3 with ⟨v31, v32⟩ | ⟨v31, -⟩
                          · obtain ⟨cell, g1, g2, g3, -⟩ := (hX.1.1 j hji).1.kept hS.2.1
                            rw [z_cv_far] at hb'
                            cases hb'
                            exact ⟨cell, g1, g2, by rw [v32]; exact g3⟩
                          · rw [hq] at hqt
                            have : (98 : Nat) = z_rcv G y := hqt
                            omega
                        · rw [hq] at hqt
                          rcases v3 with ⟨v31, -⟩ | ⟨v31, -⟩
                          · rw [v31] at hqt; cases hqt
                          · have : (101 : Nat) = z_rcv G y := hqt
                            omega
                      rw [hb'] at hstk
                      have hpre' : ∀ U : State, U.heap = H → s.WarmedH U.vm → z_Pc cl aty Ns (z_strs G) rs D ta ext base (Value.ref b :: As) P (Value.ref b' :: As.map (z_cv ext base)).toArray U := fun U hU hW => by
                        have := hpre U hU hW
                        rw [List.map_cons, hb'] at this
                        exact this
                      rcases w06 with w6 | ⟨host, w6⟩
                      · exact back _ (va_runV (n := z_na G y - 1) hfix hM ⟨callB_of (z_na G y - 1) hts hGood rfl rfl rfl (hts _ w03) (hts _ w6) ⟨w04.1, w04.2, w05⟩ hroom, hts _ v1, hts _ v2⟩ ⟨hblind, hrecv, hpre'⟩ rfl hlen3 hsz hstk hWd hd3 hfit)
                      · exact back _ (va_runVN (n := z_na G y - 1) hfix hM ⟨va_cnB (z_na G y - 1) hts hGood rfl rfl rfl (hns _ w6) (hts _ w03) ⟨w04.1, w04.2, w05⟩ hroom, hts _ v1, hts _ v2⟩ ⟨hblind, hrecv, hpre'⟩ rfl hlen3 hsz hstk hWd hd3 hfit)
                · -- a constructor
                  have hd3 := hdec _ hins (fun _ _ _ _ h => by cases h) rfl
                  obtain ⟨v1, v2, v3⟩ := ws2 rfl
                  have hat : z_at? G P y 2 as = true := hkat.elim (fun h => by cases h) id
                  unfold z_at? at hat
                  split at hat
                  rotate_left
                  · cases hat
                  · rename_i b As
                    have hlen3 : (As.map (z_cv ext base)).length = z_na G y - 1 := by
                      have : (Value.ref b :: As).length = z_na G y := hna
                      rw [List.length_map]
                      simp at this
                      omega
                    have hstk : ((Value.ref b :: As).reverse ++ rst).map (z_cv ext base) = (As.map (z_cv ext base)).reverse ++ z_cv ext base (.ref b) :: rst.map (z_cv ext base) := by
                      rw [hstack]; simp
                    obtain ⟨b', hb'⟩ : ∃ b', z_cv ext base (.ref b) = .ref b' := ⟨_, rfl⟩
                    rw [hb'] at hstk
                    have hpre' : ∀ U : State, U.heap = H → s.WarmedH U.vm → z_Pc cl aty Ns (z_strs G) rs D ta ext base (Value.ref b :: As) P (Value.ref b' :: As.map (z_cv ext base)).toArray U := fun U hU hW => by
                      have := hpre U hU hW
                      rw [List.map_cons, hb'] at this
                      exact this
                    have hw9 : z_ws G nm by_ Ts y = Cond.code (nm y) (by_ y) (z_nL G y) none :: Ts := by unfold z_ws; rw [v3]
                    rcases w06 with w6 | ⟨host, w6⟩
                    · exact back _ (va_runI (n := z_na G y - 1) hfix hM ⟨callB_of (z_na G y - 1) hts hGood hw9 rfl rfl (hts _ w03) (hts _ w6) ⟨w04.1, w04.2, w05⟩ hroom, v1, hts _ v2⟩ ⟨hblind, hpre'⟩ rfl hlen3 hsz hstk hWd hd3 hfit)
                    · exact back _ (va_runIN (n := z_na G y - 1) hfix hM ⟨va_cnB (z_na G y - 1) hts hGood hw9 rfl rfl (hns _ w6) (hts _ w03) ⟨w04.1, w04.2, w05⟩ hroom, v1, hts _ v2⟩ ⟨hblind, hpre'⟩ rfl hlen3 hsz hstk hWd hd3 hfit)
end ZSTO
end
