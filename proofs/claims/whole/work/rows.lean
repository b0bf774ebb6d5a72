section
-- ===== PART A: goes FIRST, ahead of the names: the tables' words, and 'selects' of the private methods out of them =====
/-- a private method of a class that the tables say can be made, by its rows of tables_1 -/
def lw_okq (q : MethodName × Nat) : Prop := (q.1.cls ≠ "java/lang/invoke/MethodHandle" ∧ q.1.cls ≠ "java/lang/invoke/VarHandle") ∧ Cond.instantiable q.1.cls q.2 ∈ tables_1 ∧ Cond.privateMethod q.1 ∈ tables_1 ∧ Cond.instanceMethod q.1 ∈ tables_1
theorem lw_p0 : lw_okq (⟨"ChaffInTheWind$Signs", "append", "(I)I"⟩, 5) := ⟨⟨by decide +kernel, by decide +kernel⟩, List.mem_of_getElem? (i := 34) (by decide +kernel), List.mem_of_getElem? (i := 329) (by decide +kernel), List.mem_of_getElem? (i := 330) (by decide +kernel)⟩
theorem lw_p1 : lw_okq (⟨"ChaffInTheWind$Signs", "shorten", "(I)Z"⟩, 5) := ⟨⟨by decide +kernel, by decide +kernel⟩, List.mem_of_getElem? (i := 34) (by decide +kernel), List.mem_of_getElem? (i := 337) (by decide +kernel), List.mem_of_getElem? (i := 338) (by decide +kernel)⟩
theorem lw_p2 : lw_okq (⟨"ChaffInTheWind$Signs", "open", "(I)V"⟩, 5) := ⟨⟨by decide +kernel, by decide +kernel⟩, List.mem_of_getElem? (i := 34) (by decide +kernel), List.mem_of_getElem? (i := 345) (by decide +kernel), List.mem_of_getElem? (i := 346) (by decide +kernel)⟩
theorem lw_p3 : lw_okq (⟨"ChaffInTheWind$Barn", "read", "(LChaffInTheWind$Signs;)I"⟩, 13) := ⟨⟨by decide +kernel, by decide +kernel⟩, List.mem_of_getElem? (i := 74) (by decide +kernel), List.mem_of_getElem? (i := 352) (by decide +kernel), List.mem_of_getElem? (i := 353) (by decide +kernel)⟩
theorem lw_p4 : lw_okq (⟨"ChaffInTheWind$Signs", "isDone", "()Z"⟩, 5) := ⟨⟨by decide +kernel, by decide +kernel⟩, List.mem_of_getElem? (i := 34) (by decide +kernel), List.mem_of_getElem? (i := 356) (by decide +kernel), List.mem_of_getElem? (i := 357) (by decide +kernel)⟩
theorem lw_p5 : lw_okq (⟨"ChaffInTheWind$Barn", "readLine", "(LChaffInTheWind$Signs;)Z"⟩, 13) := ⟨⟨by decide +kernel, by decide +kernel⟩, List.mem_of_getElem? (i := 74) (by decide +kernel), List.mem_of_getElem? (i := 360) (by decide +kernel), List.mem_of_getElem? (i := 361) (by decide +kernel)⟩
theorem lw_p6 : lw_okq (⟨"ChaffInTheWind$Signs", "take", "(C)Z"⟩, 5) := ⟨⟨by decide +kernel, by decide +kernel⟩, List.mem_of_getElem? (i := 34) (by decide +kernel), List.mem_of_getElem? (i := 364) (by decide +kernel), List.mem_of_getElem? (i := 365) (by decide +kernel)⟩
theorem lw_p7 : lw_okq (⟨"ChaffInTheWind$Signs", "isNext", "(C)Z"⟩, 5) := ⟨⟨by decide +kernel, by decide +kernel⟩, List.mem_of_getElem? (i := 34) (by decide +kernel), List.mem_of_getElem? (i := 368) (by decide +kernel), List.mem_of_getElem? (i := 369) (by decide +kernel)⟩
theorem lw_p8 : lw_okq (⟨"ChaffInTheWind$Barn", "readYards", "(LChaffInTheWind$Signs;)Z"⟩, 13) := ⟨⟨by decide +kernel, by decide +kernel⟩, List.mem_of_getElem? (i := 74) (by decide +kernel), List.mem_of_getElem? (i := 372) (by decide +kernel), List.mem_of_getElem? (i := 373) (by decide +kernel)⟩
theorem lw_p9 : lw_okq (⟨"ChaffInTheWind$Signs", "number", "(III)I"⟩, 5) := ⟨⟨by decide +kernel, by decide +kernel⟩, List.mem_of_getElem? (i := 34) (by decide +kernel), List.mem_of_getElem? (i := 376) (by decide +kernel), List.mem_of_getElem? (i := 377) (by decide +kernel)⟩
theorem lw_p10 : lw_okq (⟨"ChaffInTheWind$Signs", "isDigitNext", "()Z"⟩, 5) := ⟨⟨by decide +kernel, by decide +kernel⟩, List.mem_of_getElem? (i := 34) (by decide +kernel), List.mem_of_getElem? (i := 380) (by decide +kernel), List.mem_of_getElem? (i := 381) (by decide +kernel)⟩
theorem lw_p11 : lw_okq (⟨"ChaffInTheWind$Barn", "readSort", "(LChaffInTheWind$Signs;I)Z"⟩, 13) := ⟨⟨by decide +kernel, by decide +kernel⟩, List.mem_of_getElem? (i := 74) (by decide +kernel), List.mem_of_getElem? (i := 385) (by decide +kernel), List.mem_of_getElem? (i := 386) (by decide +kernel)⟩
theorem lw_p12 : lw_okq (⟨"ChaffInTheWind$Signs", "takeOneOf", "(Ljava/lang/String;)I"⟩, 5) := ⟨⟨by decide +kernel, by decide +kernel⟩, List.mem_of_getElem? (i := 34) (by decide +kernel), List.mem_of_getElem? (i := 390) (by decide +kernel), List.mem_of_getElem? (i := 391) (by decide +kernel)⟩
theorem lw_p13 : lw_okq (⟨"ChaffInTheWind$Signs", "hasMore", "()Z"⟩, 5) := ⟨⟨by decide +kernel, by decide +kernel⟩, List.mem_of_getElem? (i := 34) (by decide +kernel), List.mem_of_getElem? (i := 478) (by decide +kernel), List.mem_of_getElem? (i := 479) (by decide +kernel)⟩
theorem lw_p14 : lw_okq (⟨"ChaffInTheWind$Signs", "clear", "()V"⟩, 5) := ⟨⟨by decide +kernel, by decide +kernel⟩, List.mem_of_getElem? (i := 34) (by decide +kernel), List.mem_of_getElem? (i := 482) (by decide +kernel), List.mem_of_getElem? (i := 483) (by decide +kernel)⟩
theorem lw_p15 : lw_okq (⟨"ChaffInTheWind$Signs", "fault", "()I"⟩, 5) := ⟨⟨by decide +kernel, by decide +kernel⟩, List.mem_of_getElem? (i := 34) (by decide +kernel), List.mem_of_getElem? (i := 486) (by decide +kernel), List.mem_of_getElem? (i := 487) (by decide +kernel)⟩
def lw_privs_1 : List (MethodName × Nat) := [(⟨"ChaffInTheWind$Signs", "append", "(I)I"⟩, 5), (⟨"ChaffInTheWind$Signs", "shorten", "(I)Z"⟩, 5), (⟨"ChaffInTheWind$Signs", "open", "(I)V"⟩, 5), (⟨"ChaffInTheWind$Barn", "read", "(LChaffInTheWind$Signs;)I"⟩, 13), (⟨"ChaffInTheWind$Signs", "isDone", "()Z"⟩, 5), (⟨"ChaffInTheWind$Barn", "readLine", "(LChaffInTheWind$Signs;)Z"⟩, 13), (⟨"ChaffInTheWind$Signs", "take", "(C)Z"⟩, 5), (⟨"ChaffInTheWind$Signs", "isNext", "(C)Z"⟩, 5), (⟨"ChaffInTheWind$Barn", "readYards", "(LChaffInTheWind$Signs;)Z"⟩, 13), (⟨"ChaffInTheWind$Signs", "number", "(III)I"⟩, 5), (⟨"ChaffInTheWind$Signs", "isDigitNext", "()Z"⟩, 5), (⟨"ChaffInTheWind$Barn", "readSort", "(LChaffInTheWind$Signs;I)Z"⟩, 13), (⟨"ChaffInTheWind$Signs", "takeOneOf", "(Ljava/lang/String;)I"⟩, 5), (⟨"ChaffInTheWind$Signs", "hasMore", "()Z"⟩, 5), (⟨"ChaffInTheWind$Signs", "clear", "()V"⟩, 5), (⟨"ChaffInTheWind$Signs", "fault", "()I"⟩, 5)]
theorem lw_r1 : ∀ q ∈ lw_privs_1, lw_okq q := List.forall_mem_cons.mpr ⟨lw_p0, List.forall_mem_cons.mpr ⟨lw_p1, List.forall_mem_cons.mpr ⟨lw_p2, List.forall_mem_cons.mpr ⟨lw_p3, List.forall_mem_cons.mpr ⟨lw_p4, List.forall_mem_cons.mpr ⟨lw_p5, List.forall_mem_cons.mpr ⟨lw_p6, List.forall_mem_cons.mpr ⟨lw_p7, List.forall_mem_cons.mpr ⟨lw_p8, List.forall_mem_cons.mpr ⟨lw_p9, List.forall_mem_cons.mpr ⟨lw_p10, List.forall_mem_cons.mpr ⟨lw_p11, List.forall_mem_cons.mpr ⟨lw_p12, List.forall_mem_cons.mpr ⟨lw_p13, List.forall_mem_cons.mpr ⟨lw_p14, List.forall_mem_cons.mpr ⟨lw_p15, fun _ h => absurd h List.not_mem_nil⟩⟩⟩⟩⟩⟩⟩⟩⟩⟩⟩⟩⟩⟩⟩⟩
theorem lw_p16 : lw_okq (⟨"ChaffInTheWind$Barn", "tellsYards", "()Z"⟩, 13) := ⟨⟨by decide +kernel, by decide +kernel⟩, List.mem_of_getElem? (i := 74) (by decide +kernel), List.mem_of_getElem? (i := 490) (by decide +kernel), List.mem_of_getElem? (i := 491) (by decide +kernel)⟩
theorem lw_p17 : lw_okq (⟨"ChaffInTheWind$Store", "clearYards", "()V"⟩, 6) := ⟨⟨by decide +kernel, by decide +kernel⟩, List.mem_of_getElem? (i := 173) (by decide +kernel), List.mem_of_getElem? (i := 494) (by decide +kernel), List.mem_of_getElem? (i := 495) (by decide +kernel)⟩
theorem lw_p18 : lw_okq (⟨"ChaffInTheWind$Barn", "settle", "()V"⟩, 13) := ⟨⟨by decide +kernel, by decide +kernel⟩, List.mem_of_getElem? (i := 74) (by decide +kernel), List.mem_of_getElem? (i := 501) (by decide +kernel), List.mem_of_getElem? (i := 502) (by decide +kernel)⟩
theorem lw_p19 : lw_okq (⟨"ChaffInTheWind$Barn", "forgetLandings", "()V"⟩, 13) := ⟨⟨by decide +kernel, by decide +kernel⟩, List.mem_of_getElem? (i := 74) (by decide +kernel), List.mem_of_getElem? (i := 506) (by decide +kernel), List.mem_of_getElem? (i := 507) (by decide +kernel)⟩
theorem lw_p20 : lw_okq (⟨"ChaffInTheWind$Gusts", "read", "(LChaffInTheWind$Signs;)I"⟩, 5) := ⟨⟨by decide +kernel, by decide +kernel⟩, List.mem_of_getElem? (i := 206) (by decide +kernel), List.mem_of_getElem? (i := 516) (by decide +kernel), List.mem_of_getElem? (i := 517) (by decide +kernel)⟩
theorem lw_p21 : lw_okq (⟨"ChaffInTheWind$Gusts", "readLine", "(LChaffInTheWind$Signs;I)Z"⟩, 5) := ⟨⟨by decide +kernel, by decide +kernel⟩, List.mem_of_getElem? (i := 206) (by decide +kernel), List.mem_of_getElem? (i := 521) (by decide +kernel), List.mem_of_getElem? (i := 522) (by decide +kernel)⟩
theorem lw_p22 : lw_okq (⟨"ChaffInTheWind$Market", "read", "(LChaffInTheWind$Signs;I)Z"⟩, 4) := ⟨⟨by decide +kernel, by decide +kernel⟩, List.mem_of_getElem? (i := 229) (by decide +kernel), List.mem_of_getElem? (i := 531) (by decide +kernel), List.mem_of_getElem? (i := 532) (by decide +kernel)⟩
theorem lw_p23 : lw_okq (⟨"ChaffInTheWind$Formula", "read", "(LChaffInTheWind$Signs;Ljava/lang/String;)Z"⟩, 3) := ⟨⟨by decide +kernel, by decide +kernel⟩, List.mem_of_getElem? (i := 236) (by decide +kernel), List.mem_of_getElem? (i := 537) (by decide +kernel), List.mem_of_getElem? (i := 538) (by decide +kernel)⟩
theorem lw_p24 : lw_okq (⟨"ChaffInTheWind$Formula", "readComparison", "(LChaffInTheWind$Signs;Ljava/lang/String;I)Z"⟩, 3) := ⟨⟨by decide +kernel, by decide +kernel⟩, List.mem_of_getElem? (i := 236) (by decide +kernel), List.mem_of_getElem? (i := 542) (by decide +kernel), List.mem_of_getElem? (i := 543) (by decide +kernel)⟩
theorem lw_p25 : lw_okq (⟨"ChaffInTheWind$Formula", "readSum", "(LChaffInTheWind$Signs;Ljava/lang/String;I)Z"⟩, 3) := ⟨⟨by decide +kernel, by decide +kernel⟩, List.mem_of_getElem? (i := 236) (by decide +kernel), List.mem_of_getElem? (i := 546) (by decide +kernel), List.mem_of_getElem? (i := 547) (by decide +kernel)⟩
theorem lw_p26 : lw_okq (⟨"ChaffInTheWind$Formula", "readProduct", "(LChaffInTheWind$Signs;Ljava/lang/String;I)Z"⟩, 3) := ⟨⟨by decide +kernel, by decide +kernel⟩, List.mem_of_getElem? (i := 236) (by decide +kernel), List.mem_of_getElem? (i := 550) (by decide +kernel), List.mem_of_getElem? (i := 551) (by decide +kernel)⟩
theorem lw_p27 : lw_okq (⟨"ChaffInTheWind$Formula", "readThing", "(LChaffInTheWind$Signs;Ljava/lang/String;I)Z"⟩, 3) := ⟨⟨by decide +kernel, by decide +kernel⟩, List.mem_of_getElem? (i := 236) (by decide +kernel), List.mem_of_getElem? (i := 554) (by decide +kernel), List.mem_of_getElem? (i := 555) (by decide +kernel)⟩
theorem lw_p28 : lw_okq (⟨"ChaffInTheWind$Formula", "readBareThing", "(LChaffInTheWind$Signs;Ljava/lang/String;I)Z"⟩, 3) := ⟨⟨by decide +kernel, by decide +kernel⟩, List.mem_of_getElem? (i := 236) (by decide +kernel), List.mem_of_getElem? (i := 559) (by decide +kernel), List.mem_of_getElem? (i := 560) (by decide +kernel)⟩
theorem lw_p29 : lw_okq (⟨"ChaffInTheWind$Formula", "append", "(I)Z"⟩, 3) := ⟨⟨by decide +kernel, by decide +kernel⟩, List.mem_of_getElem? (i := 236) (by decide +kernel), List.mem_of_getElem? (i := 565) (by decide +kernel), List.mem_of_getElem? (i := 566) (by decide +kernel)⟩
theorem lw_p30 : lw_okq (⟨"ChaffInTheWind$Market", "settle", "(I)V"⟩, 4) := ⟨⟨by decide +kernel, by decide +kernel⟩, List.mem_of_getElem? (i := 229) (by decide +kernel), List.mem_of_getElem? (i := 573) (by decide +kernel), List.mem_of_getElem? (i := 574) (by decide +kernel)⟩
theorem lw_p31 : lw_okq (⟨"ChaffInTheWind$Barn", "leastOf", "(I)I"⟩, 13) := ⟨⟨by decide +kernel, by decide +kernel⟩, List.mem_of_getElem? (i := 74) (by decide +kernel), List.mem_of_getElem? (i := 581) (by decide +kernel), List.mem_of_getElem? (i := 582) (by decide +kernel)⟩
def lw_privs_2 : List (MethodName × Nat) := [(⟨"ChaffInTheWind$Barn", "tellsYards", "()Z"⟩, 13), (⟨"ChaffInTheWind$Store", "clearYards", "()V"⟩, 6), (⟨"ChaffInTheWind$Barn", "settle", "()V"⟩, 13), (⟨"ChaffInTheWind$Barn", "forgetLandings", "()V"⟩, 13), (⟨"ChaffInTheWind$Gusts", "read", "(LChaffInTheWind$Signs;)I"⟩, 5), (⟨"ChaffInTheWind$Gusts", "readLine", "(LChaffInTheWind$Signs;I)Z"⟩, 5), (⟨"ChaffInTheWind$Market", "read", "(LChaffInTheWind$Signs;I)Z"⟩, 4), (⟨"ChaffInTheWind$Formula", "read", "(LChaffInTheWind$Signs;Ljava/lang/String;)Z"⟩, 3), (⟨"ChaffInTheWind$Formula", "readComparison", "(LChaffInTheWind$Signs;Ljava/lang/String;I)Z"⟩, 3), (⟨"ChaffInTheWind$Formula", "readSum", "(LChaffInTheWind$Signs;Ljava/lang/String;I)Z"⟩, 3), (⟨"ChaffInTheWind$Formula", "readProduct", "(LChaffInTheWind$Signs;Ljava/lang/String;I)Z"⟩, 3), (⟨"ChaffInTheWind$Formula", "readThing", "(LChaffInTheWind$Signs;Ljava/lang/String;I)Z"⟩, 3), (⟨"ChaffInTheWind$Formula", "readBareThing", "(LChaffInTheWind$Signs;Ljava/lang/String;I)Z"⟩, 3), (⟨"ChaffInTheWind$Formula", "append", "(I)Z"⟩, 3), (⟨"ChaffInTheWind$Market", "settle", "(I)V"⟩, 4), (⟨"ChaffInTheWind$Barn", "leastOf", "(I)I"⟩, 13)]
theorem lw_r2 : ∀ q ∈ lw_privs_2, lw_okq q := List.forall_mem_cons.mpr ⟨lw_p16, List.forall_mem_cons.mpr ⟨lw_p17, List.forall_mem_cons.mpr ⟨lw_p18, List.forall_mem_cons.mpr ⟨lw_p19, List.forall_mem_cons.mpr ⟨lw_p20, List.forall_mem_cons.mpr ⟨lw_p21, List.forall_mem_cons.mpr ⟨lw_p22, List.forall_mem_cons.mpr ⟨lw_p23, List.forall_mem_cons.mpr ⟨lw_p24, List.forall_mem_cons.mpr ⟨lw_p25, List.forall_mem_cons.mpr ⟨lw_p26, List.forall_mem_cons.mpr ⟨lw_p27, List.forall_mem_cons.mpr ⟨lw_p28, List.forall_mem_cons.mpr ⟨lw_p29, List.forall_mem_cons.mpr ⟨lw_p30, List.forall_mem_cons.mpr ⟨lw_p31, fun _ h => absurd h List.not_mem_nil⟩⟩⟩⟩⟩⟩⟩⟩⟩⟩⟩⟩⟩⟩⟩⟩
theorem lw_p32 : lw_okq (⟨"ChaffInTheWind$Barn", "mostOf", "(I)I"⟩, 13) := ⟨⟨by decide +kernel, by decide +kernel⟩, List.mem_of_getElem? (i := 74) (by decide +kernel), List.mem_of_getElem? (i := 585) (by decide +kernel), List.mem_of_getElem? (i := 586) (by decide +kernel)⟩
theorem lw_p33 : lw_okq (⟨"ChaffInTheWind$Barn", "change", "(II)I"⟩, 13) := ⟨⟨by decide +kernel, by decide +kernel⟩, List.mem_of_getElem? (i := 74) (by decide +kernel), List.mem_of_getElem? (i := 589) (by decide +kernel), List.mem_of_getElem? (i := 590) (by decide +kernel)⟩
theorem lw_p34 : lw_okq (⟨"ChaffInTheWind", "isSort", "(I)Z"⟩, 18) := ⟨⟨by decide +kernel, by decide +kernel⟩, List.mem_of_getElem? (i := 26) (by decide +kernel), List.mem_of_getElem? (i := 600) (by decide +kernel), List.mem_of_getElem? (i := 601) (by decide +kernel)⟩
theorem lw_p35 : lw_okq (⟨"ChaffInTheWind", "isYardOrOut", "(I)Z"⟩, 18) := ⟨⟨by decide +kernel, by decide +kernel⟩, List.mem_of_getElem? (i := 26) (by decide +kernel), List.mem_of_getElem? (i := 608) (by decide +kernel), List.mem_of_getElem? (i := 609) (by decide +kernel)⟩
theorem lw_p36 : lw_okq (⟨"ChaffInTheWind", "placeOf", "(I)[I"⟩, 18) := ⟨⟨by decide +kernel, by decide +kernel⟩, List.mem_of_getElem? (i := 26) (by decide +kernel), List.mem_of_getElem? (i := 612) (by decide +kernel), List.mem_of_getElem? (i := 613) (by decide +kernel)⟩
theorem lw_p37 : lw_okq (⟨"ChaffInTheWind$Barn", "isOut", "(I)Z"⟩, 13) := ⟨⟨by decide +kernel, by decide +kernel⟩, List.mem_of_getElem? (i := 74) (by decide +kernel), List.mem_of_getElem? (i := 616) (by decide +kernel), List.mem_of_getElem? (i := 617) (by decide +kernel)⟩
theorem lw_p38 : lw_okq (⟨"ChaffInTheWind", "entry", "(II)I"⟩, 18) := ⟨⟨by decide +kernel, by decide +kernel⟩, List.mem_of_getElem? (i := 26) (by decide +kernel), List.mem_of_getElem? (i := 625) (by decide +kernel), List.mem_of_getElem? (i := 626) (by decide +kernel)⟩
theorem lw_p39 : lw_okq (⟨"ChaffInTheWind$Barn", "land", "(II)I"⟩, 13) := ⟨⟨by decide +kernel, by decide +kernel⟩, List.mem_of_getElem? (i := 74) (by decide +kernel), List.mem_of_getElem? (i := 644) (by decide +kernel), List.mem_of_getElem? (i := 645) (by decide +kernel)⟩
theorem lw_p40 : lw_okq (⟨"ChaffInTheWind$Barn", "throwUp", "(III)V"⟩, 13) := ⟨⟨by decide +kernel, by decide +kernel⟩, List.mem_of_getElem? (i := 74) (by decide +kernel), List.mem_of_getElem? (i := 648) (by decide +kernel), List.mem_of_getElem? (i := 649) (by decide +kernel)⟩
theorem lw_p41 : lw_okq (⟨"ChaffInTheWind$Flight", "start", "(IIII)V"⟩, 8) := ⟨⟨by decide +kernel, by decide +kernel⟩, List.mem_of_getElem? (i := 80) (by decide +kernel), List.mem_of_getElem? (i := 652) (by decide +kernel), List.mem_of_getElem? (i := 653) (by decide +kernel)⟩
theorem lw_p42 : lw_okq (⟨"ChaffInTheWind$Flight", "fall", "(I)V"⟩, 8) := ⟨⟨by decide +kernel, by decide +kernel⟩, List.mem_of_getElem? (i := 80) (by decide +kernel), List.mem_of_getElem? (i := 658) (by decide +kernel), List.mem_of_getElem? (i := 659) (by decide +kernel)⟩
theorem lw_p43 : lw_okq (⟨"ChaffInTheWind$Flight", "tick", "()V"⟩, 8) := ⟨⟨by decide +kernel, by decide +kernel⟩, List.mem_of_getElem? (i := 80) (by decide +kernel), List.mem_of_getElem? (i := 662) (by decide +kernel), List.mem_of_getElem? (i := 663) (by decide +kernel)⟩
theorem lw_p44 : lw_okq (⟨"ChaffInTheWind$Barn", "yardAt", "(I)I"⟩, 13) := ⟨⟨by decide +kernel, by decide +kernel⟩, List.mem_of_getElem? (i := 74) (by decide +kernel), List.mem_of_getElem? (i := 666) (by decide +kernel), List.mem_of_getElem? (i := 667) (by decide +kernel)⟩
theorem lw_p45 : lw_okq (⟨"ChaffInTheWind$Row", "only", "(J)V"⟩, 2) := ⟨⟨by decide +kernel, by decide +kernel⟩, List.mem_of_getElem? (i := 58) (by decide +kernel), List.mem_of_getElem? (i := 674) (by decide +kernel), List.mem_of_getElem? (i := 675) (by decide +kernel)⟩
theorem lw_p46 : lw_okq (⟨"ChaffInTheWind$Row", "add", "(J)V"⟩, 2) := ⟨⟨by decide +kernel, by decide +kernel⟩, List.mem_of_getElem? (i := 58) (by decide +kernel), List.mem_of_getElem? (i := 678) (by decide +kernel), List.mem_of_getElem? (i := 679) (by decide +kernel)⟩
theorem lw_p47 : lw_okq (⟨"ChaffInTheWind", "mostOf", "([I)I"⟩, 18) := ⟨⟨by decide +kernel, by decide +kernel⟩, List.mem_of_getElem? (i := 26) (by decide +kernel), List.mem_of_getElem? (i := 687) (by decide +kernel), List.mem_of_getElem? (i := 688) (by decide +kernel)⟩
def lw_privs_3 : List (MethodName × Nat) := [(⟨"ChaffInTheWind$Barn", "mostOf", "(I)I"⟩, 13), (⟨"ChaffInTheWind$Barn", "change", "(II)I"⟩, 13), (⟨"ChaffInTheWind", "isSort", "(I)Z"⟩, 18), (⟨"ChaffInTheWind", "isYardOrOut", "(I)Z"⟩, 18), (⟨"ChaffInTheWind", "placeOf", "(I)[I"⟩, 18), (⟨"ChaffInTheWind$Barn", "isOut", "(I)Z"⟩, 13), (⟨"ChaffInTheWind", "entry", "(II)I"⟩, 18), (⟨"ChaffInTheWind$Barn", "land", "(II)I"⟩, 13), (⟨"ChaffInTheWind$Barn", "throwUp", "(III)V"⟩, 13), (⟨"ChaffInTheWind$Flight", "start", "(IIII)V"⟩, 8), (⟨"ChaffInTheWind$Flight", "fall", "(I)V"⟩, 8), (⟨"ChaffInTheWind$Flight", "tick", "()V"⟩, 8), (⟨"ChaffInTheWind$Barn", "yardAt", "(I)I"⟩, 13), (⟨"ChaffInTheWind$Row", "only", "(J)V"⟩, 2), (⟨"ChaffInTheWind$Row", "add", "(J)V"⟩, 2), (⟨"ChaffInTheWind", "mostOf", "([I)I"⟩, 18)]
theorem lw_r3 : ∀ q ∈ lw_privs_3, lw_okq q := List.forall_mem_cons.mpr ⟨lw_p32, List.forall_mem_cons.mpr ⟨lw_p33, List.forall_mem_cons.mpr ⟨lw_p34, List.forall_mem_cons.mpr ⟨lw_p35, List.forall_mem_cons.mpr ⟨lw_p36, List.forall_mem_cons.mpr ⟨lw_p37, List.forall_mem_cons.mpr ⟨lw_p38, List.forall_mem_cons.mpr ⟨lw_p39, List.forall_mem_cons.mpr ⟨lw_p40, List.forall_mem_cons.mpr ⟨lw_p41, List.forall_mem_cons.mpr ⟨lw_p42, List.forall_mem_cons.mpr ⟨lw_p43, List.forall_mem_cons.mpr ⟨lw_p44, List.forall_mem_cons.mpr ⟨lw_p45, List.forall_mem_cons.mpr ⟨lw_p46, List.forall_mem_cons.mpr ⟨lw_p47, fun _ h => absurd h List.not_mem_nil⟩⟩⟩⟩⟩⟩⟩⟩⟩⟩⟩⟩⟩⟩⟩⟩
theorem lw_p48 : lw_okq (⟨"ChaffInTheWind", "throwShovel", "([I)I"⟩, 18) := ⟨⟨by decide +kernel, by decide +kernel⟩, List.mem_of_getElem? (i := 26) (by decide +kernel), List.mem_of_getElem? (i := 691) (by decide +kernel), List.mem_of_getElem? (i := 692) (by decide +kernel)⟩
theorem lw_p49 : lw_okq (⟨"ChaffInTheWind", "windOfThrow", "()I"⟩, 18) := ⟨⟨by decide +kernel, by decide +kernel⟩, List.mem_of_getElem? (i := 26) (by decide +kernel), List.mem_of_getElem? (i := 695) (by decide +kernel), List.mem_of_getElem? (i := 696) (by decide +kernel)⟩
theorem lw_p50 : lw_okq (⟨"ChaffInTheWind$Gusts", "lineAt", "(I)I"⟩, 5) := ⟨⟨by decide +kernel, by decide +kernel⟩, List.mem_of_getElem? (i := 206) (by decide +kernel), List.mem_of_getElem? (i := 699) (by decide +kernel), List.mem_of_getElem? (i := 700) (by decide +kernel)⟩
theorem lw_p51 : lw_okq (⟨"ChaffInTheWind$Gusts", "spreadOf", "(I)I"⟩, 5) := ⟨⟨by decide +kernel, by decide +kernel⟩, List.mem_of_getElem? (i := 206) (by decide +kernel), List.mem_of_getElem? (i := 703) (by decide +kernel), List.mem_of_getElem? (i := 704) (by decide +kernel)⟩
theorem lw_p52 : lw_okq (⟨"ChaffInTheWind$Store", "draw", "(I)I"⟩, 6) := ⟨⟨by decide +kernel, by decide +kernel⟩, List.mem_of_getElem? (i := 173) (by decide +kernel), List.mem_of_getElem? (i := 707) (by decide +kernel), List.mem_of_getElem? (i := 708) (by decide +kernel)⟩
theorem lw_p53 : lw_okq (⟨"ChaffInTheWind$Gusts", "windOf", "(I)I"⟩, 5) := ⟨⟨by decide +kernel, by decide +kernel⟩, List.mem_of_getElem? (i := 206) (by decide +kernel), List.mem_of_getElem? (i := 712) (by decide +kernel), List.mem_of_getElem? (i := 713) (by decide +kernel)⟩
theorem lw_p54 : lw_okq (⟨"ChaffInTheWind$Barn", "landing", "(II)I"⟩, 13) := ⟨⟨by decide +kernel, by decide +kernel⟩, List.mem_of_getElem? (i := 74) (by decide +kernel), List.mem_of_getElem? (i := 716) (by decide +kernel), List.mem_of_getElem? (i := 717) (by decide +kernel)⟩
theorem lw_p55 : lw_okq (⟨"ChaffInTheWind$Gusts", "leftAt", "(I)I"⟩, 5) := ⟨⟨by decide +kernel, by decide +kernel⟩, List.mem_of_getElem? (i := 206) (by decide +kernel), List.mem_of_getElem? (i := 725) (by decide +kernel), List.mem_of_getElem? (i := 726) (by decide +kernel)⟩
theorem lw_p56 : lw_okq (⟨"ChaffInTheWind", "areYards", "(II)Z"⟩, 18) := ⟨⟨by decide +kernel, by decide +kernel⟩, List.mem_of_getElem? (i := 26) (by decide +kernel), List.mem_of_getElem? (i := 733) (by decide +kernel), List.mem_of_getElem? (i := 734) (by decide +kernel)⟩
theorem lw_p57 : lw_okq (⟨"ChaffInTheWind", "moveAll", "([I[I)I"⟩, 18) := ⟨⟨by decide +kernel, by decide +kernel⟩, List.mem_of_getElem? (i := 26) (by decide +kernel), List.mem_of_getElem? (i := 737) (by decide +kernel), List.mem_of_getElem? (i := 738) (by decide +kernel)⟩
theorem lw_p58 : lw_okq (⟨"ChaffInTheWind", "move", "(I[I[I)I"⟩, 18) := ⟨⟨by decide +kernel, by decide +kernel⟩, List.mem_of_getElem? (i := 26) (by decide +kernel), List.mem_of_getElem? (i := 741) (by decide +kernel), List.mem_of_getElem? (i := 742) (by decide +kernel)⟩
theorem lw_p59 : lw_okq (⟨"ChaffInTheWind$Market", "flings", "(LChaffInTheWind$Barn;II)Z"⟩, 4) := ⟨⟨by decide +kernel, by decide +kernel⟩, List.mem_of_getElem? (i := 229) (by decide +kernel), List.mem_of_getElem? (i := 763) (by decide +kernel), List.mem_of_getElem? (i := 764) (by decide +kernel)⟩
theorem lw_p60 : lw_okq (⟨"ChaffInTheWind$Market", "isTold", "(I)Z"⟩, 4) := ⟨⟨by decide +kernel, by decide +kernel⟩, List.mem_of_getElem? (i := 229) (by decide +kernel), List.mem_of_getElem? (i := 767) (by decide +kernel), List.mem_of_getElem? (i := 768) (by decide +kernel)⟩
theorem lw_p61 : lw_okq (⟨"ChaffInTheWind$Formula", "value", "([I)I"⟩, 3) := ⟨⟨by decide +kernel, by decide +kernel⟩, List.mem_of_getElem? (i := 236) (by decide +kernel), List.mem_of_getElem? (i := 771) (by decide +kernel), List.mem_of_getElem? (i := 772) (by decide +kernel)⟩
theorem lw_p62 : lw_okq (⟨"ChaffInTheWind$Row", "clear", "()V"⟩, 2) := ⟨⟨by decide +kernel, by decide +kernel⟩, List.mem_of_getElem? (i := 58) (by decide +kernel), List.mem_of_getElem? (i := 788) (by decide +kernel), List.mem_of_getElem? (i := 789) (by decide +kernel)⟩
theorem lw_p63 : lw_okq (⟨"ChaffInTheWind$Barn", "isCorn", "(I)Z"⟩, 13) := ⟨⟨by decide +kernel, by decide +kernel⟩, List.mem_of_getElem? (i := 74) (by decide +kernel), List.mem_of_getElem? (i := 796) (by decide +kernel), List.mem_of_getElem? (i := 797) (by decide +kernel)⟩
def lw_privs_4 : List (MethodName × Nat) := [(⟨"ChaffInTheWind", "throwShovel", "([I)I"⟩, 18), (⟨"ChaffInTheWind", "windOfThrow", "()I"⟩, 18), (⟨"ChaffInTheWind$Gusts", "lineAt", "(I)I"⟩, 5), (⟨"ChaffInTheWind$Gusts", "spreadOf", "(I)I"⟩, 5), (⟨"ChaffInTheWind$Store", "draw", "(I)I"⟩, 6), (⟨"ChaffInTheWind$Gusts", "windOf", "(I)I"⟩, 5), (⟨"ChaffInTheWind$Barn", "landing", "(II)I"⟩, 13), (⟨"ChaffInTheWind$Gusts", "leftAt", "(I)I"⟩, 5), (⟨"ChaffInTheWind", "areYards", "(II)Z"⟩, 18), (⟨"ChaffInTheWind", "moveAll", "([I[I)I"⟩, 18), (⟨"ChaffInTheWind", "move", "(I[I[I)I"⟩, 18), (⟨"ChaffInTheWind$Market", "flings", "(LChaffInTheWind$Barn;II)Z"⟩, 4), (⟨"ChaffInTheWind$Market", "isTold", "(I)Z"⟩, 4), (⟨"ChaffInTheWind$Formula", "value", "([I)I"⟩, 3), (⟨"ChaffInTheWind$Row", "clear", "()V"⟩, 2), (⟨"ChaffInTheWind$Barn", "isCorn", "(I)Z"⟩, 13)]
theorem lw_r4 : ∀ q ∈ lw_privs_4, lw_okq q := List.forall_mem_cons.mpr ⟨lw_p48, List.forall_mem_cons.mpr ⟨lw_p49, List.forall_mem_cons.mpr ⟨lw_p50, List.forall_mem_cons.mpr ⟨lw_p51, List.forall_mem_cons.mpr ⟨lw_p52, List.forall_mem_cons.mpr ⟨lw_p53, List.forall_mem_cons.mpr ⟨lw_p54, List.forall_mem_cons.mpr ⟨lw_p55, List.forall_mem_cons.mpr ⟨lw_p56, List.forall_mem_cons.mpr ⟨lw_p57, List.forall_mem_cons.mpr ⟨lw_p58, List.forall_mem_cons.mpr ⟨lw_p59, List.forall_mem_cons.mpr ⟨lw_p60, List.forall_mem_cons.mpr ⟨lw_p61, List.forall_mem_cons.mpr ⟨lw_p62, List.forall_mem_cons.mpr ⟨lw_p63, fun _ h => absurd h List.not_mem_nil⟩⟩⟩⟩⟩⟩⟩⟩⟩⟩⟩⟩⟩⟩⟩⟩
theorem lw_p64 : lw_okq (⟨"ChaffInTheWind", "landAlike", "(II)Z"⟩, 18) := ⟨⟨by decide +kernel, by decide +kernel⟩, List.mem_of_getElem? (i := 26) (by decide +kernel), List.mem_of_getElem? (i := 800) (by decide +kernel), List.mem_of_getElem? (i := 801) (by decide +kernel)⟩
theorem lw_p65 : lw_okq (⟨"ChaffInTheWind", "landAll", "(I)V"⟩, 18) := ⟨⟨by decide +kernel, by decide +kernel⟩, List.mem_of_getElem? (i := 26) (by decide +kernel), List.mem_of_getElem? (i := 808) (by decide +kernel), List.mem_of_getElem? (i := 809) (by decide +kernel)⟩
theorem lw_p66 : lw_okq (⟨"ChaffInTheWind", "cleanCorn", "([I[I)I"⟩, 18) := ⟨⟨by decide +kernel, by decide +kernel⟩, List.mem_of_getElem? (i := 26) (by decide +kernel), List.mem_of_getElem? (i := 812) (by decide +kernel), List.mem_of_getElem? (i := 813) (by decide +kernel)⟩
theorem lw_p67 : lw_okq (⟨"ChaffInTheWind", "isSoiled", "([I[II)Z"⟩, 18) := ⟨⟨by decide +kernel, by decide +kernel⟩, List.mem_of_getElem? (i := 26) (by decide +kernel), List.mem_of_getElem? (i := 816) (by decide +kernel), List.mem_of_getElem? (i := 817) (by decide +kernel)⟩
theorem lw_p68 : lw_okq (⟨"ChaffInTheWind", "cornOut", "([I)I"⟩, 18) := ⟨⟨by decide +kernel, by decide +kernel⟩, List.mem_of_getElem? (i := 26) (by decide +kernel), List.mem_of_getElem? (i := 820) (by decide +kernel), List.mem_of_getElem? (i := 821) (by decide +kernel)⟩
theorem lw_p69 : lw_okq (⟨"ChaffInTheWind", "landFromHeights", "(II)V"⟩, 18) := ⟨⟨by decide +kernel, by decide +kernel⟩, List.mem_of_getElem? (i := 26) (by decide +kernel), List.mem_of_getElem? (i := 828) (by decide +kernel), List.mem_of_getElem? (i := 829) (by decide +kernel)⟩
theorem lw_p70 : lw_okq (⟨"ChaffInTheWind", "chaffWithCorn", "([I)I"⟩, 18) := ⟨⟨by decide +kernel, by decide +kernel⟩, List.mem_of_getElem? (i := 26) (by decide +kernel), List.mem_of_getElem? (i := 842) (by decide +kernel), List.mem_of_getElem? (i := 843) (by decide +kernel)⟩
theorem lw_p71 : lw_okq (⟨"ChaffInTheWind", "cornLandsIn", "([II)Z"⟩, 18) := ⟨⟨by decide +kernel, by decide +kernel⟩, List.mem_of_getElem? (i := 26) (by decide +kernel), List.mem_of_getElem? (i := 846) (by decide +kernel), List.mem_of_getElem? (i := 847) (by decide +kernel)⟩
theorem lw_p72 : lw_okq (⟨"ChaffInTheWind", "tellFraction", "(JJ)V"⟩, 18) := ⟨⟨by decide +kernel, by decide +kernel⟩, List.mem_of_getElem? (i := 26) (by decide +kernel), List.mem_of_getElem? (i := 858) (by decide +kernel), List.mem_of_getElem? (i := 859) (by decide +kernel)⟩
theorem lw_p73 : lw_okq (⟨"ChaffInTheWind$Market", "worthOf", "(LChaffInTheWind$Barn;[I)I"⟩, 4) := ⟨⟨by decide +kernel, by decide +kernel⟩, List.mem_of_getElem? (i := 229) (by decide +kernel), List.mem_of_getElem? (i := 877) (by decide +kernel), List.mem_of_getElem? (i := 878) (by decide +kernel)⟩
theorem lw_p74 : lw_okq (⟨"ChaffInTheWind$Market", "weigh", "(LChaffInTheWind$Barn;[I)V"⟩, 4) := ⟨⟨by decide +kernel, by decide +kernel⟩, List.mem_of_getElem? (i := 229) (by decide +kernel), List.mem_of_getElem? (i := 881) (by decide +kernel), List.mem_of_getElem? (i := 882) (by decide +kernel)⟩
theorem lw_p75 : lw_okq (⟨"ChaffInTheWind$Market", "valueOf", "(I)I"⟩, 4) := ⟨⟨by decide +kernel, by decide +kernel⟩, List.mem_of_getElem? (i := 229) (by decide +kernel), List.mem_of_getElem? (i := 887) (by decide +kernel), List.mem_of_getElem? (i := 888) (by decide +kernel)⟩
theorem lw_p76 : lw_okq (⟨"ChaffInTheWind", "weighYards", "()V"⟩, 18) := ⟨⟨by decide +kernel, by decide +kernel⟩, List.mem_of_getElem? (i := 26) (by decide +kernel), List.mem_of_getElem? (i := 898) (by decide +kernel), List.mem_of_getElem? (i := 899) (by decide +kernel)⟩
theorem lw_p77 : lw_okq (⟨"ChaffInTheWind", "weighMarks", "(I)V"⟩, 18) := ⟨⟨by decide +kernel, by decide +kernel⟩, List.mem_of_getElem? (i := 26) (by decide +kernel), List.mem_of_getElem? (i := 902) (by decide +kernel), List.mem_of_getElem? (i := 903) (by decide +kernel)⟩
theorem lw_p78 : lw_okq (⟨"ChaffInTheWind", "firstMark", "(II)I"⟩, 18) := ⟨⟨by decide +kernel, by decide +kernel⟩, List.mem_of_getElem? (i := 26) (by decide +kernel), List.mem_of_getElem? (i := 906) (by decide +kernel), List.mem_of_getElem? (i := 907) (by decide +kernel)⟩
theorem lw_p79 : lw_okq (⟨"ChaffInTheWind", "worthParted", "(III)I"⟩, 18) := ⟨⟨by decide +kernel, by decide +kernel⟩, List.mem_of_getElem? (i := 26) (by decide +kernel), List.mem_of_getElem? (i := 910) (by decide +kernel), List.mem_of_getElem? (i := 911) (by decide +kernel)⟩
def lw_privs_5 : List (MethodName × Nat) := [(⟨"ChaffInTheWind", "landAlike", "(II)Z"⟩, 18), (⟨"ChaffInTheWind", "landAll", "(I)V"⟩, 18), (⟨"ChaffInTheWind", "cleanCorn", "([I[I)I"⟩, 18), (⟨"ChaffInTheWind", "isSoiled", "([I[II)Z"⟩, 18), (⟨"ChaffInTheWind", "cornOut", "([I)I"⟩, 18), (⟨"ChaffInTheWind", "landFromHeights", "(II)V"⟩, 18), (⟨"ChaffInTheWind", "chaffWithCorn", "([I)I"⟩, 18), (⟨"ChaffInTheWind", "cornLandsIn", "([II)Z"⟩, 18), (⟨"ChaffInTheWind", "tellFraction", "(JJ)V"⟩, 18), (⟨"ChaffInTheWind$Market", "worthOf", "(LChaffInTheWind$Barn;[I)I"⟩, 4), (⟨"ChaffInTheWind$Market", "weigh", "(LChaffInTheWind$Barn;[I)V"⟩, 4), (⟨"ChaffInTheWind$Market", "valueOf", "(I)I"⟩, 4), (⟨"ChaffInTheWind", "weighYards", "()V"⟩, 18), (⟨"ChaffInTheWind", "weighMarks", "(I)V"⟩, 18), (⟨"ChaffInTheWind", "firstMark", "(II)I"⟩, 18), (⟨"ChaffInTheWind", "worthParted", "(III)I"⟩, 18)]
theorem lw_r5 : ∀ q ∈ lw_privs_5, lw_okq q := List.forall_mem_cons.mpr ⟨lw_p64, List.forall_mem_cons.mpr ⟨lw_p65, List.forall_mem_cons.mpr ⟨lw_p66, List.forall_mem_cons.mpr ⟨lw_p67, List.forall_mem_cons.mpr ⟨lw_p68, List.forall_mem_cons.mpr ⟨lw_p69, List.forall_mem_cons.mpr ⟨lw_p70, List.forall_mem_cons.mpr ⟨lw_p71, List.forall_mem_cons.mpr ⟨lw_p72, List.forall_mem_cons.mpr ⟨lw_p73, List.forall_mem_cons.mpr ⟨lw_p74, List.forall_mem_cons.mpr ⟨lw_p75, List.forall_mem_cons.mpr ⟨lw_p76, List.forall_mem_cons.mpr ⟨lw_p77, List.forall_mem_cons.mpr ⟨lw_p78, List.forall_mem_cons.mpr ⟨lw_p79, fun _ h => absurd h List.not_mem_nil⟩⟩⟩⟩⟩⟩⟩⟩⟩⟩⟩⟩⟩⟩⟩⟩
theorem lw_p80 : lw_okq (⟨"ChaffInTheWind", "pick", "([IIZ)J"⟩, 18) := ⟨⟨by decide +kernel, by decide +kernel⟩, List.mem_of_getElem? (i := 26) (by decide +kernel), List.mem_of_getElem? (i := 928) (by decide +kernel), List.mem_of_getElem? (i := 929) (by decide +kernel)⟩
theorem lw_p81 : lw_okq (⟨"ChaffInTheWind", "nextToPick", "([IZ)I"⟩, 18) := ⟨⟨by decide +kernel, by decide +kernel⟩, List.mem_of_getElem? (i := 26) (by decide +kernel), List.mem_of_getElem? (i := 932) (by decide +kernel), List.mem_of_getElem? (i := 933) (by decide +kernel)⟩
theorem lw_p82 : lw_okq (⟨"ChaffInTheWind", "isAhead", "(IIZ)Z"⟩, 18) := ⟨⟨by decide +kernel, by decide +kernel⟩, List.mem_of_getElem? (i := 26) (by decide +kernel), List.mem_of_getElem? (i := 936) (by decide +kernel), List.mem_of_getElem? (i := 937) (by decide +kernel)⟩
theorem lw_p83 : lw_okq (⟨"ChaffInTheWind", "worthWithout", "([II)I"⟩, 18) := ⟨⟨by decide +kernel, by decide +kernel⟩, List.mem_of_getElem? (i := 26) (by decide +kernel), List.mem_of_getElem? (i := 944) (by decide +kernel), List.mem_of_getElem? (i := 945) (by decide +kernel)⟩
theorem lw_p84 : lw_okq (⟨"ChaffInTheWind", "stayingIn", "(LChaffInTheWind$Pass;)I"⟩, 18) := ⟨⟨by decide +kernel, by decide +kernel⟩, List.mem_of_getElem? (i := 26) (by decide +kernel), List.mem_of_getElem? (i := 993) (by decide +kernel), List.mem_of_getElem? (i := 994) (by decide +kernel)⟩
theorem lw_p85 : lw_okq (⟨"ChaffInTheWind$Pass", "catches", "(I)Z"⟩, 6) := ⟨⟨by decide +kernel, by decide +kernel⟩, List.mem_of_getElem? (i := 955) (by decide +kernel), List.mem_of_getElem? (i := 997) (by decide +kernel), List.mem_of_getElem? (i := 998) (by decide +kernel)⟩
theorem lw_p86 : lw_okq (⟨"ChaffInTheWind$Pass", "holds", "(I)Z"⟩, 6) := ⟨⟨by decide +kernel, by decide +kernel⟩, List.mem_of_getElem? (i := 955) (by decide +kernel), List.mem_of_getElem? (i := 1001) (by decide +kernel), List.mem_of_getElem? (i := 1002) (by decide +kernel)⟩
theorem lw_p87 : lw_okq (⟨"ChaffInTheWind", "canOrder", "(III)Z"⟩, 18) := ⟨⟨by decide +kernel, by decide +kernel⟩, List.mem_of_getElem? (i := 26) (by decide +kernel), List.mem_of_getElem? (i := 1009) (by decide +kernel), List.mem_of_getElem? (i := 1010) (by decide +kernel)⟩
theorem lw_p88 : lw_okq (⟨"ChaffInTheWind", "hasCorn", "([I)Z"⟩, 18) := ⟨⟨by decide +kernel, by decide +kernel⟩, List.mem_of_getElem? (i := 26) (by decide +kernel), List.mem_of_getElem? (i := 1016) (by decide +kernel), List.mem_of_getElem? (i := 1017) (by decide +kernel)⟩
theorem lw_p89 : lw_okq (⟨"ChaffInTheWind", "fewestPasses", "([III)I"⟩, 18) := ⟨⟨by decide +kernel, by decide +kernel⟩, List.mem_of_getElem? (i := 26) (by decide +kernel), List.mem_of_getElem? (i := 1020) (by decide +kernel), List.mem_of_getElem? (i := 1021) (by decide +kernel)⟩
theorem lw_p90 : lw_okq (⟨"ChaffInTheWind", "does", "([IIII)Z"⟩, 18) := ⟨⟨by decide +kernel, by decide +kernel⟩, List.mem_of_getElem? (i := 26) (by decide +kernel), List.mem_of_getElem? (i := 1024) (by decide +kernel), List.mem_of_getElem? (i := 1025) (by decide +kernel)⟩
theorem lw_p91 : lw_okq (⟨"ChaffInTheWind", "sortsLeft", "(I)I"⟩, 18) := ⟨⟨by decide +kernel, by decide +kernel⟩, List.mem_of_getElem? (i := 26) (by decide +kernel), List.mem_of_getElem? (i := 1028) (by decide +kernel), List.mem_of_getElem? (i := 1029) (by decide +kernel)⟩
theorem lw_p92 : lw_okq (⟨"ChaffInTheWind", "isBetter", "([III)Z"⟩, 18) := ⟨⟨by decide +kernel, by decide +kernel⟩, List.mem_of_getElem? (i := 26) (by decide +kernel), List.mem_of_getElem? (i := 1033) (by decide +kernel), List.mem_of_getElem? (i := 1034) (by decide +kernel)⟩
theorem lw_p93 : lw_okq (⟨"ChaffInTheWind", "grainsLeft", "([II)I"⟩, 18) := ⟨⟨by decide +kernel, by decide +kernel⟩, List.mem_of_getElem? (i := 26) (by decide +kernel), List.mem_of_getElem? (i := 1043) (by decide +kernel), List.mem_of_getElem? (i := 1044) (by decide +kernel)⟩
theorem lw_p94 : lw_okq (⟨"ChaffInTheWind", "strokesFlinging", "(I)I"⟩, 18) := ⟨⟨by decide +kernel, by decide +kernel⟩, List.mem_of_getElem? (i := 26) (by decide +kernel), List.mem_of_getElem? (i := 1055) (by decide +kernel), List.mem_of_getElem? (i := 1056) (by decide +kernel)⟩
theorem lw_p95 : lw_okq (⟨"ChaffInTheWind", "cornOf", "([I)I"⟩, 18) := ⟨⟨by decide +kernel, by decide +kernel⟩, List.mem_of_getElem? (i := 26) (by decide +kernel), List.mem_of_getElem? (i := 1079) (by decide +kernel), List.mem_of_getElem? (i := 1080) (by decide +kernel)⟩
def lw_privs_6 : List (MethodName × Nat) := [(⟨"ChaffInTheWind", "pick", "([IIZ)J"⟩, 18), (⟨"ChaffInTheWind", "nextToPick", "([IZ)I"⟩, 18), (⟨"ChaffInTheWind", "isAhead", "(IIZ)Z"⟩, 18), (⟨"ChaffInTheWind", "worthWithout", "([II)I"⟩, 18), (⟨"ChaffInTheWind", "stayingIn", "(LChaffInTheWind$Pass;)I"⟩, 18), (⟨"ChaffInTheWind$Pass", "catches", "(I)Z"⟩, 6), (⟨"ChaffInTheWind$Pass", "holds", "(I)Z"⟩, 6), (⟨"ChaffInTheWind", "canOrder", "(III)Z"⟩, 18), (⟨"ChaffInTheWind", "hasCorn", "([I)Z"⟩, 18), (⟨"ChaffInTheWind", "fewestPasses", "([III)I"⟩, 18), (⟨"ChaffInTheWind", "does", "([IIII)Z"⟩, 18), (⟨"ChaffInTheWind", "sortsLeft", "(I)I"⟩, 18), (⟨"ChaffInTheWind", "isBetter", "([III)Z"⟩, 18), (⟨"ChaffInTheWind", "grainsLeft", "([II)I"⟩, 18), (⟨"ChaffInTheWind", "strokesFlinging", "(I)I"⟩, 18), (⟨"ChaffInTheWind", "cornOf", "([I)I"⟩, 18)]
theorem lw_r6 : ∀ q ∈ lw_privs_6, lw_okq q := List.forall_mem_cons.mpr ⟨lw_p80, List.forall_mem_cons.mpr ⟨lw_p81, List.forall_mem_cons.mpr ⟨lw_p82, List.forall_mem_cons.mpr ⟨lw_p83, List.forall_mem_cons.mpr ⟨lw_p84, List.forall_mem_cons.mpr ⟨lw_p85, List.forall_mem_cons.mpr ⟨lw_p86, List.forall_mem_cons.mpr ⟨lw_p87, List.forall_mem_cons.mpr ⟨lw_p88, List.forall_mem_cons.mpr ⟨lw_p89, List.forall_mem_cons.mpr ⟨lw_p90, List.forall_mem_cons.mpr ⟨lw_p91, List.forall_mem_cons.mpr ⟨lw_p92, List.forall_mem_cons.mpr ⟨lw_p93, List.forall_mem_cons.mpr ⟨lw_p94, List.forall_mem_cons.mpr ⟨lw_p95, fun _ h => absurd h List.not_mem_nil⟩⟩⟩⟩⟩⟩⟩⟩⟩⟩⟩⟩⟩⟩⟩⟩
theorem lw_p96 : lw_okq (⟨"ChaffInTheWind$Store", "copyOf", "(LChaffInTheWind$Store;)V"⟩, 6) := ⟨⟨by decide +kernel, by decide +kernel⟩, List.mem_of_getElem? (i := 173) (by decide +kernel), List.mem_of_getElem? (i := 1098) (by decide +kernel), List.mem_of_getElem? (i := 1099) (by decide +kernel)⟩
theorem lw_p97 : lw_okq (⟨"ChaffInTheWind$Market", "told", "()I"⟩, 4) := ⟨⟨by decide +kernel, by decide +kernel⟩, List.mem_of_getElem? (i := 229) (by decide +kernel), List.mem_of_getElem? (i := 1111) (by decide +kernel), List.mem_of_getElem? (i := 1112) (by decide +kernel)⟩
theorem lw_p98 : lw_okq (⟨"java/lang/Throwable", "fillInStackTrace", "(I)Ljava/lang/Throwable;"⟩, 6) := ⟨⟨by decide +kernel, by decide +kernel⟩, List.mem_of_getElem? (i := 1162) (by decide +kernel), List.mem_of_getElem? (i := 1160) (by decide +kernel), List.mem_of_getElem? (i := 1161) (by decide +kernel)⟩
theorem lw_p99 : lw_okq (⟨"ChaffInTheWindModel", "begin", "([BII)V"⟩, 56) := ⟨⟨by decide +kernel, by decide +kernel⟩, List.mem_of_getElem? (i := 1204) (by decide +kernel), List.mem_of_getElem? (i := 1401) (by decide +kernel), List.mem_of_getElem? (i := 1402) (by decide +kernel)⟩
theorem lw_p100 : lw_okq (⟨"ChaffInTheWindModel", "fine", "()Z"⟩, 56) := ⟨⟨by decide +kernel, by decide +kernel⟩, List.mem_of_getElem? (i := 1204) (by decide +kernel), List.mem_of_getElem? (i := 1405) (by decide +kernel), List.mem_of_getElem? (i := 1406) (by decide +kernel)⟩
theorem lw_p101 : lw_okq (⟨"ChaffInTheWindModel", "here", "()I"⟩, 56) := ⟨⟨by decide +kernel, by decide +kernel⟩, List.mem_of_getElem? (i := 1204) (by decide +kernel), List.mem_of_getElem? (i := 1409) (by decide +kernel), List.mem_of_getElem? (i := 1410) (by decide +kernel)⟩
theorem lw_p102 : lw_okq (⟨"ChaffInTheWindModel", "number", "(III)I"⟩, 56) := ⟨⟨by decide +kernel, by decide +kernel⟩, List.mem_of_getElem? (i := 1204) (by decide +kernel), List.mem_of_getElem? (i := 1413) (by decide +kernel), List.mem_of_getElem? (i := 1414) (by decide +kernel)⟩
theorem lw_p103 : lw_okq (⟨"ChaffInTheWindModel", "fault", "(I)V"⟩, 56) := ⟨⟨by decide +kernel, by decide +kernel⟩, List.mem_of_getElem? (i := 1204) (by decide +kernel), List.mem_of_getElem? (i := 1417) (by decide +kernel), List.mem_of_getElem? (i := 1418) (by decide +kernel)⟩
theorem lw_p104 : lw_okq (⟨"ChaffInTheWindModel", "need", "(C)V"⟩, 56) := ⟨⟨by decide +kernel, by decide +kernel⟩, List.mem_of_getElem? (i := 1204) (by decide +kernel), List.mem_of_getElem? (i := 1421) (by decide +kernel), List.mem_of_getElem? (i := 1422) (by decide +kernel)⟩
theorem lw_p105 : lw_okq (⟨"ChaffInTheWindModel", "passes", "(C)Z"⟩, 56) := ⟨⟨by decide +kernel, by decide +kernel⟩, List.mem_of_getElem? (i := 1204) (by decide +kernel), List.mem_of_getElem? (i := 1425) (by decide +kernel), List.mem_of_getElem? (i := 1426) (by decide +kernel)⟩
theorem lw_p106 : lw_okq (⟨"ChaffInTheWindModel", "clear", "(I)V"⟩, 56) := ⟨⟨by decide +kernel, by decide +kernel⟩, List.mem_of_getElem? (i := 1204) (by decide +kernel), List.mem_of_getElem? (i := 1432) (by decide +kernel), List.mem_of_getElem? (i := 1433) (by decide +kernel)⟩
theorem lw_p107 : lw_okq (⟨"ChaffInTheWindModel", "held", "(I)I"⟩, 56) := ⟨⟨by decide +kernel, by decide +kernel⟩, List.mem_of_getElem? (i := 1204) (by decide +kernel), List.mem_of_getElem? (i := 1445) (by decide +kernel), List.mem_of_getElem? (i := 1446) (by decide +kernel)⟩
theorem lw_p108 : lw_okq (⟨"ChaffInTheWindModel", "sum", "(I)I"⟩, 56) := ⟨⟨by decide +kernel, by decide +kernel⟩, List.mem_of_getElem? (i := 1204) (by decide +kernel), List.mem_of_getElem? (i := 1449) (by decide +kernel), List.mem_of_getElem? (i := 1450) (by decide +kernel)⟩
theorem lw_p109 : lw_okq (⟨"ChaffInTheWindModel", "product", "(I)I"⟩, 56) := ⟨⟨by decide +kernel, by decide +kernel⟩, List.mem_of_getElem? (i := 1204) (by decide +kernel), List.mem_of_getElem? (i := 1453) (by decide +kernel), List.mem_of_getElem? (i := 1454) (by decide +kernel)⟩
theorem lw_p110 : lw_okq (⟨"ChaffInTheWindModel", "thing", "(I)I"⟩, 56) := ⟨⟨by decide +kernel, by decide +kernel⟩, List.mem_of_getElem? (i := 1204) (by decide +kernel), List.mem_of_getElem? (i := 1457) (by decide +kernel), List.mem_of_getElem? (i := 1458) (by decide +kernel)⟩
theorem lw_p111 : lw_okq (⟨"ChaffInTheWindModel", "ofSort", "(C)I"⟩, 56) := ⟨⟨by decide +kernel, by decide +kernel⟩, List.mem_of_getElem? (i := 1204) (by decide +kernel), List.mem_of_getElem? (i := 1461) (by decide +kernel), List.mem_of_getElem? (i := 1462) (by decide +kernel)⟩
def lw_privs_7 : List (MethodName × Nat) := [(⟨"ChaffInTheWind$Store", "copyOf", "(LChaffInTheWind$Store;)V"⟩, 6), (⟨"ChaffInTheWind$Market", "told", "()I"⟩, 4), (⟨"java/lang/Throwable", "fillInStackTrace", "(I)Ljava/lang/Throwable;"⟩, 6), (⟨"ChaffInTheWindModel", "begin", "([BII)V"⟩, 56), (⟨"ChaffInTheWindModel", "fine", "()Z"⟩, 56), (⟨"ChaffInTheWindModel", "here", "()I"⟩, 56), (⟨"ChaffInTheWindModel", "number", "(III)I"⟩, 56), (⟨"ChaffInTheWindModel", "fault", "(I)V"⟩, 56), (⟨"ChaffInTheWindModel", "need", "(C)V"⟩, 56), (⟨"ChaffInTheWindModel", "passes", "(C)Z"⟩, 56), (⟨"ChaffInTheWindModel", "clear", "(I)V"⟩, 56), (⟨"ChaffInTheWindModel", "held", "(I)I"⟩, 56), (⟨"ChaffInTheWindModel", "sum", "(I)I"⟩, 56), (⟨"ChaffInTheWindModel", "product", "(I)I"⟩, 56), (⟨"ChaffInTheWindModel", "thing", "(I)I"⟩, 56), (⟨"ChaffInTheWindModel", "ofSort", "(C)I"⟩, 56)]
theorem lw_r7 : ∀ q ∈ lw_privs_7, lw_okq q := List.forall_mem_cons.mpr ⟨lw_p96, List.forall_mem_cons.mpr ⟨lw_p97, List.forall_mem_cons.mpr ⟨lw_p98, List.forall_mem_cons.mpr ⟨lw_p99, List.forall_mem_cons.mpr ⟨lw_p100, List.forall_mem_cons.mpr ⟨lw_p101, List.forall_mem_cons.mpr ⟨lw_p102, List.forall_mem_cons.mpr ⟨lw_p103, List.forall_mem_cons.mpr ⟨lw_p104, List.forall_mem_cons.mpr ⟨lw_p105, List.forall_mem_cons.mpr ⟨lw_p106, List.forall_mem_cons.mpr ⟨lw_p107, List.forall_mem_cons.mpr ⟨lw_p108, List.forall_mem_cons.mpr ⟨lw_p109, List.forall_mem_cons.mpr ⟨lw_p110, List.forall_mem_cons.mpr ⟨lw_p111, fun _ h => absurd h List.not_mem_nil⟩⟩⟩⟩⟩⟩⟩⟩⟩⟩⟩⟩⟩⟩⟩⟩
theorem lw_p112 : lw_okq (⟨"ChaffInTheWindModel", "ofHeap", "(C)I"⟩, 56) := ⟨⟨by decide +kernel, by decide +kernel⟩, List.mem_of_getElem? (i := 1204) (by decide +kernel), List.mem_of_getElem? (i := 1465) (by decide +kernel), List.mem_of_getElem? (i := 1466) (by decide +kernel)⟩
theorem lw_p113 : lw_okq (⟨"ChaffInTheWindModel", "heavyOf", "(I)I"⟩, 56) := ⟨⟨by decide +kernel, by decide +kernel⟩, List.mem_of_getElem? (i := 1204) (by decide +kernel), List.mem_of_getElem? (i := 1469) (by decide +kernel), List.mem_of_getElem? (i := 1470) (by decide +kernel)⟩
theorem lw_p114 : lw_okq (⟨"ChaffInTheWindModel", "isSort", "(I)Z"⟩, 56) := ⟨⟨by decide +kernel, by decide +kernel⟩, List.mem_of_getElem? (i := 1204) (by decide +kernel), List.mem_of_getElem? (i := 1481) (by decide +kernel), List.mem_of_getElem? (i := 1482) (by decide +kernel)⟩
theorem lw_p115 : lw_okq (⟨"ChaffInTheWindModel", "lost", "()I"⟩, 56) := ⟨⟨by decide +kernel, by decide +kernel⟩, List.mem_of_getElem? (i := 1204) (by decide +kernel), List.mem_of_getElem? (i := 1485) (by decide +kernel), List.mem_of_getElem? (i := 1486) (by decide +kernel)⟩
theorem lw_p116 : lw_okq (⟨"ChaffInTheWindModel", "landsNow", "(II)I"⟩, 56) := ⟨⟨by decide +kernel, by decide +kernel⟩, List.mem_of_getElem? (i := 1204) (by decide +kernel), List.mem_of_getElem? (i := 1512) (by decide +kernel), List.mem_of_getElem? (i := 1513) (by decide +kernel)⟩
theorem lw_p117 : lw_okq (⟨"ChaffInTheWindModel", "landsIn", "(IIII)I"⟩, 56) := ⟨⟨by decide +kernel, by decide +kernel⟩, List.mem_of_getElem? (i := 1204) (by decide +kernel), List.mem_of_getElem? (i := 1516) (by decide +kernel), List.mem_of_getElem? (i := 1517) (by decide +kernel)⟩
theorem lw_p118 : lw_okq (⟨"ChaffInTheWindModel", "tell", "(J)V"⟩, 56) := ⟨⟨by decide +kernel, by decide +kernel⟩, List.mem_of_getElem? (i := 1204) (by decide +kernel), List.mem_of_getElem? (i := 1521) (by decide +kernel), List.mem_of_getElem? (i := 1522) (by decide +kernel)⟩
theorem lw_p119 : lw_okq (⟨"ChaffInTheWindModel", "grainsOf", "(I)I"⟩, 56) := ⟨⟨by decide +kernel, by decide +kernel⟩, List.mem_of_getElem? (i := 1204) (by decide +kernel), List.mem_of_getElem? (i := 1529) (by decide +kernel), List.mem_of_getElem? (i := 1530) (by decide +kernel)⟩
theorem lw_p120 : lw_okq (⟨"ChaffInTheWindModel", "lineNow", "()I"⟩, 56) := ⟨⟨by decide +kernel, by decide +kernel⟩, List.mem_of_getElem? (i := 1204) (by decide +kernel), List.mem_of_getElem? (i := 1533) (by decide +kernel), List.mem_of_getElem? (i := 1534) (by decide +kernel)⟩
theorem lw_p121 : lw_okq (⟨"ChaffInTheWindModel", "draw", "(I)I"⟩, 56) := ⟨⟨by decide +kernel, by decide +kernel⟩, List.mem_of_getElem? (i := 1204) (by decide +kernel), List.mem_of_getElem? (i := 1537) (by decide +kernel), List.mem_of_getElem? (i := 1538) (by decide +kernel)⟩
theorem lw_p122 : lw_okq (⟨"ChaffInTheWindModel", "mostSort", "(I)I"⟩, 56) := ⟨⟨by decide +kernel, by decide +kernel⟩, List.mem_of_getElem? (i := 1204) (by decide +kernel), List.mem_of_getElem? (i := 1542) (by decide +kernel), List.mem_of_getElem? (i := 1543) (by decide +kernel)⟩
theorem lw_p123 : lw_okq (⟨"ChaffInTheWindModel", "isYard", "(I)Z"⟩, 56) := ⟨⟨by decide +kernel, by decide +kernel⟩, List.mem_of_getElem? (i := 1204) (by decide +kernel), List.mem_of_getElem? (i := 1554) (by decide +kernel), List.mem_of_getElem? (i := 1555) (by decide +kernel)⟩
theorem lw_p124 : lw_okq (⟨"ChaffInTheWindModel", "move", "(II)I"⟩, 56) := ⟨⟨by decide +kernel, by decide +kernel⟩, List.mem_of_getElem? (i := 1204) (by decide +kernel), List.mem_of_getElem? (i := 1558) (by decide +kernel), List.mem_of_getElem? (i := 1559) (by decide +kernel)⟩
theorem lw_p125 : lw_okq (⟨"ChaffInTheWindModel", "moveSort", "(III)I"⟩, 56) := ⟨⟨by decide +kernel, by decide +kernel⟩, List.mem_of_getElem? (i := 1204) (by decide +kernel), List.mem_of_getElem? (i := 1562) (by decide +kernel), List.mem_of_getElem? (i := 1563) (by decide +kernel)⟩
theorem lw_p126 : lw_okq (⟨"ChaffInTheWindModel", "isFlung", "(II)Z"⟩, 56) := ⟨⟨by decide +kernel, by decide +kernel⟩, List.mem_of_getElem? (i := 1204) (by decide +kernel), List.mem_of_getElem? (i := 1578) (by decide +kernel), List.mem_of_getElem? (i := 1579) (by decide +kernel)⟩
theorem lw_p127 : lw_okq (⟨"ChaffInTheWindModel", "isParted", "(II)Z"⟩, 56) := ⟨⟨by decide +kernel, by decide +kernel⟩, List.mem_of_getElem? (i := 1204) (by decide +kernel), List.mem_of_getElem? (i := 1594) (by decide +kernel), List.mem_of_getElem? (i := 1595) (by decide +kernel)⟩
def lw_privs_8 : List (MethodName × Nat) := [(⟨"ChaffInTheWindModel", "ofHeap", "(C)I"⟩, 56), (⟨"ChaffInTheWindModel", "heavyOf", "(I)I"⟩, 56), (⟨"ChaffInTheWindModel", "isSort", "(I)Z"⟩, 56), (⟨"ChaffInTheWindModel", "lost", "()I"⟩, 56), (⟨"ChaffInTheWindModel", "landsNow", "(II)I"⟩, 56), (⟨"ChaffInTheWindModel", "landsIn", "(IIII)I"⟩, 56), (⟨"ChaffInTheWindModel", "tell", "(J)V"⟩, 56), (⟨"ChaffInTheWindModel", "grainsOf", "(I)I"⟩, 56), (⟨"ChaffInTheWindModel", "lineNow", "()I"⟩, 56), (⟨"ChaffInTheWindModel", "draw", "(I)I"⟩, 56), (⟨"ChaffInTheWindModel", "mostSort", "(I)I"⟩, 56), (⟨"ChaffInTheWindModel", "isYard", "(I)Z"⟩, 56), (⟨"ChaffInTheWindModel", "move", "(II)I"⟩, 56), (⟨"ChaffInTheWindModel", "moveSort", "(III)I"⟩, 56), (⟨"ChaffInTheWindModel", "isFlung", "(II)Z"⟩, 56), (⟨"ChaffInTheWindModel", "isParted", "(II)Z"⟩, 56)]
theorem lw_r8 : ∀ q ∈ lw_privs_8, lw_okq q := List.forall_mem_cons.mpr ⟨lw_p112, List.forall_mem_cons.mpr ⟨lw_p113, List.forall_mem_cons.mpr ⟨lw_p114, List.forall_mem_cons.mpr ⟨lw_p115, List.forall_mem_cons.mpr ⟨lw_p116, List.forall_mem_cons.mpr ⟨lw_p117, List.forall_mem_cons.mpr ⟨lw_p118, List.forall_mem_cons.mpr ⟨lw_p119, List.forall_mem_cons.mpr ⟨lw_p120, List.forall_mem_cons.mpr ⟨lw_p121, List.forall_mem_cons.mpr ⟨lw_p122, List.forall_mem_cons.mpr ⟨lw_p123, List.forall_mem_cons.mpr ⟨lw_p124, List.forall_mem_cons.mpr ⟨lw_p125, List.forall_mem_cons.mpr ⟨lw_p126, List.forall_mem_cons.mpr ⟨lw_p127, fun _ h => absurd h List.not_mem_nil⟩⟩⟩⟩⟩⟩⟩⟩⟩⟩⟩⟩⟩⟩⟩⟩
theorem lw_p128 : lw_okq (⟨"ChaffInTheWindModel", "throwAll", "(IIII)V"⟩, 56) := ⟨⟨by decide +kernel, by decide +kernel⟩, List.mem_of_getElem? (i := 1204) (by decide +kernel), List.mem_of_getElem? (i := 1602) (by decide +kernel), List.mem_of_getElem? (i := 1603) (by decide +kernel)⟩
theorem lw_p129 : lw_okq (⟨"ChaffInTheWindModel", "cleanGrains", "()I"⟩, 56) := ⟨⟨by decide +kernel, by decide +kernel⟩, List.mem_of_getElem? (i := 1204) (by decide +kernel), List.mem_of_getElem? (i := 1606) (by decide +kernel), List.mem_of_getElem? (i := 1607) (by decide +kernel)⟩
theorem lw_p130 : lw_okq (⟨"ChaffInTheWindModel", "tellPart", "(JJ)V"⟩, 56) := ⟨⟨by decide +kernel, by decide +kernel⟩, List.mem_of_getElem? (i := 1204) (by decide +kernel), List.mem_of_getElem? (i := 1627) (by decide +kernel), List.mem_of_getElem? (i := 1628) (by decide +kernel)⟩
theorem lw_p131 : lw_okq (⟨"ChaffInTheWindModel", "priceOf", "(I[II)I"⟩, 56) := ⟨⟨by decide +kernel, by decide +kernel⟩, List.mem_of_getElem? (i := 1204) (by decide +kernel), List.mem_of_getElem? (i := 1646) (by decide +kernel), List.mem_of_getElem? (i := 1647) (by decide +kernel)⟩
theorem lw_p132 : lw_okq (⟨"ChaffInTheWindModel", "worthOf", "([II)I"⟩, 56) := ⟨⟨by decide +kernel, by decide +kernel⟩, List.mem_of_getElem? (i := 1204) (by decide +kernel), List.mem_of_getElem? (i := 1656) (by decide +kernel), List.mem_of_getElem? (i := 1657) (by decide +kernel)⟩
theorem lw_p133 : lw_okq (⟨"ChaffInTheWindModel", "weightOfSome", "(IIZ)J"⟩, 56) := ⟨⟨by decide +kernel, by decide +kernel⟩, List.mem_of_getElem? (i := 1204) (by decide +kernel), List.mem_of_getElem? (i := 1674) (by decide +kernel), List.mem_of_getElem? (i := 1675) (by decide +kernel)⟩
theorem lw_p134 : lw_okq (⟨"ChaffInTheWindModel", "add", "(ZIIIZ)I"⟩, 56) := ⟨⟨by decide +kernel, by decide +kernel⟩, List.mem_of_getElem? (i := 1204) (by decide +kernel), List.mem_of_getElem? (i := 1690) (by decide +kernel), List.mem_of_getElem? (i := 1691) (by decide +kernel)⟩
theorem lw_p135 : lw_okq (⟨"ChaffInTheWindModel", "staying", "(I)I"⟩, 56) := ⟨⟨by decide +kernel, by decide +kernel⟩, List.mem_of_getElem? (i := 1204) (by decide +kernel), List.mem_of_getElem? (i := 1702) (by decide +kernel), List.mem_of_getElem? (i := 1703) (by decide +kernel)⟩
theorem lw_p136 : lw_okq (⟨"ChaffInTheWindModel", "isOrdered", "(III)Z"⟩, 56) := ⟨⟨by decide +kernel, by decide +kernel⟩, List.mem_of_getElem? (i := 1204) (by decide +kernel), List.mem_of_getElem? (i := 1710) (by decide +kernel), List.mem_of_getElem? (i := 1711) (by decide +kernel)⟩
theorem lw_p137 : lw_okq (⟨"ChaffInTheWindModel", "all", "()I"⟩, 56) := ⟨⟨by decide +kernel, by decide +kernel⟩, List.mem_of_getElem? (i := 1204) (by decide +kernel), List.mem_of_getElem? (i := 1714) (by decide +kernel), List.mem_of_getElem? (i := 1715) (by decide +kernel)⟩
theorem lw_p138 : lw_okq (⟨"ChaffInTheWindModel", "weightOf", "(IIZ)J"⟩, 56) := ⟨⟨by decide +kernel, by decide +kernel⟩, List.mem_of_getElem? (i := 1204) (by decide +kernel), List.mem_of_getElem? (i := 1718) (by decide +kernel), List.mem_of_getElem? (i := 1719) (by decide +kernel)⟩
theorem lw_p139 : lw_okq (⟨"ChaffInTheWindModel", "findOrder", "(III)I"⟩, 56) := ⟨⟨by decide +kernel, by decide +kernel⟩, List.mem_of_getElem? (i := 1204) (by decide +kernel), List.mem_of_getElem? (i := 1725) (by decide +kernel), List.mem_of_getElem? (i := 1726) (by decide +kernel)⟩
theorem lw_p140 : lw_okq (⟨"ChaffInTheWindModel", "does", "(IIII)Z"⟩, 56) := ⟨⟨by decide +kernel, by decide +kernel⟩, List.mem_of_getElem? (i := 1204) (by decide +kernel), List.mem_of_getElem? (i := 1729) (by decide +kernel), List.mem_of_getElem? (i := 1730) (by decide +kernel)⟩
theorem lw_p141 : lw_okq (⟨"ChaffInTheWindModel", "stayingBy", "(I)I"⟩, 56) := ⟨⟨by decide +kernel, by decide +kernel⟩, List.mem_of_getElem? (i := 1204) (by decide +kernel), List.mem_of_getElem? (i := 1733) (by decide +kernel), List.mem_of_getElem? (i := 1734) (by decide +kernel)⟩
theorem lw_p142 : lw_okq (⟨"ChaffInTheWindModel", "grainsIn", "(II)I"⟩, 56) := ⟨⟨by decide +kernel, by decide +kernel⟩, List.mem_of_getElem? (i := 1204) (by decide +kernel), List.mem_of_getElem? (i := 1739) (by decide +kernel), List.mem_of_getElem? (i := 1740) (by decide +kernel)⟩
theorem lw_p143 : lw_okq (⟨"ChaffInTheWindModel", "cornOf", "(I)I"⟩, 56) := ⟨⟨by decide +kernel, by decide +kernel⟩, List.mem_of_getElem? (i := 1204) (by decide +kernel), List.mem_of_getElem? (i := 1768) (by decide +kernel), List.mem_of_getElem? (i := 1769) (by decide +kernel)⟩
def lw_privs_9 : List (MethodName × Nat) := [(⟨"ChaffInTheWindModel", "throwAll", "(IIII)V"⟩, 56), (⟨"ChaffInTheWindModel", "cleanGrains", "()I"⟩, 56), (⟨"ChaffInTheWindModel", "tellPart", "(JJ)V"⟩, 56), (⟨"ChaffInTheWindModel", "priceOf", "(I[II)I"⟩, 56), (⟨"ChaffInTheWindModel", "worthOf", "([II)I"⟩, 56), (⟨"ChaffInTheWindModel", "weightOfSome", "(IIZ)J"⟩, 56), (⟨"ChaffInTheWindModel", "add", "(ZIIIZ)I"⟩, 56), (⟨"ChaffInTheWindModel", "staying", "(I)I"⟩, 56), (⟨"ChaffInTheWindModel", "isOrdered", "(III)Z"⟩, 56), (⟨"ChaffInTheWindModel", "all", "()I"⟩, 56), (⟨"ChaffInTheWindModel", "weightOf", "(IIZ)J"⟩, 56), (⟨"ChaffInTheWindModel", "findOrder", "(III)I"⟩, 56), (⟨"ChaffInTheWindModel", "does", "(IIII)Z"⟩, 56), (⟨"ChaffInTheWindModel", "stayingBy", "(I)I"⟩, 56), (⟨"ChaffInTheWindModel", "grainsIn", "(II)I"⟩, 56), (⟨"ChaffInTheWindModel", "cornOf", "(I)I"⟩, 56)]
theorem lw_r9 : ∀ q ∈ lw_privs_9, lw_okq q := List.forall_mem_cons.mpr ⟨lw_p128, List.forall_mem_cons.mpr ⟨lw_p129, List.forall_mem_cons.mpr ⟨lw_p130, List.forall_mem_cons.mpr ⟨lw_p131, List.forall_mem_cons.mpr ⟨lw_p132, List.forall_mem_cons.mpr ⟨lw_p133, List.forall_mem_cons.mpr ⟨lw_p134, List.forall_mem_cons.mpr ⟨lw_p135, List.forall_mem_cons.mpr ⟨lw_p136, List.forall_mem_cons.mpr ⟨lw_p137, List.forall_mem_cons.mpr ⟨lw_p138, List.forall_mem_cons.mpr ⟨lw_p139, List.forall_mem_cons.mpr ⟨lw_p140, List.forall_mem_cons.mpr ⟨lw_p141, List.forall_mem_cons.mpr ⟨lw_p142, List.forall_mem_cons.mpr ⟨lw_p143, fun _ h => absurd h List.not_mem_nil⟩⟩⟩⟩⟩⟩⟩⟩⟩⟩⟩⟩⟩⟩⟩⟩
def lw_privs : List (MethodName × Nat) := lw_privs_1 ++ (lw_privs_2 ++ (lw_privs_3 ++ (lw_privs_4 ++ (lw_privs_5 ++ (lw_privs_6 ++ (lw_privs_7 ++ (lw_privs_8 ++ (lw_privs_9))))))))
def lw_tbl : List Cond := k2_sels lw_privs ++ tables_1
theorem lw_privs_ok : ∀ q ∈ lw_privs, lw_okq q := by
  show ∀ q ∈ lw_privs_1 ++ (lw_privs_2 ++ (lw_privs_3 ++ (lw_privs_4 ++ (lw_privs_5 ++ (lw_privs_6 ++ (lw_privs_7 ++ (lw_privs_8 ++ (lw_privs_9)))))))), lw_okq q
  exact List.forall_mem_append.mpr ⟨lw_r1, List.forall_mem_append.mpr ⟨lw_r2, List.forall_mem_append.mpr ⟨lw_r3, List.forall_mem_append.mpr ⟨lw_r4, List.forall_mem_append.mpr ⟨lw_r5, List.forall_mem_append.mpr ⟨lw_r6, List.forall_mem_append.mpr ⟨lw_r7, List.forall_mem_append.mpr ⟨lw_r8, lw_r9⟩⟩⟩⟩⟩⟩⟩⟩
-- ===== end of PART A; then your names; then what follows =====
end
section
/-! A small picture of the machine: cells by number, locals by number, a step function. What it says is carried to the machine by the rows behind it. -/
section ZSEM
abbrev z_C : Type := Nat × List Value
abbrev z_H : Type := List z_C
abbrev z_L : Type := List (Nat × Value)
/-- numbers from here on stand for cells that were there before the law began (String constants) -/
def z_far : Nat := 1000000
def z_get : z_L → Nat → Option Value
  | [], _ => none
  | q :: r, i => if q.1 == i then some q.2 else z_get r i
theorem z_get_mem : ∀ {l : z_L} {i : Nat} {v : Value}, z_get l i = some v → ∃ k : Nat, l[k]? = some (i, v)
  | [], _, _, h => by cases h
  | q :: r, i, v, h => by
    unfold z_get at h
    split at h
    · rename_i e
      have e' : q.1 = i := by simpa using e
      cases h
      exact ⟨0, by rw [← e']; rfl⟩
    · obtain ⟨k, hk⟩ := z_get_mem h
      exact ⟨k + 1, by simpa using hk⟩
def z_set1 (l : z_L) (i : Nat) (v : Value) : z_L := (i, v) :: l.filter (fun q => !(q.1 == i) && !(q.1 + 1 == i && q.2.category == 2))
def z_set2 (l : z_L) (i : Nat) (v : Value) : z_L := (i, v) :: l.filter (fun q => !(q.1 == i) && (!(q.1 == i + 1) && !(q.1 + 1 == i && q.2.category == 2)))
/-- how long an instruction is -/
def z_len : Instr → Nat
  | .bipush _ | .iload _ | .istore _ | .lload _ | .lstore _ | .aload _ | .astore _ | .ldc _ | .newarray _ => 2
  | .sipush _ | .iinc _ _ | .ifCond _ _ | .if_icmp _ _ | .ifnull _ | .ifnonnull _ | .goto _ | .getfield _ | .putfield _ | .getstatic _ | .invokevirtual _ | .invokestatic _ | .invokespecial _ | .new _ | .anewarray _ | .ldc_w _ | .ldc2_w _ => 3
  | .multianewarray _ _ => 4
  | _ => 1
def z_i1 (f : Int32 → Value) : List Value → Option (List Value)
  | .int x :: st => some (f x :: st)
  | _ => none
def z_i2 (f : Int32 → Int32 → Value) : List Value → Option (List Value)
  | .int y :: .int x :: st => some (f x y :: st)
  | _ => none
def z_l1 (f : Int64 → Value) : List Value → Option (List Value)
  | .long x :: st => some (f x :: st)
  | _ => none
def z_l2 (f : Int64 → Int64 → Value) : List Value → Option (List Value)
  | .long y :: .long x :: st => some (f x y :: st)
  | _ => none
def z_i2d (f : Int32 → Int32 → Value) : List Value → Option (List Value)
  | .int y :: .int x :: st => if y = 0 then none else some (f x y :: st)
  | _ => none
def z_l2d (f : Int64 → Int64 → Value) : List Value → Option (List Value)
  | .long y :: .long x :: st => if y = 0 then none else some (f x y :: st)
  | _ => none
def z_dup : List Value → Option (List Value)
  | v :: st => if v.category = 1 then some (v :: v :: st) else none
  | _ => none
def z_pop : List Value → Option (List Value)
  | v :: st => if v.category = 1 then some st else none
  | _ => none
def z_dupx1 : List Value → Option (List Value)
  | v :: w :: st => if v.category = 1 ∧ w.category = 1 then some (v :: w :: v :: st) else none
  | _ => none
def z_dup2 : List Value → Option (List Value)
  | v :: w :: st => if v.category = 1 ∧ w.category = 1 then some (v :: w :: v :: w :: st) else none
  | _ => none
/-- what changes the stack alone -/
def z_pure : Instr → List Value → Option (List Value)
  | .iconst n => fun st => some (.int (Int32.ofInt n) :: st)
  | .bipush n => fun st => some (.int (Int8.ofInt n).toInt32 :: st)
  | .sipush n => fun st => some (.int (Int16.ofInt n).toInt32 :: st)
  | .lconst n => fun st => some (.long (Int64.ofNat n) :: st)
  | .aconst_null => fun st => some (.null :: st)
  | .iadd => z_i2 fun x y => .int (x + y)
  | .isub => z_i2 fun x y => .int (x - y)
  | .imul => z_i2 fun x y => .int (x * y)
  | .iand => z_i2 fun x y => .int (x &&& y)
  | .ior => z_i2 fun x y => .int (x ||| y)
  | .ixor => z_i2 fun x y => .int (x ^^^ y)
  | .ishl => z_i2 fun x y => .int (x <<< (y &&& 31))
  | .ishr => z_i2 fun x y => .int (x >>> (y &&& 31))
  | .iushr => z_i2 fun x y => .int (x.toUInt32 >>> (y.toUInt32 &&& Int32.toUInt32 31)).toInt32
  | .idiv => z_i2d fun x y => .int (x / y)
  | .irem => z_i2d fun x y => .int (x - x / y * y)
  | .ineg => z_i1 fun x => .int (-x)
  | .i2l => z_i1 fun x => .long x.toInt64
  | .i2b => z_i1 fun x => .int x.toInt8.toInt32
  | .i2s => z_i1 fun x => .int x.toInt16.toInt32
  | .i2c => z_i1 fun x => .int (x.toUInt32 % 65536).toInt32
  | .l2i => z_l1 fun x => .int x.toInt32
  | .ladd => z_l2 fun x y => .long (x + y)
  | .lsub => z_l2 fun x y => .long (x - y)
  | .lmul => z_l2 fun x y => .long (x * y)
  | .ldiv => z_l2d fun x y => .long (x / y)
  | .lrem => z_l2d fun x y => .long (x - x / y * y)
  | .lcmp => z_l2 fun x y => .int (lg_cmp x y)
  | .dup => z_dup
  | .pop => z_pop
  | .dup_x1 => z_dupx1
  | .dup2 => z_dup2
  | _ => fun _ => none
def z_ld (k : Value → Bool) (l : z_L) (i : Nat) (st : List Value) : Option (z_L × List Value) := match z_get l i with
  | some v => if k v then some (l, v :: st) else none
  | none => none
def z_isI : Value → Bool
  | .int _ => true
  | _ => false
def z_isL : Value → Bool
  | .long _ => true
  | _ => false
def z_isA : Value → Bool
  | .ref _ => true
  | .null => true
  | _ => false
def z_st1 (k : Value → Bool) (nL : Nat) (l : z_L) (i : Nat) : List Value → Option (z_L × List Value)
  | v :: st => if k v && decide (i < nL) then some (z_set1 l i v, st) else none
  | _ => none
def z_st2 (nL : Nat) (l : z_L) (i : Nat) : List Value → Option (z_L × List Value)
  | .long x :: st => if i + 1 < nL then some (z_set2 l i (.long x), st) else none
  | _ => none
def z_inc (nL : Nat) (l : z_L) (i : Nat) (n : Int) (st : List Value) : Option (z_L × List Value) := match z_get l i with
  | some (.int x) => if i < nL then some (z_set1 l i (.int (x + Int32.ofInt n)), st) else none
  | _ => none
/-- what reads and writes the locals -/
def z_loc (nL : Nat) : Instr → z_L → List Value → Option (z_L × List Value)
  | .iload i => fun l st => z_ld z_isI l i st
  | .iload_n i => fun l st => z_ld z_isI l i st
  | .lload i => fun l st => z_ld z_isL l i st
  | .lload_n i => fun l st => z_ld z_isL l i st
  | .aload i => fun l st => z_ld z_isA l i st
  | .aload_n i => fun l st => z_ld z_isA l i st
  | .istore i => fun l st => z_st1 z_isI nL l i st
  | .istore_n i => fun l st => z_st1 z_isI nL l i st
  | .astore i => fun l st => z_st1 z_isA nL l i st
  | .astore_n i => fun l st => z_st1 z_isA nL l i st
  | .lstore i => fun l st => z_st2 nL l i st
  | .lstore_n i => fun l st => z_st2 nL l i st
  | .iinc i n => fun l st => z_inc nL l i n st
  | _ => fun _ _ => none
def z_tg (pc : Nat) (off : Int) : Option Nat := if 0 ≤ (pc : Int) + off then some ((pc : Int) + off).toNat else none
theorem z_tg_eq {pc t : Nat} {off : Int} (h : z_tg pc off = some t) : (pc : Int) + off = (t : Int) := by
  unfold z_tg at h
  split at h
  · cases h; omega
  · cases h
def z_cmp : ClassFile.Cond → Int32 → Int32 → Bool
  | .eq, x, y => decide (x = y)
  | .ne, x, y => decide (x ≠ y)
  | .lt, x, y => decide (x < y)
  | .ge, x, y => decide (y ≤ x)
  | .gt, x, y => decide (y < x)
  | .le, x, y => decide (x ≤ y)
/-- jumps -/
def z_jmp : Instr → Nat → List Value → Option (Nat × List Value)
  | .goto off => fun pc st => (z_tg pc off).map fun t => (t, st)
  | .ifCond c off => fun pc st => match st with
    | .int x :: r => (z_tg pc off).map fun t => (if z_cmp c x 0 then t else pc + 3, r)
    | _ => none
  | .if_icmp c off => fun pc st => match st with
    | .int y :: .int x :: r => (z_tg pc off).map fun t => (if z_cmp c x y then t else pc + 3, r)
    | _ => none
  | .ifnull off => fun pc st => match st with
    | .null :: r => (z_tg pc off).map fun t => (t, r)
    | .ref _ :: r => some (pc + 3, r)
    | _ => none
  | .ifnonnull off => fun pc st => match st with
    | .null :: r => some (pc + 3, r)
    | .ref _ :: r => (z_tg pc off).map fun t => (t, r)
    | _ => none
  | .tableswitch dflt lo hi offs => fun pc st => match st with
    | .int x :: r => if x.toInt < lo ∨ hi < x.toInt then (z_tg pc dflt).map fun t => (t, r) else match offs[(x.toInt - lo).toNat]? with
      | some off => (z_tg pc off).map fun t => (t, r)
      | none => none
    | _ => none
  | _ => fun _ _ => none
/-- a far cell: of String number i the object (2 i) and its bytes (2 i + 1) -/
def z_fc (strs : List (List Int32)) (j : Nat) : Option z_C := match strs[j / 2]? with
  | some b => if j % 2 = 0 then some (98, [.ref (z_far + j + 1), .int 0]) else some (101, b.map Value.int)
  | none => none
def z_lk (strs : List (List Int32)) (P : z_H) (a : Nat) : Option z_C := if a < z_far then P[a]? else z_fc strs (a - z_far)
/-- an element of an array of the kind t -/
def z_al (t : Nat) (k : Value → Bool) (H : Nat → Option z_C) : List Value → Option (List Value)
  | .int i :: .ref a :: st => match H a with
    | some q => if q.1 = t ∧ 0 ≤ i.toInt then match q.2[i.toNatClampNeg]? with
        | some v => if k v then some (v :: st) else none
        | none => none
      else none
    | none => none
  | _ => none
/-- an element of an array of references, of any kind among nA -/
def z_alq (nA : Nat) (H : Nat → Option z_C) : List Value → Option (List Value)
  | .int i :: .ref a :: st => match H a with
    | some q => if 105 ≤ q.1 ∧ q.1 < 100 + nA ∧ 0 ≤ i.toInt then match q.2[i.toNatClampNeg]? with
        | some v => if z_isA v then some (v :: st) else none
        | none => none
      else none
    | none => none
  | _ => none
def z_alen (nA : Nat) (H : Nat → Option z_C) : List Value → Option (List Value)
  | .ref a :: st => match H a with
    | some q => if 100 ≤ q.1 ∧ q.1 < 100 + nA then some (.int (Int32.ofNat q.2.length) :: st) else none
    | none => none
  | _ => none
/-- a field: fld gives for a number of the pool the class and the field's place -/
def z_gf (fk : Option (Nat × Nat)) (H : Nat → Option z_C) : List Value → Option (List Value)
  | .ref a :: st => match fk with
    | some f => match H a with
      | some q => if q.1 = f.1 ∧ q.1 < 99 then match q.2[f.2]? with
          | some v => some (v :: st)
          | none => none
        else none
      | none => none
    | none => none
  | _ => none
/-- what reads the cells -/
def z_rd (fld : Nat → Option (Nat × Nat)) (nA : Nat) (H : Nat → Option z_C) : Instr → List Value → Option (List Value)
  | .getfield n => z_gf (fld n) H
  | .iaload => z_al 103 z_isI H
  | .caload => z_al 102 z_isI H
  | .baload => fun st => (z_al 101 z_isI H st).or (z_al 100 z_isI H st)
  | .laload => z_al 104 z_isL H
  | .aaload => z_alq nA H
  | .arraylength => z_alen nA H
  | _ => fun _ => none
/-- what a small array keeps of an int -/
def z_as (t : Nat) (nf : Int32 → Int32) (P : z_H) : List Value → Option (List Value × z_H)
  | .int x :: .int i :: .ref a :: st => match P[a]? with
    | some q => if q.1 = t ∧ 0 ≤ i.toInt ∧ i.toNatClampNeg < q.2.length then some (st, P.set a (t, q.2.set i.toNatClampNeg (.int (nf x)))) else none
    | none => none
  | _ => none
def z_las (P : z_H) : List Value → Option (List Value × z_H)
  | .long x :: .int i :: .ref a :: st => match P[a]? with
    | some q => if q.1 = 104 ∧ 0 ≤ i.toInt ∧ i.toNatClampNeg < q.2.length then some (st, P.set a (104, q.2.set i.toNatClampNeg (.long x))) else none
    | none => none
  | _ => none
/-- an object into an array of its class: ac gives for a kind of array the class -/
def z_aas (ac : Nat → Option Nat) (P : z_H) : List Value → Option (List Value × z_H)
  | .ref v :: .int i :: .ref a :: st => match P[a]? with
    | some q => match P[v]? with
      | some w => if 105 ≤ q.1 ∧ w.1 < 99 ∧ ac (q.1 - 100) = some w.1 ∧ 0 ≤ i.toInt ∧ i.toNatClampNeg < q.2.length then some (st, P.set a (q.1, q.2.set i.toNatClampNeg (.ref v))) else none
      | none => none
    | none => none
  | _ => none
/-- a field; a final one only where ini names its class -/
def z_pf (fk : Option (Nat × Nat)) (fty : Nat → Nat → FieldType) (fin : Nat → Nat → Bool) (ini : Option Nat) (P : z_H) : List Value → Option (List Value × z_H)
  | v :: .ref a :: st => match fk with
    | some f => match P[a]? with
      | some q => if q.1 = f.1 ∧ q.1 < 99 ∧ f.2 < q.2.length ∧ fits (fty f.1 f.2) v = true ∧ narrow (fty f.1 f.2) v = v ∧ (fin f.1 f.2 = false ∨ ini = some f.1) then some (st, P.set a (f.1, q.2.set f.2 v)) else none
      | none => none
    | none => none
  | _ => none
/-- what writes the cells -/
def z_wr (fld : Nat → Option (Nat × Nat)) (fty : Nat → Nat → FieldType) (fin : Nat → Nat → Bool) (ini : Option Nat) (ac : Nat → Option Nat) (P : z_H) : Instr → List Value → Option (List Value × z_H)
  | .putfield n => z_pf (fld n) fty fin ini P
  | .iastore => z_as 103 (fun x => x) P
  | .castore => z_as 102 (fun x => x.toUInt32.toUInt16.toUInt32.toInt32) P
  | .bastore => fun st => (z_as 101 (fun x => x.toInt8.toInt32) P st).or (z_as 100 (fun x => x &&& 1) P st)
  | .lastore => z_las P
  | .aastore => z_aas ac P
  | _ => fun _ => none
/-- the place of a kind of number among the arrays -/
def z_atc : ArrayType → Option Nat
  | .boolean => some 0
  | .byte => some 1
  | .char => some 2
  | .int => some 3
  | .long => some 4
  | _ => none
def z_dv : Nat → Value
  | 4 => .long 0
  | _ => .int 0
def z_mka (o : Option Nat) (dv : Nat → Value) (P : z_H) : List Value → Option (List Value × z_H × Nat × Nat)
  | .int n :: st => match o with
    | some t => if 0 ≤ n.toInt ∧ n.toNatClampNeg ≤ 10000 ∧ P.length < z_far then some (.ref P.length :: st, P ++ [(100 + t, List.replicate n.toNatClampNeg (dv t))], 1, n.toNatClampNeg) else none
    | none => none
  | _ => none
def z_mkm (o : Option (Nat × Nat)) (P : z_H) : List Value → Option (List Value × z_H × Nat × Nat)
  | .int k :: .int n :: st => match o with
    | some t => if 0 ≤ n.toInt ∧ 0 ≤ k.toInt ∧ n.toNatClampNeg ≤ 10000 ∧ k.toNatClampNeg ≤ 10000 ∧ P.length + 1 + n.toNatClampNeg ≤ z_far then
        some (.ref P.length :: st, P ++ (100 + t.1, (List.range n.toNatClampNeg).map (fun j => .ref (P.length + 1 + j))) :: List.replicate n.toNatClampNeg (100 + t.2, List.replicate k.toNatClampNeg (z_dv t.2)), 1 + n.toNatClampNeg, n.toNatClampNeg + n.toNatClampNeg * k.toNatClampNeg) else none
    | none => none
  | _ => none
/-- what makes cells: the stack, the cells, how many and with how many slots -/
def z_mk (cls : Nat → Option (Nat × List Value)) (aan : Nat → Option Nat) (mna : Nat → Option (Nat × Nat)) (P : z_H) : Instr → List Value → Option (List Value × z_H × Nat × Nat)
  | .new n => fun st => match cls n with
    | some q => if q.1 < 99 ∧ P.length < z_far then some (.ref P.length :: st, P ++ [q], 1, q.2.length) else none
    | none => none
  | .newarray t => z_mka (z_atc t) z_dv P
  | .anewarray n => z_mka (aan n) (fun _ => .null) P
  | .multianewarray n d => fun st => if d = 2 then z_mkm (mna n) P st else none
  | _ => fun _ => none
/-- constants of the pool; what getstatic reads stands 100000 further -/
def z_okv (k : Value → Bool) : Option Value → Option Value
  | some v => if k v then some v else none
  | none => none
theorem z_okv_spec {k : Value → Bool} {n : Nat} {o : Option Value} {v : Value} (h : z_okv k (if n < 100000 then o else none) = some v) : n < 100000 ∧ o = some v ∧ k v = true := by
  split at h
  · rename_i hn
    unfold z_okv at h
    split at h
    · split at h
      · rename_i hk
        cases h
        exact ⟨hn, rfl, hk⟩
      · cases h
    · cases h
  · cases h
def z_cstv (cst : Nat → Option Value) : Instr → Option Value
  | .ldc n => z_okv (fun v => z_isI v || z_isA v) (if n < 100000 then cst n else none)
  | .ldc_w n => z_okv z_isI (if n < 100000 then cst n else none)
  | .ldc2_w n => z_okv z_isL (if n < 100000 then cst n else none)
  | .getstatic n => cst (n + 100000)
  | _ => none
def z_cst (cst : Nat → Option Value) (ins : Instr) (st : List Value) : Option (List Value) := (z_cstv cst ins).map (· :: st)
/-- System.arraycopy between rows of ints -/
def z_cpy (ws vs : List Value) (sp dp n : Nat) : List Value := (List.range ws.length).map fun k => if dp ≤ k ∧ k < dp + n then vs.getD (sp + (k - dp)) .null else ws.getD k .null
def z_acp (P : z_H) : List Value → Option (List Value × z_H)
  | .int n :: .int dp :: .ref b :: .int sp :: .ref a :: st => match P[a]?, P[b]? with
    | some q, some w => if q.1 = 103 ∧ w.1 = 103 ∧ 0 ≤ n.toInt ∧ 0 ≤ dp.toInt ∧ 0 ≤ sp.toInt ∧ sp.toNatClampNeg + n.toNatClampNeg ≤ q.2.length ∧ dp.toNatClampNeg + n.toNatClampNeg ≤ w.2.length ∧ q.2.all z_isI = true then
        some (st, P.set b (103, z_cpy w.2 q.2 sp.toNatClampNeg dp.toNatClampNeg n.toNatClampNeg)) else none
    | _, _ => none
  | _ => none
end ZSEM
end
section
/-! Rows of the machine, gathered: one row for all that changes the stack alone, one for the locals, one for jumps. -/
section ZSIM
variable {p : Program} {l : Launch} {e : Env} {R : Room} {s : State} {m : MethodId} {args : Array Value} {below : List Frame} {meth : Method} {c : Code} {H : Heap} {locs : List Loc} {cells slots : Nat} {Q : State → Prop}
/-- a value of the picture as the machine has it: far numbers are cells of old, others count from the base -/
def z_cv (ext : Nat → Nat) (base : Nat) : Value → Value
  | .ref k => .ref (if k < z_far then base + k else ext (k - z_far))
  | v => v
theorem z_cv_cat (ext : Nat → Nat) (base : Nat) (v : Value) : (z_cv ext base v).category = v.category := by cases v <;> rfl
theorem z_i1_spec {f : Int32 → Value} {st st' : List Value} (h : z_i1 f st = some st') : ∃ x r, st = .int x :: r ∧ st' = f x :: r := by
  unfold z_i1 at h
  split at h
  · cases h; exact ⟨_, _, rfl, rfl⟩
  · cases h
theorem z_l1_spec {f : Int64 → Value} {st st' : List Value} (h : z_l1 f st = some st') : ∃ x r, st = .long x :: r ∧ st' = f x :: r := by
  unfold z_l1 at h
  split at h
  · cases h; exact ⟨_, _, rfl, rfl⟩
  · cases h
theorem z_i2_spec {f : Int32 → Int32 → Value} {st st' : List Value} (h : z_i2 f st = some st') : ∃ y x r, st = .int y :: .int x :: r ∧ st' = f x y :: r := by
  unfold z_i2 at h
  split at h
  · cases h; exact ⟨_, _, _, rfl, rfl⟩
  · cases h
theorem z_l2_spec {f : Int64 → Int64 → Value} {st st' : List Value} (h : z_l2 f st = some st') : ∃ y x r, st = .long y :: .long x :: r ∧ st' = f x y :: r := by
  unfold z_l2 at h
  split at h
  · cases h; exact ⟨_, _, _, rfl, rfl⟩
  · cases h
theorem z_i2d_spec {f : Int32 → Int32 → Value} {st st' : List Value} (h : z_i2d f st = some st') : ∃ y x r, ¬ y = 0 ∧ st = .int y :: .int x :: r ∧ st' = f x y :: r := by
  unfold z_i2d at h
  split at h
  · split at h
    · cases h
    · rename_i h0
      cases h; exact ⟨_, _, _, h0, rfl, rfl⟩
  · cases h
theorem z_l2d_spec {f : Int64 → Int64 → Value} {st st' : List Value} (h : z_l2d f st = some st') : ∃ y x r, ¬ y = 0 ∧ st = .long y :: .long x :: r ∧ st' = f x y :: r := by
  unfold z_l2d at h
  split at h
  · split at h
    · cases h
    · rename_i h0
      cases h; exact ⟨_, _, _, h0, rfl, rfl⟩
  · cases h
set_option maxHeartbeats 4000000 in
theorem z_sim_pure {ext : Nat → Nat} {base : Nat} {cc : ByteArray} (hx : p.tables.exec = Jvm.exec) (hb : c.code = cc) {ins : Instr} {len pc : Nat} {ls : Array Slot} {st st' : List Value} (hd : decode cc pc = .ok (ins, len)) (hlen : len = z_len ins) (h : z_pure ins st = some st')
    (k : W p l e R s m args below meth c H locs cells slots Q (F0 m (pc + len) ls (st'.map (z_cv ext base)))) : W p l e R s m args below meth c H locs cells slots Q (F0 m pc ls (st.map (z_cv ext base))) := by
  subst hlen
  cases ins
  case iconst n => cases h; exact lv_iconst hx hb hd rfl k
  case bipush n => cases h; exact lv_bipush hx hb hd rfl k
  case sipush n => cases h; exact lv_sipush hx hb hd rfl k
  case lconst n => cases h; exact lv_lconst hx hb hd rfl k
  case aconst_null => cases h; exact lv_null hx hb hd k
  case iadd => obtain ⟨y, x, r, rfl, rfl⟩ := z_i2_spec h; exact lv_iadd hx hb hd k
  case isub => obtain ⟨y, x, r, rfl, rfl⟩ := z_i2_spec h; exact lv_isub hx hb hd k
  case imul => obtain ⟨y, x, r, rfl, rfl⟩ := z_i2_spec h; exact lv_imul hx hb hd k
  case iand => obtain ⟨y, x, r, rfl, rfl⟩ := z_i2_spec h; exact lv_iand hx hb hd k
  case ior => obtain ⟨y, x, r, rfl, rfl⟩ := z_i2_spec h; exact lv_ior hx hb hd k
  case ixor => obtain ⟨y, x, r, rfl, rfl⟩ := z_i2_spec h; exact lv_ixor hx hb hd k
  case ishl => obtain ⟨y, x, r, rfl, rfl⟩ := z_i2_spec h; exact lv_ishl hx hb hd k
  case ishr => obtain ⟨y, x, r, rfl, rfl⟩ := z_i2_spec h; exact lv_ishr hx hb hd k
  case iushr => obtain ⟨y, x, r, rfl, rfl⟩ := z_i2_spec h; exact lv_iushr hx hb hd rfl k
  case idiv => obtain ⟨y, x, r, h0, rfl, rfl⟩ := z_i2d_spec h; exact lv_idiv hx hb hd h0 k
  case irem => obtain ⟨y, x, r, h0, rfl, rfl⟩ := z_i2d_spec h; exact lv_irem hx hb hd h0 k
  case ineg => obtain ⟨x, r, rfl, rfl⟩ := z_i1_spec h; exact lv_ineg hx hb hd k
  case i2l => obtain ⟨x, r, rfl, rfl⟩ := z_i1_spec h; exact lv_i2l hx hb hd rfl k
  case i2b => obtain ⟨x, r, rfl, rfl⟩ := z_i1_spec h; exact lv_i2b hx hb hd rfl k
  case i2s => obtain ⟨x, r, rfl, rfl⟩ := z_i1_spec h; exact lv_i2s hx hb hd rfl k
  case i2c => obtain ⟨x, r, rfl, rfl⟩ := z_i1_spec h; exact lv_i2c hx hb hd rfl k
  case l2i => obtain ⟨x, r, rfl, rfl⟩ := z_l1_spec h; exact lv_l2i hx hb hd rfl k
  case ladd => obtain ⟨y, x, r, rfl, rfl⟩ := z_l2_spec h; exact lv_ladd hx hb hd k
  case lsub => obtain ⟨y, x, r, rfl, rfl⟩ := z_l2_spec h; exact lv_lsub hx hb hd k
  case lmul => obtain ⟨y, x, r, rfl, rfl⟩ := z_l2_spec h; exact lv_lmul hx hb hd k
  case ldiv => obtain ⟨y, x, r, h0, rfl, rfl⟩ := z_l2d_spec h; exact lv_ldiv hx hb hd h0 k
  case lrem => obtain ⟨y, x, r, h0, rfl, rfl⟩ := z_l2d_spec h; exact lv_lrem hx hb hd h0 k
  case lcmp => obtain ⟨y, x, r, rfl, rfl⟩ := z_l2_spec h; exact W.lcmp hx hb hd k
  case dup =>
    have h : z_dup st = some st' := h
    unfold z_dup at h
    split at h
    · split at h
      · rename_i v r h1
        cases h; exact lv_dup hx hb hd (by rw [z_cv_cat]; exact h1) k
      · cases h
    · cases h
  case pop =>
    have h : z_pop st = some st' := h
    unfold z_pop at h
    split at h
    · split at h
      · rename_i v r h1
        cases h; exact lv_pop hx hb hd (by rw [z_cv_cat]; exact h1) k
      · cases h
    · cases h
  case dup_x1 =>
    have h : z_dupx1 st = some st' := h
    unfold z_dupx1 at h
    split at h
    · split at h
      · rename_i v w r h1
        cases h; exact lv_dup_x1 hx hb hd (by rw [z_cv_cat]; exact h1.1) (by rw [z_cv_cat]; exact h1.2) k
      · cases h
    · cases h
  case dup2 =>
    have h : z_dup2 st = some st' := h
    unfold z_dup2 at h
    split at h
    · split at h
      · rename_i v w r h1
        cases h; exact lv_dup2_11 hx hb hd (by rw [z_cv_cat]; exact h1.1) (by rw [z_cv_cat]; exact h1.2) k
      · cases h
    · cases h
  all_goals (cases h)
/-- the locals of the picture as the machine has them -/
def z_cl (ext : Nat → Nat) (base : Nat) (ll : z_L) : List (Nat × Value) := ll.map fun q => (q.1, z_cv ext base q.2)
theorem z_cl_at {ext : Nat → Nat} {base : Nat} {ll : z_L} {i : Nat} {v : Value} (h : z_get ll i = some v) : ∃ k : Nat, (z_cl ext base ll)[k]? = some (i, z_cv ext base v) := by
  obtain ⟨k, hk⟩ := z_get_mem h
  exact ⟨k, by simp [z_cl, hk]⟩
theorem z_cl_set1 {ext : Nat → Nat} {base : Nat} (ll : z_L) (i : Nat) (v : Value) : (i, z_cv ext base v) :: (z_cl ext base ll).filter (fun q => !(q.1 == i) && !(q.1 + 1 == i && q.2.category == 2)) = z_cl ext base (z_set1 ll i v) := by
  unfold z_cl z_set1
  rw [List.map_cons, List.filter_map]
  congr 2
  apply List.filter_congr
  intro q _
  simp [z_cv_cat]
theorem z_cl_set2 {ext : Nat → Nat} {base : Nat} (ll : z_L) (i : Nat) (v : Value) : (i, z_cv ext base v) :: (z_cl ext base ll).filter (fun q => !(q.1 == i) && (!(q.1 == i + 1) && !(q.1 + 1 == i && q.2.category == 2))) = z_cl ext base (z_set2 ll i v) := by
  unfold z_cl z_set2
  rw [List.map_cons, List.filter_map]
  congr 2
  apply List.filter_congr
  intro q _
  simp [z_cv_cat]
theorem z_ld_spec {k : Value → Bool} {ll l' : z_L} {i : Nat} {st st' : List Value} (h : z_ld k ll i st = some (l', st')) : ∃ v, z_get ll i = some v ∧ k v = true ∧ l' = ll ∧ st' = v :: st := by
  unfold z_ld at h
  split at h
  · rename_i v hv
    split at h
    · rename_i hk
      cases h; exact ⟨v, hv, hk, rfl, rfl⟩
    · cases h
  · cases h
theorem z_st1_spec {k : Value → Bool} {nL : Nat} {ll l' : z_L} {i : Nat} {st st' : List Value} (h : z_st1 k nL ll i st = some (l', st')) : ∃ v, k v = true ∧ i < nL ∧ st = v :: st' ∧ l' = z_set1 ll i v := by
  unfold z_st1 at h
  split at h
  · rename_i v r
    split at h
    · rename_i hk
      simp only [Bool.and_eq_true, decide_eq_true_eq] at hk
      cases h; exact ⟨v, hk.1, hk.2, rfl, rfl⟩
    · cases h
  · cases h
theorem z_st2_spec {nL : Nat} {ll l' : z_L} {i : Nat} {st st' : List Value} (h : z_st2 nL ll i st = some (l', st')) : ∃ x, i + 1 < nL ∧ st = .long x :: st' ∧ l' = z_set2 ll i (.long x) := by
  unfold z_st2 at h
  split at h
  · rename_i x r
    split at h
    · rename_i hk
      cases h; exact ⟨x, hk, rfl, rfl⟩
    · cases h
  · cases h
theorem z_inc_spec {nL : Nat} {ll l' : z_L} {i : Nat} {n : Int} {st st' : List Value} (h : z_inc nL ll i n st = some (l', st')) : ∃ x, z_get ll i = some (.int x) ∧ i < nL ∧ st' = st ∧ l' = z_set1 ll i (.int (x + Int32.ofInt n)) := by
  unfold z_inc at h
  split at h
  · rename_i x hx
    split at h
    · rename_i hk
      cases h; exact ⟨x, hx, hk, rfl, rfl⟩
    · cases h
  · cases h
theorem z_isI_spec {v : Value} (h : z_isI v = true) : ∃ x, v = .int x := by cases v <;> first | exact ⟨_, rfl⟩ | cases h
theorem z_isL_spec {v : Value} (h : z_isL v = true) : ∃ x, v = .long x := by cases v <;> first | exact ⟨_, rfl⟩ | cases h
theorem z_isA_spec {v : Value} (h : z_isA v = true) : v = .null ∨ ∃ x, v = .ref x := by cases v <;> first | exact Or.inl rfl | exact Or.inr ⟨_, rfl⟩ | cases h
set_option maxHeartbeats 4000000 in
theorem z_sim_loc {ext : Nat → Nat} {base nL : Nat} {cc : ByteArray} (hx : p.tables.exec = Jvm.exec) (hb : c.code = cc) {ins : Instr} {len pc : Nat} {ls : Array Slot} {ll l' : z_L} {st st' : List Value} (hd : decode cc pc = .ok (ins, len)) (hlen : len = z_len ins) (h : z_loc nL ins ll st = some (l', st')) (hl : lv_has ls nL (z_cl ext base ll))
    (k : ∀ ls', lv_has ls' nL (z_cl ext base l') → W p l e R s m args below meth c H locs cells slots Q (F0 m (pc + len) ls' (st'.map (z_cv ext base)))) : W p l e R s m args below meth c H locs cells slots Q (F0 m pc ls (st.map (z_cv ext base))) := by
  subst hlen
  cases ins
  case iload i =>
    obtain ⟨v, hv, hk, rfl, rfl⟩ := z_ld_spec h
    obtain ⟨x, rfl⟩ := z_isI_spec hk
    obtain ⟨q, hq⟩ := z_cl_at (ext := ext) (base := base) hv
    exact lv_iload hx hb hd (lv_at hl q hq) (k ls hl)
  case iload_n i =>
    obtain ⟨v, hv, hk, rfl, rfl⟩ := z_ld_spec h
    obtain ⟨x, rfl⟩ := z_isI_spec hk
    obtain ⟨q, hq⟩ := z_cl_at (ext := ext) (base := base) hv
    exact lv_iload_n hx hb hd rfl (lv_at hl q hq) (k ls hl)
  case lload i =>
    obtain ⟨v, hv, hk, rfl, rfl⟩ := z_ld_spec h
    obtain ⟨x, rfl⟩ := z_isL_spec hk
    obtain ⟨q, hq⟩ := z_cl_at (ext := ext) (base := base) hv
    exact lv_lload hx hb hd (lv_at hl q hq) (k ls hl)
  case lload_n i =>
    obtain ⟨v, hv, hk, rfl, rfl⟩ := z_ld_spec h
    obtain ⟨x, rfl⟩ := z_isL_spec hk
    obtain ⟨q, hq⟩ := z_cl_at (ext := ext) (base := base) hv
    exact lv_lload_n hx hb hd rfl (lv_at hl q hq) (k ls hl)
  case aload i =>
    obtain ⟨v, hv, hk, rfl, rfl⟩ := z_ld_spec h
    obtain ⟨q, hq⟩ := z_cl_at (ext := ext) (base := base) hv
    rcases z_isA_spec hk with rfl | ⟨x, rfl⟩
    · exact lv_aloadN hx hb hd (lv_at hl q hq) (k ls hl)
    · exact lv_aload hx hb hd (lv_at hl q hq) (k ls hl)
  case aload_n i =>
    obtain ⟨v, hv, hk, rfl, rfl⟩ := z_ld_spec h
    obtain ⟨q, hq⟩ := z_cl_at (ext := ext) (base := base) hv
    rcases z_isA_spec hk with rfl | ⟨x, rfl⟩
    · exact lv_aload_nN hx hb hd rfl (lv_at hl q hq) (k ls hl)
    · exact lv_aload_n hx hb hd rfl (lv_at hl q hq) (k ls hl)
  case istore i =>
    obtain ⟨v, hk, hn, rfl, rfl⟩ := z_st1_spec h
    obtain ⟨x, rfl⟩ := z_isI_spec hk
    exact lv_istore hx hb hd hl hn (z_cl_set1 ll i (.int x)) k
  case istore_n i =>
    obtain ⟨v, hk, hn, rfl, rfl⟩ := z_st1_spec h
    obtain ⟨x, rfl⟩ := z_isI_spec hk
    exact lv_istore_n hx hb hd rfl hl hn (z_cl_set1 ll i (.int x)) k
  case astore i =>
    obtain ⟨v, hk, hn, rfl, rfl⟩ := z_st1_spec h
    rcases z_isA_spec hk with rfl | ⟨x, rfl⟩
    · exact lv_astoreN hx hb hd hl hn (z_cl_set1 ll i .null) k
    · exact lv_astore hx hb hd hl hn (z_cl_set1 ll i (.ref x)) k
  case astore_n i =>
    obtain ⟨v, hk, hn, rfl, rfl⟩ := z_st1_spec h
    rcases z_isA_spec hk with rfl | ⟨x, rfl⟩
    · exact lv_astore_nN hx hb hd rfl hl hn (z_cl_set1 ll i .null) k
    · exact lv_astore_n hx hb hd rfl hl hn (z_cl_set1 ll i (.ref x)) k
  case lstore i =>
    obtain ⟨x, hn, rfl, rfl⟩ := z_st2_spec h
    exact lv_lstore hx hb hd hl hn (z_cl_set2 ll i (.long x)) k
  case lstore_n i =>
    obtain ⟨x, hn, rfl, rfl⟩ := z_st2_spec h
    exact lv_lstore_n hx hb hd rfl hl hn (z_cl_set2 ll i (.long x)) k
  case iinc i n =>
    obtain ⟨x, hv, hn, rfl, rfl⟩ := z_inc_spec h
    obtain ⟨q, hq⟩ := z_cl_at (ext := ext) (base := base) hv
    exact lv_iinc hx hb hd hl hq rfl hn (z_cl_set1 ll i (.int (x + Int32.ofInt n))) k
  all_goals (cases h)
end ZSIM
end
section
section ZSIMJ
variable {p : Program} {l : Launch} {e : Env} {R : Room} {s : State} {m : MethodId} {args : Array Value} {below : List Frame} {meth : Method} {c : Code} {H : Heap} {locs : List Loc} {cells slots : Nat} {Q : State → Prop}
theorem z_map_some {α β : Type} {o : Option α} {f : α → β} {b : β} (h : o.map f = some b) : ∃ a, o = some a ∧ f a = b := by
  cases o with
  | none => cases h
  | some a => exact ⟨a, rfl, Option.some.inj h⟩
set_option maxHeartbeats 4000000 in
theorem z_sim_jmp {ext : Nat → Nat} {base : Nat} {cc : ByteArray} (hx : p.tables.exec = Jvm.exec) (hb : c.code = cc) {ins : Instr} {len pc pc' : Nat} {ls : Array Slot} {st st' : List Value} (hd : decode cc pc = .ok (ins, len)) (hlen : (∃ d lo hi o, ins = .tableswitch d lo hi o) ∨ len = z_len ins) (h : z_jmp ins pc st = some (pc', st'))
    (k : W p l e R s m args below meth c H locs cells slots Q (F0 m pc' ls (st'.map (z_cv ext base)))) : W p l e R s m args below meth c H locs cells slots Q (F0 m pc ls (st.map (z_cv ext base))) := by
  cases ins
  case goto off =>
    rcases hlen with ⟨d, lo, hi, o, h1⟩ | rfl
    · cases h1
    obtain ⟨t, ht, hq⟩ := z_map_some h
    cases hq
    exact lv_goto hx hb hd (z_tg_eq ht) k
  case ifCond cnd off =>
    rcases hlen with ⟨d, lo, hi, o, h1⟩ | rfl
    · cases h1
    simp only [z_jmp] at h
    split at h
    · rename_i x r
      obtain ⟨t, ht, hq⟩ := z_map_some h
      have e1 : (if z_cmp cnd x 0 then t else pc + 3) = pc' := congrArg Prod.fst hq
      have e2 : r = st' := congrArg Prod.snd hq
      subst e2
      have ht := z_tg_eq ht
      subst e1
      cases cnd
      case eq => exact lv_if_eq hx hb hd ht (fun q => by simpa [z_cmp, q] using k) (fun q => by simpa [z_cmp, q] using k)
      case ne => exact lv_if_ne hx hb hd ht (fun q => by simpa [z_cmp, q] using k) (fun q => by simpa [z_cmp, q] using k)
      case lt => exact lv_if_lt hx hb hd ht (fun q => by simpa [z_cmp, q] using k) (fun q => by simpa [z_cmp, q] using k)
      case ge => exact lv_if_ge hx hb hd ht (fun q => by simpa [z_cmp, q] using k) (fun q => by simpa [z_cmp, q] using k)
      case gt => exact lv_if_gt hx hb hd ht (fun q => by simpa [z_cmp, q] using k) (fun q => by simpa [z_cmp, q] using k)
      case le => exact lv_if_le hx hb hd ht (fun q => by simpa [z_cmp, q] using k) (fun q => by simpa [z_cmp, q] using k)
    · cases h
  case if_icmp cnd off =>
    rcases hlen with ⟨d, lo, hi, o, h1⟩ | rfl
    · cases h1
    simp only [z_jmp] at h
    split at h
    · rename_i y x r
      obtain ⟨t, ht, hq⟩ := z_map_some h
      have e1 : (if z_cmp cnd x y then t else pc + 3) = pc' := congrArg Prod.fst hq
      have e2 : r = st' := congrArg Prod.snd hq
      subst e2
      have ht := z_tg_eq ht
      subst e1
      cases cnd
      case eq => exact lv_icmp_eq hx hb hd ht (fun q => by simpa [z_cmp, q] using k) (fun q => by simpa [z_cmp, q] using k)
      case ne => exact lv_icmp_ne hx hb hd ht (fun q => by simpa [z_cmp, q] using k) (fun q => by simpa [z_cmp, q] using k)
      case lt => exact lv_icmp_lt hx hb hd ht (fun q => by simpa [z_cmp, q] using k) (fun q => by simpa [z_cmp, q] using k)
      case ge => exact lv_icmp_ge hx hb hd ht (fun q => by simpa [z_cmp, q] using k) (fun q => by simpa [z_cmp, q] using k)
      case gt => exact lv_icmp_gt hx hb hd ht (fun q => by simpa [z_cmp, q] using k) (fun q => by simpa [z_cmp, q] using k)
      case le => exact lv_icmp_le hx hb hd ht (fun q => by simpa [z_cmp, q] using k) (fun q => by simpa [z_cmp, q] using k)
    · cases h
  case ifnull off =>
    rcases hlen with ⟨d, lo, hi, o, h1⟩ | rfl
    · cases h1
    simp only [z_jmp] at h
    split at h
    · obtain ⟨t, ht, hq⟩ := z_map_some h
      cases hq
      exact lv_ifnullN hx hb hd (z_tg_eq ht) k
    · cases h
      exact lv_ifnull hx hb hd k
    · cases h
  case ifnonnull off =>
    rcases hlen with ⟨d, lo, hi, o, h1⟩ | rfl
    · cases h1
    simp only [z_jmp] at h
    split at h
    · cases h
      exact lv_ifnonnullN hx hb hd k
    · obtain ⟨t, ht, hq⟩ := z_map_some h
      cases hq
      exact lv_ifnonnull hx hb hd (z_tg_eq ht) k
    · cases h
  case tableswitch d lo hi o =>
    simp only [z_jmp] at h
    split at h
    · rename_i x r
      split at h
      · rename_i h1
        obtain ⟨t, ht, hq⟩ := z_map_some h
        cases hq
        exact lv_tableOut hx hb hd h1 (z_tg_eq ht) k
      · rename_i h1
        split at h
        · rename_i off ho
          obtain ⟨t, ht, hq⟩ := z_map_some h
          cases hq
          exact lv_tableIn hx hb hd (fun q => h1 (Or.inl q)) (fun q => h1 (Or.inr q)) ho (z_tg_eq ht) k
        · cases h
    · cases h
  all_goals (cases h)
end ZSIMJ
section ZREP
/-- a cell of the picture at an address of the machine: an object of a class, a thing of which nothing is said (99), an array -/
def z_at (D : va_G) (cl : List vw_C) (ta : Nat → ClassId) (cv : Value → Value) (q : z_C) (a : Nat) (H : Heap) : Prop :=
  (q.1 < 99 → ∃ r : vw_C, cl[q.1]? = some r ∧ q.2.length = r.2.2 ∧ t_OB a (D.1 q.1) r.2.2 (D.2 q.1) H (vp_V (q.2.map cv))) ∧
  (100 ≤ q.1 → H[a]? = some (arrV (ta (q.1 - 100)) q.2.length (fun j => cv (q.2.getD j .null))))
theorem z_at.kept {D : va_G} {cl : List vw_C} {ta : Nat → ClassId} {cv : Value → Value} {q : z_C} {a : Nat} {H H1 : Heap} (h : z_at D cl ta cv q a H) (h1 : H1[a]? = H[a]?) : z_at D cl ta cv q a H1 :=
  ⟨fun n => by
    obtain ⟨r, e1, e2, e3⟩ := h.1 n
    exact ⟨r, e1, e2, e3.kept h1⟩, fun n => by rw [h1]; exact h.2 n⟩
/-- the machine's heap holds the picture, from the base on -/
def z_R (D : va_G) (cl : List vw_C) (ta : Nat → ClassId) (ext : Nat → Nat) (base : Nat) (P : z_H) (H : Heap) : Prop :=
  H.size = base + P.length ∧ P.length ≤ z_far ∧ ∀ (k : Nat) (q : z_C), P[k]? = some q → z_at D cl ta (z_cv ext base) q (base + k) H
/-- what is known of the classes and arrays: aty lists the kinds of the arrays -/
def z_K (D : va_G) (cl : List vw_C) (ta : Nat → ClassId) (aty : List FieldType) (U : State) : Prop :=
  (∀ (c : Nat) (q : vw_C), cl[c]? = some q → u_Kn U q.1 q.2.1 q.2.2 (D.1 c) (D.2 c)) ∧ ∀ (i : Nat) (t : FieldType), aty[i]? = some t → ArrOfT U (ta i) t ∧ va_RA U (ta i) t
theorem z_K.va {D : va_G} {cl : List vw_C} {ta : Nat → ClassId} {aty : List FieldType} {U : State} (h : z_K D cl ta aty U) : va_K D cl [] U := ⟨h.1, fun k q hk => by simp at hk⟩
theorem z_K.moved {D : va_G} {cl : List vw_C} {ta : Nat → ClassId} {aty : List FieldType} {u U : State} (hvm : u.vm.Alike U.vm) (h : z_K D cl ta aty u) : z_K D cl ta aty U :=
  ⟨fun c q hq => u_Kn_moved hvm (h.1 c q hq), fun i t hi => ⟨arrOfT_moved hvm (h.2 i t hi).1, (h.2 i t hi).2.moved hvm⟩⟩
theorem z_cv_near {ext : Nat → Nat} {base k : Nat} (h : k < z_far) : z_cv ext base (.ref k) = .ref (base + k) := by
  show Value.ref (if k < z_far then base + k else ext (k - z_far)) = _
  rw [if_pos h]
theorem z_get_lt {P : z_H} {k : Nat} {q : z_C} (h : P[k]? = some q) : k < P.length := (List.getElem?_eq_some_iff.mp h).1
theorem z_R.at {D : va_G} {cl : List vw_C} {ta : Nat → ClassId} {ext : Nat → Nat} {base : Nat} {P : z_H} {H : Heap} (h : z_R D cl ta ext base P H) {k : Nat} {q : z_C} (hk : P[k]? = some q) : z_at D cl ta (z_cv ext base) q (base + k) H := h.2.2 k q hk
theorem z_R.near {D : va_G} {cl : List vw_C} {ta : Nat → ClassId} {ext : Nat → Nat} {base : Nat} {P : z_H} {H : Heap} (h : z_R D cl ta ext base P H) {k : Nat} {q : z_C} (hk : P[k]? = some q) : z_cv ext base (.ref k) = .ref (base + k) :=
  z_cv_near (Nat.lt_of_lt_of_le (z_get_lt hk) h.2.1)
theorem z_R.set {D : va_G} {cl : List vw_C} {ta : Nat → ClassId} {ext : Nat → Nat} {base : Nat} {P : z_H} {H H1 : Heap} (h : z_R D cl ta ext base P H) {k : Nat} {q' : z_C} (hs : H1.size = H.size) (ho : ∀ a, a ≠ base + k → H1[a]? = H[a]?) (h1 : z_at D cl ta (z_cv ext base) q' (base + k) H1) : z_R D cl ta ext base (P.set k q') H1 := by
  refine ⟨by rw [hs, h.1]; simp, by simpa using h.2.1, fun j q hj => ?_⟩
  rw [List.getElem?_set] at hj
  split at hj
  · rename_i e
    subst e
    split at hj
    · cases hj; exact h1
    · cases hj
  · rename_i e
    exact (h.at hj).kept (ho _ (by omega))
theorem z_R.push {D : va_G} {cl : List vw_C} {ta : Nat → ClassId} {ext : Nat → Nat} {base : Nat} {P : z_H} {H H1 : Heap} (h : z_R D cl ta ext base P H) {q' : z_C} (hn : P.length < z_far) (hs : H1.size = H.size + 1) (ho : ∀ a, a < H.size → H1[a]? = H[a]?) (h1 : z_at D cl ta (z_cv ext base) q' (base + P.length) H1) : z_R D cl ta ext base (P ++ [q']) H1 := by
  refine ⟨by rw [hs, h.1, List.length_append]; simp; omega, by simp; omega, fun j q hj => ?_⟩
  rw [List.getElem?_append] at hj
  split at hj
  · rename_i e
    exact (h.at hj).kept (ho _ (by rw [h.1]; omega))
  · rename_i e
    have : j = P.length := by
      have := (List.getElem?_eq_some_iff.mp hj).1
      simp at this
      omega
    subst this
    simp at hj
    subst hj
    exact h1
end ZREP
end
section
section ZSIMR
variable {p : Program} {l : Launch} {e : Env} {R : Room} {s : State} {m : MethodId} {args : Array Value} {below : List Frame} {meth : Method} {c : Code} {H : Heap} {locs : List Loc} {cells slots : Nat} {Q : State → Prop}
theorem z_al_spec {t : Nat} {k : Value → Bool} {P : Nat → Option z_C} {st st' : List Value} (h : z_al t k P st = some st') : ∃ (i : Int32) (a : Nat) (r : List Value) (vs : List Value) (v : Value), st = .int i :: .ref a :: r ∧ P a = some (t, vs) ∧ 0 ≤ i.toInt ∧ vs[i.toNatClampNeg]? = some v ∧ k v = true ∧ st' = v :: r := by
  unfold z_al at h
  split at h
  · rename_i i a r
    split at h
    · rename_i q hq
      split at h
      · rename_i h1
        split at h
        · rename_i v hv
          split at h
          · rename_i hk
            cases h
            exact ⟨i, a, r, q.2, v, rfl, by rw [hq, ← h1.1], h1.2, hv, hk, rfl⟩
          · cases h
        · cases h
      · cases h
    · cases h
  · cases h
theorem z_alq_spec {nA : Nat} {P : Nat → Option z_C} {st st' : List Value} (h : z_alq nA P st = some st') : ∃ (i : Int32) (a : Nat) (r : List Value) (t : Nat) (vs : List Value) (v : Value), st = .int i :: .ref a :: r ∧ P a = some (t, vs) ∧ 105 ≤ t ∧ t < 100 + nA ∧ 0 ≤ i.toInt ∧ vs[i.toNatClampNeg]? = some v ∧ z_isA v = true ∧ st' = v :: r := by
  unfold z_alq at h
  split at h
  · rename_i i a r
    split at h
    · rename_i q hq
      split at h
      · rename_i h1
        split at h
        · rename_i v hv
          split at h
          · rename_i hk
            cases h
            exact ⟨i, a, r, q.1, q.2, v, rfl, hq, h1.1, h1.2.1, h1.2.2, hv, hk, rfl⟩
          · cases h
        · cases h
      · cases h
    · cases h
  · cases h
theorem z_alen_spec {nA : Nat} {P : Nat → Option z_C} {st st' : List Value} (h : z_alen nA P st = some st') : ∃ (a : Nat) (r : List Value) (t : Nat) (vs : List Value), st = .ref a :: r ∧ P a = some (t, vs) ∧ 100 ≤ t ∧ t < 100 + nA ∧ st' = .int (Int32.ofNat vs.length) :: r := by
  unfold z_alen at h
  split at h
  · rename_i a r
    split at h
    · rename_i q hq
      split at h
      · rename_i h1
        cases h
        exact ⟨a, r, q.1, q.2, rfl, hq, h1.1, h1.2, rfl⟩
      · cases h
    · cases h
  · cases h
theorem z_gf_spec {fk : Option (Nat × Nat)} {P : Nat → Option z_C} {st st' : List Value} (h : z_gf fk P st = some st') : ∃ (a : Nat) (r : List Value) (ci f : Nat) (vs : List Value) (v : Value), st = .ref a :: r ∧ fk = some (ci, f) ∧ P a = some (ci, vs) ∧ ci < 99 ∧ vs[f]? = some v ∧ st' = v :: r := by
  unfold z_gf at h
  split at h
  · rename_i a r
    split at h
    · rename_i f
      split at h
      · rename_i q hq
        split at h
        · rename_i h1
          split at h
          · rename_i v hv
            cases h
            exact ⟨a, r, f.1, f.2, q.2, v, rfl, rfl, by rw [hq, ← h1.1], by rw [← h1.1]; exact h1.2, hv, rfl⟩
          · cases h
        · cases h
      · cases h
    · cases h
  · cases h
/-- the five kinds of numbers stand first among the arrays, behind them references alone -/
def z_aty (aty : List FieldType) : Prop := aty[0]? = some .boolean ∧ aty[1]? = some .byte ∧ aty[2]? = some .char ∧ aty[3]? = some .int ∧ aty[4]? = some .long ∧ ∀ (i : Nat) (t : FieldType), 5 ≤ i → aty[i]? = some t → t.isReference = true
theorem z_in {i : Int32} {n : Nat} (h0 : 0 ≤ i.toInt) (h : i.toNatClampNeg < n) : ¬ (i < 0 ∨ n ≤ i.toNatClampNeg) := by
  rintro (q | q)
  · rw [Int32.lt_iff_toInt_lt] at q
    have : (0 : Int32).toInt = 0 := by decide
    omega
  · omega
theorem z_arr_read {cA : ClassId} {cv : Value → Value} {vs : List Value} {j : Nat} {v : Value} (h : vs[j]? = some v) : (arrV cA vs.length (fun j => cv (vs.getD j .null))).slots[j]? = some (cv v) := by
  have hj : j < vs.length := (List.getElem?_eq_some_iff.mp h).1
  rw [arrV_read cA _ hj]
  simp [h]
/-- what the pool says of a field: its link, plainly or as a nest mate's -/
def z_fl (s : State) (args : Array Value) (own : String) (n : Nat) (f : String × String × String × Bool) : Prop :=
  (Cond.fieldLink own n f.1 f.2.1 f.2.2.1).before args s = true ∨ ∃ host, (Cond.fieldLinkNest own n f.1 f.2.1 f.2.2.1 host).before args s = true
/-- what the words say of the classes -/
def z_CL (cl : List vw_C) (Ts : List Cond) : Prop := ∀ (ci : Nat) (r : vw_C), cl[ci]? = some r → (∀ w ∈ u_ws r.1 r.2.1 r.2.2, w ∈ Ts) ∧ (∃ ty : Nat → FieldType, ∀ k, k < r.2.2 → parseFieldDescriptor (r.2.1 k).2.2.1 = some (ty k)) ∧ ∀ a, a < r.2.2 → ∀ b, b < r.2.2 → a ≠ b → (r.2.1 a).2.1 ≠ (r.2.1 b).2.1
/-- the String constants stand, far from what the law makes; fs: where they are told -/
def z_X (strs : List (List Int32)) (ext : Nat → Nat) (base : Nat) (rs : List (String × Nat × String × Nat)) (U : State) : Prop :=
  vk_S strs.length (strs.map List.length) strs (fun i => ext (2 * i)) (fun i => ext (2 * i + 1)) (fun q => base ≤ q) U U.heap ∧ va_Z "java/lang/String" "COMPACT_STRINGS" "Z" (.int 1) (fun q => base ≤ q) U U.heap ∧ ∀ r ∈ rs, vk_R r.1 r.2.1 r.2.2.1 (ext (2 * r.2.2.2)) U
theorem z_lk_near {strs : List (List Int32)} {P : z_H} {a : Nat} {q : z_C} (h : z_lk strs P a = some q) (h1 : q.1 ≠ 98) (h2 : q.1 ≠ 101) : P[a]? = some q := by
  unfold z_lk at h
  split at h
  · exact h
  · unfold z_fc at h
    split at h
    · split at h
      · cases h; exact absurd rfl h1
      · cases h; exact absurd rfl h2
    · cases h
theorem z_lk_far {strs : List (List Int32)} {P : z_H} {a : Nat} {q : z_C} (h : z_lk strs P a = some q) : P[a]? = some q ∨ ∃ i b, strs[i]? = some b ∧ ((a = z_far + 2 * i ∧ q = (98, [.ref (z_far + (2 * i + 1)), .int 0])) ∨ (a = z_far + (2 * i + 1) ∧ q = (101, b.map Value.int))) := by
  unfold z_lk at h
  split at h
  · exact Or.inl h
  · rename_i h0
    unfold z_fc at h
    split at h
    · rename_i b hb
      refine Or.inr ⟨(a - z_far) / 2, b, hb, ?_⟩
      split at h
      · rename_i h1
        cases h
        refine Or.inl ⟨by omega, ?_⟩
        have : z_far + (a - z_far) + 1 = z_far + (2 * ((a - z_far) / 2) + 1) := by omega
        rw [this]
      · cases h
        exact Or.inr ⟨by omega, rfl⟩
    · cases h
theorem z_cv_far {ext : Nat → Nat} {base j : Nat} : z_cv ext base (.ref (z_far + j)) = .ref (ext j) := by
  show Value.ref (if z_far + j < z_far then base + (z_far + j) else ext (z_far + j - z_far)) = _
  rw [if_neg (by omega), show z_far + j - z_far = j by omega]
set_option maxHeartbeats 4000000 in
theorem z_sim_rd {D : va_G} {cl : List vw_C} {ta : Nat → ClassId} {aty : List FieldType} {ext : Nat → Nat} {base : Nat} {Ts : List Cond} {own : String} {P : z_H} {fld : Nat → Option (Nat × Nat)}
    {cc : ByteArray} (hx : p.tables.exec = Jvm.exec) (hb : c.code = cc) (hts : ∀ w ∈ Ts, w.before args s = true) (hown : s.vm.findClass own = some m.cls) (hK : z_K D cl ta aty s) (hA : z_aty aty) (hC : z_CL cl Ts) (hR : z_R D cl ta ext base P H) {strs : List (List Int32)} {rs : List (String × Nat × String × Nat)} (hX : z_X strs ext base rs s) (hS : va_S (fun q => base ≤ q) s.heap H locs)
    {ins : Instr} {len pc : Nat} {ls : Array Slot} {st st' : List Value} (hfl : ∀ n ci k r, ins = .getfield n → fld n = some (ci, k) → cl[ci]? = some r → k < r.2.2 ∧ z_fl s args own n (r.2.1 k)) (hfs : ∀ n k, ins = .getfield n → fld n = some (98, k) → (k = 0 ∧ (Cond.fieldLink own n "java/lang/String" "value" "[B").before args s = true) ∨ (k = 1 ∧ (Cond.fieldLink own n "java/lang/String" "coder" "B").before args s = true)) (hd : decode cc pc = .ok (ins, len)) (hlen : len = z_len ins) (h : z_rd fld aty.length (z_lk strs P) ins st = some st')
    (k : W p l e R s m args below meth c H locs cells slots Q (F0 m (pc + len) ls (st'.map (z_cv ext base)))) : W p l e R s m args below meth c H locs cells slots Q (F0 m pc ls (st.map (z_cv ext base))) := by
  subst hlen
  obtain ⟨a0, a1, a2, a3, a4, a5⟩ := hA
  have rd : ∀ (t : Nat) (ty : FieldType) (kd : Value → Bool), aty[t]? = some ty → t ≠ 1 → z_al (100 + t) kd (z_lk strs P) st = some st' →
      ∃ (i : Int32) (a : Nat) (r : List Value) (v : Value) (cell : Cell), st.map (z_cv ext base) = .int i :: .ref (base + a) :: r.map (z_cv ext base) ∧ H[base + a]? = some cell ∧ s.isArrayOf cell ty ∧ cell.vm ≠ .unknown ∧ ¬ (i < 0 ∨ cell.slots.size ≤ i.toNatClampNeg) ∧ cell.slots[i.toNatClampNeg]? = some (z_cv ext base v) ∧ st' = v :: r := by
    intro t ty kd hty ht1 hz
    obtain ⟨i, a, r, vs, v, rfl, hP, h0, hv, -, rfl⟩ := z_al_spec hz
    have hP := z_lk_near hP (by show 100 + t ≠ 98; omega) (by show 100 + t ≠ 101; omega)
    have hq := (hR.at hP).2 (by show 100 ≤ 100 + t; omega)
    have hlt : i.toNatClampNeg < vs.length := (List.getElem?_eq_some_iff.mp hv).1
    have ht : 100 + t - 100 = t := by omega
    refine ⟨i, a, r, v, _, by rw [List.map_cons, List.map_cons, hR.near hP]; rfl, hq, ?_, (fun q => by cases q), ?_, z_arr_read hv, rfl⟩
    · show s.isArrayOf (arrV (ta (100 + t - 100)) _ _) ty
      rw [ht]
      exact (hK.2 t ty hty).1 _ _
    · rw [arrV_size]
      exact z_in h0 hlt
  cases ins
  case getfield n =>
    obtain ⟨a, r, ci, f, vs, v, rfl, hf, hP, hci, hv, rfl⟩ := z_gf_spec h
    rcases z_lk_far hP with hP | ⟨i, b, hb2, ⟨rfl, hq⟩ | ⟨rfl, hq⟩⟩
    rotate_left
    · cases hq
      have hi : i < strs.length := (List.getElem?_eq_some_iff.mp hb2).1
      obtain ⟨-, x2, x3, -⟩ := hX.1.1 i hi
      rw [List.map_cons, z_cv_far]
      rcases hfs n f rfl hf with ⟨rfl, hlk⟩ | ⟨rfl, hlk⟩
      · cases hv
        rw [List.map_cons, z_cv_far] at k
        exact va_getX hx hb (o := "java/lang/String") (n := "value") (d := "[B") (N := 1) (v := fun _ => .ref (ext (2 * i + 1))) (ad := fun _ => ext (2 * i)) (i := 0) (fun _ _ => x3) (by decide) hS hown hlk (fun _ q => q) hd k
      · cases hv
        exact va_getX hx hb (o := "java/lang/String") (n := "coder") (d := "B") (N := 1) (v := fun _ => .int 0) (ad := fun _ => ext (2 * i)) (i := 0) (fun _ _ => x2) (by decide) hS hown hlk (fun _ q => q) hd k
    · cases hq
      omega
    obtain ⟨⟨C, T, N⟩, hr, hN, hO⟩ := (hR.at hP).1 hci
    obtain ⟨hkN, hlk⟩ := hfl n ci f _ rfl hf hr
    have hW : va_P D cl [(base + a, .inr (ci, vs.map (z_cv ext base)))] H := fun j q hj => by
      match j, hj with
      | 0, hj => cases hj; exact ⟨_, hr, hO⟩
      | j + 1, hj => simp at hj
    have hv' : (vs.map (z_cv ext base))[f]? = some (z_cv ext base v) := by simp [hv]
    rw [List.map_cons, hR.near hP]
    rcases hlk with hlk | ⟨host, hlk⟩
    · exact va_get hx hb hts (hC ci _ hr).1 hown hK.va hW 0 rfl hr f hkN hlk (fun _ q => q) hv' hd k
    · exact va_getN hx hb hts (hC ci _ hr).1 hown hK.va hW 0 rfl hr f hkN hlk (fun _ q => q) hv' hd k
  case iaload =>
    obtain ⟨i, a, r, v, cell, e1, e2, e3, e4, e5, e6, rfl⟩ := rd 3 _ _ a3 (by decide) h
    rw [e1]
    exact W.iald hx hb e2 e3 e4 e5 e6 rfl rfl hd k
  case caload =>
    obtain ⟨i, a, r, v, cell, e1, e2, e3, e4, e5, e6, rfl⟩ := rd 2 _ _ a2 (by decide) h
    rw [e1]
    exact W.cald hx hb e2 e3 e4 e5 e6 rfl rfl hd k
  case laload =>
    obtain ⟨i, a, r, v, cell, e1, e2, e3, e4, e5, e6, rfl⟩ := rd 4 _ _ a4 (by decide) h
    rw [e1]
    exact W.lald hx hb e2 e3 e4 e5 e6 rfl rfl hd k
  case baload =>
    have h : (z_al 101 z_isI (z_lk strs P) st).or (z_al 100 z_isI (z_lk strs P) st) = some st' := h
    cases h1 : z_al 101 z_isI (z_lk strs P) st with
    | some w =>
      rw [h1] at h
      cases h
      obtain ⟨i, a, r, vs, v, rfl, hP, h0, hv, -, rfl⟩ := z_al_spec h1
      rcases z_lk_far hP with hP | ⟨j, b, hb2, ⟨rfl, hq⟩ | ⟨rfl, hq⟩⟩
      · have hq := (hR.at hP).2 (by show 100 ≤ 101; omega)
        have hlt : i.toNatClampNeg < vs.length := (List.getElem?_eq_some_iff.mp hv).1
        rw [List.map_cons, List.map_cons, hR.near hP]
        exact W.bald hx hb hq ((hK.2 1 _ a1).1 _ _) (fun q => by cases q) (by rw [arrV_size]; exact z_in h0 hlt) (z_arr_read hv) rfl rfl hd k
      · cases hq
      · cases hq
        have hj : j < strs.length := (List.getElem?_eq_some_iff.mp hb2).1
        obtain ⟨-, -, -, x4⟩ := hX.1.1 j hj
        have hlt : i.toNatClampNeg < b.length := by have := (List.getElem?_eq_some_iff.mp hv).1; simpa using this
        have e1 : (strs.map List.length).getD j 0 = b.length := by simp [hb2]
        have e2 : strs.getD j [] = b := by simp [hb2]
        rw [e1, e2] at x4
        rw [List.map_cons, List.map_cons, z_cv_far]
        refine va_tb hx hb x4 hS (z_in h0 hlt) (v := z_cv ext base v) ?_ hd k
        rw [List.getElem?_map] at hv
        cases hb3 : b[i.toNatClampNeg]? with
        | none => rw [hb3] at hv; cases hv
        | some w =>
          rw [hb3] at hv
          cases hv
          simp [hb3, z_cv]
    | none =>
      rw [h1] at h
      obtain ⟨i, a, r, v, cell, e1, e2, e3, e4, e5, e6, rfl⟩ := rd 0 _ _ a0 (by decide) h
      rw [e1]
      exact W.zald hx hb e2 e3 e4 e5 e6 rfl rfl hd k
  case aaload =>
    obtain ⟨i, a, r, t, vs, v, rfl, hP, h5, hlt, h0, hv, -, rfl⟩ := z_alq_spec h
    have hP := z_lk_near hP (by show t ≠ 98; omega) (by show t ≠ 101; omega)
    have hq := (hR.at hP).2 (by show 100 ≤ t; omega)
    have hil : i.toNatClampNeg < vs.length := (List.getElem?_eq_some_iff.mp hv).1
    obtain ⟨ty, hty⟩ : ∃ ty, aty[t - 100]? = some ty := ⟨_, List.getElem?_eq_getElem (by omega)⟩
    rw [List.map_cons, List.map_cons, hR.near hP]
    exact W.aald hx hb hq ((hK.2 _ ty hty).1 _ _) (a5 _ _ (by omega) hty) (fun q => by cases q) (by rw [arrV_size]; exact z_in h0 hil) (z_arr_read hv) rfl rfl hd k
  case arraylength =>
    obtain ⟨a, r, t, vs, rfl, hP, h5, hlt, rfl⟩ := z_alen_spec h
    rcases z_lk_far hP with hP | ⟨j, b, hb2, ⟨rfl, hq⟩ | ⟨rfl, hq⟩⟩
    rotate_left
    · cases hq
      omega
    · cases hq
      have hj : j < strs.length := (List.getElem?_eq_some_iff.mp hb2).1
      obtain ⟨-, -, -, x4⟩ := hX.1.1 j hj
      have e1 : (strs.map List.length).getD j 0 = b.length := by simp [hb2]
      rw [e1] at x4
      rw [List.map_cons, z_cv_far]
      exact va_tlen hx hb x4 hS (by simp) hd k
    have hq := (hR.at hP).2 (by show 100 ≤ t; omega)
    obtain ⟨ty, hty⟩ : ∃ ty, aty[t - 100]? = some ty := ⟨_, List.getElem?_eq_getElem (by omega)⟩
    rw [List.map_cons, hR.near hP]
    exact W.alen hx hb hq ((hK.2 _ ty hty).1 _ _) (n := Int32.ofNat vs.length) (by rw [arrV_size]) rfl rfl hd k
  all_goals (cases h)
end ZSIMR
end
section
section ZSIMW
variable {p : Program} {l : Launch} {e : Env} {R : Room} {s : State} {m : MethodId} {args : Array Value} {below : List Frame} {meth : Method} {c : Code} {H : Heap} {locs : List Loc} {cells slots : Nat} {Q : State → Prop}
theorem z_as_spec {t : Nat} {nf : Int32 → Int32} {P P' : z_H} {st st' : List Value} (h : z_as t nf P st = some (st', P')) : ∃ (x i : Int32) (a : Nat) (vs : List Value), st = .int x :: .int i :: .ref a :: st' ∧ P[a]? = some (t, vs) ∧ 0 ≤ i.toInt ∧ i.toNatClampNeg < vs.length ∧ P' = P.set a (t, vs.set i.toNatClampNeg (.int (nf x))) := by
  unfold z_as at h
  split at h
  · rename_i x i a r
    split at h
    · rename_i q hq
      split at h
      · rename_i h1
        cases h
        exact ⟨x, i, a, q.2, rfl, by rw [hq, ← h1.1], h1.2.1, h1.2.2, rfl⟩
      · cases h
    · cases h
  · cases h
theorem z_las_spec {P P' : z_H} {st st' : List Value} (h : z_las P st = some (st', P')) : ∃ (x : Int64) (i : Int32) (a : Nat) (vs : List Value), st = .long x :: .int i :: .ref a :: st' ∧ P[a]? = some (104, vs) ∧ 0 ≤ i.toInt ∧ i.toNatClampNeg < vs.length ∧ P' = P.set a (104, vs.set i.toNatClampNeg (.long x)) := by
  unfold z_las at h
  split at h
  · rename_i x i a r
    split at h
    · rename_i q hq
      split at h
      · rename_i h1
        cases h
        exact ⟨x, i, a, q.2, rfl, by rw [hq, ← h1.1], h1.2.1, h1.2.2, rfl⟩
      · cases h
    · cases h
  · cases h
theorem z_aas_spec {ac : Nat → Option Nat} {P P' : z_H} {st st' : List Value} (h : z_aas ac P st = some (st', P')) : ∃ (v : Nat) (i : Int32) (a t ci : Nat) (vs ws : List Value), st = .ref v :: .int i :: .ref a :: st' ∧ P[a]? = some (t, vs) ∧ P[v]? = some (ci, ws) ∧ 105 ≤ t ∧ ci < 99 ∧ ac (t - 100) = some ci ∧ 0 ≤ i.toInt ∧ i.toNatClampNeg < vs.length ∧ P' = P.set a (t, vs.set i.toNatClampNeg (.ref v)) := by
  unfold z_aas at h
  split at h
  · rename_i v i a r
    split at h
    · rename_i q hq
      split at h
      · rename_i w hw
        split at h
        · rename_i h1
          cases h
          exact ⟨v, i, a, q.1, w.1, q.2, w.2, rfl, hq, hw, h1.1, h1.2.1, h1.2.2.1, h1.2.2.2.1, h1.2.2.2.2, rfl⟩
        · cases h
      · cases h
    · cases h
  · cases h
theorem z_pf_spec {fk : Option (Nat × Nat)} {fty : Nat → Nat → FieldType} {fin : Nat → Nat → Bool} {ini : Option Nat} {P P' : z_H} {st st' : List Value} (h : z_pf fk fty fin ini P st = some (st', P')) :
    ∃ (v : Value) (a ci f : Nat) (vs : List Value), st = v :: .ref a :: st' ∧ fk = some (ci, f) ∧ P[a]? = some (ci, vs) ∧ ci < 99 ∧ f < vs.length ∧ fits (fty ci f) v = true ∧ narrow (fty ci f) v = v ∧ (fin ci f = false ∨ ini = some ci) ∧ P' = P.set a (ci, vs.set f v) := by
  unfold z_pf at h
  split at h
  · rename_i v a r
    split at h
    · rename_i f
      split at h
      · rename_i q hq
        split at h
        · rename_i h1
          cases h
          exact ⟨v, a, f.1, f.2, q.2, rfl, rfl, by rw [hq, ← h1.1], by rw [← h1.1]; exact h1.2.1, h1.2.2.1, h1.2.2.2.1, h1.2.2.2.2.1, h1.2.2.2.2.2, rfl⟩
        · cases h
      · cases h
    · cases h
  · cases h
theorem z_cv_fits {ext : Nat → Nat} {base : Nat} {ty : FieldType} {v : Value} (h : fits ty v = true) : fits ty (z_cv ext base v) = true := by
  cases v <;> first | exact h | (cases ty <;> first | exact h | rfl)
theorem z_cv_narrow {ext : Nat → Nat} {base : Nat} {ty : FieldType} {v : Value} (h : narrow ty v = v) : narrow ty (z_cv ext base v) = z_cv ext base v := by
  cases v <;> first | exact h | (cases ty <;> rfl)
/-- what the pool's tables say of the fields' types -/
def z_FT (cl : List vw_C) (fty : Nat → Nat → FieldType) (fin : Nat → Nat → Bool) : Prop := ∀ (ci : Nat) (r : vw_C) (k : Nat), cl[ci]? = some r → k < r.2.2 → parseFieldDescriptor (r.2.1 k).2.2.1 = some (fty ci k) ∧ fin ci k = (r.2.1 k).2.2.2
theorem z_arr_at {D : va_G} {cl : List vw_C} {ta : Nat → ClassId} {cv : Value → Value} {t j a : Nat} {vs : List Value} {v : Value} {H1 : Heap} (ht : 100 ≤ t) (hj : j < vs.length)
    (h : H1[a]? = some ((arrV (ta (t - 100)) vs.length (fun j => cv (vs.getD j .null))).setSlot j (cv v))) : z_at D cl ta cv (t, vs.set j v) a H1 := by
  refine ⟨fun n => absurd n (by show ¬ t < 99; omega), fun _ => ?_⟩
  rw [h]
  show _ = some (arrV (ta (t - 100)) (vs.set j v).length (fun i => cv ((vs.set j v).getD i .null)))
  rw [arrV_store, List.length_set]
  congr 2
  funext i
  by_cases hi : i = j
  · subst hi
    simp [updV, hj]
  · simp [updV, hi, List.getElem?_set, Ne.symm hi]
set_option maxHeartbeats 8000000 in
theorem z_sim_wr {D : va_G} {cl : List vw_C} {ta : Nat → ClassId} {aty : List FieldType} {ext : Nat → Nat} {base : Nat} {Ts : List Cond} {own : String} {P P' : z_H} {fld : Nat → Option (Nat × Nat)} {fty : Nat → Nat → FieldType} {fin : Nat → Nat → Bool} {ini : Option Nat} {ac : Nat → Option Nat} {A : Nat → Prop} {H0 : Heap}
    {cc : ByteArray} (hx : p.tables.exec = Jvm.exec) (hb : c.code = cc) (hts : ∀ w ∈ Ts, w.before args s = true) (hown : s.vm.findClass own = some m.cls) (hK : z_K D cl ta aty s) (hA : z_aty aty) (hC : z_CL cl Ts) (hF : z_FT cl fty fin) (hR : z_R D cl ta ext base P H) (hS : va_S A H0 H locs) (hAb : ∀ q, base ≤ q → A q)
    (hac : ∀ i ci, ac i = some ci → ∃ r, cl[ci]? = some r ∧ aty[i]? = some (.object r.1)) (hini : ∀ ci r k, ini = some ci → cl[ci]? = some r → k < r.2.2 → meth.name = "<init>" ∧ (r.2.1 k).1 = own)
    {ins : Instr} {len pc : Nat} {ls : Array Slot} {st st' : List Value} (hfl : ∀ n ci k r, ins = .putfield n → fld n = some (ci, k) → cl[ci]? = some r → k < r.2.2 ∧ z_fl s args own n (r.2.1 k) ∧ (fin ci k = true → ini = some ci → (Cond.fieldLink own n (r.2.1 k).1 (r.2.1 k).2.1 (r.2.1 k).2.2.1).before args s = true)) (hd : decode cc pc = .ok (ins, len)) (hlen : len = z_len ins) (h : z_wr fld fty fin ini ac P ins st = some (st', P'))
    (k : ∀ H1 locs1, z_R D cl ta ext base P' H1 → va_S A H0 H1 locs1 → W p l e R s m args below meth c H1 locs1 cells slots Q (F0 m (pc + len) ls (st'.map (z_cv ext base)))) : W p l e R s m args below meth c H locs cells slots Q (F0 m pc ls (st.map (z_cv ext base))) := by
  subst hlen
  obtain ⟨a0, a1, a2, a3, a4, a5⟩ := hA
  have wr : ∀ (t : Nat) (ty : FieldType) (nf : Int32 → Int32), aty[t]? = some ty → z_as (100 + t) nf P st = some (st', P') →
      ∃ (x i : Int32) (a : Nat) (cell : Cell), st.map (z_cv ext base) = .int x :: .int i :: .ref (base + a) :: st'.map (z_cv ext base) ∧ H[base + a]? = some cell ∧ s.isArrayOf cell ty ∧ cell.vm ≠ .unknown ∧ ¬ (i < 0 ∨ cell.slots.size ≤ i.toNatClampNeg) ∧
        ∀ H1 : Heap, H1[base + a]? = some (cell.setSlot i.toNatClampNeg (.int (nf x))) → H1.size = H.size → (∀ q, q ≠ base + a → H1[q]? = H[q]?) → z_R D cl ta ext base P' H1 ∧ va_S A H0 H1 (locs ++ [⟨base + a, i.toNatClampNeg⟩]) := by
    intro t ty nf hty hz
    obtain ⟨x, i, a, vs, rfl, hP, h0, hlt, rfl⟩ := z_as_spec hz
    have hq := (hR.at hP).2 (by show 100 ≤ 100 + t; omega)
    have ht : 100 + t - 100 = t := by omega
    refine ⟨x, i, a, _, by rw [List.map_cons, List.map_cons, List.map_cons, hR.near hP]; rfl, hq, ?_, (fun q => by cases q), ?_, fun H1 e1 e2 e3 => ⟨hR.set e2 e3 (z_arr_at (v := .int (nf x)) (by omega) hlt e1), hS.put e2 e3 (hAb _ (Nat.le_add_right _ _))⟩⟩
    · show s.isArrayOf (arrV (ta (100 + t - 100)) _ _) ty
      rw [ht]
      exact (hK.2 t ty hty).1 _ _
    · rw [arrV_size]
      exact z_in h0 hlt
  cases ins
  case putfield n =>
    obtain ⟨v, a, ci, f, vs, rfl, hf, hP, hci, hlf, hfit, hnar, hfin, rfl⟩ := z_pf_spec h
    obtain ⟨⟨C, T, N⟩, hr, hN, cell, g1, g2, g3, g4⟩ := (hR.at hP).1 hci
    obtain ⟨hkN, hlk, hlkF⟩ := hfl n ci f _ rfl hf hr
    obtain ⟨hin, ⟨ty, hty⟩, hnm⟩ := hC ci _ hr
    obtain ⟨hft, hff⟩ := hF ci _ f hr hkN
    have hap := va_apart (own := own) hts hin ty hty hnm hK.va hr
    obtain ⟨hSl, hfc, kC, hkC, hkind⟩ := hK.1 ci _ hr
    obtain ⟨cf, kf, fi, fd, hi, hsl⟩ := hSl f hkN
    have hlay := hts _ (hin _ (u_in_lay hkN))
    have hst := (u_facts hfc hkC (u_lays hts hin hkN) hi).1
    have hlen2 : (vs.map (z_cv ext base)).length = vs.length := List.length_map _
    have key : ∀ H1 : Heap, H1[base + a]? = some (cell.setSlot fd.slot (z_cv ext base v)) → H1.size = H.size → (∀ q, q ≠ base + a → H1[q]? = H[q]?) → z_R D cl ta ext base (P.set a (ci, vs.set f v)) H1 ∧ va_S A H0 H1 (locs ++ [⟨base + a, fd.slot⟩]) := by
      intro H1 e1 e2 e3
      refine ⟨hR.set e2 e3 ⟨fun _ => ⟨_, hr, by rw [List.length_set]; exact hN, ?_⟩, fun n => absurd n (by show ¬ 100 ≤ ci; omega)⟩, hS.put e2 e3 (hAb _ (Nat.le_add_right _ _))⟩
      show t_OB (base + a) (D.1 ci) N (D.2 ci) H1 (vp_V ((vs.set f v).map (z_cv ext base)))
      rw [List.map_set]
      rw [hsl] at e1
      exact t_OB.to (V := updV (vp_V (vs.map (z_cv ext base))) f (z_cv ext base v)) ⟨_, e1, g2, g3, t_set g4 hap hkN _⟩ (fun j _ => vp_updV_set (by rw [hlen2]; exact hlf) _ j)
    rw [List.map_cons, List.map_cons, hR.near hP]
    unfold u_lay at hlay
    by_cases hfb : (T f).2.2.2 = true
    · rw [if_pos hfb] at hlay
      have hini' : ini = some ci := by
        rcases hfin with q | q
        · rw [hff] at q
          rw [show (T f).2.2.2 = false from q] at hfb
          cases hfb
        · exact q
      obtain ⟨hin2, hdecl⟩ := hini ci _ f hini' hr hkN
      have hlk2 := hlkF (by rw [hff]; exact hfb) hini'
      have hcf : m.cls = cf := by
        obtain ⟨_, _, c', _, _, _, -, -, hf', -, -, -, hown2, -⟩ := Cond.laysFinal_spec hlay
        have e1 : c' = cf := by have := hi.symm.trans hf'; simp at this; exact this.1.symm
        rw [hdecl] at hown2
        rw [← e1]; exact Option.some.inj (hown.symm.trans hown2)
      have h6 := u_fits hfc hkC hkind (Or.inr hlay) hi hft (z_cv_narrow (ext := ext) (base := base) hnar) (z_cv_fits hfit)
      refine W.putFinK hx hb hown hlk2 hi hst hcf hin2 (by rw [g2]; exact h6) g1 g3 (by rw [hsl]; exact k2_hasslot (g4 f hkN)) rfl rfl hd fun H1 e1 e2 e3 => ?_
      obtain ⟨r1, r2⟩ := key H1 e1 e2 e3
      exact k _ _ r1 r2
    · rw [if_neg hfb] at hlay
      have h6 := u_store hfc hkC hkind hlay hi hft (z_cv_narrow (ext := ext) (base := base) hnar) (z_cv_fits hfit)
      rcases hlk with hlk | ⟨host, hlk⟩
      · refine W.putK hx hb (f := fd) ⟨hown, hlk, ⟨_, _, _, hi⟩, hst⟩ (by rw [g2]; exact h6) g1 g3 (by rw [hsl]; exact k2_hasslot (g4 f hkN)) rfl rfl hd fun H1 e1 e2 e3 => ?_
        obtain ⟨r1, r2⟩ := key H1 e1 e2 e3
        exact k _ _ r1 r2
      · refine va_WputK hx hb (f := fd) hown hlk hi hst (by rw [g2]; exact h6) g1 g3 (by rw [hsl]; exact k2_hasslot (g4 f hkN)) rfl rfl hd fun H1 e1 e2 e3 => ?_
        obtain ⟨r1, r2⟩ := key H1 e1 e2 e3
        exact k _ _ r1 r2
  case iastore =>
    obtain ⟨x, i, a, cell, e1, e2, e3, e4, e5, kk⟩ := wr 3 _ _ a3 h
    rw [e1]
    exact W.iast hx hb e2 e3 e4 e5 rfl rfl hd fun H1 f1 f2 f3 => k _ _ (kk H1 f1 f2 f3).1 (kk H1 f1 f2 f3).2
  case castore =>
    obtain ⟨x, i, a, cell, e1, e2, e3, e4, e5, kk⟩ := wr 2 _ _ a2 h
    rw [e1]
    exact W.cast hx hb e2 e3 e4 e5 rfl rfl hd fun H1 f1 f2 f3 => k _ _ (kk H1 f1 f2 f3).1 (kk H1 f1 f2 f3).2
  case bastore =>
    have h : (z_as 101 (fun x => x.toInt8.toInt32) P st).or (z_as 100 (fun x => x &&& 1) P st) = some (st', P') := h
    cases h1 : z_as 101 (fun x => x.toInt8.toInt32) P st with
    | some w =>
      rw [h1] at h
      cases h
      obtain ⟨x, i, a, cell, e1, e2, e3, e4, e5, kk⟩ := wr 1 _ _ a1 h1
      rw [e1]
      exact W.bast hx hb e2 e3 e4 e5 rfl rfl hd fun H1 f1 f2 f3 => k _ _ (kk H1 f1 f2 f3).1 (kk H1 f1 f2 f3).2
    | none =>
      rw [h1] at h
      obtain ⟨x, i, a, cell, e1, e2, e3, e4, e5, kk⟩ := wr 0 _ _ a0 h
      rw [e1]
      exact W.zast hx hb e2 e3 e4 e5 rfl rfl hd fun H1 f1 f2 f3 => k _ _ (kk H1 f1 f2 f3).1 (kk H1 f1 f2 f3).2
  case lastore =>
    obtain ⟨x, i, a, vs, rfl, hP, h0, hlt, rfl⟩ := z_las_spec h
    have hq := (hR.at hP).2 (by show 100 ≤ 104; omega)
    rw [List.map_cons, List.map_cons, List.map_cons, hR.near hP]
    exact W.last hx hb hq ((hK.2 4 _ a4).1 _ _) (fun q => by cases q) (by rw [arrV_size]; exact z_in h0 hlt) rfl rfl hd fun H1 f1 f2 f3 => k _ _ (hR.set f2 f3 (z_arr_at (v := .long x) (by omega) hlt f1)) (hS.put f2 f3 (hAb _ (Nat.le_add_right _ _)))
  case aastore =>
    obtain ⟨v, i, a, t, ci, vs, ws, rfl, hP, hPv, h5, hci, hacc, h0, hlt, rfl⟩ := z_aas_spec h
    have hq := (hR.at hP).2 (by show 100 ≤ t; omega)
    obtain ⟨r, hr, hty⟩ := hac _ _ hacc
    obtain ⟨r', hr', -, cellV, g1, g2, g3, -⟩ := (hR.at hPv).1 hci
    have hcls := (hK.1 ci r hr).2
    obtain ⟨kA, comp, k1, k2, k3, -⟩ := (hK.2 _ _ hty).2
    have hcomp : comp = D.1 ci := Option.some.inj (k3.symm.trans hcls.1)
    subst hcomp
    obtain ⟨kC, hkC, -⟩ := hcls.2
    rw [List.map_cons, List.map_cons, List.map_cons, hR.near hP, hR.near hPv]
    refine W.aast hx hb hq (fun q h => by cases h) (fun h => by cases h) k1 k2 rfl hkC ⟨fun q => z_in h0 hlt (Or.inl q), by rw [arrV_size]; exact hlt⟩ g1 (fun q h => by rw [g3] at h; cases h) (by rw [g2]; exact hkC) (by rw [g2]; exact va_assign hcls) rfl rfl hd fun H1 f1 f2 f3 => ?_
    exact k _ _ (hR.set f2 f3 (z_arr_at (v := .ref v) (by omega) hlt (by rw [hR.near hPv]; exact f1))) (hS.put f2 f3 (hAb _ (Nat.le_add_right _ _)))
  all_goals (cases h)
end ZSIMW
end
section
section ZSIMM
variable {p : Program} {l : Launch} {e : Env} {R : Room} {s : State} {m : MethodId} {args : Array Value} {below : List Frame} {meth : Method} {c : Code} {H : Heap} {locs : List Loc} {cells slots : Nat} {Q : State → Prop}
theorem z_mka_spec {o : Option Nat} {dv : Nat → Value} {P P' : z_H} {st st' : List Value} {dc ds : Nat} (h : z_mka o dv P st = some (st', P', dc, ds)) : ∃ (n : Int32) (r : List Value) (t : Nat), st = .int n :: r ∧ o = some t ∧ 0 ≤ n.toInt ∧ n.toNatClampNeg ≤ 10000 ∧ P.length < z_far ∧ st' = .ref P.length :: r ∧ P' = P ++ [(100 + t, List.replicate n.toNatClampNeg (dv t))] ∧ dc = 1 ∧ ds = n.toNatClampNeg := by
  unfold z_mka at h
  split at h
  · rename_i n r
    split at h
    · rename_i t
      split at h
      · rename_i h1
        cases h
        exact ⟨n, r, t, rfl, rfl, h1.1, h1.2.1, h1.2.2, rfl, rfl, rfl, rfl⟩
      · cases h
    · cases h
  · cases h
theorem z_mkm_spec {o : Option (Nat × Nat)} {P P' : z_H} {st st' : List Value} {dc ds : Nat} (h : z_mkm o P st = some (st', P', dc, ds)) : ∃ (k n : Int32) (r : List Value) (to ti : Nat), st = .int k :: .int n :: r ∧ o = some (to, ti) ∧ 0 ≤ n.toInt ∧ 0 ≤ k.toInt ∧ n.toNatClampNeg ≤ 10000 ∧ k.toNatClampNeg ≤ 10000 ∧ P.length + 1 + n.toNatClampNeg ≤ z_far ∧ st' = .ref P.length :: r ∧
    P' = P ++ (100 + to, (List.range n.toNatClampNeg).map (fun j => .ref (P.length + 1 + j))) :: List.replicate n.toNatClampNeg (100 + ti, List.replicate k.toNatClampNeg (z_dv ti)) ∧ dc = 1 + n.toNatClampNeg ∧ ds = n.toNatClampNeg + n.toNatClampNeg * k.toNatClampNeg := by
  unfold z_mkm at h
  split at h
  · rename_i k n r
    split at h
    · rename_i t
      split at h
      · rename_i h1
        cases h
        exact ⟨k, n, r, t.1, t.2, rfl, rfl, h1.1, h1.2.1, h1.2.2.1, h1.2.2.2.1, h1.2.2.2.2, rfl, rfl, rfl, rfl⟩
      · cases h
    · cases h
  · cases h
theorem z_outer (c : ClassId) (N h0 : Nat) : ∀ i : Nat, Jvm.Free.Multi.outerC c N h0 i = arrV c N (fun j => va_rf (if j < i then some (h0 + 1 + j) else none))
  | 0 => by
    show ({ cls := c, slots := Array.replicate N .null, vm := .none } : Cell) = _
    rw [arrV_new]
    exact congrArg (arrV c N) (funext fun j => by simp [va_rf])
  | i + 1 => by
    show (Jvm.Free.Multi.outerC c N h0 i).setSlot i (.ref (h0 + 1 + i)) = _
    rw [z_outer c N h0 i, arrV_store]
    refine congrArg (arrV c N) (funext fun j => ?_)
    by_cases e : j = i
    · subst e
      simp [updV, va_rf]
    · by_cases h : j < i
      · simp [updV, e, h, Nat.lt_succ_of_lt h]
      · simp [updV, e, h, show ¬ j < i + 1 by omega]
theorem z_not_neg {n : Int32} (h : 0 ≤ n.toInt) : ¬ n < 0 := fun q => z_in (n := n.toNatClampNeg + 1) h (Nat.lt_succ_self _) (Or.inl q)
theorem z_cv_dflt {ext : Nat → Nat} {base : Nat} (t : FieldType) : z_cv ext base (defaultValue t) = defaultValue t := by cases t <;> rfl
theorem z_newarr_at {D : va_G} {cl : List vw_C} {ta : Nat → ClassId} {ext : Nat → Nat} {base t n a : Nat} {v : Value} {H1 : Heap} (hv : z_cv ext base v = v) (hn : z_cv ext base .null = .null) (h : H1[a]? = some (arrV (ta t) n (fun _ => v))) : z_at D cl ta (z_cv ext base) (100 + t, List.replicate n v) a H1 := by
  refine ⟨fun q => absurd q (by show ¬ 100 + t < 99; omega), fun _ => ?_⟩
  show H1[a]? = some (arrV (ta (100 + t - 100)) (List.replicate n v).length _)
  rw [h, List.length_replicate, show 100 + t - 100 = t by omega]
  unfold arrV
  congr 2
  apply Array.ext
  · simp
  · intro i h1 h2
    have hi : i < n := by simpa using h1
    simp [hi, hv]
theorem z_S_push {A : Nat → Prop} {H0 H H1 : Heap} {locs : List Loc} {d : Nat} (h : va_S A H0 H locs) (z : H1.size = H.size + d) (o : ∀ q : Nat, q < H.size → H1[q]? = H[q]?) : va_S A H0 H1 locs :=
  ⟨Nat.le_trans h.1 (by omega), fun x h1 h2 => (o x (Nat.lt_of_lt_of_le h1 h.1)).trans (h.2.1 x h1 h2), h.2.2⟩
theorem z_at_push {ta : Nat → ClassId} {D : va_G} {cl : List vw_C} {ext : Nat → Nat} {base : Nat} {P : z_H} {H H1 : Heap} {q' : List z_C} (h : z_R D cl ta ext base P H) (hn : P.length + q'.length ≤ z_far) (hs : H1.size = H.size + q'.length) (ho : ∀ a, a < H.size → H1[a]? = H[a]?) (h1 : ∀ (j : Nat) (q : z_C), q'[j]? = some q → z_at D cl ta (z_cv ext base) q (base + (P.length + j)) H1) : z_R D cl ta ext base (P ++ q') H1 := by
  refine ⟨by rw [hs, h.1, List.length_append]; omega, by rw [List.length_append]; exact hn, fun j q hj => ?_⟩
  rw [List.getElem?_append] at hj
  split at hj
  · rename_i e
    exact (h.at hj).kept (ho _ (by rw [h.1]; omega))
  · rename_i e
    have := h1 (j - P.length) q hj
    rwa [show P.length + (j - P.length) = j by omega] at this
set_option maxHeartbeats 8000000 in
theorem z_sim_mk {D : va_G} {cl : List vw_C} {ta : Nat → ClassId} {aty : List FieldType} {ext : Nat → Nat} {base : Nat} {Ts : List Cond} {own : String} {P P' : z_H} {cls : Nat → Option (Nat × List Value)} {aan : Nat → Option Nat} {mna : Nat → Option (Nat × Nat)} {fty : Nat → Nat → FieldType} {fin : Nat → Nat → Bool} {A : Nat → Prop} {H0 : Heap}
    {cc : ByteArray} (hx : p.tables.exec = Jvm.exec) (hb : c.code = cc) (hts : ∀ w ∈ Ts, w.before args s = true) (hown : s.vm.findClass own = some m.cls) (hK : z_K D cl ta aty s) (hA : z_aty aty) (hC : z_CL cl Ts) (hF : z_FT cl fty fin) (hR : z_R D cl ta ext base P H) (hS : va_S A H0 H locs)
    (harr : ∀ i t, i < 5 → aty[i]? = some t → (Cond.arrayClass t).before args s = true)
    {ins : Instr} {len pc dc ds : Nat} {ls : Array Slot} {st st' : List Value}
    (hcls : ∀ n ci dv, ins = .new n → cls n = some (ci, dv) → ∃ r : vw_C, cl[ci]? = some r ∧ dv.length = r.2.2 ∧ (∀ k, k < r.2.2 → dv[k]? = some (defaultValue (fty ci k))) ∧ (Cond.classLink own n r.1).before args s = true ∧ (Cond.instantiable r.1 r.2.2).before args s = true ∧ (Cond.initialized r.1).before args s = true)
    (haan : ∀ n i, ins = .anewarray n → aan n = some i → ∃ C, aty[i]? = some (.object C) ∧ (Cond.classLink own n C).before args s = true ∧ (Cond.arrayOver (.object C)).before args s = true)
    (hmna : ∀ n d io ii, ins = .multianewarray n d → mna n = some (io, ii) → ∃ t, aty[ii]? = some t ∧ ii < 5 ∧ aty[io]? = some (.array t) ∧ (Cond.classLink own n ("[" ++ (FieldType.array t).toString)).before args s = true ∧ (Cond.arrayOver (.array t)).before args s = true)
    (hd : decode cc pc = .ok (ins, len)) (hlen : len = z_len ins) (h : z_mk cls aan mna P ins st = some (st', P', dc, ds)) (hcells : cells + dc ≤ R.cells) (hslots : slots + ds ≤ R.slots)
    (k : ∀ H1, z_R D cl ta ext base P' H1 → va_S A H0 H1 locs → W p l e R s m args below meth c H1 locs (cells + dc) (slots + ds) Q (F0 m (pc + len) ls (st'.map (z_cv ext base)))) : W p l e R s m args below meth c H locs cells slots Q (F0 m pc ls (st.map (z_cv ext base))) := by
  subst hlen
  obtain ⟨a0, a1, a2, a3, a4, a5⟩ := hA
  cases ins
  case new n =>
    have h : (match cls n with | some q => if q.1 < 99 ∧ P.length < z_far then some (Value.ref P.length :: st, P ++ [q], 1, q.2.length) else none | none => none) = some (st', P', dc, ds) := h
    split at h
    · rename_i q hq
      split at h
      · rename_i h1
        obtain ⟨ci, dv⟩ := q
        cases h
        obtain ⟨⟨C, T, N⟩, hr, hN, hdv, w1, w2, w3⟩ := hcls n ci dv rfl hq
        obtain ⟨hin, -, -⟩ := hC ci _ hr
        have hKn := hK.1 ci _ hr
        have hN : dv.length = N := hN
        rw [hN] at hslots
        refine W.newcK hx hb hown w1 w2 w3 rfl hd hcells hslots hKn.2.1 rfl fun H1 kC hkC e1 z1 o1 => ?_
        have hborn := u_born (fty ci) hts hin hKn hkC e1 (fun k hk => (hF ci _ k hr hk).1)
        have hR1 : z_R D cl ta ext base (P ++ [(ci, dv)]) H1 := hR.push h1.2 z1 o1 ⟨fun _ => ⟨_, hr, hN, by
          rw [← hR.1]
          refine hborn.to fun j hj => ?_
          show _ = (dv.map (z_cv ext base)).getD j .null
          have := hdv j hj
          simp [this, z_cv_dflt]⟩, fun q => absurd q (by show ¬ 100 ≤ ci; have := h1.1; omega)⟩
        have := k H1 hR1 (z_S_push (d := 1) hS z1 o1)
        rw [hN] at this
        have e9 : z_cv ext base (.ref P.length) = .ref H.size := by rw [z_cv_near h1.2, hR.1]
        rw [List.map_cons, e9] at this
        exact this
      · cases h
    · cases h
  case newarray t =>
    obtain ⟨n, r, i, rfl, hi, h0, h1, h2, rfl, rfl, rfl, rfl⟩ := z_mka_spec h
    have key : ∀ ty : FieldType, newarray.typeOf t = ty → i < 5 → aty[i]? = some ty → defaultValue ty = z_dv i → componentBytes ty ≤ 8 → (∀ cA, va_RA s cA ty → s.vm.findClass ("[" ++ ty.toString) = some cA) → W p l e R s m args below meth c H locs cells slots Q (F0 m pc ls (.int n :: r.map (z_cv ext base))) := by
      intro ty hty hi5 ha hdvv hcb hfd
      refine va_newaK hx hb (atype := t) (by rw [hty]; exact harr i ty hi5 ha) rfl hd rfl (z_not_neg h0) rfl (by rw [hty]; exact Nat.le_trans (Nat.mul_le_mul h1 hcb) (by decide)) hcells hslots rfl fun H1 cA e1 z1 o1 hAr hNm => ?_
      rw [hty] at e1 hAr hNm
      have hcA : cA = ta i := Option.some.inj (hNm.symm.trans (hfd _ (hK.2 i ty ha).2))
      subst hcA
      rw [hdvv] at e1
      have e9 : z_cv ext base (.ref P.length) = .ref H.size := by rw [z_cv_near h2, hR.1]
      have := k H1 (hR.push h2 z1 o1 (z_newarr_at (by rw [← hdvv]; exact z_cv_dflt ty) rfl (by rw [← hR.1]; exact e1))) (z_S_push (d := 1) hS z1 o1)
      rw [List.map_cons, e9] at this
      exact this
    cases t <;> cases hi
    · exact key .boolean rfl (by decide) a0 rfl (by decide) (fun _ q => q)
    · exact key .char rfl (by decide) a2 rfl (by decide) (fun _ q => q)
    · exact key .byte rfl (by decide) a1 rfl (by decide) (fun _ q => q)
    · exact key .int rfl (by decide) a3 rfl (by decide) (fun _ q => q)
    · exact key .long rfl (by decide) a4 rfl (by decide) (fun _ q => q)
  case anewarray n =>
    obtain ⟨x, r, i, rfl, hi, h0, h1, h2, rfl, rfl, rfl, rfl⟩ := z_mka_spec h
    obtain ⟨C, ha, w1, w2⟩ := haan n i rfl hi
    refine W.anew hx hb hown w1 w2 rfl hd rfl (z_not_neg h0) (by omega) hcells hslots fun cA kA comp f1 f2 f3 f4 => ?_
    obtain ⟨_, _, -, -, -, hNm⟩ := (hK.2 i _ ha).2
    have hcA : cA = ta i := Option.some.inj (f1.symm.trans hNm)
    subst hcA
    have e9 : z_cv ext base (.ref P.length) = .ref H.size := by rw [z_cv_near h2, hR.1]
    have o1 : ∀ q, q < H.size → (H.push { cls := ta i, slots := Array.replicate x.toNatClampNeg .null, vm := .none })[q]? = H[q]? := fun q hq => by rw [Array.getElem?_push, if_neg (Nat.ne_of_lt hq)]
    have := k _ (hR.push h2 (by simp) o1 (z_newarr_at (v := .null) rfl rfl (by rw [← hR.1, ← arrV_new]; simp))) (z_S_push (d := 1) hS (by simp) o1)
    rw [List.map_cons, e9] at this
    exact this
  case multianewarray n d =>
    have h : (if d = 2 then z_mkm (mna n) P st else none) = some (st', P', dc, ds) := h
    split at h
    · rename_i hd2
      subst hd2
      obtain ⟨kk, nn, r, io, ii, rfl, ho, h0, h1, h2, h3, h4, rfl, rfl, rfl, rfl⟩ := z_mkm_spec h
      obtain ⟨t, ha, hi5, hao, w1, w2⟩ := hmna n 2 io ii rfl ho
      have prim : defaultValue t = z_dv ii ∧ fits t (defaultValue t) = true ∧ (defaultValue t).isDefault = true ∧ componentBytes t ≤ 8 ∧ s.vm.findClass (FieldType.array t).toString = some (ta ii) := by
        have hv := (hK.2 ii t ha).2
        have h5 : ii = 0 ∨ ii = 1 ∨ ii = 2 ∨ ii = 3 ∨ ii = 4 := by omega
        rcases h5 with rfl | rfl | rfl | rfl | rfl
        · cases a0.symm.trans ha; exact ⟨rfl, by decide, by decide, by decide, hv⟩
        · cases a1.symm.trans ha; exact ⟨rfl, by decide, by decide, by decide, hv⟩
        · cases a2.symm.trans ha; exact ⟨rfl, by decide, by decide, by decide, hv⟩
        · cases a3.symm.trans ha; exact ⟨rfl, by decide, by decide, by decide, hv⟩
        · cases a4.symm.trans ha; exact ⟨rfl, by decide, by decide, by decide, hv⟩
      obtain ⟨q1, q2, q3, q4, q5⟩ := prim
      have hvo : s.vm.findClass ("[" ++ (FieldType.array t).toString) = some (ta io) := (hK.2 io _ hao).2
      intro T hT Xs
      subst hb
      obtain ⟨vm₁, cA, comp, -, fA, fC, hO, -, X', step⟩ := Jvm.Stand.multianewarray2F Xs hx hown w1 w2 (harr ii t hi5 ha) (g := F0 m pc ls (.int kk :: .int nn :: r.map (z_cv ext base))) rfl hd rfl (z_not_neg h0) (z_not_neg h1) (by omega) (Nat.le_trans (Nat.mul_le_mul h3 q4) (by decide)) (by omega) q2 q3 hcells hslots
      have ec : cA = ta io := Option.some.inj (fA.symm.trans hvo)
      have ec2 : comp = ta ii := Option.some.inj (fC.symm.trans q5)
      subst ec; subst ec2
      generalize hF9 : Jvm.Free.Multi.fill (T.setVm vm₁) (ta io) (ta ii) nn.toNatClampNeg kk.toNatClampNeg (defaultValue t) nn.toNatClampNeg = F at X' step
      have hTh : (T.setVm vm₁).heap = H := hT
      obtain ⟨f1, f2, -, -⟩ := Jvm.Free.Multi.fill_facts (T.setVm vm₁) (ta io) (ta ii) nn.toNatClampNeg kk.toNatClampNeg (defaultValue t) nn.toNatClampNeg
      rw [hF9, hTh] at f1 f2
      have hold : ∀ x : Nat, x < H.size → F.heap[x]? = H[x]? := fun x hx => by
        have := Jvm.Free.Multi.fill_old (T.setVm vm₁) (ta io) (ta ii) nn.toNatClampNeg kk.toNatClampNeg (defaultValue t) (a := x) (by rw [hTh]; exact hx) nn.toNatClampNeg
        rw [hF9, hTh] at this
        exact this
      have hrow : ∀ j : Nat, j < nn.toNatClampNeg → F.heap[H.size + 1 + j]? = some (Jvm.Free.Multi.innerC (ta ii) kk.toNatClampNeg (defaultValue t)) := fun j hj => by
        have := Jvm.Free.Multi.fill_inner (T.setVm vm₁) (ta io) (ta ii) nn.toNatClampNeg kk.toNatClampNeg (defaultValue t) nn.toNatClampNeg j hj
        rw [hF9, hTh] at this
        exact this
      have hinn : Jvm.Free.Multi.innerC (ta ii) kk.toNatClampNeg (defaultValue t) = arrV (ta ii) kk.toNatClampNeg (fun _ => z_dv ii) := by
        rw [← q1]
        exact arrV_new _ _ _
      have hR1 : z_R D cl ta ext base (P ++ (100 + io, (List.range nn.toNatClampNeg).map (fun j => Value.ref (P.length + 1 + j))) :: List.replicate nn.toNatClampNeg (100 + ii, List.replicate kk.toNatClampNeg (z_dv ii))) F.heap := by
        refine z_at_push hR (by simp; omega) (by rw [f1]; simp; omega) hold fun j q hj => ?_
        match j, hj with
        | 0, hj =>
          cases hj
          refine ⟨fun q => absurd q (by show ¬ 100 + io < 99; omega), fun _ => ?_⟩
          show F.heap[base + (P.length + 0)]? = some (arrV (ta (100 + io - 100)) ((List.range nn.toNatClampNeg).map _).length _)
          rw [show base + (P.length + 0) = H.size by rw [hR.1]; rfl, f2, z_outer, show 100 + io - 100 = io by omega, List.length_map, List.length_range]
          congr 1
          unfold arrV
          congr 1
          apply Array.ext
          · simp
          · intro i g1 g2
            have hi : i < nn.toNatClampNeg := by simpa using g1
            have hi2 : P.length + 1 + i < z_far := by omega
            have e7 : ((List.range nn.toNatClampNeg).map (fun j => Value.ref (P.length + 1 + j))).getD i .null = .ref (P.length + 1 + i) := by simp [hi]
            simp only [Array.getElem_ofFn]
            rw [if_pos hi]
            show Value.ref (H.size + 1 + i) = z_cv ext base (((List.range nn.toNatClampNeg).map (fun j => Value.ref (P.length + 1 + j))).getD i .null)
            rw [e7, z_cv_near hi2, hR.1]
            have e8 : base + P.length + 1 + i = base + (P.length + 1 + i) := by omega
            exact congrArg Value.ref e8
        | j + 1, hj =>
          have hj : (List.replicate nn.toNatClampNeg (100 + ii, List.replicate kk.toNatClampNeg (z_dv ii)))[j]? = some q := hj
          have hjn : j < nn.toNatClampNeg := by
            have := (List.getElem?_eq_some_iff.mp hj).1
            simpa using this
          have hq : q = (100 + ii, List.replicate kk.toNatClampNeg (z_dv ii)) := by
            rw [List.getElem?_replicate, if_pos hjn] at hj
            exact (Option.some.inj hj).symm
          subst hq
          refine z_newarr_at (by rw [← q1]; exact z_cv_dflt t) rfl ?_
          rw [← hinn, ← hrow j hjn, hR.1]
          congr 1
          omega
      have e9 : z_cv ext base (.ref P.length) = .ref H.size := by rw [z_cv_near (by omega), hR.1]
      have hk := k F.heap hR1 (z_S_push (d := 1 + nn.toNatClampNeg) hS (by rw [f1]; omega) hold)
      rw [List.map_cons, e9] at hk
      obtain ⟨t9, b1, b2⟩ := hk F rfl (by rw [← Nat.add_assoc, ← Nat.add_assoc]; exact X')
      refine ⟨t9, step _ ?_, b2⟩
      rw [hT]
      exact b1
    · cases h
  all_goals (cases h)
end ZSIMM
end
section
section ZSIMC
variable {p : Program} {l : Launch} {e : Env} {R : Room} {s : State} {m : MethodId} {args : Array Value} {below : List Frame} {meth : Method} {c : Code} {H : Heap} {locs : List Loc} {cells slots : Nat} {Q : State → Prop}
/-- what the pool says of a constant: for a method of the class own -/
def z_ct (s : State) (args : Array Value) (own : String) (rs : List (String × Nat × String × Nat)) : Instr → Value → Prop
  | .ldc n, v => (∃ x, v = .int x ∧ (Cond.constant own n x).before args s = true) ∨ ∃ tx i, v = .ref (z_far + 2 * i) ∧ (own, n, tx, i) ∈ rs
  | .ldc_w n, v => ∃ x, v = .int x ∧ (Cond.constant own n x).before args s = true
  | .ldc2_w n, v => ∃ x, v = .long x ∧ (Cond.constantLong own n x).before args s = true
  | .getstatic n, v => v = .int 1 ∧ (Cond.fieldLink own n "java/lang/String" "COMPACT_STRINGS" "Z").before args s = true
  | _, _ => False
theorem z_sim_cst {ext : Nat → Nat} {base : Nat} {own : String} {strs : List (List Int32)} {rs : List (String × Nat × String × Nat)} {cst : Nat → Option Value} {cc : ByteArray} (hx : p.tables.exec = Jvm.exec) (hb : c.code = cc) (hown : s.vm.findClass own = some m.cls) (hX : z_X strs ext base rs s) (hS : va_S (fun q => base ≤ q) s.heap H locs)
    {ins : Instr} {len pc : Nat} {ls : Array Slot} {st st' : List Value} (hc : ∀ v, z_cstv cst ins = some v → z_ct s args own rs ins v) (hd : decode cc pc = .ok (ins, len)) (hlen : len = z_len ins) (h : z_cst cst ins st = some st')
    (k : W p l e R s m args below meth c H locs cells slots Q (F0 m (pc + len) ls (st'.map (z_cv ext base)))) : W p l e R s m args below meth c H locs cells slots Q (F0 m pc ls (st.map (z_cv ext base))) := by
  subst hlen
  obtain ⟨v, hv, rfl⟩ := z_map_some (f := fun v => v :: st) h
  have hc := hc v hv
  cases ins
  case ldc n =>
    rcases hc with ⟨x, rfl, h1⟩ | ⟨tx, i, rfl, h1⟩
    · exact lv_ldc hx hb hown h1 hd k
    · have h2 := hX.2.2 _ h1
      rw [List.map_cons, z_cv_far] at k
      exact va_ldcS hx hb hown h2 hd k
  case ldc_w n =>
    obtain ⟨x, rfl, h1⟩ := hc
    exact lv_ldcw hx hb hown h1 hd k
  case ldc2_w n =>
    obtain ⟨x, rfl, h1⟩ := hc
    exact lv_ldc2 hx hb hown h1 hd k
  case getstatic n =>
    obtain ⟨rfl, h1⟩ := hc
    exact va_gets hx hb hX.2.1 hS hown h1 (fun _ q => q) hd k
  all_goals (cases hv)
theorem z_acp_spec {P P' : z_H} {st st' : List Value} (h : z_acp P st = some (st', P')) : ∃ (n dp sp : Int32) (a b : Nat) (vs ws : List Value), st = .int n :: .int dp :: .ref b :: .int sp :: .ref a :: st' ∧ P[a]? = some (103, vs) ∧ P[b]? = some (103, ws) ∧ 0 ≤ n.toInt ∧ 0 ≤ dp.toInt ∧ 0 ≤ sp.toInt ∧ sp.toNatClampNeg + n.toNatClampNeg ≤ vs.length ∧ dp.toNatClampNeg + n.toNatClampNeg ≤ ws.length ∧ vs.all z_isI = true ∧ P' = P.set b (103, z_cpy ws vs sp.toNatClampNeg dp.toNatClampNeg n.toNatClampNeg) := by
  unfold z_acp at h
  split at h
  · rename_i n dp b sp a r
    split at h
    · rename_i q w hq hw
      split at h
      · rename_i h1
        cases h
        exact ⟨n, dp, sp, a, b, q.2, w.2, rfl, by rw [hq, ← h1.1], by rw [hw, ← h1.2.1], h1.2.2.1, h1.2.2.2.1, h1.2.2.2.2.1, h1.2.2.2.2.2.1, h1.2.2.2.2.2.2.1, h1.2.2.2.2.2.2.2, rfl⟩
      · cases h
    · cases h
  · cases h
theorem z_toNat {z : Int32} (h : 0 ≤ z.toInt) : z.toInt = (z.toNatClampNeg : Int) := by
  show z.toInt = ((z.toInt.toNat : Nat) : Int)
  omega
set_option maxHeartbeats 4000000 in
theorem z_sim_acp {D : va_G} {cl : List vw_C} {ta : Nat → ClassId} {aty : List FieldType} {ext : Nat → Nat} {base nL : Nat} {own : String} {P P' : z_H} {A : Nat → Prop} {H0 : Heap} {cc : ByteArray} (hx : p.tables.exec = Jvm.exec) (hb : c.code = cc) (hml : c.maxLocals = nL) (hown : s.vm.findClass own = some m.cls) (hK : z_K D cl ta aty s) (hA : z_aty aty) (hR : z_R D cl ta ext base P H) (hS : va_S A H0 H locs) (hAb : ∀ q, base ≤ q → A q)
    {index pc : Nat} (hlink : (Cond.methodLink own index arraycopyName).before args s = true) (hnat : (Cond.native arraycopyName).before args s = true) (hstat : (Cond.static arraycopyName).before args s = true) (hini : (Cond.initialized "java/lang/System").before args s = true)
    {ls : Array Slot} (hls : ls.size = nL) {st st' : List Value} (hframes : 1 ≤ R.frames) (hlocals : (st'.map fun v => v.category).sum + (nativeFrameWords "java/lang/System" "arraycopy" 5 + 11) ≤ R.locals) (hd : decode cc pc = .ok (.invokestatic index, 3)) (h : z_acp P st = some (st', P'))
    (k : ∀ H1 locs1, z_R D cl ta ext base P' H1 → va_S A H0 H1 locs1 → W p l e R s m args below meth c H1 locs1 cells slots Q (F0 m (pc + 3) ls (st'.map (z_cv ext base)))) : W p l e R s m args below meth c H locs cells slots Q (F0 m pc ls (st.map (z_cv ext base))) := by
  obtain ⟨-, -, -, a3, -, -⟩ := hA
  obtain ⟨n, dp, sp, a, b, vs, ws, rfl, hPa, hPb, h1, h2, h3, h4, h5, h6, rfl⟩ := z_acp_spec h
  have hqa := (hR.at hPa).2 (by show 100 ≤ 103; omega)
  have hqb := (hR.at hPb).2 (by show 100 ≤ 103; omega)
  obtain ⟨-, k0, hk0, cm0, hkk0⟩ := (hK.2 3 _ a3).1 vs.length (fun j => z_cv ext base (vs.getD j .null))
  obtain ⟨-, k1, hk1, cm1, hkk1⟩ := (hK.2 3 _ a3).1 ws.length (fun j => z_cv ext base (ws.getD j .null))
  intro T hT X
  subst hb
  have hcat : ((st'.map (z_cv ext base)).map fun v => v.category) = st'.map fun v => v.category := by
    rw [List.map_map]
    apply List.map_congr_left
    intro v _
    exact z_cv_cat _ _ v
  obtain ⟨vm', X', step⟩ := X.arraycopy hx hown hlink hnat hstat hini (src := base + a) (dst := base + b) (srcPos := sp) (destPos := dp) (n := n) (by rw [hT]; exact hqa) (by rw [hT]; exact hqb)
    (fun _ h => by cases h) (fun _ h => by cases h) (fun h => by cases h) (fun h => by cases h) hk0 hk1 hkk0 hkk1 (by simp [refKind]) (z_not_neg h3) (z_not_neg h2) (z_not_neg h1)
    (by rw [z_toNat h3, z_toNat h1, arrV_size]; show ¬ _ > (vs.length : Int); omega)
    (by rw [z_toNat h2, z_toNat h1, arrV_size]; show ¬ _ > (ws.length : Int); omega)
    (fun vm₁ _ i hi => by
      have hlt : sp.toNatClampNeg + i < vs.length := by omega
      have hI := List.all_eq_true.mp h6 (vs[sp.toNatClampNeg + i]) (List.getElem_mem hlt)
      obtain ⟨x, hx9⟩ := z_isI_spec hI
      have e9 : (arrV (ta 3) vs.length (fun j => z_cv ext base (vs.getD j .null))).slots.getD (sp.toNatClampNeg + i) .null = .int x := by
        rw [Array.getD_eq_getD_getElem?, arrV_read _ _ hlt]
        simp [hlt, hx9, z_cv]
      exact ⟨by show fits .int ((arrV (ta 3) vs.length (fun j => z_cv ext base (vs.getD j .null))).slots.getD (sp.toNatClampNeg + i) .null) = true; rw [e9]; rfl, by show State.takes _ _ ((arrV (ta 3) vs.length (fun j => z_cv ext base (vs.getD j .null))).slots.getD (sp.toNatClampNeg + i) .null); rw [e9]; exact trivial⟩)
    (g := F0 m pc ls ((Value.int n :: Value.int dp :: Value.ref b :: Value.int sp :: Value.ref a :: st').map (z_cv ext base))) rfl (by rw [hml, ← hls]) (rest := st'.map (z_cv ext base)) (by simp only [List.map_cons]; rw [hR.near hPa, hR.near hPb]; rfl) hd hframes (by show 2 * 0 + _ + _ ≤ _; rw [hcat]; omega)
  have e1 : copied (arrV (ta 3) vs.length (fun j => z_cv ext base (vs.getD j .null))) (arrV (ta 3) ws.length (fun j => z_cv ext base (ws.getD j .null))) sp dp n = arrV (ta 3) ws.length (fun j => va_cpy (fun j => z_cv ext base (vs.getD j .null)) (fun j => z_cv ext base (ws.getD j .null)) sp.toNatClampNeg dp.toNatClampNeg n.toNatClampNeg j) :=
    va_copied (fun z => z) (ta 3) (ta 3) _ _ h4
  have e1' : copied (arrV (ta (103 - 100)) vs.length (fun j => z_cv ext base (vs.getD j .null))) (arrV (ta (103 - 100)) ws.length (fun j => z_cv ext base (ws.getD j .null))) sp dp n = arrV (ta 3) ws.length (fun j => va_cpy (fun j => z_cv ext base (vs.getD j .null)) (fun j => z_cv ext base (ws.getD j .null)) sp.toNatClampNeg dp.toNatClampNeg n.toNatClampNeg j) := e1
  dsimp only at X' step
  rw [e1'] at X' step
  generalize hcell : arrV (ta 3) ws.length (fun j => va_cpy (fun j => z_cv ext base (vs.getD j .null)) (fun j => z_cv ext base (ws.getD j .null)) sp.toNatClampNeg dp.toNatClampNeg n.toNatClampNeg j) = cell at X' step
  have hl : base + b < H.size := (Array.getElem?_eq_some_iff.mp hqb).1
  have hheap : ((T.setVm vm').setCell (base + b) cell).heap = H.setIfInBounds (base + b) cell := by rw [← hT]; rfl
  have oq : ∀ q : Nat, q ≠ base + b → (H.setIfInBounds (base + b) cell)[q]? = H[q]? := fun q hq => by simp [Array.getElem?_setIfInBounds, Ne.symm hq]
  have hat : z_at D cl ta (z_cv ext base) (103, z_cpy ws vs sp.toNatClampNeg dp.toNatClampNeg n.toNatClampNeg) (base + b) (H.setIfInBounds (base + b) cell) := by
    refine ⟨fun q => absurd q (by show ¬ 103 < 99; omega), fun _ => ?_⟩
    show (H.setIfInBounds (base + b) cell)[base + b]? = some (arrV (ta 3) (z_cpy ws vs sp.toNatClampNeg dp.toNatClampNeg n.toNatClampNeg).length (fun j => z_cv ext base ((z_cpy ws vs sp.toNatClampNeg dp.toNatClampNeg n.toNatClampNeg).getD j .null)))
    have hlen : (z_cpy ws vs sp.toNatClampNeg dp.toNatClampNeg n.toNatClampNeg).length = ws.length := by simp [z_cpy]
    rw [hlen, Array.getElem?_setIfInBounds, if_pos rfl, if_pos hl, ← hcell]
    congr 1
    unfold arrV
    congr 1
    apply Array.ext
    · simp
    · intro i g1 g2
      have hi : i < ws.length := by simpa using g1
      simp only [Array.getElem_ofFn]
      simp only [z_cpy, va_cpy]
      by_cases hc : dp.toNatClampNeg ≤ i ∧ i < dp.toNatClampNeg + n.toNatClampNeg
      · simp [hc, hi]
      · simp [hc, hi]
  obtain ⟨t, b1, b2⟩ := k _ _ (hR.set (by simp) oq hat) ⟨by simp; exact hS.1, fun q g1 g2 => by
      rw [oq q (fun e => g2 (by rw [e]; exact hAb _ (Nat.le_add_right _ _)))]
      exact hS.2.1 q g1 g2, fun q hq => by
      rcases List.mem_append.mp hq with h | h
      · exact hS.2.2 q h
      · obtain ⟨z, -, hz⟩ := List.mem_map.mp h
        rw [← hz]
        exact hAb _ (Nat.le_add_right _ _)⟩ _ hheap X'
  exact ⟨t, step t b1, b2⟩
end ZSIMC
end
section
/-! The picture's run: a big-step run by fuel, and that the machine follows it. -/
section ZEXEC
/-- a program: by method number and pc the instruction; by method number and pool number what the pool says; what is asked of the methods and classes -/
abbrev z_Pg : Type := (Nat → Nat → Option (Instr × Nat)) × (Nat → Nat → Option (Nat × Nat)) × (Nat → Nat → Option Value) × (Nat → Nat → Option (Nat × List Value)) × (Nat → Nat → Option Nat) × (Nat → Nat → Option (Nat × Nat)) × (Nat → Nat → Option (Nat × Nat)) × (Nat → Nat × Nat × Nat × Nat) × (Nat → Option FieldType) × (Nat → Option Nat) × (Nat → Nat) × (Nat → Nat → FieldType) × (Nat → Nat → Bool) × (Nat → Option Nat) × Nat × List (List Int32)
def z_cod (G : z_Pg) : Nat → Nat → Option (Instr × Nat) := G.1
def z_fld (G : z_Pg) : Nat → Nat → Option (Nat × Nat) := G.2.1
def z_cs (G : z_Pg) : Nat → Nat → Option Value := G.2.2.1
def z_cls (G : z_Pg) : Nat → Nat → Option (Nat × List Value) := G.2.2.2.1
def z_aan (G : z_Pg) : Nat → Nat → Option Nat := G.2.2.2.2.1
def z_mna (G : z_Pg) : Nat → Nat → Option (Nat × Nat) := G.2.2.2.2.2.1
/-- a call: the callee's number and the kind (0 static, 1 on an object, 2 a constructor, 3 Object's, 5 arraycopy) -/
def z_inv (G : z_Pg) : Nat → Nat → Option (Nat × Nat) := G.2.2.2.2.2.2.1
/-- locals, arguments with the receiver, cells and slots that it may make -/
def z_inf (G : z_Pg) : Nat → Nat × Nat × Nat × Nat := G.2.2.2.2.2.2.2.1
def z_rty (G : z_Pg) : Nat → Option FieldType := G.2.2.2.2.2.2.2.2.1
def z_ini (G : z_Pg) : Nat → Option Nat := G.2.2.2.2.2.2.2.2.2.1
def z_rcv (G : z_Pg) : Nat → Nat := G.2.2.2.2.2.2.2.2.2.2.1
def z_fty (G : z_Pg) : Nat → Nat → FieldType := G.2.2.2.2.2.2.2.2.2.2.2.1
def z_fin (G : z_Pg) : Nat → Nat → Bool := G.2.2.2.2.2.2.2.2.2.2.2.2.1
def z_ac (G : z_Pg) : Nat → Option Nat := G.2.2.2.2.2.2.2.2.2.2.2.2.2.1
def z_nA (G : z_Pg) : Nat := G.2.2.2.2.2.2.2.2.2.2.2.2.2.2.1
def z_strs (G : z_Pg) : List (List Int32) := G.2.2.2.2.2.2.2.2.2.2.2.2.2.2.2
def z_nL (G : z_Pg) (y : Nat) : Nat := (z_inf G y).1
def z_na (G : z_Pg) (y : Nat) : Nat := (z_inf G y).2.1
def z_mc (G : z_Pg) (y : Nat) : Nat := (z_inf G y).2.2.1
def z_ms (G : z_Pg) (y : Nat) : Nat := (z_inf G y).2.2.2
/-- a place in a run: pc, locals, stack, cells, how many cells and slots were made here -/
abbrev z_S : Type := Nat × z_L × List Value × z_H × Nat × Nat
def z_ret (rt : Option FieldType) : Instr → List Value → Option (Option Value)
  | .return_, [] => if rt = none then some none else none
  | .ireturn, [.int v] => match rt with
    | some ty => if narrow ty (.int v) = .int v then some (some (.int v)) else none
    | none => none
  | .lreturn, [.long v] => if rt = some .long then some (some (.long v)) else none
  | .areturn, [v] => match rt with
    | some (.object _) => if z_isA v then some (some v) else none
    | some (.array _) => if z_isA v then some (some v) else none
    | _ => none
  | _, _ => none
def z_cat (st : List Value) : Nat := (st.map fun v => v.category).sum
def z_at? (G : z_Pg) (P : z_H) (y kd : Nat) : List Value → Bool
  | .ref a :: _ => if kd = 1 then match z_lk (z_strs G) P a with
      | some q => q.1 == z_rcv G y
      | none => false
    else true
  | _ => kd == 0
/-- a call of y: its arguments, what stays on the stack -/
def z_args (G : z_Pg) (d : Nat) (y kd : Nat) (x : Nat) (st : List Value) (P : z_H) (c n : Nat) : Option (List Value × List Value) :=
  let as := (st.take (z_na G y)).reverse
  let r := st.drop (z_na G y)
  if z_na G y ≤ st.length ∧ 1 ≤ d ∧ z_cat r ≤ 8 ∧ z_nL G y ≤ 45 ∧ z_cat as ≤ z_nL G y ∧ c + z_mc G y ≤ z_mc G x ∧ n + z_ms G y ≤ z_ms G x ∧ (kd = 0 ∨ 1 ≤ z_na G y) ∧ (kd = 0 ∨ z_at? G P y kd as = true) then some (as, r) else none
def z_bump (G : z_Pg) (x : Nat) (q : z_S) : Option z_S := if q.2.2.2.2.1 ≤ z_mc G x ∧ q.2.2.2.2.2 ≤ z_ms G x then some q else none
/-- an instruction that calls nobody -/
def z_step (G : z_Pg) (x : Nat) (ins : Instr) (len pc : Nat) (l : z_L) (st : List Value) (P : z_H) (c n : Nat) : Option z_S :=
  match z_pure ins st with
  | some s' => some (pc + len, l, s', P, c, n)
  | none => match z_loc (z_nL G x) ins l st with
    | some q => some (pc + len, q.1, q.2, P, c, n)
    | none => match z_jmp ins pc st with
      | some q => some (q.1, l, q.2, P, c, n)
      | none => match z_rd (z_fld G x) (z_nA G) (z_lk (z_strs G) P) ins st with
        | some s' => some (pc + len, l, s', P, c, n)
        | none => match z_wr (z_fld G x) (z_fty G) (z_fin G) (z_ini G x) (z_ac G) P ins st with
          | some q => some (pc + len, l, q.1, q.2, c, n)
          | none => match z_mk (z_cls G x) (z_aan G x) (z_mna G x) P ins st with
            | some q => z_bump G x (pc + len, l, q.1, q.2.1, c + q.2.2.1, n + q.2.2.2)
            | none => match z_cst (z_cs G x) ins st with
              | some s' => some (pc + len, l, s', P, c, n)
              | none => none
def z_only (f : Nat → Bool) (o : Option (Nat × Nat)) : Option (Nat × Nat) := match o with
  | some q => if f q.2 then some q else none
  | none => none
def z_call (G : z_Pg) (x : Nat) : Instr → Option (Nat × Nat)
  | .invokevirtual n => z_only (fun k => k == 1) (z_inv G x n)
  | .invokestatic n => z_only (fun k => k == 0 || k == 5) (z_inv G x n)
  | .invokespecial n => z_only (fun k => k == 2 || k == 3) (z_inv G x n)
  | _ => none
/-- Object's own constructor, arraycopy -/
def z_prim (kd d pc : Nat) (l : z_L) (st : List Value) (P : z_H) (c n : Nat) : Option z_S :=
  if kd = 3 then match st with
    | .ref _ :: r => if 1 ≤ d ∧ z_cat r ≤ 8 then some (pc + 3, l, r, P, c, n) else none
    | _ => none
  else if kd = 5 then match z_acp P st with
    | some q => if 1 ≤ d ∧ z_cat q.1 ≤ 8 then some (pc + 3, l, q.1, q.2, c, n) else none
    | none => none
  else none
/-- what comes next: the end with a value; a place; a call with its arguments -/
def z_next (G : z_Pg) (d x : Nat) (q : z_S) : Option (Option Value ⊕ (z_S ⊕ (Nat × List Value × List Value))) :=
  match z_cod G x q.1 with
  | none => none
  | some i => match z_call G x i.1 with
    | some yk => if yk.2 < 3 then match z_args G d yk.1 yk.2 x q.2.2.1 q.2.2.2.1 q.2.2.2.2.1 q.2.2.2.2.2 with
        | some ar => some (.inr (.inr (yk.1, ar.1, ar.2)))
        | none => none
      else match z_prim yk.2 d q.1 q.2.1 q.2.2.1 q.2.2.2.1 q.2.2.2.2.1 q.2.2.2.2.2 with
        | some q' => some (.inr (.inl q'))
        | none => none
    | none => match z_ret (z_rty G x) i.1 q.2.2.1 with
      | some r => some (.inl r)
      | none => match z_step G x i.1 i.2 q.1 q.2.1 q.2.2.1 q.2.2.2.1 q.2.2.2.2.1 q.2.2.2.2.2 with
        | some q' => some (.inr (.inl q'))
        | none => none
def z_run (G : z_Pg) : Nat → Nat → Nat → z_S → Option (Option Value × z_H)
  | 0, _, _, _ => none
  | f + 1, d, x, q => match z_next G d x q with
    | none => none
    | some (.inl r) => some (r, q.2.2.2.1)
    | some (.inr (.inl q')) => z_run G f d x q'
    | some (.inr (.inr a)) => match z_run G f (d - 1) a.1 (0, lv_args 0 a.2.1, [], q.2.2.2.1, 0, 0) with
      | some o => z_run G f d x (q.1 + 3, q.2.1, o.1.toList ++ a.2.2, o.2, q.2.2.2.2.1 + z_mc G a.1, q.2.2.2.2.2 + z_ms G a.1)
      | none => none
/-- the run of a method from its start, some fuel given -/
def z_Runs (G : z_Pg) (d x : Nat) (q : z_S) (r : Option Value) (P' : z_H) : Prop := ∃ f, z_run G f d x q = some (r, P')
end ZEXEC
end
section
section ZMAIN
def z_room (G : z_Pg) (x d : Nat) : Room := { frames := d, cells := z_mc G x, slots := z_ms G x, locals := 100 * d }
def z_ws (G : z_Pg) (nm : Nat → MethodName) (by_ : Nat → ByteArray) (Ts : List Cond) (x : Nat) : List Cond := Cond.code (nm x) (by_ x) (z_nL G x) (z_rty G x) :: Ts
/-- the words that say what a constant is -/
def z_ctw (Ts : List Cond) (own : String) (rs : List (String × Nat × String × Nat)) : Instr → Value → Prop
  | .ldc n, v => (∃ x, v = .int x ∧ Cond.constant own n x ∈ Ts) ∨ ∃ tx i, v = .ref (z_far + 2 * i) ∧ (own, n, tx, i) ∈ rs
  | .ldc_w n, v => ∃ x, v = .int x ∧ Cond.constant own n x ∈ Ts
  | .ldc2_w n, v => ∃ x, v = .long x ∧ Cond.constantLong own n x ∈ Ts
  | .getstatic n, v => v = .int 1 ∧ Cond.fieldLink own n "java/lang/String" "COMPACT_STRINGS" "Z" ∈ Ts
  | _, _ => False
theorem z_ctw.use {Ts : List Cond} {own : String} {rs : List (String × Nat × String × Nat)} {s : State} {args : Array Value} (hts : ∀ w ∈ Ts, w.before args s = true) {ins : Instr} {v : Value} (h : z_ctw Ts own rs ins v) : z_ct s args own rs ins v := by
  cases ins
  case ldc n =>
    rcases h with ⟨x, h1, h2⟩ | h
    · exact Or.inl ⟨x, h1, hts _ h2⟩
    · exact Or.inr h
  case ldc_w n =>
    obtain ⟨x, h1, h2⟩ := h
    exact ⟨x, h1, hts _ h2⟩
  case ldc2_w n =>
    obtain ⟨x, h1, h2⟩ := h
    exact ⟨x, h1, hts _ h2⟩
  case getstatic n => exact ⟨h.1, hts _ h.2⟩
  all_goals (exact h.elim)
def z_OKc (G : z_Pg) (by_ : Nat → ByteArray) : Prop := ∀ x pc i, z_cod G x pc = some i → decode (by_ x) pc = .ok (i.1, i.2) ∧ ((∃ d lo hi o, i.1 = .tableswitch d lo hi o) ∨ i.2 = z_len i.1)
def z_OKf (G : z_Pg) (nm : Nat → MethodName) (cl : List vw_C) (Ts Ns : List Cond) : Prop := ∀ x n ci k r, z_fld G x n = some (ci, k) → cl[ci]? = some r → k < r.2.2 ∧ (Cond.fieldLink (nm x).cls n (r.2.1 k).1 (r.2.1 k).2.1 (r.2.1 k).2.2.1 ∈ Ts ∨ ∃ host, Cond.fieldLinkNest (nm x).cls n (r.2.1 k).1 (r.2.1 k).2.1 (r.2.1 k).2.2.1 host ∈ Ns) ∧ (z_fin G ci k = true → z_ini G x = some ci → Cond.fieldLink (nm x).cls n (r.2.1 k).1 (r.2.1 k).2.1 (r.2.1 k).2.2.1 ∈ Ts)
def z_OKs (G : z_Pg) (nm : Nat → MethodName) (Ts : List Cond) : Prop := ∀ x n k, z_fld G x n = some (98, k) → (k = 0 ∧ Cond.fieldLink (nm x).cls n "java/lang/String" "value" "[B" ∈ Ts) ∨ (k = 1 ∧ Cond.fieldLink (nm x).cls n "java/lang/String" "coder" "B" ∈ Ts)
def z_OKk (G : z_Pg) (nm : Nat → MethodName) (Ts : List Cond) (rs : List (String × Nat × String × Nat)) : Prop := ∀ x ins v, z_cstv (z_cs G x) ins = some v → z_ctw Ts (nm x).cls rs ins v
def z_OKm (G : z_Pg) (nm : Nat → MethodName) (cl : List vw_C) (aty : List FieldType) (Ts Ns : List Cond) : Prop :=
  (∀ x n q, z_cls G x n = some q → ∃ r : vw_C, cl[q.1]? = some r ∧ q.2.length = r.2.2 ∧ (∀ k, k < r.2.2 → q.2[k]? = some (defaultValue (z_fty G q.1 k))) ∧ Cond.classLink (nm x).cls n r.1 ∈ Ts ∧ Cond.instantiable r.1 r.2.2 ∈ Ts ∧ Cond.initialized r.1 ∈ Ts) ∧
  (∀ x n i, z_aan G x n = some i → ∃ C, aty[i]? = some (.object C) ∧ Cond.classLink (nm x).cls n C ∈ Ts ∧ Cond.arrayOver (.object C) ∈ Ns) ∧
  (∀ x n q, z_mna G x n = some q → ∃ t, aty[q.2]? = some t ∧ q.2 < 5 ∧ aty[q.1]? = some (.array t) ∧ Cond.classLink (nm x).cls n ("[" ++ (FieldType.array t).toString) ∈ Ts ∧ Cond.arrayOver (.array t) ∈ Ns) ∧
  ∀ i t, i < 5 → aty[i]? = some t → Cond.arrayClass t ∈ Ts
def z_OKi (G : z_Pg) (nm : Nat → MethodName) (by_ : Nat → ByteArray) (cl : List vw_C) (Ts Ns : List Cond) : Prop := ∀ x n y kd, z_inv G x n = some (y, kd) →
  (kd < 3 → plainFor (nm y) = true ∧ Cond.code (nm y) (by_ y) (z_nL G y) (z_rty G y) ∈ Ts ∧ Cond.initialized (nm y).cls ∈ Ts ∧ ((nm y).cls ≠ "java/lang/invoke/MethodHandle" ∧ (nm y).cls ≠ "java/lang/invoke/VarHandle") ∧ (parseMethodDescriptor (nm y).desc).map (fun d => d.parameters.length) = some (if kd = 0 then z_na G y else z_na G y - 1) ∧ (Cond.methodLink (nm x).cls n (nm y) ∈ Ts ∨ ∃ host, Cond.methodLinkNest (nm x).cls n (nm y) host ∈ Ns)) ∧
  (kd = 0 → Cond.static (nm y) ∈ Ts) ∧
  (kd = 1 → Cond.instanceMethod (nm y) ∈ Ts ∧ Cond.selects (nm y).cls (nm y) (nm y) ∈ Ts ∧ ((z_rcv G y = 98 ∧ (nm y).cls = "java/lang/String") ∨ (z_rcv G y < 98 ∧ ∃ r : vw_C, cl[z_rcv G y]? = some r ∧ r.1 = (nm y).cls))) ∧
  (kd = 2 → (nm y).name = "<init>" ∧ Cond.instanceMethod (nm y) ∈ Ts ∧ z_rty G y = none) ∧
  (kd = 3 → Cond.methodLink (nm x).cls n Lib.objectInit ∈ Ts ∧ Cond.instanceMethod Lib.objectInit ∈ Ts ∧ Cond.code Lib.objectInit ⟨#[0xb1]⟩ 1 none ∈ Ts) ∧
  (kd = 5 → Cond.methodLink (nm x).cls n arraycopyName ∈ Ts ∧ Cond.native arraycopyName ∈ Ts ∧ Cond.static arraycopyName ∈ Ts ∧ Cond.initialized "java/lang/System" ∈ Ts)
def z_Nok (Ns : List Cond) : Prop := ∀ w ∈ Ns, ∀ (s U : State) (a : Array Value), s.WarmedH U.vm → w.before #[] s = true → w.before a U = true
def z_OKx (G : z_Pg) (nm : Nat → MethodName) (cl : List vw_C) (aty : List FieldType) (Ts Ns : List Cond) : Prop :=
  cl.length ≤ 98 ∧ (∀ w ∈ Ts, goodWord w = true) ∧ z_Nok Ns ∧ z_aty aty ∧ aty.length = z_nA G ∧ z_FT cl (z_fty G) (z_fin G) ∧ z_CL cl Ts ∧ (∀ i ci, z_ac G i = some ci → ∃ r : vw_C, cl[ci]? = some r ∧ aty[i]? = some (.object r.1)) ∧
  ∀ x ci (r : vw_C) k, z_ini G x = some ci → cl[ci]? = some r → k < r.2.2 → (nm x).name = "<init>" ∧ (r.2.1 k).1 = (nm x).cls
/-- all that must be checked of a program, once -/
def z_OK (G : z_Pg) (nm : Nat → MethodName) (by_ : Nat → ByteArray) (cl : List vw_C) (aty : List FieldType) (Ts Ns : List Cond) (rs : List (String × Nat × String × Nat)) : Prop :=
  z_OKc G by_ ∧ z_OKf G nm cl Ts Ns ∧ z_OKs G nm Ts ∧ z_OKk G nm Ts rs ∧ z_OKm G nm cl aty Ts Ns ∧ z_OKi G nm by_ cl Ts Ns ∧ z_OKx G nm cl aty Ts Ns
/-- what holds in a method's frame -/
def z_Cx (G : z_Pg) (nm : Nat → MethodName) (by_ : Nat → ByteArray) (cl : List vw_C) (aty : List FieldType) (Ts Ns : List Cond) (rs : List (String × Nat × String × Nat)) (D : va_G) (ta : Nat → ClassId) (ext : Nat → Nat) (base : Nat) (p : Program) (s : State) (m : MethodId) (args : Array Value) (meth : Method) (c : Code) (x : Nat) : Prop :=
  p.tables.exec = Jvm.exec ∧ c.code = by_ x ∧ meth.sig.returnType = z_rty G x ∧ c.maxLocals = z_nL G x ∧ s.vm.findClass (nm x).cls = some m.cls ∧ (∀ w ∈ Ts, w.before args s = true) ∧ (∀ w ∈ Ns, w.before #[] s = true) ∧ z_K D cl ta aty s ∧ meth.locks = false ∧ meth.name = (nm x).name ∧ z_X (z_strs G) ext base rs s ∧ base ≤ s.heap.size
variable {p : Program} {l : Launch} {e : Env} {s : State} {m : MethodId} {args : Array Value} {below : List Frame} {meth : Method} {c : Code} {H : Heap} {locs : List Loc} {Q : State → Prop}
variable {G : z_Pg} {nm : Nat → MethodName} {by_ : Nat → ByteArray} {cl : List vw_C} {aty : List FieldType} {Ts Ns : List Cond} {rs : List (String × Nat × String × Nat)} {D : va_G} {ta : Nat → ClassId} {ext : Nat → Nat} {base : Nat}
theorem z_nest (hN : z_Nok Ns) (h : ∀ w ∈ Ns, w.before #[] s = true) {w : Cond} (hw : w ∈ Ns) (a : Array Value) : w.before a s = true := hN w hw s s a (State.WarmedH.refl s) (h w hw)
set_option maxHeartbeats 4000000 in
theorem z_sim_step {R : Room} (hOK : z_OK G nm by_ cl aty Ts Ns rs) {x : Nat} (hC : z_Cx G nm by_ cl aty Ts Ns rs D ta ext base p s m args meth c x) (hRc : R.cells = z_mc G x) (hRs : R.slots = z_ms G x) {ins : Instr} {len pc cn sn : Nat} {ll : z_L} {st : List Value} {P : z_H} {q : z_S} (hcod : z_cod G x pc = some (ins, len)) (h : z_step G x ins len pc ll st P cn sn = some q)
    {ls : Array Slot} (hR : z_R D cl ta ext base P H) (hS : va_S (fun q => base ≤ q) s.heap H locs) (hl : lv_has ls (z_nL G x) (z_cl ext base ll))
    (k : ∀ H1 locs1 ls1, z_R D cl ta ext base q.2.2.2.1 H1 → va_S (fun q => base ≤ q) s.heap H1 locs1 → lv_has ls1 (z_nL G x) (z_cl ext base q.2.1) → W p l e R s m args below meth c H1 locs1 q.2.2.2.2.1 q.2.2.2.2.2 Q (F0 m q.1 ls1 (q.2.2.1.map (z_cv ext base)))) :
    W p l e R s m args below meth c H locs cn sn Q (F0 m pc ls (st.map (z_cv ext base))) := by
  obtain ⟨o1, o2, o3, o4, ⟨om1, om2, om3, om4⟩, o6, oL, og, oN, oa, oA, oF, oC, oac, oi⟩ := hOK
  obtain ⟨hx, hb, hr, hml, hown, hts, hns, hK, hlk, hnm, hX, hbs⟩ := hC
  obtain ⟨hd, hlen⟩ := o1 x pc _ hcod
  have hd : decode (by_ x) pc = .ok (ins, len) := hd
  have hlen : (∃ d lo hi o, ins = .tableswitch d lo hi o) ∨ len = z_len ins := hlen
  have hne : (∀ d lo hi o, ins ≠ .tableswitch d lo hi o) → len = z_len ins := fun hn => hlen.elim (fun ⟨d, lo, hi, o, h1⟩ => absurd h1 (hn d lo hi o)) id
  unfold z_step at h
  split at h
  · rename_i s' h1
    cases h
    exact z_sim_pure hx hb hd (hne fun d lo hi o q => by subst q; cases h1) h1 (k H locs ls hR hS hl)
  split at h
  · rename_i q' h1
    cases h
    exact z_sim_loc hx hb hd (hne fun d lo hi o q => by subst q; cases h1) h1 hl (fun ls' hl' => k H locs ls' hR hS hl')
  split at h
  · rename_i q' h1
    cases h
    exact z_sim_jmp hx hb hd hlen h1 (k H locs ls hR hS hl)
  split at h
  · rename_i s' h1
    cases h
    rw [← oA] at h1
    exact z_sim_rd hx hb hts hown hK oa oC hR hX hS (fun n ci kk r e1 e2 e3 => by
      obtain ⟨f1, f2, -⟩ := o2 x n ci kk r e2 e3
      refine ⟨f1, f2.elim (fun w => Or.inl (hts _ w)) (fun ⟨host, w⟩ => Or.inr ⟨host, z_nest oN hns w _⟩)⟩) (fun n kk e1 e2 => by
      rcases o3 x n kk e2 with ⟨w1, w2⟩ | ⟨w1, w2⟩
      · exact Or.inl ⟨w1, hts _ w2⟩
      · exact Or.inr ⟨w1, hts _ w2⟩) hd (hne fun d lo hi o q => by subst q; cases h1) h1 (k H locs ls hR hS hl)
  split at h
  · rename_i q' h1
    cases h
    exact z_sim_wr hx hb hts hown hK oa oC oF hR hS (fun _ h => h) oac (fun ci r kk e1 e2 e3 => by
      obtain ⟨f1, f2⟩ := oi x ci r kk e1 e2 e3
      exact ⟨hnm.trans f1, f2⟩) (fun n ci kk r e1 e2 e3 => by
      obtain ⟨f1, f2, f3⟩ := o2 x n ci kk r e2 e3
      exact ⟨f1, f2.elim (fun w => Or.inl (hts _ w)) (fun ⟨host, w⟩ => Or.inr ⟨host, z_nest oN hns w _⟩), fun f g => hts _ (f3 f g)⟩) hd (hne fun d lo hi o q => by subst q; cases h1) h1 (fun H1 locs1 g1 g2 => k H1 locs1 ls g1 g2 hl)
  split at h
  · rename_i q' h1
    unfold z_bump at h
    split at h
    · rename_i hb2
      cases h
      refine z_sim_mk (P' := q'.2.1) (dc := q'.2.2.1) (ds := q'.2.2.2) (st' := q'.1) hx hb hts hown hK oa oC oF hR hS (fun i t e1 e2 => hts _ (om4 i t e1 e2)) (fun n ci dv e1 e2 => ?_) (fun n i e1 e2 => ?_) (fun n d io ii e1 e2 => ?_) hd (hne fun d lo hi o q => by subst q; cases h1) h1 (by rw [hRc]; exact hb2.1) (by rw [hRs]; exact hb2.2) (fun H1 g1 g2 => k H1 locs ls g1 g2 hl)
      · obtain ⟨r, f1, f2, f3, f4, f5, f6⟩ := om1 x n (ci, dv) e2
        exact ⟨r, f1, f2, f3, hts _ f4, hts _ f5, hts _ f6⟩
      · obtain ⟨C, f1, f2, f3⟩ := om2 x n i e2
        exact ⟨C, f1, hts _ f2, z_nest oN hns f3 _⟩
      · obtain ⟨t, f1, f2, f3, f4, f5⟩ := om3 x n (io, ii) e2
        exact ⟨t, f1, f2, f3, hts _ f4, z_nest oN hns f5 _⟩
    · cases h
  split at h
  · rename_i s' h1
    cases h
    exact z_sim_cst hx hb hown hX hS (fun v e1 => (o4 x ins v e1).use hts) hd (hne fun d lo hi o q => by subst q; cases h1) h1 (k H locs ls hR hS hl)
  · cases h
/-- a method's start and end -/
def z_Pc (cl : List vw_C) (aty : List FieldType) (Ns : List Cond) (strs : List (List Int32)) (rs : List (String × Nat × String × Nat)) (D : va_G) (ta : Nat → ClassId) (ext : Nat → Nat) (base : Nat) (as : List Value) (P : z_H) : Array Value → State → Prop := fun a U =>
  a = (as.map (z_cv ext base)).toArray ∧ z_R D cl ta ext base P U.heap ∧ z_K D cl ta aty U ∧ (∀ w ∈ Ns, w.before #[] U = true) ∧ z_X strs ext base rs U
def z_Qc (cl : List vw_C) (D : va_G) (ta : Nat → ClassId) (ext : Nat → Nat) (base : Nat) (r : Option Value) (P : z_H) : Array Value → State → Outcome → State → Prop := fun _ st o t =>
  o = .returned (r.map (z_cv ext base)) ∧ z_R D cl ta ext base P t.heap ∧ va_F (fun q => base ≤ q) st t
theorem z_X.same {strs : List (List Int32)} {u U : State} (hvm : u.vm = U.vm) (hh : U.heap = u.heap) (h : z_X strs ext base rs u) : z_X strs ext base rs U := by
  obtain ⟨h1, h2, h3⟩ := h
  have hal : u.vm.Alike U.vm := by rw [hvm]; exact Vm.Alike.refl _
  exact ⟨by rw [hh]; exact h1.moved hal, by rw [hh]; exact h2.moved hal, fun r hr => (h3 r hr).same hvm.symm⟩
theorem z_X.on {strs : List (List Int32)} {u U : State} (hW : u.WarmedH U.vm) (hq : ∀ a : Nat, a < u.heap.size → ¬ base ≤ a → U.heap[a]? = u.heap[a]?) (h : z_X strs ext base rs u) : z_X strs ext base rs U := by
  obtain ⟨h1, h2, h3⟩ := h
  exact ⟨(h1.kept hq).moved hW.alike, (h2.kept hq).moved hW.alike, fun r hr => (h3 r hr).warm hW⟩
theorem z_blind (hN : z_Nok Ns) {as : List Value} {P : z_H} {strs : List (List Int32)} : FrameBlind (z_Pc cl aty Ns strs rs D ta ext base as P) := by
  intro a U g mk ⟨h1, h2, h3, h4, h5⟩
  exact ⟨h1, h2, z_K.moved (u := U) (U := U.calling g mk a) (Vm.Alike.refl U.vm) h3, fun w hw => hN w hw U (U.calling g mk a) #[] (State.WarmedH.refl U) (h4 w hw), h5.same rfl rfl⟩
theorem z_sim_back {R : Room} {cells slots mc ms : Nat} {g : JFrame} {rest : List Value} {P' : z_H} {r : Option Value} {a : Array Value} (hr : va_Run p l e R s m args below meth c H locs cells slots mc ms g rest (z_Qc cl D ta ext base r P' a) (fun q => base ≤ q)) (hS : va_S (fun q => base ≤ q) s.heap H locs)
    (k : ∀ H1 locs1, z_R D cl ta ext base P' H1 → va_S (fun q => base ≤ q) s.heap H1 locs1 → W p l e R s m args below meth c H1 locs1 (cells + mc) (slots + ms) Q { g with pc := g.pc + 3, stack := (r.map (z_cv ext base)).toList ++ rest }) : W p l e R s m args below meth c H locs cells slots Q g := by
  intro T hT X
  obtain ⟨v, st₀, t, T', L, h0, X', hL, e1, e2, ⟨hv, hR', hF⟩, st⟩ := hr T hT X
  have hv : v = r.map (z_cv ext base) := Outcome.returned.inj hv
  subst hv
  obtain ⟨f1, f2⟩ := hF
  rw [h0] at f1 f2
  obtain ⟨t9, a9, b9⟩ := k T'.heap (locs ++ L) (by rw [e1]; exact hR') ⟨by rw [e1]; exact Nat.le_trans hS.1 f1, fun q g1 g2 => by
    rw [e1, f2 q (Nat.lt_of_lt_of_le g1 hS.1) g2]
    exact hS.2.1 q g1 g2, fun q hq => by
    rcases List.mem_append.mp hq with h | h
    · exact hS.2.2 q h
    · exact hL q h⟩ T' rfl X'
  exact ⟨t9, st t9 a9, b9⟩
theorem z_sim_ret {R : Room} {x : Nat} {ins : Instr} {len pc cn sn : Nat} {st : List Value} {P : z_H} {r : Option Value} (hC : z_Cx G nm by_ cl aty Ts Ns rs D ta ext base p s m args meth c x) (hd : decode (by_ x) pc = .ok (ins, len)) (hlen : len = z_len ins) (h : z_ret (z_rty G x) ins st = some r) (hR : z_R D cl ta ext base P H) (hS : va_S (fun q => base ≤ q) s.heap H locs) {ls : Array Slot} :
    W p l e R s m args below meth c H locs cn sn (MQ below (z_Qc cl D ta ext base r P) args s cn sn (fun q => base ≤ q)) (F0 m pc ls (st.map (z_cv ext base))) := by
  subst hlen
  obtain ⟨hx, hb, hr, hml, hown, hts, hns, hK, hlk, hnm, hX, hbs⟩ := hC
  unfold z_ret at h
  split at h
  · split at h
    · rename_i h1
      cases h
      exact W.vret hx hb (by rw [hr, h1]) (fun t ht hW => ⟨rfl, by rw [ht]; exact hR, hS.F ht⟩) hS.2.2 hd hlk
    · cases h
  · split at h
    · rename_i ty h1
      split at h
      · rename_i h2
        cases h
        exact W.zret hx hb (by rw [hr, h1]) h2 (fun t ht hW => ⟨rfl, by rw [ht]; exact hR, hS.F ht⟩) hS.2.2 hd hlk
      · cases h
    · cases h
  · split at h
    · rename_i h1
      cases h
      exact W.lret hx hb (by rw [hr, h1]) (fun t ht hW => ⟨rfl, by rw [ht]; exact hR, hS.F ht⟩) hS.2.2 hd hlk
    · cases h
  · rename_i v
    split at h
    · rename_i C h1
      split at h
      · rename_i h2
        cases h
        refine W.aret hx hb (by rw [hr, h1]) (Or.inl ⟨_, rfl⟩) ?_ (fun t ht hW => ⟨rfl, by rw [ht]; exact hR, hS.F ht⟩) hS.2.2 hd hlk
        rcases z_isA_spec h2 with rfl | ⟨q, rfl⟩
        · exact Or.inl rfl
        · exact Or.inr ⟨_, rfl⟩
      · cases h
    · rename_i C h1
      split at h
      · rename_i h2
        cases h
        refine W.aret hx hb (by rw [hr, h1]) (Or.inr ⟨_, rfl⟩) ?_ (fun t ht hW => ⟨rfl, by rw [ht]; exact hR, hS.F ht⟩) hS.2.2 hd hlk
        rcases z_isA_spec h2 with rfl | ⟨q, rfl⟩
        · exact Or.inl rfl
        · exact Or.inr ⟨_, rfl⟩
      · cases h
    · cases h
  · cases h
end ZMAIN
end
section
section ZMN
variable {l : Launch}
variable {G : z_Pg} {nm : Nat → MethodName} {by_ : Nat → ByteArray} {cl : List vw_C} {aty : List FieldType} {Ts Ns : List Cond} {rs : List (String × Nat × String × Nat)} {D : va_G} {ta : Nat → ClassId} {ext : Nat → Nat} {base : Nat}
theorem z_args_spec {d y kd x cn sn : Nat} {st as r : List Value} {P : z_H} (h : z_args G d y kd x st P cn sn = some (as, r)) :
    st = as.reverse ++ r ∧ as.length = z_na G y ∧ 1 ≤ d ∧ z_cat r ≤ 8 ∧ z_nL G y ≤ 45 ∧ z_cat as ≤ z_nL G y ∧ cn + z_mc G y ≤ z_mc G x ∧ sn + z_ms G y ≤ z_ms G x ∧ (kd = 0 ∨ 1 ≤ z_na G y) ∧ (kd = 0 ∨ z_at? G P y kd as = true) := by
  unfold z_args at h
  simp only at h
  split at h
  · rename_i h1
    cases h
    obtain ⟨g1, g2, g3, g4, g5, g6, g7, g8, g9⟩ := h1
    refine ⟨by rw [List.reverse_reverse, List.take_append_drop], by rw [List.length_reverse, List.length_take]; omega, g2, g3, g4, g5, g6, g7, g8, g9⟩
  · cases h
theorem z_cl_args (as : List Value) : ∀ i, lv_args i (as.map (z_cv ext base)) = z_cl ext base (lv_args i as) := by
  induction as with
  | nil => intro i; rfl
  | cons v vs ih =>
    intro i
    show (i, z_cv ext base v) :: lv_args (if (z_cv ext base v).category = 2 then i + 2 else i + 1) (vs.map (z_cv ext base)) = (i, z_cv ext base v) :: z_cl ext base (lv_args (if v.category = 2 then i + 2 else i + 1) vs)
    rw [z_cv_cat, ih]
theorem z_sl_len : ∀ vs : List Value, (lg_sl vs).length = z_cat vs := by
  intro vs
  induction vs with
  | nil => rfl
  | cons v vs ih =>
    have h1 : (lg_sl (v :: vs)).length = (lg_sl [v]).length + (lg_sl vs).length := by
      unfold lg_sl
      simp [List.flatMap_cons]
    have h2 : (lg_sl [v]).length = v.category := by cases v <;> rfl
    rw [h1, h2, ih]
    simp [z_cat]
theorem z_cat_cv (vs : List Value) : ((vs.map (z_cv ext base)).map fun v => v.category) = vs.map fun v => v.category := by
  rw [List.map_map]
  apply List.map_congr_left
  intro v _
  exact z_cv_cat _ _ v
theorem z_toList_map (o : Option Value) (r : List Value) : (o.toList ++ r).map (z_cv ext base) = (o.map (z_cv ext base)).toList ++ r.map (z_cv ext base) := by cases o <;> simp
/-- the claim that the machine follows the picture, for a fuel -/
def z_Sim (l : Launch) (G : z_Pg) (nm : Nat → MethodName) (by_ : Nat → ByteArray) (cl : List vw_C) (aty : List FieldType) (Ts Ns : List Cond) (rs : List (String × Nat × String × Nat)) (D : va_G) (ta : Nat → ClassId) (ext : Nat → Nat) (base f : Nat) : Prop :=
  ∀ (d x : Nat) (q : z_S) (r : Option Value) (P' : z_H), z_run G f d x q = some (r, P') → q.2.2.2.2.1 ≤ z_mc G x → q.2.2.2.2.2 ≤ z_ms G x →
  ∀ (p : Program) (e : Env) (s : State) (m : MethodId) (args : Array Value) (below : List Frame) (meth : Method) (c : Code) (R : Room) (H : Heap) (locs : List Loc) (ls : Array Slot),
    z_Cx G nm by_ cl aty Ts Ns rs D ta ext base p s m args meth c x → R.cells = z_mc G x → R.slots = z_ms G x → d ≤ R.frames → 100 * d ≤ R.locals → z_R D cl ta ext base q.2.2.2.1 H → va_S (fun q => base ≤ q) s.heap H locs → lv_has ls (z_nL G x) (z_cl ext base q.2.1) →
    W p l e R s m args below meth c H locs q.2.2.2.2.1 q.2.2.2.2.2 (MQ below (z_Qc cl D ta ext base r P') args s (z_mc G x) (z_ms G x) (fun q => base ≤ q)) (F0 m q.1 ls (q.2.2.1.map (z_cv ext base)))
/-- as Met.ofW, of any method that no native row stands for -/
theorem z_ofW {y : MethodName} {ws ws' : List Cond} {rm : Room} {Pc : Array Value → State → Prop} {Qc : Array Value → State → Outcome → State → Prop} {mc ms : Nat} {free : Addr → Prop} {cc : ByteArray} {maxL : Nat} {ret : Option FieldType}
    (hy : plainFor y = true) (hw : ws = Cond.code y cc maxL ret :: ws')
    (body : ∀ p e s m args below meth c s₁, BodyLoose p l y (headSpec ws rm) cc maxL ret e s m args below meth c s₁ → c.maxLocals = maxL → Pc args s →
      W p l e (headSpec ws rm).room s m args below meth c s.heap [] 0 0 (MQ below Qc args s mc ms free) (entryFrame m args maxL)) : Met l y ws rm Pc Qc mc ms free := by
  refine Jvm.Free.MetFree.of_bodySF (code := cc) (maxLocals := maxL) (ret := ret) hy ?_ ?_
  · intro args s m h hn
    obtain ⟨meth, c, h1, h2, h3, h4, h5, h6, -, -⟩ := Cond.code_spec hn (atoms_spec (ws := ws) h _ (by rw [hw]; exact List.mem_cons_self))
    exact ⟨meth, c, h1, h2, h3, h4, h5, h6⟩
  · intro p e s m args below meth c s₁ B hml hP _
    have hh0 : s₁.heap = s.heap := by rw [B.state]; rfl
    obtain ⟨t, a1, o, b1, b2, b3⟩ := body p e s m args below meth c s₁ B hml hP s₁ hh0 (Stand.of_body B)
    exact ⟨t, o, a1, b1, b2, ⟨b3.1, b3.2⟩⟩
set_option maxHeartbeats 4000000 in
/-- a method's contract out of its run -/
theorem z_met (hOK : z_OK G nm by_ cl aty Ts Ns rs) {f : Nat} (ih : z_Sim l G nm by_ cl aty Ts Ns rs D ta ext base f) {d y : Nat} {as : List Value} {P P' : z_H} {r : Option Value} (hpl : plainFor (nm y) = true) (hcat : z_cat as ≤ z_nL G y) (h : z_run G f d y (0, lv_args 0 as, [], P, 0, 0) = some (r, P')) :
    Met l (nm y) (z_ws G nm by_ Ts y) (z_room G y d) (z_Pc cl aty Ns (z_strs G) rs D ta ext base as P) (z_Qc cl D ta ext base r P') (z_mc G y) (z_ms G y) (fun q => base ≤ q) := by
  refine z_ofW (cc := by_ y) (maxL := z_nL G y) (ret := z_rty G y) hpl rfl ?_
  intro p e s m args below meth c s₁ B hml ⟨hargs, hR, hK, hN, hX⟩
  subst hargs
  have hts := atoms_spec (ws := z_ws G nm by_ Ts y) B.pre
  have hCx : z_Cx G nm by_ cl aty Ts Ns rs D ta ext base p s m (as.map (z_cv ext base)).toArray meth c y :=
    ⟨B.exec, B.bytes, B.returns, hml, findClass_of_methodNamed B.named, fun w hw => hts w (List.mem_cons_of_mem _ hw), hN, hK, B.notSynchronized, (name_of_methodNamed B.named B.method).1, hX, by rw [hR.1]; exact Nat.le_add_right _ _⟩
  have hl := lv_entry (as.map (z_cv ext base)) (n := z_nL G y) (by rw [z_sl_len]; unfold z_cat; rw [z_cat_cv]; exact hcat)
  rw [lg_entry_eq]
  generalize (lg_sl (as.map (z_cv ext base)) ++ List.replicate (z_nL G y - (lg_sl (as.map (z_cv ext base))).length) Slot.unset).toArray = ls at hl ⊢
  rw [z_cl_args] at hl
  exact ih d y (0, lv_args 0 as, [], P, 0, 0) r P' h (Nat.zero_le _) (Nat.zero_le _) p e s m _ below meth c _ s.heap [] ls hCx rfl rfl (Nat.le_refl _) (Nat.le_refl _) hR va_S.rf hl
set_option maxHeartbeats 8000000 in
theorem z_sim (hOK : z_OK G nm by_ cl aty Ts Ns rs) : ∀ f, z_Sim l G nm by_ cl aty Ts Ns rs D ta ext base f := by
  intro f
  induction f with
  | zero => intro d x q r P' h; cases h
  | succ f ih =>
    intro d x q r P' h hmc hms p e s m args below meth c R H locs ls hC hRc hRs hRf hRl hR hS hl
    obtain ⟨pc, ll, st, P, cn, sn⟩ := q
    have hOK' := hOK
    have hC' := hC
    obtain ⟨o1, -, -, -, -, o6, oL, og, oN, oa, oA, oF, oC, oac, oi⟩ := hOK'
    obtain ⟨hx, hb, hr, hml, hown, hts, hns, hK, hlk, hnm, hX, hbs⟩ := hC'
    have hsz : ls.size = z_nL G x := hl.1
    unfold z_run at h
    split at h
    · cases h
    · -- the end
      rename_i r' hn
      cases h
      unfold z_next at hn
      split at hn
      · cases hn
      · rename_i i hi
        obtain ⟨hd, hlen⟩ := o1 x pc i hi
        split at hn
        · split at hn
          · split at hn <;> cases hn
          · split at hn <;> cases hn
        · split at hn
          · rename_i r2 hret
            cases hn
            refine W.widen hmc hms ?_
            have hz : i.2 = z_len i.1 := hlen.elim (fun ⟨a1, a2, a3, a4, a5⟩ => by rw [a5] at hret; unfold z_ret at hret; cases hret) id
            have k9 := z_sim_ret (p := p) (l := l) (e := e) (R := R) (below := below) (cn := z_mc G x) (sn := z_ms G x) hC hd hz hret hR hS (ls := ls)
            exact k9
          · split at hn <;> cases hn
    · -- a step
      rename_i q' hn
      unfold z_next at hn
      split at hn
      · cases hn
      · rename_i i hi
        split at hn
        · rename_i yk hyk
          split at hn
          · split at hn <;> cases hn
          · split at hn
            · rename_i q2 hq2
              cases hn
              -- Object's constructor, arraycopy
              have hcall : ∃ n, (i.1 = .invokestatic n ∧ z_inv G x n = some yk ∧ yk.2 ≠ 3) ∨ (i.1 = .invokespecial n ∧ z_inv G x n = some yk ∧ yk.2 ≠ 5) := by
                unfold z_call at hyk
                split at hyk
                · rename_i n h3
                  unfold z_only at hyk
                  split at hyk
                  · rename_i q9 hq9
                    split at hyk
                    · rename_i h9
                      cases hyk
                      have : yk.2 = 1 := by simpa using h9
                      omega
                    · cases hyk
                  · cases hyk
                · rename_i n h3
                  unfold z_only at hyk
                  split at hyk
                  · rename_i q9 hq9
                    split at hyk
                    · rename_i h9
                      cases hyk
                      refine ⟨n, Or.inl ⟨h3, hq9, fun h4 => ?_⟩⟩
                      rw [h4] at h9
                      simp at h9
                    · cases hyk
                  · cases hyk
                · rename_i n h3
                  unfold z_only at hyk
                  split at hyk
                  · rename_i q9 hq9
                    split at hyk
                    · rename_i h9
                      cases hyk
                      refine ⟨n, Or.inr ⟨h3, hq9, fun h4 => ?_⟩⟩
                      rw [h4] at h9
                      simp at h9
                    · cases hyk
                  · cases hyk
                · cases hyk
              obtain ⟨n, hcall⟩ := hcall
              obtain ⟨hd, hlen⟩ := o1 x pc i hi
              unfold z_prim at hq2
              split at hq2
              · rename_i h3
                rcases hcall with ⟨-, -, h4⟩ | ⟨hins, hinv, -⟩
                · exact absurd h3 h4
                obtain ⟨-, -, -, -, w3, -⟩ := o6 x n yk.1 yk.2 hinv
                obtain ⟨w31, w32, w33⟩ := w3 h3
                dsimp only at hq2
                split at hq2
                · rename_i a r9
                  split at hq2
                  · rename_i h5
                    cases hq2
                    have hd : decode (by_ x) pc = .ok (.invokespecial n, 3) := by
                      rcases hlen with ⟨a1, a2, a3, a4, a5⟩ | hz
                      · rw [hins] at a5; cases a5
                      · rw [hins] at hz hd; rw [hd, hz]; rfl
                    obtain ⟨h51, h52⟩ := h5
                    have hc9 : ((r9.map (z_cv ext base)).map fun v => v.category).sum ≤ 8 := by rw [z_cat_cv]; exact h52
                    refine W.objInit hx hb hown (hts _ w31) (hts _ w32) (hts _ w33) (g := F0 m pc ls (z_cv ext base (.ref a) :: r9.map (z_cv ext base))) rfl (by rw [hml]; exact hsz) rfl hd (Nat.le_trans h51 hRf) (by show 2 * 0 + _ + 12 ≤ _; omega) ?_
                    exact ih d x (pc + 3, ll, r9, P, cn, sn) r P' h hmc hms p e s m args below meth c R H locs ls hC hRc hRs hRf hRl hR hS hl
                  · cases hq2
                · cases hq2
              · split at hq2
                · rename_i h3n h5
                  rcases hcall with ⟨hins, hinv, -⟩ | ⟨-, -, h4⟩
                  rotate_left
                  · exact absurd h5 h4
                  obtain ⟨-, -, -, -, -, w5⟩ := o6 x n yk.1 yk.2 hinv
                  obtain ⟨w51, w52, w53, w54⟩ := w5 h5
                  split at hq2
                  · rename_i q5 hq5
                    split at hq2
                    · rename_i h6
                      cases hq2
                      obtain ⟨h61, h62⟩ := h6
                      have hd : decode (by_ x) pc = .ok (.invokestatic n, 3) := by
                        rcases hlen with ⟨a1, a2, a3, a4, a5⟩ | hz
                        · rw [hins] at a5; cases a5
                        · rw [hins] at hz hd; rw [hd, hz]; rfl
                      have hn5 : nativeFrameWords "java/lang/System" "arraycopy" 5 + 11 ≤ 60 := by decide +kernel
                      refine z_sim_acp hx hb hml hown hK oa hR hS (fun _ h => h) (hts _ w51) (hts _ w52) (hts _ w53) (hts _ w54) hsz (Nat.le_trans h61 hRf) (by have : ((q5.1).map fun v => v.category).sum ≤ 8 := h62; omega) hd (st' := q5.1) (P' := q5.2) hq5 ?_
                      intro H1 locs1 g1 g2
                      exact ih d x (pc + 3, ll, q5.1, q5.2, cn, sn) r P' h hmc hms p e s m args below meth c R H1 locs1 ls hC hRc hRs hRf hRl g1 g2 hl
                    · cases hq2
                  · cases hq2
                · cases hq2
            · cases hn
        · split at hn
          · cases hn
          · split at hn
            · rename_i q2 hq2
              cases hn
              refine z_sim_step hOK hC hRc hRs hi hq2 hR hS hl ?_
              intro H1 locs1 ls1 g1 g2 g3
              have hbump : q'.2.2.2.2.1 ≤ z_mc G x ∧ q'.2.2.2.2.2 ≤ z_ms G x := by
                have hq3 := hq2
                unfold z_step at hq3
                split at hq3
                · cases hq3; exact ⟨hmc, hms⟩
                split at hq3
                · cases hq3; exact ⟨hmc, hms⟩
                split at hq3
                · cases hq3; exact ⟨hmc, hms⟩
                split at hq3
                · cases hq3; exact ⟨hmc, hms⟩
                split at hq3
                · cases hq3; exact ⟨hmc, hms⟩
                split at hq3
                · unfold z_bump at hq3
                  split at hq3
                  · rename_i h8
                    cases hq3
                    exact h8
                  · cases hq3
                split at hq3
                · cases hq3; exact ⟨hmc, hms⟩
                · cases hq3
              exact ih d x q' r P' h hbump.1 hbump.2 p e s m args below meth c R H1 locs1 ls1 hC hRc hRs hRf hRl g1 g2 g3
            · cases hn
    · -- a call
      rename_i a hn
      unfold z_next at hn
      split at hn
      · cases hn
      · rename_i i hi
        split at hn
        rotate_left
        · split at hn
          · cases hn
          · split at hn <;> cases hn
        · rename_i yk hyk
          split at hn
          rotate_left
          · split at hn <;> cases hn
          · rename_i hkd
            split at hn
            rotate_left
            · cases hn
            · rename_i ar har
              cases hn
              dsimp only at h
              split at h
              rotate_left
              · cases h
              · rename_i o ho
                obtain ⟨y, kd⟩ := yk
                obtain ⟨as, rst⟩ := ar
                obtain ⟨rv, P1⟩ := o
                dsimp only at h ho hkd har
                obtain ⟨hst, hna, hd1, hc8, hnL, hca, hcm, hsm, hk1, hkat⟩ := z_args_spec har
                subst hst
                have hinv : ∃ n, z_inv G x n = some (y, kd) ∧ ((i.1 = .invokestatic n ∧ kd = 0) ∨ (i.1 = .invokevirtual n ∧ kd = 1) ∨ (i.1 = .invokespecial n ∧ kd = 2)) := by
                  unfold z_call at hyk
                  split at hyk
                  · rename_i n h3
                    unfold z_only at hyk
                    split at hyk
                    · rename_i q9 hq9
                      split at hyk
                      · rename_i h9
                        cases hyk
                        exact ⟨n, hq9, Or.inr (Or.inl ⟨h3, by simpa using h9⟩)⟩
                      · cases hyk
                    · cases hyk
                  · rename_i n h3
                    unfold z_only at hyk
                    split at hyk
                    · rename_i q9 hq9
                      split at hyk
                      · rename_i h9
                        cases hyk
                        refine ⟨n, hq9, Or.inl ⟨h3, ?_⟩⟩
                        simp at h9
                        omega
                      · cases hyk
                    · cases hyk
                  · rename_i n h3
                    unfold z_only at hyk
                    split at hyk
                    · rename_i q9 hq9
                      split at hyk
                      · rename_i h9
                        cases hyk
                        refine ⟨n, hq9, Or.inr (Or.inr ⟨h3, ?_⟩)⟩
                        simp at h9
                        omega
                      · cases hyk
                    · cases hyk
                  · cases hyk
                obtain ⟨n, hinv, hkind⟩ := hinv
                obtain ⟨w0, ws0, ws1, ws2, -, -⟩ := o6 x n y kd hinv
                obtain ⟨w01, w02, w03, w04, w05, w06⟩ := w0 hkd
                obtain ⟨hd, hlen⟩ := o1 x pc i hi
                have hM : Met l (nm y) (z_ws G nm by_ Ts y) (z_room G y (d - 1)) (z_Pc cl aty Ns (z_strs G) rs D ta ext base as P) (z_Qc cl D ta ext base rv P1) (z_mc G y) (z_ms G y) (fun q => base ≤ q) := z_met hOK ih w01 hca ho
                have hblind : FrameBlind (z_Pc cl aty Ns (z_strs G) rs D ta ext base as P) := z_blind oN
                have hGood : GoodIn Ts (z_ws G nm by_ Ts y) := fun w hw => by
                  rcases List.mem_cons.mp hw with rfl | hw
                  · exact ⟨w02, good_of_word (og _ w02)⟩
                  · exact ⟨hw, good_of_word (og _ hw)⟩
                have hroom : (z_room G y (d - 1)).frames + 1 ≤ R.frames ∧ 8 + (z_nL G y + 11) + (z_room G y (d - 1)).locals ≤ R.locals := by
                  refine ⟨?_, ?_⟩
                  · show d - 1 + 1 ≤ _
                    omega
                  · show 8 + (z_nL G y + 11) + 100 * (d - 1) ≤ _
                    omega
                have hpre : ∀ U : State, U.heap = H → s.WarmedH U.vm → z_Pc cl aty Ns (z_strs G) rs D ta ext base as P (as.map (z_cv ext base)).toArray U := fun U hU hW =>
                  ⟨rfl, by rw [hU]; exact hR, z_K.moved hW.alike hK, fun w hw => oN w hw s U #[] hW (hns w hw), hX.on hW (fun a h1 h2 => by rw [hU]; exact hS.2.1 a h1 h2)⟩
                have hfix : CallFix p m c (by_ x) (z_nL G x) s args Ts (nm x).cls := ⟨hx, hb, hml, hown, hts⟩
                have hWd : 2 * (F0 m pc ls ((as.reverse ++ rst).map (z_cv ext base))).monitorRoom + ((rst.map (z_cv ext base)).map fun v => v.category).sum ≤ 8 := by
                  show 2 * 0 + _ ≤ 8
                  rw [z_cat_cv]
                  have : ((rst.map fun v => v.category)).sum ≤ 8 := hc8
                  omega
                have hfit : cn + z_mc G y ≤ R.cells ∧ sn + z_ms G y ≤ R.slots := by rw [hRc, hRs]; exact ⟨hcm, hsm⟩
                have back : ∀ aa, va_Run p l e R s m args below meth c H locs cn sn (z_mc G y) (z_ms G y) (F0 m pc ls ((as.reverse ++ rst).map (z_cv ext base))) (rst.map (z_cv ext base)) (z_Qc cl D ta ext base rv P1 aa) (fun q => base ≤ q) →
                    W p l e R s m args below meth c H locs cn sn (MQ below (z_Qc cl D ta ext base r P') args s (z_mc G x) (z_ms G x) (fun q => base ≤ q)) (F0 m pc ls ((as.reverse ++ rst).map (z_cv ext base))) := fun aa hrun => by
                  refine z_sim_back hrun hS ?_
                  intro H1 locs1 g1 g2
                  have k9 := ih d x (pc + 3, ll, rv.toList ++ rst, P1, cn + z_mc G y, sn + z_ms G y) r P' h hcm hsm p e s m args below meth c R H1 locs1 ls hC hRc hRs hRf hRl g1 g2 hl
                  rw [z_toList_map] at k9
                  exact k9
                have hdec : ∀ ins, i.1 = ins → (∀ a1 a2 a3 a4, ins ≠ .tableswitch a1 a2 a3 a4) → z_len ins = 3 → decode (by_ x) pc = .ok (ins, 3) := fun ins h1 h2 h3 => by
                  rcases hlen with ⟨a1, a2, a3, a4, a5⟩ | hz
                  · rw [h1] at a5; exact absurd a5 (h2 _ _ _ _)
                  · rw [h1] at hz hd; rw [hd, hz, h3]
                have hstack : (as.reverse ++ rst).map (z_cv ext base) = (as.map (z_cv ext base)).reverse ++ rst.map (z_cv ext base) := by rw [List.map_append, List.map_reverse]
                rcases hkind with ⟨hins, rfl⟩ | ⟨hins, rfl⟩ | ⟨hins, rfl⟩
                · -- static
                  have hd3 := hdec _ hins (fun _ _ _ _ h => by cases h) rfl
                  have hlen3 : (as.map (z_cv ext base)).length = z_na G y := by rw [List.length_map]; exact hna
                  rcases w06 with w6 | ⟨host, w6⟩
                  · exact back _ (va_runS (n := z_na G y) hfix hM ⟨callB_of (z_na G y) hts hGood rfl rfl rfl (hts _ w03) (hts _ w6) ⟨w04.1, w04.2, w05⟩ hroom, hts _ (ws0 rfl)⟩ ⟨hblind, hpre⟩ rfl hlen3 hsz hstack hWd hd3 hfit)
                  · exact back _ (va_runSN (n := z_na G y) hfix hM ⟨va_cnB (z_na G y) hts hGood rfl rfl rfl (hns _ w6) (hts _ w03) ⟨w04.1, w04.2, w05⟩ hroom, hts _ (ws0 rfl), trivial⟩ ⟨hblind, hpre⟩ rfl hlen3 hsz hstack hWd hd3 hfit)
                · -- on an object
                  have hd3 := hdec _ hins (fun _ _ _ _ h => by cases h) rfl
                  obtain ⟨v1, v2, v3⟩ := ws1 rfl
                  have hat : z_at? G P y 1 as = true := hkat.elim (fun h => by cases h) id
                  unfold z_at? at hat
                  split at hat
                  rotate_left
                  · cases hat
                  · rename_i b As
                    rw [if_pos rfl] at hat
                    split at hat
                    rotate_left
                    · cases hat
                    · rename_i qb hqb
                      have hqt : qb.1 = z_rcv G y := by simpa using hat
                      have hlen3 : (As.map (z_cv ext base)).length = z_na G y - 1 := by
                        have : (Value.ref b :: As).length = z_na G y := hna
                        rw [List.length_map]
                        simp at this
                        omega
                      have hstk : ((Value.ref b :: As).reverse ++ rst).map (z_cv ext base) = (As.map (z_cv ext base)).reverse ++ z_cv ext base (.ref b) :: rst.map (z_cv ext base) := by
                        rw [hstack]; simp
                      obtain ⟨b', hb'⟩ : ∃ b', z_cv ext base (.ref b) = .ref b' := ⟨_, rfl⟩
                      have hrecv : ∃ cellB : Cell, H[b']? = some cellB ∧ cellB.vm.isStatics = false ∧ s.vm.findClass (nm y).cls = some cellB.cls := by
                        rcases z_lk_far hqb with hP | ⟨j, bb, hj, ⟨rfl, hq⟩ | ⟨rfl, hq⟩⟩
                        · rcases v3 with ⟨v31, v32⟩ | ⟨v31, r9, v32, v33⟩
                          · -- a near thing can't be a String
                            obtain ⟨r9, hr9, -⟩ := (hR.at hP).1 (by omega)
                            have := (List.getElem?_eq_some_iff.mp hr9).1
                            omega
                          · obtain ⟨r8, hr8, -, cell, g1, g2, g3, g4⟩ := (hR.at hP).1 (by omega)
                            have e1 := hR.near hP
                            rw [hb'] at e1
                            cases e1
                            refine ⟨cell, g1, by rw [g3]; rfl, ?_⟩
                            rw [g2, ← v33, hqt]
                            exact (hK.1 _ _ v32).2.1
                        · have hji : j < (z_strs G).length := (List.getElem?_eq_some_iff.mp hj).1
                          rcases v3 with ⟨v31, v32⟩ | ⟨v31, -⟩
                          · obtain ⟨cell, g1, g2, g3, -⟩ := (hX.1.1 j hji).1.kept hS.2.1
                            rw [z_cv_far] at hb'
                            cases hb'
                            exact ⟨cell, g1, g2, by rw [v32]; exact g3⟩
                          · rw [hq] at hqt
                            have : (98 : Nat) = z_rcv G y := hqt
                            omega
                        · rw [hq] at hqt
                          rcases v3 with ⟨v31, -⟩ | ⟨v31, -⟩
                          · rw [v31] at hqt; cases hqt
                          · have : (101 : Nat) = z_rcv G y := hqt
                            omega
                      rw [hb'] at hstk
                      have hpre' : ∀ U : State, U.heap = H → s.WarmedH U.vm → z_Pc cl aty Ns (z_strs G) rs D ta ext base (Value.ref b :: As) P (Value.ref b' :: As.map (z_cv ext base)).toArray U := fun U hU hW => by
                        have := hpre U hU hW
                        rw [List.map_cons, hb'] at this
                        exact this
                      rcases w06 with w6 | ⟨host, w6⟩
                      · exact back _ (va_runV (n := z_na G y - 1) hfix hM ⟨callB_of (z_na G y - 1) hts hGood rfl rfl rfl (hts _ w03) (hts _ w6) ⟨w04.1, w04.2, w05⟩ hroom, hts _ v1, hts _ v2⟩ ⟨hblind, hrecv, hpre'⟩ rfl hlen3 hsz hstk hWd hd3 hfit)
                      · exact back _ (va_runVN (n := z_na G y - 1) hfix hM ⟨va_cnB (z_na G y - 1) hts hGood rfl rfl rfl (hns _ w6) (hts _ w03) ⟨w04.1, w04.2, w05⟩ hroom, hts _ v1, hts _ v2⟩ ⟨hblind, hrecv, hpre'⟩ rfl hlen3 hsz hstk hWd hd3 hfit)
                · -- a constructor
                  have hd3 := hdec _ hins (fun _ _ _ _ h => by cases h) rfl
                  obtain ⟨v1, v2, v3⟩ := ws2 rfl
                  have hat : z_at? G P y 2 as = true := hkat.elim (fun h => by cases h) id
                  unfold z_at? at hat
                  split at hat
                  rotate_left
                  · cases hat
                  · rename_i b As
                    have hlen3 : (As.map (z_cv ext base)).length = z_na G y - 1 := by
                      have : (Value.ref b :: As).length = z_na G y := hna
                      rw [List.length_map]
                      simp at this
                      omega
                    have hstk : ((Value.ref b :: As).reverse ++ rst).map (z_cv ext base) = (As.map (z_cv ext base)).reverse ++ z_cv ext base (.ref b) :: rst.map (z_cv ext base) := by
                      rw [hstack]; simp
                    obtain ⟨b', hb'⟩ : ∃ b', z_cv ext base (.ref b) = .ref b' := ⟨_, rfl⟩
                    rw [hb'] at hstk
                    have hpre' : ∀ U : State, U.heap = H → s.WarmedH U.vm → z_Pc cl aty Ns (z_strs G) rs D ta ext base (Value.ref b :: As) P (Value.ref b' :: As.map (z_cv ext base)).toArray U := fun U hU hW => by
                      have := hpre U hU hW
                      rw [List.map_cons, hb'] at this
                      exact this
                    have hw9 : z_ws G nm by_ Ts y = Cond.code (nm y) (by_ y) (z_nL G y) none :: Ts := by unfold z_ws; rw [v3]
                    rcases w06 with w6 | ⟨host, w6⟩
                    · exact back _ (va_runI (n := z_na G y - 1) hfix hM ⟨callB_of (z_na G y - 1) hts hGood hw9 rfl rfl (hts _ w03) (hts _ w6) ⟨w04.1, w04.2, w05⟩ hroom, v1, hts _ v2⟩ ⟨hblind, hpre'⟩ rfl hlen3 hsz hstk hWd hd3 hfit)
                    · exact back _ (va_runIN (n := z_na G y - 1) hfix hM ⟨va_cnB (z_na G y - 1) hts hGood hw9 rfl rfl (hns _ w6) (hts _ w03) ⟨w04.1, w04.2, w05⟩ hroom, v1, hts _ v2⟩ ⟨hblind, hpre'⟩ rfl hlen3 hsz hstk hWd hd3 hfit)
end ZMN
end
section
/-! A program as tables, and what must be checked of them, by decision, so that the rows above hold of it. -/
section ZTAB
abbrev z_bm (α : Type) : Type := List (Nat × List (Nat × α))
def z_bf {α : Type} : List (Nat × α) → Nat → Option α
  | [], _ => none
  | q :: r, n => if q.1 == n then some q.2 else z_bf r n
def z_bl {α : Type} : z_bm α → Nat → Option α
  | [], _ => none
  | b :: r, n => if Nat.ble n b.1 then z_bf b.2 n else z_bl r n
theorem z_bf_mem {α : Type} : ∀ {b : List (Nat × α)} {n : Nat} {v : α}, z_bf b n = some v → (n, v) ∈ b
  | [], _, _, h => by cases h
  | q :: r, n, v, h => by
    unfold z_bf at h
    split at h
    · rename_i e
      have e' : q.1 = n := by simpa using e
      cases h
      rw [← e']
      exact List.mem_cons_self
    · exact List.mem_cons_of_mem _ (z_bf_mem h)
theorem z_bl_mem {α : Type} : ∀ {m : z_bm α} {n : Nat} {v : α}, z_bl m n = some v → ∃ b ∈ m, (n, v) ∈ b.2
  | [], _, _, h => by cases h
  | b :: r, n, v, h => by
    unfold z_bl at h
    split at h
    · exact ⟨b, List.mem_cons_self, z_bf_mem h⟩
    · obtain ⟨b', h1, h2⟩ := z_bl_mem h
      exact ⟨b', List.mem_cons_of_mem _ h1, h2⟩
def z_bck {α : Type} (f : Nat → α → Bool) (m : z_bm α) : Bool := m.all fun b => b.2.all fun q => f q.1 q.2
theorem z_bck_use {α : Type} {f : Nat → α → Bool} {m : z_bm α} (h : z_bck f m = true) {n : Nat} {v : α} (hv : z_bl m n = some v) : f n v = true := by
  obtain ⟨b, h1, h2⟩ := z_bl_mem hv
  exact List.all_eq_true.mp (List.all_eq_true.mp h b h1) _ h2
/-- a method: name, bytes, (locals, arguments, cells, slots), what it returns, the class if a constructor, the receiver's class, its pool, its code; its kind (0 static, 1 on an object, 2 a constructor) and the places of its words -/
abbrev z_Mr : Type := MethodName × ByteArray × (Nat × Nat × Nat × Nat) × Option FieldType × Option Nat × Nat × Nat × z_bm (Instr × Nat) × (Nat × Nat × Nat × Nat × Nat)
/-- a class's pool: its name; fields (class, place, word); constants (value, word); classes (class, defaults, three words); arrays of objects (kind, two words); arrays of arrays (outer, inner, two words); methods (method, kind, word) -/
abbrev z_Pl : Type := String × z_bm (Nat × Nat × Nat) × z_bm (Value × Nat) × z_bm (Nat × List Value × Nat × Nat × Nat) × z_bm (Nat × Nat × Nat) × z_bm (Nat × Nat × Nat × Nat) × z_bm (Nat × Nat × Nat)
def z_m2 {α : Type} (M : List (List α)) (x : Nat) : Option α := match M[x / 16]? with
  | some r => r[x % 16]?
  | none => none
theorem z_m2_mem {α : Type} {M : List (List α)} {x : Nat} {a : α} (h : z_m2 M x = some a) : ∃ r ∈ M, a ∈ r := by
  unfold z_m2 at h
  split at h
  · rename_i r hr
    exact ⟨r, List.mem_of_getElem? hr, List.mem_of_getElem? h⟩
  · cases h
def z_pl (M : List (List z_Mr)) (PL : List z_Pl) (x : Nat) : Option z_Pl := match z_m2 M x with
  | some r => PL[r.2.2.2.2.2.2.1]?
  | none => none
abbrev z_Ct : Type := String × List (String × String × String × Bool)
def z_noF : String × String × String × Bool := ("", "", "", false)
def z_cl0 (CT : List z_Ct) : List vw_C := CT.map fun q => (q.1, fun k => q.2.getD k z_noF, q.2.length)
def z_mkG (M : List (List z_Mr)) (PL : List z_Pl) (CT : List z_Ct) (FT : List (List FieldType)) (ac : List (Option Nat)) (strs : List (List Int32)) : z_Pg :=
  (fun x pc => match z_m2 M x with | some r => z_bl r.2.2.2.2.2.2.2.1 pc | none => none,
   fun x n => match z_pl M PL x with | some q => (z_bl q.2.1 n).map fun v => (v.1, v.2.1) | none => none,
   fun x n => match z_pl M PL x with | some q => (z_bl q.2.2.1 n).map fun v => v.1 | none => none,
   fun x n => match z_pl M PL x with | some q => (z_bl q.2.2.2.1 n).map fun v => (v.1, v.2.1) | none => none,
   fun x n => match z_pl M PL x with | some q => (z_bl q.2.2.2.2.1 n).map fun v => v.1 | none => none,
   fun x n => match z_pl M PL x with | some q => (z_bl q.2.2.2.2.2.1 n).map fun v => (v.1, v.2.1) | none => none,
   fun x n => match z_pl M PL x with | some q => (z_bl q.2.2.2.2.2.2 n).map fun v => (v.1, v.2.1) | none => none,
   fun x => match z_m2 M x with | some r => r.2.2.1 | none => (0, 0, 0, 0),
   fun x => match z_m2 M x with | some r => r.2.2.2.1 | none => none,
   fun x => match z_m2 M x with | some r => r.2.2.2.2.1 | none => none,
   fun x => match z_m2 M x with | some r => r.2.2.2.2.2.1 | none => 0,
   fun ci k => (FT.getD ci []).getD k .int,
   fun ci k => ((CT.getD ci ("", [])).2.getD k z_noF).2.2.2,
   fun i => (ac[i]?).join,
   ac.length, strs)
def z_nm (M : List (List z_Mr)) (x : Nat) : MethodName := match z_m2 M x with
  | some r => r.1
  | none => ⟨"", "", ""⟩
def z_bt (M : List (List z_Mr)) (x : Nat) : ByteArray := match z_m2 M x with
  | some r => r.2.1
  | none => ⟨#[]⟩
def z_okDec (b : ByteArray) (pc : Nat) (i : Instr × Nat) : Bool := (match decode b pc with
  | .ok q => decide (q = i)
  | .error _ => false) && (match i.1 with
  | .tableswitch _ _ _ _ => true
  | ins => i.2 == z_len ins)
theorem z_okDec_use {b : ByteArray} {pc : Nat} {i : Instr × Nat} (h : z_okDec b pc i = true) : decode b pc = .ok (i.1, i.2) ∧ ((∃ d lo hi o, i.1 = .tableswitch d lo hi o) ∨ i.2 = z_len i.1) := by
  unfold z_okDec at h
  rw [Bool.and_eq_true] at h
  obtain ⟨h1, h2⟩ := h
  refine ⟨?_, ?_⟩
  · split at h1
    · rename_i q hq
      have : q = i := by simpa using h1
      rw [hq, this]
    · cases h1
  · split at h2
    · rename_i d lo hi o e
      exact Or.inl ⟨d, lo, hi, o, e⟩
    · exact Or.inr (by simpa using h2)
theorem z_tab_code {M : List (List z_Mr)} {PL : List z_Pl} {CT : List z_Ct} {FT : List (List FieldType)} {ac : List (Option Nat)} {strs : List (List Int32)} (h : ∀ r ∈ M, ∀ q ∈ r, z_bck (z_okDec q.2.1) q.2.2.2.2.2.2.2.1 = true) : z_OKc (z_mkG M PL CT FT ac strs) (z_bt M) := by
  intro x pc i hi
  have hi : (match z_m2 M x with | some r => z_bl r.2.2.2.2.2.2.2.1 pc | none => none) = some i := hi
  unfold z_bt
  split at hi
  · rename_i r hr
    obtain ⟨R, h1, h2⟩ := z_m2_mem hr
    exact z_okDec_use (z_bck_use (h R h1 r h2) hi)
  · cases hi
/-- the words: sels of private methods, the good ones of the tables; the others -/
def z_Ts (sels : List Cond) : List Cond := sels ++ tables_1.filter goodWord
def z_isN : Cond → Bool
  | .fieldLinkNest .. => true
  | .methodLinkNest .. => true
  | .arrayOver (.object _) => true
  | .arrayOver (.array _) => true
  | _ => false
def z_Ns : List Cond := tables_1.filter z_isN
theorem z_inT {sels : List Cond} {i : Nat} {w : Cond} (h : tables_1[i]? = some w) (hg : goodWord w = true) : w ∈ z_Ts sels := List.mem_append_right _ (List.mem_filter.mpr ⟨List.mem_of_getElem? h, hg⟩)
theorem z_inN {i : Nat} {w : Cond} (h : tables_1[i]? = some w) (hg : z_isN w = true) : w ∈ z_Ns := List.mem_filter.mpr ⟨List.mem_of_getElem? h, hg⟩
theorem z_AOA_moved {t : FieldType} {u U : State} {a : Array Value} (hvm : u.vm.Alike U.vm) (h : (Cond.arrayOver (.array t)).before #[] u = true) : (Cond.arrayOver (.array t)).before a U = true := by
  obtain ⟨comp, c, k, h1, h2, h3, h4, h5⟩ := arrayOverA_spec h
  obtain ⟨k', hk', he⟩ := hvm.2.2 _ _ h3
  have hi : (U.vm.classes.findIdx? fun (x : Class) => match x.kind with | .array component _ => component == comp | _ => false) = some c := by
    rw [hvm.findIdx?_eq _ (fun _ => rfl)]
    exact h2
  have hkind : k'.kind = .array comp (.array t) := by rw [he]; exact h4
  have f1 : U.vm.findClass (FieldType.array t).toString = some comp := by rw [hvm.findClass]; exact h1
  have f2 : U.vm.findClass ("[" ++ (FieldType.array t).toString) = some c := by rw [hvm.findClass]; exact h5
  unfold Cond.before Cond.holds
  simp only [Cond.value]
  rw [f1, Option.bind_some]
  refine (congrArg (fun o : Option Nat => (o.bind (fun c => (U.vm.classes[c]?).map fun (k : Class) => match k.kind with | .array _ ty => decide (ty = FieldType.array t) && decide (U.vm.findClass ("[" ++ (FieldType.array t).toString) = some c) | _ => false) == some true)) hi).trans ?_
  simp [hk', hkind, f2]
theorem z_Ns_ok : z_Nok z_Ns := by
  intro w hw s U a hW h
  obtain ⟨-, hN⟩ := List.mem_filter.mp hw
  unfold z_isN at hN
  split at hN
  · exact va_Nw.use rfl (va_Nw.warmF hW h)
  · exact va_Nw.use rfl (va_Nw.warmM hW h)
  · exact va_AO.use (va_AO.moved hW.alike (va_AO.of h))
  · exact z_AOA_moved hW.alike h
  · cases hN
end ZTAB
end
section
section ZCK
def z_isW (w : Nat) (u : Cond) : Bool := decide (tables_1[w]? = some u)
theorem z_isW_use {w : Nat} {u : Cond} (h : z_isW w u = true) : tables_1[w]? = some u := of_decide_eq_true h
/-- a field's entry -/
def z_ckF (CT : List z_Ct) (own : String) (n : Nat) (v : Nat × Nat × Nat) : Bool :=
  if v.1 = 98 then (v.2.1 == 0 && z_isW v.2.2 (.fieldLink own n "java/lang/String" "value" "[B")) || (v.2.1 == 1 && z_isW v.2.2 (.fieldLink own n "java/lang/String" "coder" "B"))
  else match CT[v.1]? with
    | none => false
    | some c => decide (v.2.1 < c.2.length) && (z_isW v.2.2 (.fieldLink own n (c.2.getD v.2.1 z_noF).1 (c.2.getD v.2.1 z_noF).2.1 (c.2.getD v.2.1 z_noF).2.2.1) ||
        ((!(c.2.getD v.2.1 z_noF).2.2.2 || decide ((c.2.getD v.2.1 z_noF).1 ≠ own)) && match tables_1[v.2.2]? with
          | some (.fieldLinkNest o m a b d _) => decide (o = own ∧ m = n ∧ a = (c.2.getD v.2.1 z_noF).1 ∧ b = (c.2.getD v.2.1 z_noF).2.1 ∧ d = (c.2.getD v.2.1 z_noF).2.2.1)
          | _ => false))
/-- a constant's -/
def z_ckC (rs : List (String × Nat × String × Nat)) (own : String) (n : Nat) (v : Value × Nat) : Bool :=
  if 100000 ≤ n then decide (v.1 = .int 1) && z_isW v.2 (.fieldLink own (n - 100000) "java/lang/String" "COMPACT_STRINGS" "Z") else match v.1 with
    | .int x => z_isW v.2 (.constant own n x)
    | .long x => z_isW v.2 (.constantLong own n x)
    | .ref k => rs.any fun r => decide (r.1 = own ∧ r.2.1 = n ∧ k = z_far + 2 * r.2.2.2)
    | _ => false
/-- a class's -/
def z_ckL (CT : List z_Ct) (FT : List (List FieldType)) (own : String) (n : Nat) (v : Nat × List Value × Nat × Nat × Nat) : Bool := match CT[v.1]? with
  | none => false
  | some c => decide ((FT.getD v.1 []).length = c.2.length) && decide (v.2.1 = (FT.getD v.1 []).map defaultValue) && z_isW v.2.2.1 (.classLink own n c.1) && z_isW v.2.2.2.1 (.instantiable c.1 c.2.length) && z_isW v.2.2.2.2 (.initialized c.1)
def z_ckA (aty : List FieldType) (own : String) (n : Nat) (v : Nat × Nat × Nat) : Bool := match aty[v.1]? with
  | some (.object C) => z_isW v.2.1 (.classLink own n C) && z_isW v.2.2 (.arrayOver (.object C))
  | _ => false
def z_ckM (aty : List FieldType) (own : String) (n : Nat) (v : Nat × Nat × Nat × Nat) : Bool := match aty[v.2.1]? with
  | some t => decide (v.2.1 < 5) && decide (aty[v.1]? = some (.array t)) && z_isW v.2.2.1 (.classLink own n ("[" ++ (FieldType.array t).toString)) && z_isW v.2.2.2 (.arrayOver (.array t))
  | none => false
/-- a method's entry at a place of call; gw: the words of Object's constructor and of arraycopy -/
def z_ckI (M : List (List z_Mr)) (own : String) (n : Nat) (v : Nat × Nat × Nat) : Bool :=
  if v.2.1 < 3 then match z_m2 M v.1 with
    | none => false
    | some r => v.2.1 == r.2.2.2.2.2.2.2.2.1 && (z_isW v.2.2 (.methodLink own n r.1) || match tables_1[v.2.2]? with
      | some (.methodLinkNest o m y _) => decide (o = own ∧ m = n ∧ y = r.1)
      | _ => false)
  else if v.2.1 = 3 then z_isW v.2.2 (.methodLink own n Lib.objectInit)
  else if v.2.1 = 5 then z_isW v.2.2 (.methodLink own n arraycopyName)
  else false
/-- a method's own words -/
def z_ckR (CT : List z_Ct) (sels : List Cond) (r : z_Mr) : Bool :=
  plainFor r.1 && z_isW r.2.2.2.2.2.2.2.2.2.1 (.code r.1 r.2.1 r.2.2.1.1 r.2.2.2.1) && z_isW r.2.2.2.2.2.2.2.2.2.2.1 (.initialized r.1.cls) && decide (r.1.cls ≠ "java/lang/invoke/MethodHandle") && decide (r.1.cls ≠ "java/lang/invoke/VarHandle") &&
  decide ((parseMethodDescriptor r.1.desc).map (fun d => d.parameters.length) = some (if r.2.2.2.2.2.2.2.2.1 = 0 then r.2.2.1.2.1 else r.2.2.1.2.1 - 1)) &&
  (if r.2.2.2.2.2.2.2.2.1 = 0 then z_isW r.2.2.2.2.2.2.2.2.2.2.2.1 (.static r.1)
   else if r.2.2.2.2.2.2.2.2.1 = 1 then z_isW r.2.2.2.2.2.2.2.2.2.2.2.1 (.instanceMethod r.1) && (if 100000 ≤ r.2.2.2.2.2.2.2.2.2.2.2.2 then decide (sels[r.2.2.2.2.2.2.2.2.2.2.2.2 - 100000]? = some (.selects r.1.cls r.1 r.1)) else z_isW r.2.2.2.2.2.2.2.2.2.2.2.2 (.selects r.1.cls r.1 r.1)) &&
     (if r.2.2.2.2.2.1 = 98 then decide (r.1.cls = "java/lang/String") else decide (r.2.2.2.2.2.1 < 98) && match CT[r.2.2.2.2.2.1]? with
       | some c => decide (c.1 = r.1.cls)
       | none => false)
   else decide (r.1.name = "<init>") && z_isW r.2.2.2.2.2.2.2.2.2.2.2.1 (.instanceMethod r.1) && decide (r.2.2.2.1 = none))
/-- a method's pool is its class's; a constructor's class has fields of its own alone -/
def z_ckP (PL : List z_Pl) (CT : List z_Ct) (r : z_Mr) : Bool := (match PL[r.2.2.2.2.2.2.1]? with
  | some q => decide (q.1 = r.1.cls)
  | none => true) && match r.2.2.2.2.1 with
  | none => true
  | some ci => match CT[ci]? with
    | some c => decide (r.1.name = "<init>") && c.2.all fun f => decide (f.1 = r.1.cls)
    | none => true
def z_ckPl (M : List (List z_Mr)) (CT : List z_Ct) (FT : List (List FieldType)) (aty : List FieldType) (rs : List (String × Nat × String × Nat)) (q : z_Pl) : Bool :=
  z_bck (z_ckF CT q.1) q.2.1 && z_bck (z_ckC rs q.1) q.2.2.1 && z_bck (z_ckL CT FT q.1) q.2.2.2.1 && z_bck (z_ckA aty q.1) q.2.2.2.2.1 && z_bck (z_ckM aty q.1) q.2.2.2.2.2.1 && z_bck (z_ckI M q.1) q.2.2.2.2.2.2
/-- a class: the types of its fields, their words, their names differ -/
def z_ckCl (c : z_Ct) (ft : List FieldType) (lw : List Nat) : Bool :=
  (List.range c.2.length).all (fun k => decide (parseFieldDescriptor (c.2.getD k z_noF).2.2.1 = some (ft.getD k .int)) && z_isW (lw.getD k 0) (u_lay c.1 (fun k => c.2.getD k z_noF) k)) && decide ((c.2.map fun f => f.2.1).Nodup)
/-- all that is checked beside the code -/
def z_ckAll (M : List (List z_Mr)) (PL : List z_Pl) (CT : List z_Ct) (FT : List (List FieldType)) (LW : List (List Nat)) (ac : List (Option Nat)) (aty : List FieldType) (rs : List (String × Nat × String × Nat)) (sels : List Cond) (gw : Nat × Nat × Nat × Nat × Nat) (aw : Nat × Nat × Nat × Nat × Nat) : Prop :=
  (∀ q ∈ PL, z_ckPl M CT FT aty rs q = true) ∧ (∀ r ∈ M, ∀ q ∈ r, z_ckR CT sels q = true) ∧ (∀ r ∈ M, ∀ q ∈ r, z_ckP PL CT q = true) ∧ ((List.range CT.length).all (fun i => z_ckCl (CT.getD i ("", [])) (FT.getD i []) (LW.getD i [])) = true) ∧
  (decide (CT.length ≤ 98) && sels.all goodWord && decide (aty.length = ac.length) && decide (aty.take 5 = [.boolean, .byte, .char, .int, .long]) && (aty.drop 5).all (fun t => t.isReference) && z_isW aw.1 (.arrayClass .boolean) && z_isW aw.2.1 (.arrayClass .byte) && z_isW aw.2.2.1 (.arrayClass .char) && z_isW aw.2.2.2.1 (.arrayClass .int) && z_isW aw.2.2.2.2 (.arrayClass .long) &&
    (List.range ac.length).all (fun i => match (ac[i]?).join with
      | none => true
      | some ci => match CT[ci]? with
        | some c => decide (aty[i]? = some (.object c.1))
        | none => false) &&
    z_isW gw.1 (.instanceMethod Lib.objectInit) && z_isW gw.2.1 (.code Lib.objectInit ⟨#[0xb1]⟩ 1 none) && z_isW gw.2.2.1 (.native arraycopyName) && z_isW gw.2.2.2.1 (.static arraycopyName) && z_isW gw.2.2.2.2 (.initialized "java/lang/System") = true)
end ZCK
end
section
section ZTO
variable {M : List (List z_Mr)} {PL : List z_Pl} {CT : List z_Ct} {FT : List (List FieldType)} {LW : List (List Nat)} {ac : List (Option Nat)} {aty : List FieldType} {rs : List (String × Nat × String × Nat)} {sels : List Cond} {gw aw : Nat × Nat × Nat × Nat × Nat} {strs : List (List Int32)}
theorem z_gw {w : Nat} {u : Cond} (h : z_isW w u = true) (hg : goodWord u = true) : u ∈ z_Ts sels := z_inT (z_isW_use h) hg
theorem z_cl_get {ci : Nat} {r : vw_C} (h : (z_cl0 CT)[ci]? = some r) : ∃ c, CT[ci]? = some c ∧ r = (c.1, fun k => c.2.getD k z_noF, c.2.length) := by
  unfold z_cl0 at h
  rw [List.getElem?_map] at h
  cases hc : CT[ci]? with
  | none => rw [hc] at h; cases h
  | some c => rw [hc] at h; exact ⟨c, rfl, (Option.some.inj h).symm⟩
theorem z_cl_put {ci : Nat} {c : z_Ct} (h : CT[ci]? = some c) : (z_cl0 CT)[ci]? = some (c.1, fun k => c.2.getD k z_noF, c.2.length) := by
  unfold z_cl0
  rw [List.getElem?_map, h]
  rfl
theorem z_getD {α : Type} {l : List α} {i : Nat} {a d : α} (h : l[i]? = some a) : l.getD i d = a := by simp [h]
theorem z_own {x : Nat} {q : z_Pl} (h3 : ∀ r ∈ M, ∀ q ∈ r, z_ckP PL CT q = true) (h : z_pl M PL x = some q) : q ∈ PL ∧ q.1 = (z_nm M x).cls := by
  unfold z_pl at h
  split at h
  · rename_i r hr
    obtain ⟨R, g1, g2⟩ := z_m2_mem hr
    have hp := h3 R g1 r g2
    unfold z_ckP at hp
    rw [Bool.and_eq_true, h] at hp
    refine ⟨List.mem_of_getElem? h, ?_⟩
    unfold z_nm
    rw [hr]
    exact of_decide_eq_true hp.1
  · cases h
theorem z_plf {β γ : Type} {x n : Nat} {f : z_Pl → z_bm β} {g : β → γ} {c : γ} (h : (match z_pl M PL x with | some q => (z_bl (f q) n).map g | none => none) = some c) : ∃ q v, z_pl M PL x = some q ∧ z_bl (f q) n = some v ∧ g v = c := by
  split at h
  · rename_i q hq
    obtain ⟨v, h1, h2⟩ := z_map_some h
    exact ⟨q, v, hq, h1, h2⟩
  · cases h
theorem z_lay_good (C : String) (T : u_T) (k : Nat) : goodWord (u_lay C T k) = true := by
  unfold u_lay
  split <;> rfl
set_option maxHeartbeats 4000000 in
theorem z_tab_ok (hcode : ∀ r ∈ M, ∀ q ∈ r, z_bck (z_okDec q.2.1) q.2.2.2.2.2.2.2.1 = true) (hck : z_ckAll M PL CT FT LW ac aty rs sels gw aw) :
    z_OK (z_mkG M PL CT FT ac strs) (z_nm M) (z_bt M) (z_cl0 CT) aty (z_Ts sels) z_Ns rs := by
  obtain ⟨h1, h2, h3, h4, h5⟩ := hck
  simp only [Bool.and_eq_true, decide_eq_true_eq] at h5
  obtain ⟨⟨⟨⟨⟨⟨⟨⟨⟨⟨⟨⟨⟨⟨⟨q1, q2⟩, q3⟩, q4⟩, q5⟩, q6⟩, q7⟩, q8⟩, q9⟩, q10⟩, q11⟩, g1⟩, g2⟩, g3⟩, g4⟩, g5⟩ := h5
  have hcls : ∀ ci c, CT[ci]? = some c → z_ckCl c (FT.getD ci []) (LW.getD ci []) = true := fun ci c hc => by
    have hlt := (List.getElem?_eq_some_iff.mp hc).1
    have := List.all_eq_true.mp h4 ci (List.mem_range.mpr hlt)
    rwa [z_getD hc] at this
  have hfld : ∀ ci c k, CT[ci]? = some c → k < c.2.length → parseFieldDescriptor (c.2.getD k z_noF).2.2.1 = some ((FT.getD ci []).getD k .int) ∧ u_lay c.1 (fun k => c.2.getD k z_noF) k ∈ z_Ts sels := fun ci c k hc hk => by
    have h := hcls ci c hc
    unfold z_ckCl at h
    rw [Bool.and_eq_true] at h
    have h := List.all_eq_true.mp h.1 k (List.mem_range.mpr hk)
    rw [Bool.and_eq_true] at h
    exact ⟨of_decide_eq_true h.1, z_gw h.2 (z_lay_good _ _ _)⟩
  have hat : ∀ i, i < 5 → aty[i]? = ([.boolean, .byte, .char, .int, .long] : List FieldType)[i]? := fun i hi => by
    rw [← q4, List.getElem?_take_of_lt hi]
  refine ⟨z_tab_code hcode, ?_, ?_, ?_, ⟨?_, ?_, ?_, ?_⟩, ?_, ?_⟩
  · -- fields
    intro x n ci k r hf hr
    obtain ⟨q, v, hq, hv, e⟩ := z_plf (f := fun q => q.2.1) (g := fun v => (v.1, v.2.1)) hf
    cases e
    obtain ⟨hqm, hown⟩ := z_own h3 hq
    have hc := h1 q hqm
    unfold z_ckPl at hc
    simp only [Bool.and_eq_true] at hc
    have hc := z_bck_use hc.1.1.1.1.1 hv
    obtain ⟨c, hcc, rfl⟩ := z_cl_get hr
    unfold z_ckF at hc
    have h98 : v.1 ≠ 98 := by
      have := (List.getElem?_eq_some_iff.mp hcc).1
      omega
    rw [if_neg h98, hcc, hown] at hc
    simp only [Bool.and_eq_true, decide_eq_true_eq, Bool.or_eq_true, Bool.not_eq_true'] at hc
    obtain ⟨hk, hw⟩ := hc
    refine ⟨hk, ?_, ?_⟩
    · rcases hw with hw | ⟨-, hw⟩
      · exact Or.inl (z_gw hw rfl)
      · split at hw
        · rename_i o m a b d host he
          obtain ⟨e1, e2, e3, e4, e5⟩ := of_decide_eq_true hw
          subst e1; subst e2; subst e3; subst e4; subst e5
          exact Or.inr ⟨host, z_inN he rfl⟩
        · cases hw
    · intro hfin hini
      rcases hw with hw | ⟨hw, -⟩
      · exact z_gw hw rfl
      · have : ((CT.getD v.1 ("", [])).2.getD v.2.1 z_noF).2.2.2 = true := hfin
        rw [z_getD hcc] at this
        rw [this] at hw
        have hi : (match z_m2 M x with | some r => r.2.2.2.2.1 | none => none) = some v.1 := hini
        split at hi
        · rename_i r9 hr9
          obtain ⟨R, m1, m2⟩ := z_m2_mem hr9
          have h := h3 R m1 r9 m2
          unfold z_ckP at h
          rw [hi] at h
          dsimp only at h
          rw [hcc, Bool.and_eq_true, Bool.and_eq_true] at h
          have enm : z_nm M x = r9.1 := by unfold z_nm; rw [hr9]
          have hd := of_decide_eq_true (List.all_eq_true.mp h.2.2 (c.2[v.2.1]) (List.getElem_mem hk))
          rcases hw with hw | hw
          · cases hw
          · rw [z_getD (List.getElem?_eq_getElem hk), enm] at hw
            exact absurd hd hw
        · cases hi
  · -- Strings' fields
    intro x n k hf
    obtain ⟨q, v, hq, hv, e⟩ := z_plf (f := fun q => q.2.1) (g := fun v => (v.1, v.2.1)) hf
    obtain ⟨e1, e2⟩ := Prod.mk.inj e
    obtain ⟨hqm, hown⟩ := z_own h3 hq
    have hc := h1 q hqm
    unfold z_ckPl at hc
    simp only [Bool.and_eq_true] at hc
    have hc := z_bck_use hc.1.1.1.1.1 hv
    unfold z_ckF at hc
    rw [if_pos e1, hown, e2] at hc
    simp only [Bool.and_eq_true, Bool.or_eq_true, beq_iff_eq] at hc
    rcases hc with ⟨a1, a2⟩ | ⟨a1, a2⟩
    · exact Or.inl ⟨a1, z_gw a2 rfl⟩
    · exact Or.inr ⟨a1, z_gw a2 rfl⟩
  · -- constants
    intro x ins v hv
    have key : ∀ n w, z_cs (z_mkG M PL CT FT ac strs) x n = some w → ∃ wi, z_ckC rs (z_nm M x).cls n (w, wi) = true := fun n w hw => by
      obtain ⟨q, u, hq, hu, e⟩ := z_plf (f := fun q => q.2.2.1) (g := fun v => v.1) hw
      obtain ⟨hqm, hown⟩ := z_own h3 hq
      have hc := h1 q hqm
      unfold z_ckPl at hc
      simp only [Bool.and_eq_true] at hc
      have hc := z_bck_use hc.1.1.1.1.2 hu
      rw [hown] at hc
      exact ⟨u.2, by rw [← e]; exact hc⟩
    have small : ∀ n w, n < 100000 → z_cs (z_mkG M PL CT FT ac strs) x n = some w → (∃ y, w = .int y ∧ Cond.constant (z_nm M x).cls n y ∈ z_Ts sels) ∨ (∃ y, w = .long y ∧ Cond.constantLong (z_nm M x).cls n y ∈ z_Ts sels) ∨ ∃ tx i, w = .ref (z_far + 2 * i) ∧ ((z_nm M x).cls, n, tx, i) ∈ rs := fun n w hn hw => by
      obtain ⟨wi, hc⟩ := key n w hw
      unfold z_ckC at hc
      rw [if_neg (by omega)] at hc
      split at hc
      · rename_i y e
        have e : w = .int y := e
        exact Or.inl ⟨y, e, z_gw hc rfl⟩
      · rename_i y e
        have e : w = .long y := e
        exact Or.inr (Or.inl ⟨y, e, z_gw hc rfl⟩)
      · rename_i k e
        have e : w = .ref k := e
        obtain ⟨r, hr, hd⟩ := List.any_eq_true.mp hc
        obtain ⟨d1, d2, d3⟩ := of_decide_eq_true hd
        refine Or.inr (Or.inr ⟨r.2.2.1, r.2.2.2, by rw [e, d3], ?_⟩)
        rw [← d1, ← d2]
        exact hr
      · cases hc
    cases ins
    case ldc n =>
      obtain ⟨hn, ho, hk⟩ := z_okv_spec hv
      rcases small n v hn ho with h | ⟨y, rfl, -⟩ | h
      · exact Or.inl h
      · cases hk
      · exact Or.inr h
    case ldc_w n =>
      obtain ⟨hn, ho, hk⟩ := z_okv_spec hv
      rcases small n v hn ho with h | ⟨y, rfl, -⟩ | ⟨tx, i, rfl, -⟩
      · exact h
      · cases hk
      · cases hk
    case ldc2_w n =>
      obtain ⟨hn, ho, hk⟩ := z_okv_spec hv
      rcases small n v hn ho with ⟨y, rfl, -⟩ | h | ⟨tx, i, rfl, -⟩
      · cases hk
      · exact h
      · cases hk
    case getstatic n =>
      obtain ⟨wi, hc⟩ := key (n + 100000) v hv
      unfold z_ckC at hc
      rw [if_pos (by omega)] at hc
      simp only [Bool.and_eq_true, decide_eq_true_eq, Nat.add_sub_cancel] at hc
      exact ⟨hc.1, z_gw hc.2 rfl⟩
    all_goals (cases hv)
  · -- classes
    intro x n q9 hf
    obtain ⟨q, v, hq, hv, e⟩ := z_plf (f := fun q => q.2.2.2.1) (g := fun v => (v.1, v.2.1)) hf
    subst e
    obtain ⟨hqm, hown⟩ := z_own h3 hq
    have hc := h1 q hqm
    unfold z_ckPl at hc
    simp only [Bool.and_eq_true] at hc
    have hc := z_bck_use hc.1.1.1.2 hv
    unfold z_ckL at hc
    rw [hown] at hc
    split at hc
    · cases hc
    · rename_i c hcc
      simp only [Bool.and_eq_true, decide_eq_true_eq] at hc
      obtain ⟨⟨⟨⟨a1, a2⟩, a3⟩, a4⟩, a5⟩ := hc
      refine ⟨_, z_cl_put hcc, ?_, fun k hk => ?_, z_gw a3 rfl, z_gw a4 rfl, z_gw a5 rfl⟩
      · show v.2.1.length = c.2.length
        rw [a2, List.length_map, a1]
      · show v.2.1[k]? = some (defaultValue ((FT.getD v.1 []).getD k .int))
        have hk : k < (FT.getD v.1 []).length := by rw [a1]; exact hk
        rw [a2, List.getElem?_map]
        generalize FT.getD v.1 [] = F at hk ⊢
        simp [hk]
  · -- arrays of objects
    intro x n i hf
    obtain ⟨q, v, hq, hv, e⟩ := z_plf (f := fun q => q.2.2.2.2.1) (g := fun v => v.1) hf
    subst e
    obtain ⟨hqm, hown⟩ := z_own h3 hq
    have hc := h1 q hqm
    unfold z_ckPl at hc
    simp only [Bool.and_eq_true] at hc
    have hc := z_bck_use hc.1.1.2 hv
    unfold z_ckA at hc
    rw [hown] at hc
    split at hc
    · rename_i C hC
      simp only [Bool.and_eq_true] at hc
      exact ⟨C, hC, z_gw hc.1 rfl, z_inN (z_isW_use hc.2) rfl⟩
    · cases hc
  · -- arrays of arrays
    intro x n q9 hf
    obtain ⟨q, v, hq, hv, e⟩ := z_plf (f := fun q => q.2.2.2.2.2.1) (g := fun v => (v.1, v.2.1)) hf
    subst e
    obtain ⟨hqm, hown⟩ := z_own h3 hq
    have hc := h1 q hqm
    unfold z_ckPl at hc
    simp only [Bool.and_eq_true] at hc
    have hc := z_bck_use hc.1.2 hv
    unfold z_ckM at hc
    rw [hown] at hc
    split at hc
    · rename_i t ht
      simp only [Bool.and_eq_true, decide_eq_true_eq] at hc
      exact ⟨t, ht, hc.1.1.1, hc.1.1.2, z_gw hc.1.2 rfl, z_inN (z_isW_use hc.2) rfl⟩
    · cases hc
  · -- words of the arrays of numbers
    intro i t hi ht
    rw [hat i hi] at ht
    match i, hi with
    | 0, _ => cases ht; exact z_gw q6 rfl
    | 1, _ => cases ht; exact z_gw q7 rfl
    | 2, _ => cases ht; exact z_gw q8 rfl
    | 3, _ => cases ht; exact z_gw q9 rfl
    | 4, _ => cases ht; exact z_gw q10 rfl
  · -- calls
    intro x n y kd hf
    obtain ⟨q, v, hq, hv, e⟩ := z_plf (f := fun q => q.2.2.2.2.2.2) (g := fun v => (v.1, v.2.1)) hf
    obtain ⟨e1, e2⟩ := Prod.mk.inj e
    obtain ⟨hqm, hown⟩ := z_own h3 hq
    have hc := h1 q hqm
    unfold z_ckPl at hc
    simp only [Bool.and_eq_true] at hc
    have hc := z_bck_use hc.2 hv
    unfold z_ckI at hc
    rw [hown, e1, e2] at hc
    by_cases hkd : kd < 3
    · rw [if_pos hkd] at hc
      split at hc
      · cases hc
      · rename_i r hr
        simp only [Bool.and_eq_true, beq_iff_eq] at hc
        obtain ⟨hk, hw⟩ := hc
        have enm : z_nm M y = r.1 := by unfold z_nm; rw [hr]
        have ebt : z_bt M y = r.2.1 := by unfold z_bt; rw [hr]
        have einf : z_inf (z_mkG M PL CT FT ac strs) y = r.2.2.1 := by
          show (match z_m2 M y with | some r => r.2.2.1 | none => (0, 0, 0, 0)) = _
          rw [hr]
        have erty : z_rty (z_mkG M PL CT FT ac strs) y = r.2.2.2.1 := by
          show (match z_m2 M y with | some r => r.2.2.2.1 | none => none) = _
          rw [hr]
        have ercv : z_rcv (z_mkG M PL CT FT ac strs) y = r.2.2.2.2.2.1 := by
          show (match z_m2 M y with | some r => r.2.2.2.2.2.1 | none => 0) = _
          rw [hr]
        obtain ⟨R, m1, m2⟩ := z_m2_mem hr
        have hcr := h2 R m1 r m2
        unfold z_ckR at hcr
        rw [← hk] at hcr
        simp only [Bool.and_eq_true, decide_eq_true_eq] at hcr
        obtain ⟨⟨⟨⟨⟨⟨c1, c2⟩, c3⟩, c4⟩, c5⟩, c6⟩, c7⟩ := hcr
        unfold z_nL z_na
        rw [enm, ebt, einf, erty, ercv]
        refine ⟨fun _ => ⟨c1, z_gw c2 rfl, z_gw c3 rfl, ⟨c4, c5⟩, c6, ?_⟩, fun h => ?_, fun h => ?_, fun h => ?_, fun h => by omega, fun h => by omega⟩
        · rw [Bool.or_eq_true] at hw
          rcases hw with hw | hw
          · exact Or.inl (z_gw hw rfl)
          · split at hw
            · rename_i o m9 y9 host he
              obtain ⟨d1, d2, d3⟩ := of_decide_eq_true hw
              subst d1; subst d2; subst d3
              exact Or.inr ⟨host, z_inN he rfl⟩
            · cases hw
        · rw [if_pos h] at c7
          exact z_gw c7 rfl
        · rw [if_neg (by omega), if_pos h] at c7
          simp only [Bool.and_eq_true] at c7
          obtain ⟨⟨a1, a2⟩, a3⟩ := c7
          refine ⟨z_gw a1 rfl, ?_, ?_⟩
          · split at a2
            · exact List.mem_append_left _ (List.mem_of_getElem? (of_decide_eq_true a2))
            · exact z_gw a2 rfl
          · split at a3
            · rename_i h98
              exact Or.inl ⟨h98, of_decide_eq_true a3⟩
            · rw [Bool.and_eq_true] at a3
              obtain ⟨b1, b2⟩ := a3
              refine Or.inr ⟨of_decide_eq_true b1, ?_⟩
              split at b2
              · rename_i c hcc
                exact ⟨_, z_cl_put hcc, of_decide_eq_true b2⟩
              · cases b2
        · rw [if_neg (by omega), if_neg (by omega)] at c7
          simp only [Bool.and_eq_true, decide_eq_true_eq] at c7
          exact ⟨c7.1.1, z_gw c7.1.2 rfl, c7.2⟩
    · rw [if_neg hkd] at hc
      refine ⟨fun h => absurd h hkd, fun h => by omega, fun h => by omega, fun h => by omega, fun h => ?_, fun h => ?_⟩
      · rw [if_pos h] at hc
        exact ⟨z_gw hc rfl, z_gw g1 rfl, z_gw g2 rfl⟩
      · rw [if_neg (by omega), if_pos h] at hc
        exact ⟨z_gw hc rfl, z_gw g3 rfl, z_gw g4 rfl, z_gw g5 rfl⟩
  · -- the rest
    refine ⟨by unfold z_cl0; rw [List.length_map]; exact q1, ?_, z_Ns_ok, ⟨hat 0 (by omega), hat 1 (by omega), hat 2 (by omega), hat 3 (by omega), hat 4 (by omega), ?_⟩, q3, ?_, ?_, ?_, ?_⟩
    · intro w hw
      rcases List.mem_append.mp hw with hw | hw
      · exact List.all_eq_true.mp q2 w hw
      · exact (List.mem_filter.mp hw).2
    · intro i t hi ht
      refine List.all_eq_true.mp q5 t ?_
      refine List.mem_of_getElem? (i := i - 5) ?_
      rw [List.getElem?_drop, show 5 + (i - 5) = i by omega]
      exact ht
    · intro ci r k hr hk
      obtain ⟨c, hcc, rfl⟩ := z_cl_get hr
      refine ⟨(hfld ci c k hcc hk).1, ?_⟩
      show ((CT.getD ci ("", [])).2.getD k z_noF).2.2.2 = _
      rw [z_getD hcc]
    · intro ci r hr
      obtain ⟨c, hcc, rfl⟩ := z_cl_get hr
      refine ⟨fun w hw => ?_, ⟨fun k => (FT.getD ci []).getD k .int, fun k hk => (hfld ci c k hcc hk).1⟩, fun a ha b hb hab => ?_⟩
      · obtain ⟨k, hk, rfl⟩ := List.mem_map.mp hw
        exact (hfld ci c k hcc (List.mem_range.mp hk)).2
      · have h := hcls ci c hcc
        unfold z_ckCl at h
        rw [Bool.and_eq_true] at h
        have hnd := of_decide_eq_true h.2
        have ha : a < c.2.length := ha
        have hb : b < c.2.length := hb
        intro he
        have he : (c.2.getD a z_noF).2.1 = (c.2.getD b z_noF).2.1 := he
        have hla : a < (c.2.map fun f => f.2.1).length := by rw [List.length_map]; exact ha
        have hlb : b < (c.2.map fun f => f.2.1).length := by rw [List.length_map]; exact hb
        have e9 : (c.2.map fun f => f.2.1)[a] = (c.2.map fun f => f.2.1)[b] := by simpa [ha, hb] using he
        rcases Nat.lt_or_gt_of_ne hab with h9 | h9
        · exact (List.pairwise_iff_getElem.mp hnd) a b hla hlb h9 e9
        · exact (List.pairwise_iff_getElem.mp hnd) b a hlb hla h9 e9.symm
    · intro i ci hi
      have hi : (ac[i]?).join = some ci := hi
      have hlt : i < ac.length := by
        cases hq : ac[i]? with
        | none => rw [hq] at hi; cases hi
        | some o => exact (List.getElem?_eq_some_iff.mp hq).1
      have h := List.all_eq_true.mp q11 i (List.mem_range.mpr hlt)
      rw [hi] at h
      dsimp only at h
      split at h
      · rename_i c hcc
        exact ⟨_, z_cl_put hcc, of_decide_eq_true h⟩
      · cases h
    · intro x ci r k hi hr hk
      obtain ⟨c, hcc, rfl⟩ := z_cl_get hr
      have hi : (match z_m2 M x with | some r => r.2.2.2.2.1 | none => none) = some ci := hi
      split at hi
      · rename_i r9 hr9
        obtain ⟨R, m1, m2⟩ := z_m2_mem hr9
        have h := h3 R m1 r9 m2
        unfold z_ckP at h
        rw [hi] at h
        dsimp only at h
        rw [hcc, Bool.and_eq_true, Bool.and_eq_true] at h
        have enm : z_nm M x = r9.1 := by unfold z_nm; rw [hr9]
        rw [enm]
        refine ⟨of_decide_eq_true h.2.1, ?_⟩
        have hk : k < c.2.length := hk
        show (c.2.getD k z_noF).1 = _
        have := List.all_eq_true.mp h.2.2 (c.2[k]) (List.getElem_mem hk)
        rw [z_getD (List.getElem?_eq_getElem hk)]
        exact of_decide_eq_true this
      · cases hi
end ZTO
end
section
/-! Runs of the picture, put together from their ends; runs of a pile of frames. -/
section ZRUNS
variable {G : z_Pg}
theorem z_run_mono : ∀ {f d x : Nat} {q : z_S} {o : Option Value × z_H}, z_run G f d x q = some o → z_run G (f + 1) d x q = some o := by
  intro f
  induction f with
  | zero => intro d x q o h; cases h
  | succ f ih =>
    intro d x q o h
    unfold z_run at h ⊢
    split at h
    · cases h
    · exact h
    · exact ih h
    · split at h
      · rename_i o1 h1
        rw [ih h1]
        exact ih h
      · cases h
theorem z_run_le {f g d x : Nat} {q : z_S} {o : Option Value × z_H} (hfg : f ≤ g) (h : z_run G f d x q = some o) : z_run G g d x q = some o := by
  induction hfg with
  | refl => exact h
  | step _ ih => exact z_run_mono ih
theorem z_Runs_ret {d x : Nat} {q : z_S} {r : Option Value} (h : z_next G d x q = some (.inl r)) : z_Runs G d x q r q.2.2.2.1 := ⟨1, by unfold z_run; rw [h]⟩
theorem z_Runs_step {d x : Nat} {q q' : z_S} {r : Option Value} {P' : z_H} (h : z_next G d x q = some (.inr (.inl q'))) (k : z_Runs G d x q' r P') : z_Runs G d x q r P' := by
  obtain ⟨f, hf⟩ := k
  exact ⟨f + 1, by unfold z_run; rw [h]; exact hf⟩
theorem z_Runs_call {d x y : Nat} {as rst : List Value} {q : z_S} {r rv : Option Value} {P1 P' : z_H} (h : z_next G d x q = some (.inr (.inr (y, as, rst)))) (hc : z_Runs G (d - 1) y (0, lv_args 0 as, [], q.2.2.2.1, 0, 0) rv P1)
    (k : z_Runs G d x (q.1 + 3, q.2.1, rv.toList ++ rst, P1, q.2.2.2.2.1 + z_mc G y, q.2.2.2.2.2 + z_ms G y) r P') : z_Runs G d x q r P' := by
  obtain ⟨f1, h1⟩ := hc
  obtain ⟨f2, h2⟩ := k
  refine ⟨max f1 f2 + 1, ?_⟩
  unfold z_run
  rw [h]
  dsimp only
  rw [z_run_le (Nat.le_max_left f1 f2) h1]
  exact z_run_le (Nat.le_max_right f1 f2) h2
theorem z_Runs_one {d x : Nat} {q : z_S} {r r' : Option Value} {P P' : z_H} (h : z_Runs G d x q r P) (h' : z_Runs G d x q r' P') : r = r' ∧ P = P' := by
  obtain ⟨f, h⟩ := h
  obtain ⟨g, h'⟩ := h'
  have := (z_run_le (Nat.le_max_left f g) h).symm.trans (z_run_le (Nat.le_max_right f g) h')
  cases this
  exact ⟨rfl, rfl⟩
/-- a frame: method, pc, locals, stack, cells, slots -/
abbrev z_Fr : Type := Nat × Nat × z_L × List Value × Nat × Nat
def z_fs (f : z_Fr) (P : z_H) : z_S := (f.2.1, f.2.2.1, f.2.2.2.1, P, f.2.2.2.2.1, f.2.2.2.2.2)
/-- a frame behind its call of y -/
def z_fb (G : z_Pg) (g : z_Fr) (r : Option Value) (y : Nat) : z_Fr := (g.1, g.2.1 + 3, g.2.2.1, r.toList ++ g.2.2.2.1, g.2.2.2.2.1 + z_mc G y, g.2.2.2.2.2 + z_ms G y)
/-- the run of a pile: the top frame, then those below (each waits behind its call, its arguments taken) -/
def z_RF (G : z_Pg) : List z_Fr → z_Fr → Nat → z_H → Option Value → z_H → Prop
  | [], f, d, P, r, P' => z_Runs G d f.1 (z_fs f P) r P'
  | g :: rest, f, d, P, r, P' => ∃ r0 P0, z_Runs G d f.1 (z_fs f P) r0 P0 ∧ z_RF G rest (z_fb G g r0 f.1) (d + 1) P0 r P'
theorem z_RF_top {rest : List z_Fr} {f f' : z_Fr} {d : Nat} {P P1 P' : z_H} {r : Option Value} (he : f'.1 = f.1) (hk : ∀ r0 P0, z_Runs G d f'.1 (z_fs f' P1) r0 P0 → z_Runs G d f.1 (z_fs f P) r0 P0) (h : z_RF G rest f' d P1 r P') : z_RF G rest f d P r P' := by
  cases rest with
  | nil => exact hk _ _ h
  | cons g rest =>
    obtain ⟨r0, P0, h1, h2⟩ := h
    exact ⟨r0, P0, hk _ _ h1, by rw [← he]; exact h2⟩
theorem z_RF_step {rest : List z_Fr} {f : z_Fr} {q : z_S} {d : Nat} {P P' : z_H} {r : Option Value} (hn : z_next G d f.1 (z_fs f P) = some (.inr (.inl q))) (h : z_RF G rest (f.1, q.1, q.2.1, q.2.2.1, q.2.2.2.2.1, q.2.2.2.2.2) d q.2.2.2.1 r P') : z_RF G rest f d P r P' :=
  z_RF_top (f' := (f.1, q.1, q.2.1, q.2.2.1, q.2.2.2.2.1, q.2.2.2.2.2)) (P1 := q.2.2.2.1) rfl (fun _ _ k => z_Runs_step hn k) h
theorem z_RF_call {rest : List z_Fr} {f : z_Fr} {y d : Nat} {as rst : List Value} {P P' : z_H} {r : Option Value} (hd : 1 ≤ d) (hn : z_next G d f.1 (z_fs f P) = some (.inr (.inr (y, as, rst))))
    (h : z_RF G ((f.1, f.2.1, f.2.2.1, rst, f.2.2.2.2.1, f.2.2.2.2.2) :: rest) (y, 0, lv_args 0 as, [], 0, 0) (d - 1) P r P') : z_RF G rest f d P r P' := by
  obtain ⟨r0, P0, h1, h2⟩ := h
  rw [show d - 1 + 1 = d by omega] at h2
  exact z_RF_top (f' := z_fb G (f.1, f.2.1, f.2.2.1, rst, f.2.2.2.2.1, f.2.2.2.2.2) r0 y) rfl (fun _ _ k => z_Runs_call hn h1 k) h2
theorem z_RF_ret {rest : List z_Fr} {f g : z_Fr} {d : Nat} {P P' : z_H} {r r0 : Option Value} (hn : z_next G d f.1 (z_fs f P) = some (.inl r0)) (h : z_RF G rest (z_fb G g r0 f.1) (d + 1) P r P') : z_RF G (g :: rest) f d P r P' :=
  ⟨r0, P, z_Runs_ret hn, h⟩
theorem z_RF_end {f : z_Fr} {d : Nat} {P : z_H} {r0 : Option Value} (hn : z_next G d f.1 (z_fs f P) = some (.inl r0)) : z_RF G [] f d P r0 P := z_Runs_ret hn
end ZRUNS
end
section
/-! Intervals of ints and longs, and what the operations do to them. -/
section ZIVL
abbrev z_I : Type := Int × Int
def z_top32 : z_I := (-2147483648, 2147483647)
def z_top64 : z_I := (-9223372036854775808, 9223372036854775807)
def z_in32 (t : z_I) (x : Int32) : Prop := t.1 ≤ x.toInt ∧ x.toInt ≤ t.2
def z_in64 (t : z_I) (x : Int64) : Prop := t.1 ≤ x.toInt ∧ x.toInt ≤ t.2
theorem z_t32 (x : Int32) : z_in32 z_top32 x := by
  have h1 := x.le_toInt
  have h2 := x.toInt_lt
  unfold z_in32 z_top32
  constructor <;> dsimp only <;> omega
theorem z_t64 (x : Int64) : z_in64 z_top64 x := by
  have h1 := x.le_toInt
  have h2 := x.toInt_lt
  unfold z_in64 z_top64
  constructor <;> dsimp only <;> omega
/-- an interval of whole numbers as one of ints: all of them where it leaves the range -/
def z_r32 (lo hi : Int) : z_I := if -2147483648 ≤ lo ∧ hi ≤ 2147483647 then (lo, hi) else z_top32
def z_r64 (lo hi : Int) : z_I := if -9223372036854775808 ≤ lo ∧ hi ≤ 9223372036854775807 then (lo, hi) else z_top64
theorem z_r32_in {lo hi n : Int} {x : Int32} (hx : x.toInt = n.bmod (2 ^ 32)) (h1 : lo ≤ n) (h2 : n ≤ hi) : z_in32 (z_r32 lo hi) x := by
  unfold z_r32
  split
  · rename_i h
    have : n.bmod (2 ^ 32) = n := by
      unfold Int.bmod
      simp only [Nat.reducePow]
      omega
    unfold z_in32
    rw [hx, this]
    exact ⟨h1, h2⟩
  · exact z_t32 x
theorem z_r64_in {lo hi n : Int} {x : Int64} (hx : x.toInt = n.bmod (2 ^ 64)) (h1 : lo ≤ n) (h2 : n ≤ hi) : z_in64 (z_r64 lo hi) x := by
  unfold z_r64
  split
  · rename_i h
    have : n.bmod (2 ^ 64) = n := by
      unfold Int.bmod
      simp only [Nat.reducePow]
      omega
    unfold z_in64
    rw [hx, this]
    exact ⟨h1, h2⟩
  · exact z_t64 x
def z_one (t : z_I) : Bool := t.1 == t.2
theorem z_one32 {t : z_I} {x : Int32} (h : z_one t = true) (hx : z_in32 t x) : x = Int32.ofInt t.1 := by
  have e : t.1 = t.2 := by simpa [z_one] using h
  have e2 : x.toInt = t.1 := by
    obtain ⟨h1, h2⟩ := hx
    omega
  rw [← e2]
  exact (Int32.ofInt_toInt x).symm
theorem z_one64 {t : z_I} {x : Int64} (h : z_one t = true) (hx : z_in64 t x) : x = Int64.ofInt t.1 := by
  have e : t.1 = t.2 := by simpa [z_one] using h
  have e2 : x.toInt = t.1 := by
    obtain ⟨h1, h2⟩ := hx
    omega
  rw [← e2]
  exact (Int64.ofInt_toInt x).symm
def z_mul (a b : z_I) : z_I := if 0 ≤ b.1 ∧ b.1 = b.2 then (a.1 * b.1, a.2 * b.1) else if 0 ≤ a.1 ∧ a.1 = a.2 then (b.1 * a.1, b.2 * a.1) else if 0 ≤ a.1 ∧ 0 ≤ b.1 then (a.1 * b.1, a.2 * b.2) else
  let m := max (max (-a.1) a.2) 0 * max (max (-b.1) b.2) 0
  (-m, m)
theorem z_mul_in {a b : z_I} {x y : Int} (h1 : a.1 ≤ x) (h2 : x ≤ a.2) (h3 : b.1 ≤ y) (h4 : y ≤ b.2) : (z_mul a b).1 ≤ x * y ∧ x * y ≤ (z_mul a b).2 := by
  unfold z_mul
  split
  · rename_i h
    have hy : y = b.1 := by omega
    subst hy
    exact ⟨Int.mul_le_mul_of_nonneg_right h1 h.1, Int.mul_le_mul_of_nonneg_right h2 h.1⟩
  split
  · rename_i h
    have hx : x = a.1 := by omega
    subst hx
    rw [Int.mul_comm a.1 y]
    exact ⟨Int.mul_le_mul_of_nonneg_right h3 h.1, Int.mul_le_mul_of_nonneg_right h4 h.1⟩
  split
  · rename_i h
    exact ⟨Int.mul_le_mul h1 h3 h.2 (by omega), Int.mul_le_mul h2 h4 (by omega) (by omega)⟩
  · dsimp only
    have hA : -(max (max (-a.1) a.2) 0) ≤ x ∧ x ≤ max (max (-a.1) a.2) 0 := by omega
    have hB : -(max (max (-b.1) b.2) 0) ≤ y ∧ y ≤ max (max (-b.1) b.2) 0 := by omega
    generalize max (max (-a.1) a.2) 0 = A at hA
    generalize max (max (-b.1) b.2) 0 = B at hB
    have hA0 : 0 ≤ A := by omega
    have hB0 : 0 ≤ B := by omega
    have k1 : 0 ≤ (A - x) * (B + y) + (A + x) * (B - y) := Int.add_nonneg (Int.mul_nonneg (by omega) (by omega)) (Int.mul_nonneg (by omega) (by omega))
    have k2 : 0 ≤ (A - x) * (B - y) + (A + x) * (B + y) := Int.add_nonneg (Int.mul_nonneg (by omega) (by omega)) (Int.mul_nonneg (by omega) (by omega))
    have e1 : (A - x) * (B + y) + (A + x) * (B - y) = 2 * (A * B) - 2 * (x * y) := by
      simp only [Int.sub_mul, Int.add_mul, Int.mul_add, Int.mul_sub]
      omega
    have e2 : (A - x) * (B - y) + (A + x) * (B + y) = 2 * (A * B) + 2 * (x * y) := by
      simp only [Int.sub_mul, Int.add_mul, Int.mul_add, Int.mul_sub]
      omega
    omega
def z_and (a b : z_I) : z_I := if 0 ≤ a.1 then (if 0 ≤ b.1 then (0, min a.2 b.2) else (0, a.2)) else if 0 ≤ b.1 then (0, b.2) else z_top32
/-- two ints: the second divides -/
def z_div (a b : z_I) : Option z_I := if 1 ≤ b.1 then (if b.1 = b.2 then some (a.1.tdiv b.1, a.2.tdiv b.1) else some (min a.1 0, max a.2 0)) else if b.2 ≤ -1 then some z_top32 else none
def z_rem (a b : z_I) : Option z_I := if 1 ≤ b.1 then (if 0 ≤ a.1 then some (0, min a.2 (b.2 - 1)) else some z_top32) else if b.2 ≤ -1 then some z_top32 else none
theorem z_and_in {a b : z_I} {x y : Int32} (hx : z_in32 a x) (hy : z_in32 b y) : z_in32 (z_and a b) (x &&& y) := by
  have key : ∀ u v : Int32, 0 ≤ u.toInt → 0 ≤ (u &&& v).toInt ∧ (u &&& v).toInt ≤ u.toInt := by
    intro u v hu
    have hu' : ¬ u < 0 := fun q => by
      rw [Int32.lt_iff_toInt_lt] at q
      have : (0 : Int32).toInt = 0 := by decide
      omega
    have e1 : (u &&& v).toBitVec.toNat ≤ u.toBitVec.toNat := by
      rw [Int32.toBitVec_and, BitVec.toNat_and]
      exact Nat.and_le_left
    have e2 : u.toBitVec.toNat < 2 ^ 31 := by
      have : u.toInt = u.toBitVec.toInt := rfl
      rw [this, BitVec.toInt_eq_toNat_cond] at hu
      split at hu <;> omega
    have e3 : (u &&& v).toInt = ((u &&& v).toBitVec.toNat : Int) := by
      have : (u &&& v).toInt = (u &&& v).toBitVec.toInt := rfl
      rw [this, BitVec.toInt_eq_toNat_cond]
      split <;> omega
    have e4 : u.toInt = (u.toBitVec.toNat : Int) := by
      have : u.toInt = u.toBitVec.toInt := rfl
      rw [this, BitVec.toInt_eq_toNat_cond]
      split <;> omega
    omega
  obtain ⟨h1, h2⟩ := hx
  obtain ⟨h3, h4⟩ := hy
  unfold z_and
  split
  · split
    · obtain ⟨k1, k2⟩ := key x y (by omega)
      have hc : x &&& y = y &&& x := Int32.and_comm x y
      obtain ⟨k3, k4⟩ := key y x (by omega)
      rw [← hc] at k4
      exact ⟨k1, by show _ ≤ min a.2 b.2; omega⟩
    · obtain ⟨k1, k2⟩ := key x y (by omega)
      exact ⟨k1, by show _ ≤ a.2; omega⟩
  · split
    · have hc : x &&& y = y &&& x := Int32.and_comm x y
      obtain ⟨k3, k4⟩ := key y x (by omega)
      rw [hc]
      exact ⟨k3, by show _ ≤ b.2; omega⟩
    · exact z_t32 _
theorem z_div_in {a b r : z_I} {x y : Int32} (hx : z_in32 a x) (hy : z_in32 b y) (h : z_div a b = some r) : ¬ y = 0 ∧ z_in32 r (x / y) := by
  obtain ⟨h1, h2⟩ := hx
  obtain ⟨h3, h4⟩ := hy
  have hne : 1 ≤ b.1 ∨ b.2 ≤ -1 → ¬ y = 0 := by
    intro h9 q
    subst q
    have : (0 : Int32).toInt = 0 := by decide
    omega
  unfold z_div at h
  split at h
  · rename_i hb
    refine ⟨hne (Or.inl hb), ?_⟩
    have hd : (x / y).toInt = (x.toInt.tdiv y.toInt).bmod (2 ^ 32) := Int32.toInt_div x y
    have hx1 := x.le_toInt
    have hx2 := x.toInt_lt
    have bnd : min x.toInt 0 ≤ x.toInt.tdiv y.toInt ∧ x.toInt.tdiv y.toInt ≤ max x.toInt 0 := by
      have hy1 : 1 ≤ y.toInt := by omega
      rcases Int.le_total 0 x.toInt with hp | hp
      · have g1 := Int.tdiv_nonneg hp (by omega : (0 : Int) ≤ y.toInt)
        have g2 := Int.tdiv_le_self y.toInt hp
        omega
      · have hp' : 0 ≤ -x.toInt := by omega
        have g1 := Int.tdiv_nonneg hp' (by omega : (0 : Int) ≤ y.toInt)
        have g2 := Int.tdiv_le_self y.toInt hp'
        rw [Int.neg_tdiv] at g1 g2
        omega
    have hbm : (x.toInt.tdiv y.toInt).bmod (2 ^ 32) = x.toInt.tdiv y.toInt := by
      unfold Int.bmod
      simp only [Nat.reducePow]
      omega
    split at h
    · rename_i hc
      cases h
      have hy2 : y.toInt = b.1 := by omega
      unfold z_in32
      rw [hd, hbm, hy2]
      exact ⟨Int.tdiv_le_tdiv (by omega) h1, Int.tdiv_le_tdiv (by omega) h2⟩
    · cases h
      unfold z_in32
      rw [hd, hbm]
      refine ⟨?_, ?_⟩
      · show min a.1 0 ≤ _
        omega
      · show _ ≤ max a.2 0
        omega
  · split at h
    · rename_i hb
      cases h
      exact ⟨hne (Or.inr hb), z_t32 _⟩
    · cases h
theorem z_rem_in {a b r : z_I} {x y : Int32} (hx : z_in32 a x) (hy : z_in32 b y) (h : z_rem a b = some r) : ¬ y = 0 ∧ z_in32 r (x - x / y * y) := by
  obtain ⟨h1, h2⟩ := hx
  obtain ⟨h3, h4⟩ := hy
  have hne : 1 ≤ b.1 ∨ b.2 ≤ -1 → ¬ y = 0 := by
    intro h9 q
    subst q
    have : (0 : Int32).toInt = 0 := by decide
    omega
  unfold z_rem at h
  split at h
  · rename_i hb
    refine ⟨hne (Or.inl hb), ?_⟩
    split at h
    · rename_i ha
      cases h
      have nn : ∀ u : Int32, 0 ≤ u.toInt → ∃ n : Nat, n < 2 ^ 31 ∧ u = nI n := fun u hu => by
        have : ¬ u < 0 := fun q => by
          rw [Int32.lt_iff_toInt_lt] at q
          have : (0 : Int32).toInt = 0 := by decide
          omega
        exact nI_of this
      obtain ⟨n, hn, rfl⟩ := nn x (by omega)
      obtain ⟨k, hk, rfl⟩ := nn y (by omega)
      rw [nI_toInt hn] at h1 h2
      rw [nI_toInt hk] at h3 h4
      have hk0 : 0 < k := by omega
      rw [pk_rem hn hk0 hk]
      have hm := Nat.mod_lt n hk0
      have hm2 := Nat.mod_le n k
      unfold z_in32
      rw [nI_toInt (by omega)]
      refine ⟨by show (0 : Int) ≤ _; omega, ?_⟩
      show _ ≤ min a.2 (b.2 - 1)
      omega
    · cases h
      exact z_t32 _
  · split at h
    · rename_i hb
      cases h
      exact ⟨hne (Or.inr hb), z_t32 _⟩
    · cases h
end ZIVL
end
section
/-! Abstract values, cells, frames and states, and what they stand for. -/
section ZABS
/-- a number: an identity (0: none), how far it lies from the identity's value, its interval -/
abbrev z_tk : Type := Nat × Int × Int × Int × Int
def z_lo (t : z_tk) : Int := t.2.2.2.1
def z_hi (t : z_tk) : Int := t.2.2.2.2
def z_iv (t : z_tk) : z_I := (t.2.2.2.1, t.2.2.2.2)
def z_tc (c : Int) : z_tk := (0, 0, 0, c, c)
def z_ti (i : z_I) : z_tk := (0, 0, 0, i.1, i.2)
/-- a value: an int, a long, a reference (null or one of some cells) -/
abbrev z_av : Type := z_tk ⊕ (z_tk ⊕ (Bool × List Nat))
def z_gi (N : List Int) (t : z_tk) (v : Int) : Prop := z_lo t ≤ v ∧ v ≤ z_hi t ∧ (t.1 = 0 ∨ ∃ w, N[t.1]? = some w ∧ w + t.2.1 ≤ v ∧ v ≤ w + t.2.2.1)
def z_gv (N : List Int) (al : Nat → Option Nat) : z_av → Value → Prop
  | .inl t, v => ∃ x : Int32, v = .int x ∧ z_gi N t x.toInt
  | .inr (.inl t), v => ∃ x : Int64, v = .long x ∧ z_gi N t x.toInt
  | .inr (.inr t), v => (v = .null ∧ t.1 = true) ∨ ∃ a c, v = .ref a ∧ al a = some c ∧ c ∈ t.2
/-- more identities, more cells -/
def z_le (N N' : List Int) (al al' : Nat → Option Nat) : Prop := (∃ X, N' = N ++ X) ∧ ∀ a c, al a = some c → al' a = some c
theorem z_le.rf {N : List Int} {al : Nat → Option Nat} : z_le N N al al := ⟨⟨[], by simp⟩, fun _ _ h => h⟩
theorem z_gi.mono {N N' : List Int} {t : z_tk} {v : Int} (h : z_gi N t v) (hN : ∃ X, N' = N ++ X) : z_gi N' t v := by
  obtain ⟨h1, h2, h3⟩ := h
  obtain ⟨X, rfl⟩ := hN
  refine ⟨h1, h2, h3.imp id ?_⟩
  rintro ⟨w, e, h4⟩
  exact ⟨w, by rw [List.getElem?_append_left (List.getElem?_eq_some_iff.mp e).1]; exact e, h4⟩
theorem z_gv.mono {N N' : List Int} {al al' : Nat → Option Nat} (hle : z_le N N' al al') : ∀ {t : z_av} {v : Value}, z_gv N al t v → z_gv N' al' t v
  | .inl _, _, ⟨x, e, h⟩ => ⟨x, e, h.mono hle.1⟩
  | .inr (.inl _), _, ⟨x, e, h⟩ => ⟨x, e, h.mono hle.1⟩
  | .inr (.inr _), _, Or.inl h => Or.inl h
  | .inr (.inr _), _, Or.inr ⟨a, c, e, h1, h2⟩ => Or.inr ⟨a, c, e, hle.2 _ _ h1, h2⟩
/-- lists, pointwise -/
def z_all2 {α β : Type} (R : α → β → Prop) : List α → List β → Prop
  | [], [] => True
  | a :: as, b :: bs => R a b ∧ z_all2 R as bs
  | _, _ => False
theorem z_all2.mono {α β : Type} {R S : α → β → Prop} (h : ∀ a b, R a b → S a b) : ∀ {as : List α} {bs : List β}, z_all2 R as bs → z_all2 S as bs
  | [], [], _ => trivial
  | _ :: _, _ :: _, ⟨h1, h2⟩ => ⟨h _ _ h1, h2.mono h⟩
  | [], _ :: _, h => h.elim
  | _ :: _, [], h => h.elim
theorem z_all2.len {α β : Type} {R : α → β → Prop} : ∀ {as : List α} {bs : List β}, z_all2 R as bs → as.length = bs.length
  | [], [], _ => rfl
  | _ :: _, _ :: _, ⟨_, h2⟩ => by simp [h2.len]
  | [], _ :: _, h => h.elim
  | _ :: _, [], h => h.elim
theorem z_all2.get {α β : Type} {R : α → β → Prop} : ∀ {as : List α} {bs : List β} {i : Nat} {a : α}, z_all2 R as bs → as[i]? = some a → ∃ b, bs[i]? = some b ∧ R a b
  | _ :: _, _ :: _, 0, _, ⟨h1, _⟩, e => by cases e; exact ⟨_, rfl, h1⟩
  | _ :: as, _ :: bs, i + 1, _, ⟨_, h2⟩, e => by
    obtain ⟨b, h3, h4⟩ := h2.get (i := i) (by simpa using e)
    exact ⟨b, by simpa using h3, h4⟩
  | [], [], _, _, _, e => by simp at e
  | [], _ :: _, _, _, h, _ => h.elim
  | _ :: _, [], _, _, h, _ => h.elim
theorem z_all2.getb {α β : Type} {R : α → β → Prop} : ∀ {as : List α} {bs : List β} {i : Nat} {b : β}, z_all2 R as bs → bs[i]? = some b → ∃ a, as[i]? = some a ∧ R a b
  | _ :: _, _ :: _, 0, _, ⟨h1, _⟩, e => by cases e; exact ⟨_, rfl, h1⟩
  | _ :: as, _ :: bs, i + 1, _, ⟨_, h2⟩, e => by
    obtain ⟨b, h3, h4⟩ := h2.getb (i := i) (by simpa using e)
    exact ⟨b, by simpa using h3, h4⟩
  | [], [], _, _, _, e => by simp at e
  | [], _ :: _, _, _, h, _ => h.elim
  | _ :: _, [], _, _, h, _ => h.elim
theorem z_all2.set {α β : Type} {R : α → β → Prop} : ∀ {as : List α} {bs : List β} {i : Nat} {a : α} {b : β}, z_all2 R as bs → R a b → z_all2 R (as.set i a) (bs.set i b)
  | [], [], _, _, _, _, _ => trivial
  | _ :: _, _ :: _, 0, _, _, ⟨_, h2⟩, h => ⟨h, h2⟩
  | _ :: _, _ :: _, i + 1, _, _, ⟨h1, h2⟩, h => ⟨h1, h2.set h⟩
  | [], _ :: _, _, _, _, h, _ => h.elim
  | _ :: _, [], _, _, _, h, _ => h.elim
theorem z_all2.map {α β : Type} {R S : α → β → Prop} {f : α → α} (h : ∀ a b, R a b → S (f a) b) : ∀ {as : List α} {bs : List β}, z_all2 R as bs → z_all2 S (as.map f) bs
  | [], [], _ => trivial
  | _ :: _, _ :: _, ⟨h1, h2⟩ => ⟨h _ _ h1, h2.map h⟩
  | [], _ :: _, h => h.elim
  | _ :: _, [], h => h.elim
/-- a cell: tag, (stands for one alone, is a near one), its length where all its places are told by one value, its values -/
abbrev z_ac_ : Type := Nat × (Bool × Bool) × Option Nat × List z_av
def z_gc (N : List Int) (al : Nat → Option Nat) (A : z_ac_) (q : z_C) : Prop := A.1 = q.1 ∧ match A.2.2.1 with
  | none => z_all2 (z_gv N al) A.2.2.2 q.2
  | some n => q.2.length = n ∧ ∃ t, A.2.2.2 = [t] ∧ ∀ v ∈ q.2, z_gv N al t v
theorem z_gc.mono {N N' : List Int} {al al' : Nat → Option Nat} (hle : z_le N N' al al') {A : z_ac_} {q : z_C} (h : z_gc N al A q) : z_gc N' al' A q := by
  obtain ⟨h1, h2⟩ := h
  refine ⟨h1, ?_⟩
  split at h2
  · exact h2.mono fun _ _ k => k.mono hle
  · obtain ⟨h3, t, h4, h5⟩ := h2
    exact ⟨h3, t, h4, fun v hv => (h5 v hv).mono hle⟩
/-- the heap -/
def z_gh (strs : List (List Int32)) (N : List Int) (al : Nat → Option Nat) (AH : List z_ac_) (P : z_H) : Prop :=
  ∀ a c, al a = some c → ∃ q A, z_lk strs P a = some q ∧ AH[c]? = some A ∧ z_gc N al A q ∧ (A.2.1.1 = true → ∀ b, al b = some c → b = a) ∧ (A.2.1.2 = true → a < z_far)
/-- the locals: what is known of them -/
def z_aget : List (Nat × z_av) → Nat → Option z_av
  | [], _ => none
  | q :: r, i => if q.1 == i then some q.2 else z_aget r i
def z_gl (N : List Int) (al : Nat → Option Nat) (L : List (Nat × z_av)) (l : z_L) : Prop := ∀ i t, z_aget L i = some t → ∃ v, z_get l i = some v ∧ z_gv N al t v
/-- a frame: method, pc, locals, stack, cells, slots -/
abbrev z_af : Type := Nat × Nat × List (Nat × z_av) × List z_av × Nat × Nat
def z_gf_ (N : List Int) (al : Nat → Option Nat) (F : z_af) (f : z_Fr) : Prop := F.1 = f.1 ∧ F.2.1 = f.2.1 ∧ z_gl N al F.2.2.1 f.2.2.1 ∧ z_all2 (z_gv N al) F.2.2.2.1 f.2.2.2.1 ∧ F.2.2.2.2.1 = f.2.2.2.2.1 ∧ F.2.2.2.2.2 = f.2.2.2.2.2
theorem z_gf_.mono {N N' : List Int} {al al' : Nat → Option Nat} (hle : z_le N N' al al') {F : z_af} {f : z_Fr} (h : z_gf_ N al F f) : z_gf_ N' al' F f := by
  obtain ⟨h1, h2, h3, h4, h5⟩ := h
  exact ⟨h1, h2, fun i t e => by
    obtain ⟨v, g1, g2⟩ := h3 i t e
    exact ⟨v, g1, g2.mono hle⟩, h4.mono fun _ _ k => k.mono hle, h5⟩
/-- a state: the top frame, those below, the heap, the next identity, what is known of two identities: one and a number are at most the other; how many cells there are at most -/
abbrev z_as_ : Type := z_af × List z_af × List z_ac_ × Nat × List (Nat × Nat × Int) × Nat
def z_gx (N : List Int) (F : List (Nat × Nat × Int)) : Prop := ∀ q ∈ F, ∃ a b, N[q.1]? = some a ∧ N[q.2.1]? = some b ∧ a + q.2.2 ≤ b
theorem z_gx.mono {N N' : List Int} {F : List (Nat × Nat × Int)} (h : z_gx N F) (hN : ∃ X, N' = N ++ X) : z_gx N' F := by
  intro q hq
  obtain ⟨X, rfl⟩ := hN
  obtain ⟨a, b, h1, h2, h3⟩ := h q hq
  exact ⟨a, b, by rw [List.getElem?_append_left (List.getElem?_eq_some_iff.mp h1).1]; exact h1, by rw [List.getElem?_append_left (List.getElem?_eq_some_iff.mp h2).1]; exact h2, h3⟩
def z_gs (strs : List (List Int32)) (N : List Int) (al : Nat → Option Nat) (S : z_as_) (f : z_Fr) (rest : List z_Fr) (P : z_H) : Prop :=
  z_gf_ N al S.1 f ∧ z_all2 (z_gf_ N al) S.2.1 rest ∧ z_gh strs N al S.2.2.1 P ∧ S.2.2.2.1 = N.length ∧ z_gx N S.2.2.2.2.1 ∧ P.length ≤ S.2.2.2.2.2
theorem z_gh.mono {strs : List (List Int32)} {N N' : List Int} {al : Nat → Option Nat} {AH : List z_ac_} {P : z_H} (hN : ∃ X, N' = N ++ X) (h : z_gh strs N al AH P) : z_gh strs N' al AH P := by
  intro a c hac
  obtain ⟨q, A, h1, h2, h3, h4⟩ := h a c hac
  exact ⟨q, A, h1, h2, h3.mono ⟨hN, fun _ _ k => k⟩, h4⟩
/-- a new value: a number without identity gets one -/
def z_new (n : Nat) (t : z_tk) : z_tk × Nat := if t.1 = 0 ∧ z_lo t ≠ z_hi t then ((n, 0, 0, z_lo t, z_hi t), n + 1) else (t, n)
theorem z_new_gi {N : List Int} {t : z_tk} {v : Int} (h : z_gi N t v) : ∃ N', (∃ X, N' = N ++ X) ∧ z_gi N' (z_new N.length t).1 v ∧ (z_new N.length t).2 = N'.length := by
  unfold z_new
  split
  · refine ⟨N ++ [v], ⟨_, rfl⟩, ⟨h.1, h.2.1, Or.inr ⟨v, by simp, by show v + 0 ≤ v; omega, by show v ≤ v + 0; omega⟩⟩, by simp⟩
  · exact ⟨N, ⟨[], by simp⟩, h, rfl⟩
def z_newv (n : Nat) : z_av → z_av × Nat
  | .inl t => (.inl (z_new n t).1, (z_new n t).2)
  | .inr (.inl t) => (.inr (.inl (z_new n t).1), (z_new n t).2)
  | .inr (.inr t) => (.inr (.inr t), n)
theorem z_newv_gv {N : List Int} {al : Nat → Option Nat} {t : z_av} {v : Value} (h : z_gv N al t v) : ∃ N', z_le N N' al al ∧ z_gv N' al (z_newv N.length t).1 v ∧ (z_newv N.length t).2 = N'.length := by
  match t, h with
  | .inl t, ⟨x, e, h⟩ =>
    obtain ⟨N', h1, h2, h3⟩ := z_new_gi h
    exact ⟨N', ⟨h1, fun _ _ k => k⟩, ⟨x, e, h2⟩, h3⟩
  | .inr (.inl t), ⟨x, e, h⟩ =>
    obtain ⟨N', h1, h2, h3⟩ := z_new_gi h
    exact ⟨N', ⟨h1, fun _ _ k => k⟩, ⟨x, e, h2⟩, h3⟩
  | .inr (.inr t), h => exact ⟨N, z_le.rf, h, rfl⟩
/-- an identity's value is narrowed: in all its exact numbers -/
def z_cl1 (k : Nat) (lo hi : Int) (t : z_tk) : z_tk := if t.1 = k ∧ t.2.1 = t.2.2.1 then (t.1, t.2.1, t.2.2.1, max (z_lo t) (lo + t.2.1), min (z_hi t) (hi + t.2.1)) else t
theorem z_cl1_gi {N : List Int} {k : Nat} {lo hi w : Int} (hk : k ≠ 0) (hw : N[k]? = some w) (h1 : lo ≤ w) (h2 : w ≤ hi) {t : z_tk} {v : Int} (h : z_gi N t v) : z_gi N (z_cl1 k lo hi t) v := by
  unfold z_cl1
  split
  · rename_i hc
    obtain ⟨g1, g2, g3⟩ := h
    rcases g3 with g3 | ⟨w', e, g4, g5⟩
    · exact absurd (hc.1.symm.trans g3) hk
    · rw [hc.1] at e
      have e1 : w' = w := Option.some.inj (e.symm.trans hw)
      subst e1
      have hd := hc.2
      refine ⟨?_, ?_, Or.inr ⟨w', by show N[t.1]? = some w'; rw [hc.1]; exact hw, g4, g5⟩⟩
      · show max (z_lo t) (lo + t.2.1) ≤ v
        omega
      · show v ≤ min (z_hi t) (hi + t.2.1)
        omega
  · exact h
def z_clv (k : Nat) (lo hi : Int) : z_av → z_av
  | .inl t => .inl (z_cl1 k lo hi t)
  | .inr (.inl t) => .inr (.inl (z_cl1 k lo hi t))
  | .inr (.inr t) => .inr (.inr t)
theorem z_clv_gv {N : List Int} {al : Nat → Option Nat} {k : Nat} {lo hi w : Int} (hk : k ≠ 0) (hw : N[k]? = some w) (h1 : lo ≤ w) (h2 : w ≤ hi) {t : z_av} {v : Value} (h : z_gv N al t v) : z_gv N al (z_clv k lo hi t) v := by
  match t, h with
  | .inl t, ⟨x, e, h⟩ => exact ⟨x, e, z_cl1_gi hk hw h1 h2 h⟩
  | .inr (.inl t), ⟨x, e, h⟩ => exact ⟨x, e, z_cl1_gi hk hw h1 h2 h⟩
  | .inr (.inr t), h => exact h
def z_clf (k : Nat) (lo hi : Int) (F : z_af) : z_af := (F.1, F.2.1, F.2.2.1.map (fun q => (q.1, z_clv k lo hi q.2)), F.2.2.2.1.map (z_clv k lo hi), F.2.2.2.2.1, F.2.2.2.2.2)
def z_clc (k : Nat) (lo hi : Int) (A : z_ac_) : z_ac_ := (A.1, A.2.1, A.2.2.1, A.2.2.2.map (z_clv k lo hi))
def z_cls_ (k : Nat) (lo hi : Int) (S : z_as_) : z_as_ := if k = 0 then S else (z_clf k lo hi S.1, S.2.1.map (z_clf k lo hi), S.2.2.1.map (z_clc k lo hi), S.2.2.2)
theorem z_aget_map (f : z_av → z_av) : ∀ (L : List (Nat × z_av)) (i : Nat), z_aget (L.map fun q => (q.1, f q.2)) i = (z_aget L i).map f
  | [], _ => rfl
  | q :: r, i => by
    show (if q.1 == i then some (f q.2) else z_aget (r.map fun q => (q.1, f q.2)) i) = (if q.1 == i then some q.2 else z_aget r i).map f
    rw [z_aget_map f r i]
    split <;> rfl
theorem z_clf_gf {N : List Int} {al : Nat → Option Nat} {k : Nat} {lo hi w : Int} (hk : k ≠ 0) (hw : N[k]? = some w) (h1 : lo ≤ w) (h2 : w ≤ hi) {F : z_af} {f : z_Fr} (h : z_gf_ N al F f) : z_gf_ N al (z_clf k lo hi F) f := by
  obtain ⟨g1, g2, g3, g4, g5⟩ := h
  refine ⟨g1, g2, fun i t e => ?_, g4.map fun _ _ q => z_clv_gv hk hw h1 h2 q, g5⟩
  have e : z_aget (F.2.2.1.map fun q => (q.1, z_clv k lo hi q.2)) i = some t := e
  rw [z_aget_map] at e
  obtain ⟨t', e1, e2⟩ := z_map_some e
  obtain ⟨v, g6, g7⟩ := g3 i t' e1
  exact ⟨v, g6, by rw [← e2]; exact z_clv_gv hk hw h1 h2 g7⟩
theorem z_cls_gs {strs : List (List Int32)} {N : List Int} {al : Nat → Option Nat} {k : Nat} {lo hi : Int} {S : z_as_} {f : z_Fr} {rest : List z_Fr} {P : z_H} (hw : k ≠ 0 → ∃ w, N[k]? = some w ∧ lo ≤ w ∧ w ≤ hi) (h : z_gs strs N al S f rest P) : z_gs strs N al (z_cls_ k lo hi S) f rest P := by
  unfold z_cls_
  split
  · exact h
  · rename_i hk
    obtain ⟨w, hw, h1, h2⟩ := hw hk
    obtain ⟨g1, g2, g3, g4⟩ := h
    refine ⟨z_clf_gf hk hw h1 h2 g1, g2.map fun _ _ q => z_clf_gf hk hw h1 h2 q, fun a c hac => ?_, g4⟩
    obtain ⟨q, A, e1, e2, ⟨e3, e4⟩, e5, e6⟩ := g3 a c hac
    refine ⟨q, z_clc k lo hi A, e1, ?_, ⟨e3, ?_⟩, e5, e6⟩
    · show (S.2.2.1.map (z_clc k lo hi))[c]? = _
      rw [List.getElem?_map, e2]
      rfl
    · show (match A.2.2.1 with | none => z_all2 (z_gv N al) (A.2.2.2.map (z_clv k lo hi)) q.2 | some n => q.2.length = n ∧ ∃ t, A.2.2.2.map (z_clv k lo hi) = [t] ∧ ∀ v ∈ q.2, z_gv N al t v)
      split at e4
      · exact e4.map fun _ _ q => z_clv_gv hk hw h1 h2 q
      · obtain ⟨e8, t, e9, e10⟩ := e4
        exact ⟨e8, _, by rw [e9]; rfl, fun v hv => z_clv_gv hk hw h1 h2 (e10 v hv)⟩
end ZABS
end
section
section ZAPU
theorem z_gi_iv32 {N : List Int} {t : z_tk} {x : Int32} (h : z_gi N t x.toInt) : z_in32 (z_iv t) x := ⟨h.1, h.2.1⟩
theorem z_gi_iv64 {N : List Int} {t : z_tk} {x : Int64} (h : z_gi N t x.toInt) : z_in64 (z_iv t) x := ⟨h.1, h.2.1⟩
theorem z_ti_gi {N : List Int} {i : z_I} {x : Int32} (h : z_in32 i x) : z_gi N (z_ti i) x.toInt := ⟨h.1, h.2, Or.inl rfl⟩
theorem z_ti_gi64 {N : List Int} {i : z_I} {x : Int64} (h : z_in64 i x) : z_gi N (z_ti i) x.toInt := ⟨h.1, h.2, Or.inl rfl⟩
theorem z_tc_gi {N : List Int} {c : Int} : z_gi N (z_tc c) c := ⟨Int.le_refl _, Int.le_refl _, Or.inl rfl⟩
/-- both told exactly: the operation itself -/
def z_ex2 (f : Int32 → Int32 → Int32) (g : z_tk → z_tk → z_tk) (x y : z_tk) : z_tk := if z_one (z_iv x) && z_one (z_iv y) then z_tc (f (Int32.ofInt (z_lo x)) (Int32.ofInt (z_lo y))).toInt else g x y
theorem z_ex2_gi {N : List Int} {f : Int32 → Int32 → Int32} {g : z_tk → z_tk → z_tk} {x y : z_tk} {a b : Int32} (hx : z_gi N x a.toInt) (hy : z_gi N y b.toInt) (hg : z_gi N (g x y) (f a b).toInt) : z_gi N (z_ex2 f g x y) (f a b).toInt := by
  unfold z_ex2
  split
  · rename_i h
    rw [Bool.and_eq_true] at h
    have ea := z_one32 h.1 (z_gi_iv32 hx)
    have eb := z_one32 h.2 (z_gi_iv32 hy)
    have ea : a = Int32.ofInt (z_lo x) := ea
    have eb : b = Int32.ofInt (z_lo y) := eb
    rw [← ea, ← eb]
    exact z_tc_gi
  · exact hg
def z_add32 (x y : z_tk) : z_tk := if -2147483648 ≤ z_lo x + z_lo y ∧ z_hi x + z_hi y ≤ 2147483647 then
    (if x.1 ≠ 0 then (x.1, x.2.1 + z_lo y, x.2.2.1 + z_hi y, z_lo x + z_lo y, z_hi x + z_hi y) else (y.1, y.2.1 + z_lo x, y.2.2.1 + z_hi x, z_lo x + z_lo y, z_hi x + z_hi y)) else z_ti z_top32
def z_sub32 (x y : z_tk) : z_tk := if -2147483648 ≤ z_lo x - z_hi y ∧ z_hi x - z_lo y ≤ 2147483647 then (x.1, x.2.1 - z_hi y, x.2.2.1 - z_lo y, z_lo x - z_hi y, z_hi x - z_lo y) else z_ti z_top32
theorem z_add32_gi {N : List Int} {x y : z_tk} {a b : Int32} (hx : z_gi N x a.toInt) (hy : z_gi N y b.toInt) : z_gi N (z_add32 x y) (a + b).toInt := by
  unfold z_add32
  split
  · rename_i h
    obtain ⟨x1, x2, x3⟩ := hx
    obtain ⟨y1, y2, y3⟩ := hy
    have e : (a + b).toInt = a.toInt + b.toInt := by
      rw [Int32.toInt_add]
      unfold Int.bmod
      simp only [Nat.reducePow]
      omega
    rw [e]
    split
    · rename_i hz
      refine ⟨by show z_lo x + z_lo y ≤ _; omega, by show _ ≤ z_hi x + z_hi y; omega, Or.inr ?_⟩
      rcases x3 with x3 | ⟨w, e1, e2, e3⟩
      · exact absurd x3 hz
      · exact ⟨w, e1, by show w + (x.2.1 + z_lo y) ≤ _; omega, by show _ ≤ w + (x.2.2.1 + z_hi y); omega⟩
    · refine ⟨by show z_lo x + z_lo y ≤ _; omega, by show _ ≤ z_hi x + z_hi y; omega, ?_⟩
      rcases y3 with y3 | ⟨w, e1, e2, e3⟩
      · exact Or.inl y3
      · exact Or.inr ⟨w, e1, by show w + (y.2.1 + z_lo x) ≤ _; omega, by show _ ≤ w + (y.2.2.1 + z_hi x); omega⟩
  · exact z_ti_gi (z_t32 _)
theorem z_sub32_gi {N : List Int} {x y : z_tk} {a b : Int32} (hx : z_gi N x a.toInt) (hy : z_gi N y b.toInt) : z_gi N (z_sub32 x y) (a - b).toInt := by
  unfold z_sub32
  split
  · rename_i h
    obtain ⟨x1, x2, x3⟩ := hx
    obtain ⟨y1, y2, y3⟩ := hy
    have e : (a - b).toInt = a.toInt - b.toInt := by
      rw [Int32.toInt_sub]
      unfold Int.bmod
      simp only [Nat.reducePow]
      omega
    rw [e]
    refine ⟨by show z_lo x - z_hi y ≤ _; omega, by show _ ≤ z_hi x - z_lo y; omega, ?_⟩
    rcases x3 with x3 | ⟨w, e1, e2, e3⟩
    · exact Or.inl x3
    · exact Or.inr ⟨w, e1, by show w + (x.2.1 - z_hi y) ≤ _; omega, by show _ ≤ w + (x.2.2.1 - z_lo y); omega⟩
  · exact z_ti_gi (z_t32 _)
def z_mul32 (x y : z_tk) : z_tk := z_ti (z_r32 (z_mul (z_iv x) (z_iv y)).1 (z_mul (z_iv x) (z_iv y)).2)
theorem z_mul32_gi {N : List Int} {x y : z_tk} {a b : Int32} (hx : z_gi N x a.toInt) (hy : z_gi N y b.toInt) : z_gi N (z_mul32 x y) (a * b).toInt := by
  obtain ⟨h1, h2⟩ := z_mul_in (a := z_iv x) (b := z_iv y) hx.1 hx.2.1 hy.1 hy.2.1
  exact z_ti_gi (z_r32_in (Int32.toInt_mul a b) h1 h2)
theorem z_sl : ∀ n, n < 32 → ((nI n &&& 31).toBitVec.smod 32).toNat = n := by decide
def z_shr32 (x y : z_tk) : z_tk := if z_one (z_iv y) ∧ 0 ≤ z_lo y ∧ z_lo y < 32 then z_ti (z_lo x >>> (z_lo y).toNat, z_hi x >>> (z_lo y).toNat) else z_ti z_top32
theorem z_shr_mono {a b : Int} (k : Nat) (h : a ≤ b) : a >>> k ≤ b >>> k := by
  rw [Int.shiftRight_eq_div_pow, Int.shiftRight_eq_div_pow]
  exact Int.ediv_le_ediv (by have : (0 : Int) < 2 ^ k := Int.pow_pos (by decide); exact_mod_cast this) h
theorem z_shr32_gi {N : List Int} {x y : z_tk} {a b : Int32} (hx : z_gi N x a.toInt) (hy : z_gi N y b.toInt) : z_gi N (z_shr32 x y) (a >>> (b &&& 31)).toInt := by
  unfold z_shr32
  split
  · rename_i h
    obtain ⟨h1, h2, h3⟩ := h
    have eb : b = Int32.ofInt (z_lo y) := z_one32 h1 (z_gi_iv32 hy)
    have ek : Int32.ofInt (z_lo y) = nI (z_lo y).toNat := by
      unfold nI
      have : z_lo y = ((z_lo y).toNat : Int) := by omega
      conv => lhs; rw [this]
      exact Int32.ofInt_eq_ofNat
    have hs : ((b &&& 31).toBitVec.smod 32).toNat = (z_lo y).toNat := by
      rw [eb, ek]
      exact z_sl _ (by omega)
    have e := pk_shr a (b &&& 31) (z_lo y).toNat hs
    rw [e]
    exact ⟨z_shr_mono _ hx.1, z_shr_mono _ hx.2.1, Or.inl rfl⟩
  · exact z_ti_gi (z_t32 _)
def z_top2 (_ _ : z_tk) : z_tk := z_ti z_top32
end ZAPU
end
section
section ZAOP
def z_add64 (x y : z_tk) : z_tk := z_ti (z_r64 (z_lo x + z_lo y) (z_hi x + z_hi y))
def z_sub64 (x y : z_tk) : z_tk := z_ti (z_r64 (z_lo x - z_hi y) (z_hi x - z_lo y))
def z_mul64 (x y : z_tk) : z_tk := z_ti (z_r64 (z_mul (z_iv x) (z_iv y)).1 (z_mul (z_iv x) (z_iv y)).2)
/-- the divisor isn't 0 -/
def z_nz (y : z_tk) : Bool := decide (1 ≤ z_lo y) || decide (z_hi y ≤ -1)
theorem z_nz64 {N : List Int} {y : z_tk} {b : Int64} (h : z_nz y = true) (hy : z_gi N y b.toInt) : ¬ b = 0 := by
  intro q
  subst q
  have h0 : (0 : Int64).toInt = 0 := by decide
  obtain ⟨h1, h2, -⟩ := hy
  unfold z_nz at h
  simp only [Bool.or_eq_true, decide_eq_true_eq] at h
  omega
def z_cmp64 (x y : z_tk) : z_tk := if z_hi x < z_lo y then z_tc (-1) else if z_hi y < z_lo x then z_tc 1 else if z_one (z_iv x) && z_one (z_iv y) then z_tc 0 else z_ti (-1, 1)
theorem z_cmp64_gi {N : List Int} {x y : z_tk} {a b : Int64} (hx : z_gi N x a.toInt) (hy : z_gi N y b.toInt) : z_gi N (z_cmp64 x y) (lg_cmp a b).toInt := by
  obtain ⟨x1, x2, -⟩ := hx
  obtain ⟨y1, y2, -⟩ := hy
  have hlt : (a > b) ↔ b.toInt < a.toInt := Int64.lt_iff_toInt_lt
  have heq : (a = b) ↔ a.toInt = b.toInt := ⟨fun h => by rw [h], fun h => Int64.toInt_inj.mp h⟩
  have v1 : (1 : Int32).toInt = 1 := by decide
  have v0 : (0 : Int32).toInt = 0 := by decide
  have vm : (-1 : Int32).toInt = -1 := by decide
  unfold z_cmp64
  split
  · rename_i h
    have : lg_cmp a b = -1 := by
      unfold lg_cmp
      rw [if_neg (by rw [hlt]; omega), if_neg (by rw [heq]; omega)]
    rw [this, vm]
    exact z_tc_gi
  split
  · rename_i h
    have : lg_cmp a b = 1 := by
      unfold lg_cmp
      rw [if_pos (by rw [hlt]; omega)]
    rw [this, v1]
    exact z_tc_gi
  split
  · rename_i h1 h2 h
    rw [Bool.and_eq_true] at h
    have e1 : z_lo x = z_hi x := by simpa [z_one, z_iv, z_lo, z_hi] using h.1
    have e2 : z_lo y = z_hi y := by simpa [z_one, z_iv, z_lo, z_hi] using h.2
    have : lg_cmp a b = 0 := by
      unfold lg_cmp
      rw [if_neg (by rw [hlt]; omega), if_pos (by rw [heq]; omega)]
    rw [this, v0]
    exact z_tc_gi
  · unfold lg_cmp
    split
    · rw [v1]; exact ⟨by show (-1 : Int) ≤ 1; omega, by show (1 : Int) ≤ 1; omega, Or.inl rfl⟩
    split
    · rw [v0]; exact ⟨by show (-1 : Int) ≤ 0; omega, by show (0 : Int) ≤ 1; omega, Or.inl rfl⟩
    · rw [vm]; exact ⟨by show (-1 : Int) ≤ -1; omega, by show (-1 : Int) ≤ 1; omega, Or.inl rfl⟩
def z_neg32 (x : z_tk) : z_tk := z_ti (z_r32 (-z_hi x) (-z_lo x))
/-- a number cut to a range: itself where it lies within -/
def z_cutto (lo hi : Int) (x : z_tk) : z_tk := if lo ≤ z_lo x ∧ z_hi x ≤ hi then x else z_ti (lo, hi)
theorem z_cutto_gi {N : List Int} {lo hi : Int} {x : z_tk} {a b : Int} (hx : z_gi N x a) (h1 : lo ≤ b) (h2 : b ≤ hi) (he : lo ≤ a → a ≤ hi → b = a) : z_gi N (z_cutto lo hi x) b := by
  unfold z_cutto
  split
  · rename_i h
    obtain ⟨g1, g2, -⟩ := id hx
    rw [he (by omega) (by omega)]
    exact hx
  · exact ⟨h1, h2, Or.inl rfl⟩
def z_a1 (f : z_tk → z_tk) : List z_av → Option (List z_av)
  | .inl x :: st => some (.inl (f x) :: st)
  | _ => none
def z_a1l (f : z_tk → z_tk) : List z_av → Option (List z_av)
  | .inl x :: st => some (.inr (.inl (f x)) :: st)
  | _ => none
def z_b1 (f : z_tk → z_tk) : List z_av → Option (List z_av)
  | .inr (.inl x) :: st => some (.inl (f x) :: st)
  | _ => none
def z_a2 (f : z_tk → z_tk → z_tk) : List z_av → Option (List z_av)
  | .inl y :: .inl x :: st => some (.inl (f x y) :: st)
  | _ => none
def z_a2o (f : z_tk → z_tk → Option z_tk) : List z_av → Option (List z_av)
  | .inl y :: .inl x :: st => (f x y).map fun t => .inl t :: st
  | _ => none
def z_b2 (f : z_tk → z_tk → z_tk) : List z_av → Option (List z_av)
  | .inr (.inl y) :: .inr (.inl x) :: st => some (.inr (.inl (f x y)) :: st)
  | _ => none
def z_b2c (f : z_tk → z_tk → z_tk) : List z_av → Option (List z_av)
  | .inr (.inl y) :: .inr (.inl x) :: st => some (.inl (f x y) :: st)
  | _ => none
def z_b2o (f : z_tk → z_tk → z_tk) : List z_av → Option (List z_av)
  | .inr (.inl y) :: .inr (.inl x) :: st => if z_nz y then some (.inr (.inl (f x y)) :: st) else none
  | _ => none
/-- the category of an abstract value -/
def z_acat : z_av → Nat
  | .inr (.inl _) => 2
  | _ => 1
theorem z_acat_eq {N : List Int} {al : Nat → Option Nat} : ∀ {t : z_av} {v : Value}, z_gv N al t v → v.category = z_acat t
  | .inl _, _, ⟨_, e, _⟩ => by rw [e]; rfl
  | .inr (.inl _), _, ⟨_, e, _⟩ => by rw [e]; rfl
  | .inr (.inr _), _, Or.inl ⟨e, _⟩ => by rw [e]; rfl
  | .inr (.inr _), _, Or.inr ⟨_, _, e, _⟩ => by rw [e]; rfl
def z_adup : List z_av → Option (List z_av)
  | v :: st => if z_acat v = 1 then some (v :: v :: st) else none
  | _ => none
def z_apop : List z_av → Option (List z_av)
  | v :: st => if z_acat v = 1 then some st else none
  | _ => none
def z_adupx1 : List z_av → Option (List z_av)
  | v :: w :: st => if z_acat v = 1 ∧ z_acat w = 1 then some (v :: w :: v :: st) else none
  | _ => none
def z_adup2 : List z_av → Option (List z_av)
  | v :: w :: st => if z_acat v = 1 ∧ z_acat w = 1 then some (v :: w :: v :: w :: st) else none
  | _ => none
def z_apure : Instr → List z_av → Option (List z_av)
  | .iconst n => fun st => some (.inl (z_tc (Int32.ofInt n).toInt) :: st)
  | .bipush n => fun st => some (.inl (z_tc (Int8.ofInt n).toInt32.toInt) :: st)
  | .sipush n => fun st => some (.inl (z_tc (Int16.ofInt n).toInt32.toInt) :: st)
  | .lconst n => fun st => some (.inr (.inl (z_tc (Int64.ofNat n).toInt)) :: st)
  | .aconst_null => fun st => some (.inr (.inr (true, [])) :: st)
  | .iadd => z_a2 (z_ex2 (fun a b => a + b) z_add32)
  | .isub => z_a2 (z_ex2 (fun a b => a - b) z_sub32)
  | .imul => z_a2 (z_ex2 (fun a b => a * b) z_mul32)
  | .iand => z_a2 (z_ex2 (fun a b => a &&& b) (fun x y => z_ti (z_and (z_iv x) (z_iv y))))
  | .ior => z_a2 (z_ex2 (fun a b => a ||| b) z_top2)
  | .ixor => z_a2 (z_ex2 (fun a b => a ^^^ b) z_top2)
  | .ishl => z_a2 (z_ex2 (fun a b => a <<< (b &&& 31)) z_top2)
  | .ishr => z_a2 (z_ex2 (fun a b => a >>> (b &&& 31)) z_shr32)
  | .iushr => z_a2 (z_ex2 (fun a b => (a.toUInt32 >>> (b.toUInt32 &&& Int32.toUInt32 31)).toInt32) z_top2)
  | .idiv => z_a2o fun x y => (z_div (z_iv x) (z_iv y)).map z_ti
  | .irem => z_a2o fun x y => (z_rem (z_iv x) (z_iv y)).map z_ti
  | .ineg => z_a1 z_neg32
  | .i2l => z_a1l id
  | .i2b => z_a1 (z_cutto (-128) 127)
  | .i2s => z_a1 (z_cutto (-32768) 32767)
  | .i2c => z_a1 (z_cutto 0 65535)
  | .l2i => z_b1 (z_cutto (-2147483648) 2147483647)
  | .ladd => z_b2 z_add64
  | .lsub => z_b2 z_sub64
  | .lmul => z_b2 z_mul64
  | .ldiv => z_b2o (fun _ _ => z_ti z_top64)
  | .lrem => z_b2o (fun _ _ => z_ti z_top64)
  | .lcmp => z_b2c z_cmp64
  | .dup => z_adup
  | .pop => z_apop
  | .dup_x1 => z_adupx1
  | .dup2 => z_adup2
  | _ => fun _ => none
variable {N : List Int} {al : Nat → Option Nat}
theorem z_a1_ok {f : z_tk → z_tk} {g : Int32 → Int32} (hf : ∀ x a, z_gi N x (Int32.toInt a) → z_gi N (f x) (g a).toInt) {ast ast' : List z_av} {st : List Value} (h : z_a1 f ast = some ast') (hs : z_all2 (z_gv N al) ast st) : ∃ st', z_i1 (fun a => .int (g a)) st = some st' ∧ z_all2 (z_gv N al) ast' st' := by
  unfold z_a1 at h
  split at h
  · cases h
    match st, hs with
    | _ :: st, ⟨⟨a, e, ha⟩, h2⟩ =>
      subst e
      exact ⟨_, rfl, ⟨_, rfl, hf _ _ ha⟩, h2⟩
  · cases h
theorem z_a2_ok {f : z_tk → z_tk → z_tk} {g : Int32 → Int32 → Int32} (hf : ∀ x y a b, z_gi N x (Int32.toInt a) → z_gi N y (Int32.toInt b) → z_gi N (f x y) (g a b).toInt) {ast ast' : List z_av} {st : List Value} (h : z_a2 f ast = some ast') (hs : z_all2 (z_gv N al) ast st) : ∃ st', z_i2 (fun a b => .int (g a b)) st = some st' ∧ z_all2 (z_gv N al) ast' st' := by
  unfold z_a2 at h
  split at h
  · cases h
    match st, hs with
    | _ :: _ :: st, ⟨⟨b, e1, hb⟩, ⟨a, e2, ha⟩, h2⟩ =>
      subst e1; subst e2
      exact ⟨_, rfl, ⟨_, rfl, hf _ _ _ _ ha hb⟩, h2⟩
  · cases h
theorem z_a2o_ok {f : z_tk → z_tk → Option z_tk} {g : Int32 → Int32 → Int32} (hf : ∀ x y a b t, z_gi N x (Int32.toInt a) → z_gi N y (Int32.toInt b) → f x y = some t → ¬ b = 0 ∧ z_gi N t (g a b).toInt) {ast ast' : List z_av} {st : List Value} (h : z_a2o f ast = some ast') (hs : z_all2 (z_gv N al) ast st) : ∃ st', z_i2d (fun a b => .int (g a b)) st = some st' ∧ z_all2 (z_gv N al) ast' st' := by
  unfold z_a2o at h
  split at h
  · obtain ⟨t, ht, rfl⟩ := z_map_some h
    match st, hs with
    | _ :: _ :: st, ⟨⟨b, e1, hb⟩, ⟨a, e2, ha⟩, h2⟩ =>
      subst e1; subst e2
      obtain ⟨h0, h3⟩ := hf _ _ _ _ _ ha hb ht
      refine ⟨.int (g a b) :: st, ?_, ⟨_, rfl, h3⟩, h2⟩
      show (if b = 0 then none else _) = _
      rw [if_neg h0]
  · cases h
theorem z_b2_ok {f : z_tk → z_tk → z_tk} {g : Int64 → Int64 → Int64} (hf : ∀ x y a b, z_gi N x (Int64.toInt a) → z_gi N y (Int64.toInt b) → z_gi N (f x y) (g a b).toInt) {ast ast' : List z_av} {st : List Value} (h : z_b2 f ast = some ast') (hs : z_all2 (z_gv N al) ast st) : ∃ st', z_l2 (fun a b => .long (g a b)) st = some st' ∧ z_all2 (z_gv N al) ast' st' := by
  unfold z_b2 at h
  split at h
  · cases h
    match st, hs with
    | _ :: _ :: st, ⟨⟨b, e1, hb⟩, ⟨a, e2, ha⟩, h2⟩ =>
      subst e1; subst e2
      exact ⟨_, rfl, ⟨_, rfl, hf _ _ _ _ ha hb⟩, h2⟩
  · cases h
theorem z_b2o_ok {g : Int64 → Int64 → Int64} {ast ast' : List z_av} {st : List Value} (h : z_b2o (fun _ _ => z_ti z_top64) ast = some ast') (hs : z_all2 (z_gv N al) ast st) : ∃ st', z_l2d (fun a b => .long (g a b)) st = some st' ∧ z_all2 (z_gv N al) ast' st' := by
  unfold z_b2o at h
  split at h
  · split at h
    · rename_i hz
      cases h
      match st, hs with
      | _ :: _ :: st, ⟨⟨b, e1, hb⟩, ⟨a, e2, ha⟩, h2⟩ =>
        subst e1; subst e2
        refine ⟨.long (g a b) :: st, ?_, ⟨_, rfl, z_ti_gi64 (z_t64 _)⟩, h2⟩
        show (if b = 0 then none else _) = _
        rw [if_neg (z_nz64 hz hb)]
    · cases h
  · cases h
set_option maxHeartbeats 4000000 in
/-- what changes the stack alone goes as the abstract stack says -/
theorem z_apure_ok {ins : Instr} {ast ast' : List z_av} {st : List Value} (h : z_apure ins ast = some ast') (hs : z_all2 (z_gv N al) ast st) : ∃ st', z_pure ins st = some st' ∧ z_all2 (z_gv N al) ast' st' := by
  cases ins
  case iconst n => cases h; exact ⟨_, rfl, ⟨_, rfl, z_tc_gi⟩, hs⟩
  case bipush n => cases h; exact ⟨_, rfl, ⟨_, rfl, z_tc_gi⟩, hs⟩
  case sipush n => cases h; exact ⟨_, rfl, ⟨_, rfl, z_tc_gi⟩, hs⟩
  case lconst n => cases h; exact ⟨_, rfl, ⟨_, rfl, z_tc_gi⟩, hs⟩
  case aconst_null => cases h; exact ⟨_, rfl, Or.inl ⟨rfl, rfl⟩, hs⟩
  case iadd => exact z_a2_ok (fun x y a b hx hy => z_ex2_gi hx hy (z_add32_gi hx hy)) h hs
  case isub => exact z_a2_ok (fun x y a b hx hy => z_ex2_gi hx hy (z_sub32_gi hx hy)) h hs
  case imul => exact z_a2_ok (fun x y a b hx hy => z_ex2_gi hx hy (z_mul32_gi hx hy)) h hs
  case iand => exact z_a2_ok (fun x y a b hx hy => z_ex2_gi hx hy (z_ti_gi (z_and_in (z_gi_iv32 hx) (z_gi_iv32 hy)))) h hs
  case ior => exact z_a2_ok (fun x y a b hx hy => z_ex2_gi hx hy (z_ti_gi (z_t32 _))) h hs
  case ixor => exact z_a2_ok (fun x y a b hx hy => z_ex2_gi hx hy (z_ti_gi (z_t32 _))) h hs
  case ishl => exact z_a2_ok (fun x y a b hx hy => z_ex2_gi hx hy (z_ti_gi (z_t32 _))) h hs
  case ishr => exact z_a2_ok (fun x y a b hx hy => z_ex2_gi hx hy (z_shr32_gi hx hy)) h hs
  case iushr => exact z_a2_ok (fun x y a b hx hy => z_ex2_gi hx hy (z_ti_gi (z_t32 _))) h hs
  case idiv => exact z_a2o_ok (fun x y a b t hx hy ht => by
    obtain ⟨r, hr, rfl⟩ := z_map_some ht
    obtain ⟨g1, g2⟩ := z_div_in (z_gi_iv32 hx) (z_gi_iv32 hy) hr
    exact ⟨g1, z_ti_gi g2⟩) h hs
  case irem => exact z_a2o_ok (fun x y a b t hx hy ht => by
    obtain ⟨r, hr, rfl⟩ := z_map_some ht
    obtain ⟨g1, g2⟩ := z_rem_in (z_gi_iv32 hx) (z_gi_iv32 hy) hr
    exact ⟨g1, z_ti_gi g2⟩) h hs
  case ineg => exact z_a1_ok (f := z_neg32) (g := fun a => -a) (fun x a hx => z_ti_gi (z_r32_in (Int32.toInt_neg a) (by have := hx.2.1; omega) (by have := hx.1; omega))) h hs
  case i2l =>
    have h : z_a1l id ast = some ast' := h
    unfold z_a1l at h
    split at h
    · cases h
      match st, hs with
      | _ :: st, ⟨⟨a, e, ha⟩, h2⟩ =>
        subst e
        exact ⟨_, rfl, ⟨_, rfl, by rw [Int32.toInt_toInt64]; exact ha⟩, h2⟩
    · cases h
  case i2b =>
    have hf : ∀ x a, z_gi N x (Int32.toInt a) → z_gi N (z_cutto (-128) 127 x) (a.toInt8.toInt32).toInt := by
      intro x a hx
      have g1 := a.toInt8.le_toInt
      have g2 := a.toInt8.toInt_lt
      refine z_cutto_gi hx (by rw [Int8.toInt_toInt32]; omega) (by rw [Int8.toInt_toInt32]; omega) (fun g3 g4 => ?_)
      rw [Int8.toInt_toInt32, Int32.toInt_toInt8]
      unfold Int.bmod
      simp only [Nat.reducePow]
      omega
    exact z_a1_ok (g := fun a => a.toInt8.toInt32) hf h hs
  case i2s =>
    have hf : ∀ x a, z_gi N x (Int32.toInt a) → z_gi N (z_cutto (-32768) 32767 x) (a.toInt16.toInt32).toInt := by
      intro x a hx
      have g1 := a.toInt16.le_toInt
      have g2 := a.toInt16.toInt_lt
      refine z_cutto_gi hx (by rw [Int16.toInt_toInt32]; omega) (by rw [Int16.toInt_toInt32]; omega) (fun g3 g4 => ?_)
      rw [Int16.toInt_toInt32, Int32.toInt_toInt16]
      unfold Int.bmod
      simp only [Nat.reducePow]
      omega
    exact z_a1_ok (g := fun a => a.toInt16.toInt32) hf h hs
  case i2c =>
    have hf : ∀ x a, z_gi N x (Int32.toInt a) → z_gi N (z_cutto 0 65535 x) ((a.toUInt32 % 65536).toInt32).toInt := by
      intro x a hx
      have e : ((a.toUInt32 % 65536).toInt32).toInt = ((a.toBitVec.toNat % 65536 : Nat) : Int) := by
        rw [pk_char, nI_toInt (by omega)]
      have e2 : a.toInt = a.toBitVec.toInt := rfl
      rw [BitVec.toInt_eq_toNat_cond] at e2
      refine z_cutto_gi hx (by rw [e]; omega) (by rw [e]; omega) (fun g1 g2 => ?_)
      rw [e]
      split at e2 <;> omega
    exact z_a1_ok (g := fun a => (a.toUInt32 % 65536).toInt32) hf h hs
  case l2i =>
    have h : z_b1 (z_cutto (-2147483648) 2147483647) ast = some ast' := h
    unfold z_b1 at h
    split at h
    · cases h
      match st, hs with
      | _ :: st, ⟨⟨a, e, ha⟩, h2⟩ =>
        subst e
        have g1 := a.toInt32.le_toInt
        have g2 := a.toInt32.toInt_lt
        refine ⟨.int a.toInt32 :: st, rfl, ⟨_, rfl, z_cutto_gi ha (by omega) (by omega) (fun g3 g4 => ?_)⟩, h2⟩
        rw [Int64.toInt_toInt32]
        unfold Int.bmod
        simp only [Nat.reducePow]
        omega
    · cases h
  case ladd => exact z_b2_ok (fun x y a b hx hy => z_ti_gi64 (z_r64_in (Int64.toInt_add a b) (by have := hx.1; have := hy.1; omega) (by have := hx.2.1; have := hy.2.1; omega))) h hs
  case lsub => exact z_b2_ok (fun x y a b hx hy => z_ti_gi64 (z_r64_in (Int64.toInt_sub a b) (by have := hx.1; have := hy.2.1; omega) (by have := hx.2.1; have := hy.1; omega))) h hs
  case lmul => exact z_b2_ok (fun x y a b hx hy => by
    obtain ⟨h1, h2⟩ := z_mul_in (a := z_iv x) (b := z_iv y) hx.1 hx.2.1 hy.1 hy.2.1
    exact z_ti_gi64 (z_r64_in (Int64.toInt_mul a b) h1 h2)) h hs
  case ldiv => exact z_b2o_ok h hs
  case lrem => exact z_b2o_ok h hs
  case lcmp =>
    have h : z_b2c z_cmp64 ast = some ast' := h
    unfold z_b2c at h
    split at h
    · cases h
      match st, hs with
      | _ :: _ :: st, ⟨⟨b, e1, hb⟩, ⟨a, e2, ha⟩, h2⟩ =>
        subst e1; subst e2
        exact ⟨_, rfl, ⟨_, rfl, z_cmp64_gi ha hb⟩, h2⟩
    · cases h
  case dup =>
    have h : z_adup ast = some ast' := h
    unfold z_adup at h
    split at h
    · split at h
      · rename_i hc
        cases h
        match st, hs with
        | v :: st, ⟨h1, h2⟩ => exact ⟨v :: v :: st, by show (if v.category = 1 then some (v :: v :: st) else none) = _; rw [if_pos (by rw [z_acat_eq h1]; exact hc)], h1, h1, h2⟩
      · cases h
    · cases h
  case pop =>
    have h : z_apop ast = some ast' := h
    unfold z_apop at h
    split at h
    · split at h
      · rename_i hc
        cases h
        match st, hs with
        | v :: st, ⟨h1, h2⟩ => exact ⟨st, by show (if v.category = 1 then some st else none) = _; rw [if_pos (by rw [z_acat_eq h1]; exact hc)], h2⟩
      · cases h
    · cases h
  case dup_x1 =>
    have h : z_adupx1 ast = some ast' := h
    unfold z_adupx1 at h
    split at h
    · split at h
      · rename_i hc
        cases h
        match st, hs with
        | v :: w :: st, ⟨h1, h2, h3⟩ => exact ⟨v :: w :: v :: st, by show (if v.category = 1 ∧ w.category = 1 then some (v :: w :: v :: st) else none) = _; rw [if_pos ⟨by rw [z_acat_eq h1]; exact hc.1, by rw [z_acat_eq h2]; exact hc.2⟩], h1, h2, h1, h3⟩
      · cases h
    · cases h
  case dup2 =>
    have h : z_adup2 ast = some ast' := h
    unfold z_adup2 at h
    split at h
    · split at h
      · rename_i hc
        cases h
        match st, hs with
        | v :: w :: st, ⟨h1, h2, h3⟩ => exact ⟨v :: w :: v :: w :: st, by show (if v.category = 1 ∧ w.category = 1 then some (v :: w :: v :: w :: st) else none) = _; rw [if_pos ⟨by rw [z_acat_eq h1]; exact hc.1, by rw [z_acat_eq h2]; exact hc.2⟩], h1, h2, h1, h2, h3⟩
      · cases h
    · cases h
  all_goals (cases h)
end ZAOP
end
section
section ZAJ
/-- facts: does x + k ≤ y follow (exact numbers of two identities)? -/
def z_xt (t : z_tk) : Bool := decide (t.1 ≠ 0) && decide (t.2.1 = t.2.2.1)
def z_ge (F : List (Nat × Nat × Int)) (x y : z_tk) (k : Int) : Bool := z_xt x && z_xt y && ((decide (x.1 = y.1) && decide (x.2.1 + k ≤ y.2.1)) || F.any fun q => decide (q.1 = x.1) && decide (q.2.1 = y.1) && decide (x.2.1 + k ≤ q.2.2 + y.2.1))
theorem z_xt_eq {N : List Int} {t : z_tk} {v : Int} (h : z_xt t = true) (ht : z_gi N t v) : ∃ w, N[t.1]? = some w ∧ v = w + t.2.1 := by
  unfold z_xt at h
  simp only [Bool.and_eq_true, decide_eq_true_eq] at h
  obtain ⟨h1, h2⟩ := h
  obtain ⟨-, -, h3 | ⟨w, e, h4, h5⟩⟩ := ht
  · exact absurd h3 h1
  · exact ⟨w, e, by omega⟩
theorem z_ge_use {N : List Int} {F : List (Nat × Nat × Int)} {x y : z_tk} {a b k : Int} (hF : z_gx N F) (h : z_ge F x y k = true) (hx : z_gi N x a) (hy : z_gi N y b) : a + k ≤ b := by
  unfold z_ge at h
  simp only [Bool.and_eq_true, Bool.or_eq_true, decide_eq_true_eq] at h
  obtain ⟨⟨h1, h2⟩, h3⟩ := h
  obtain ⟨w, e1, rfl⟩ := z_xt_eq h1 hx
  obtain ⟨u, e2, rfl⟩ := z_xt_eq h2 hy
  rcases h3 with ⟨h3, h4⟩ | h3
  · rw [h3] at e1
    have : w = u := Option.some.inj (e1.symm.trans e2)
    omega
  · obtain ⟨q, hq, h4⟩ := List.any_eq_true.mp h3
    simp only [Bool.and_eq_true, decide_eq_true_eq] at h4
    obtain ⟨⟨h5, h6⟩, h7⟩ := h4
    obtain ⟨a', b', g1, g2, g3⟩ := hF q hq
    rw [h5] at g1
    rw [h6] at g2
    have : a' = w := Option.some.inj (g1.symm.trans e1)
    have : b' = u := Option.some.inj (g2.symm.trans e2)
    omega
/-- what is left of two intervals: x ≤ y + k -/
def z_cutle (F : List (Nat × Nat × Int)) (x y : z_tk) (k : Int) : Option (z_I × z_I) := if z_lo x ≤ z_hi y + k ∧ z_ge F y x (k + 1) = false then some ((z_lo x, min (z_hi x) (z_hi y + k)), (max (z_lo y) (z_lo x - k), z_hi y)) else none
def z_cuteq (F : List (Nat × Nat × Int)) (x y : z_tk) : Option (z_I × z_I) := if max (z_lo x) (z_lo y) ≤ min (z_hi x) (z_hi y) ∧ z_ge F y x 1 = false ∧ z_ge F x y 1 = false then some ((max (z_lo x) (z_lo y), min (z_hi x) (z_hi y)), (max (z_lo x) (z_lo y), min (z_hi x) (z_hi y))) else none
/-- an interval without an end -/
def z_cutoff (x y : z_tk) : z_I := if z_one (z_iv y) then (if z_lo x = z_lo y then z_lo x + 1 else z_lo x, if z_hi x = z_lo y then z_hi x - 1 else z_hi x) else z_iv x
def z_cutne (F : List (Nat × Nat × Int)) (x y : z_tk) : Option (z_I × z_I) := if (z_cutoff x y).1 ≤ (z_cutoff x y).2 ∧ (z_cutoff y x).1 ≤ (z_cutoff y x).2 ∧ (z_ge F x y 0 && z_ge F y x 0) = false then some (z_cutoff x y, z_cutoff y x) else none
def z_cut (F : List (Nat × Nat × Int)) (c : ClassFile.Cond) (b : Bool) (x y : z_tk) : Option (z_I × z_I) := match c, b with
  | .eq, true => z_cuteq F x y
  | .ne, false => z_cuteq F x y
  | .eq, false => z_cutne F x y
  | .ne, true => z_cutne F x y
  | .lt, true => z_cutle F x y (-1)
  | .ge, false => z_cutle F x y (-1)
  | .le, true => z_cutle F x y 0
  | .gt, false => z_cutle F x y 0
  | .gt, true => (z_cutle F y x (-1)).map fun q => (q.2, q.1)
  | .le, false => (z_cutle F y x (-1)).map fun q => (q.2, q.1)
  | .ge, true => (z_cutle F y x 0).map fun q => (q.2, q.1)
  | .lt, false => (z_cutle F y x 0).map fun q => (q.2, q.1)
variable {N : List Int} {F : List (Nat × Nat × Int)} {x y : z_tk} {a b : Int}
theorem z_cutle_ok (hF : z_gx N F) (hx : z_gi N x a) (hy : z_gi N y b) {k : Int} (h : a ≤ b + k) : ∃ r, z_cutle F x y k = some r ∧ r.1.1 ≤ a ∧ a ≤ r.1.2 ∧ r.2.1 ≤ b ∧ b ≤ r.2.2 := by
  unfold z_cutle
  obtain ⟨x1, x2, x3⟩ := id hx
  obtain ⟨y1, y2, y3⟩ := id hy
  rw [if_pos]
  · exact ⟨_, rfl, by show z_lo x ≤ a; omega, by show a ≤ min (z_hi x) (z_hi y + k); omega, by show max (z_lo y) (z_lo x - k) ≤ b; omega, by show b ≤ z_hi y; omega⟩
  · refine ⟨by omega, ?_⟩
    cases hg : z_ge F y x (k + 1) with
    | false => rfl
    | true =>
      have := z_ge_use hF hg hy hx
      omega
theorem z_cuteq_ok (hF : z_gx N F) (hx : z_gi N x a) (hy : z_gi N y b) (h : a = b) : ∃ r, z_cuteq F x y = some r ∧ r.1.1 ≤ a ∧ a ≤ r.1.2 ∧ r.2.1 ≤ b ∧ b ≤ r.2.2 := by
  unfold z_cuteq
  obtain ⟨x1, x2, x3⟩ := id hx
  obtain ⟨y1, y2, y3⟩ := id hy
  rw [if_pos]
  · exact ⟨_, rfl, by show max (z_lo x) (z_lo y) ≤ a; omega, by show a ≤ min (z_hi x) (z_hi y); omega, by show max (z_lo x) (z_lo y) ≤ b; omega, by show b ≤ min (z_hi x) (z_hi y); omega⟩
  · refine ⟨by omega, ?_, ?_⟩
    · cases hg : z_ge F y x 1 with
      | false => rfl
      | true =>
        have := z_ge_use hF hg hy hx
        omega
    · cases hg : z_ge F x y 1 with
      | false => rfl
      | true =>
        have := z_ge_use hF hg hx hy
        omega
theorem z_cutoff_ok {x y : z_tk} {a b : Int} (hx : z_gi N x a) (hy : z_gi N y b) (h : a ≠ b) : (z_cutoff x y).1 ≤ a ∧ a ≤ (z_cutoff x y).2 := by
  obtain ⟨x1, x2, -⟩ := hx
  obtain ⟨y1, y2, -⟩ := hy
  unfold z_cutoff
  split
  · rename_i h1
    have e : z_lo y = z_hi y := by simpa [z_one, z_iv, z_lo, z_hi] using h1
    refine ⟨?_, ?_⟩
    · show (if z_lo x = z_lo y then z_lo x + 1 else z_lo x) ≤ a
      split <;> omega
    · show a ≤ (if z_hi x = z_lo y then z_hi x - 1 else z_hi x)
      split <;> omega
  · exact ⟨x1, x2⟩
theorem z_cutne_ok (hF : z_gx N F) (hx : z_gi N x a) (hy : z_gi N y b) (h : a ≠ b) : ∃ r, z_cutne F x y = some r ∧ r.1.1 ≤ a ∧ a ≤ r.1.2 ∧ r.2.1 ≤ b ∧ b ≤ r.2.2 := by
  have g1 := z_cutoff_ok hx hy h
  have g2 := z_cutoff_ok hy hx (Ne.symm h)
  unfold z_cutne
  rw [if_pos]
  · exact ⟨_, rfl, g1.1, g1.2, g2.1, g2.2⟩
  · refine ⟨by omega, by omega, ?_⟩
    cases h1 : z_ge F x y 0 with
    | false => rfl
    | true =>
      cases h2 : z_ge F y x 0 with
      | false => rfl
      | true =>
        have := z_ge_use hF h1 hx hy
        have := z_ge_use hF h2 hy hx
        omega
theorem z_cut_ok (hF : z_gx N F) {c : ClassFile.Cond} {u v : Int32} (hx : z_gi N x u.toInt) (hy : z_gi N y v.toInt) : ∃ r, z_cut F c (z_cmp c u v) x y = some r ∧ r.1.1 ≤ u.toInt ∧ u.toInt ≤ r.1.2 ∧ r.2.1 ≤ v.toInt ∧ v.toInt ≤ r.2.2 := by
  have sw : ∀ {k : Int}, v.toInt ≤ u.toInt + k → ∃ r, (z_cutle F y x k).map (fun q => (q.2, q.1)) = some r ∧ r.1.1 ≤ u.toInt ∧ u.toInt ≤ r.1.2 ∧ r.2.1 ≤ v.toInt ∧ v.toInt ≤ r.2.2 := fun {k} h => by
    obtain ⟨r, h1, h2, h3, h4, h5⟩ := z_cutle_ok hF hy hx h
    exact ⟨(r.2, r.1), by rw [h1]; rfl, h4, h5, h2, h3⟩
  have eqi : u = v ↔ u.toInt = v.toInt := ⟨fun h => by rw [h], fun h => Int32.toInt_inj.mp h⟩
  have lti : u < v ↔ u.toInt < v.toInt := Int32.lt_iff_toInt_lt
  have gti : v < u ↔ v.toInt < u.toInt := Int32.lt_iff_toInt_lt
  have lei : u ≤ v ↔ u.toInt ≤ v.toInt := Int32.le_iff_toInt_le
  have gei : v ≤ u ↔ v.toInt ≤ u.toInt := Int32.le_iff_toInt_le
  cases c
  case eq =>
    by_cases h : u = v
    · rw [show z_cmp .eq u v = true by simp [z_cmp, h]]
      exact z_cuteq_ok hF hx hy (eqi.mp h)
    · rw [show z_cmp .eq u v = false by simp [z_cmp, h]]
      exact z_cutne_ok hF hx hy (fun q => h (eqi.mpr q))
  case ne =>
    by_cases h : u = v
    · rw [show z_cmp .ne u v = false by simp [z_cmp, h]]
      exact z_cuteq_ok hF hx hy (eqi.mp h)
    · rw [show z_cmp .ne u v = true by simp [z_cmp, h]]
      exact z_cutne_ok hF hx hy (fun q => h (eqi.mpr q))
  case lt =>
    by_cases h : u < v
    · rw [show z_cmp .lt u v = true by simp [z_cmp, h]]
      exact z_cutle_ok hF hx hy (by have := lti.mp h; omega)
    · rw [show z_cmp .lt u v = false by simp [z_cmp, h]]
      exact sw (by have : ¬ u.toInt < v.toInt := fun q => h (lti.mpr q); omega)
  case ge =>
    by_cases h : v ≤ u
    · rw [show z_cmp .ge u v = true by simp [z_cmp, h]]
      exact sw (by have := gei.mp h; omega)
    · rw [show z_cmp .ge u v = false by simp [z_cmp, h]]
      exact z_cutle_ok hF hx hy (by have : ¬ v.toInt ≤ u.toInt := fun q => h (gei.mpr q); omega)
  case gt =>
    by_cases h : v < u
    · rw [show z_cmp .gt u v = true by simp [z_cmp, h]]
      exact sw (by have := gti.mp h; omega)
    · rw [show z_cmp .gt u v = false by simp [z_cmp, h]]
      exact z_cutle_ok hF hx hy (by have : ¬ v.toInt < u.toInt := fun q => h (gti.mpr q); omega)
  case le =>
    by_cases h : u ≤ v
    · rw [show z_cmp .le u v = true by simp [z_cmp, h]]
      exact z_cutle_ok hF hx hy (by have := lei.mp h; omega)
    · rw [show z_cmp .le u v = false by simp [z_cmp, h]]
      exact sw (by have : ¬ u.toInt ≤ v.toInt := fun q => h (lei.mpr q); omega)
end ZAJ
end
section
section ZAL
variable {N : List Int} {al : Nat → Option Nat}
/-- may the entry of k be a wide one? -/
def z_awide (L : List (Nat × z_av)) (k : Nat) : Bool := match z_aget L k with
  | some t => z_acat t == 2
  | none => true
def z_aset1 (L : List (Nat × z_av)) (i : Nat) (t : z_av) : List (Nat × z_av) := (i, t) :: L.filter (fun q => !(q.1 == i) && !(q.1 + 1 == i && z_awide L q.1))
def z_aset2 (L : List (Nat × z_av)) (i : Nat) (t : z_av) : List (Nat × z_av) := (i, t) :: L.filter (fun q => !(q.1 == i) && (!(q.1 == i + 1) && !(q.1 + 1 == i && z_awide L q.1)))
theorem z_aget_filter (p : Nat → Bool) : ∀ (L : List (Nat × z_av)) (j : Nat), z_aget (L.filter fun q => p q.1) j = if p j = true then z_aget L j else none
  | [], j => by simp [z_aget]
  | q :: r, j => by
    have ih := z_aget_filter p r j
    by_cases hp : p q.1 = true
    · rw [List.filter_cons_of_pos (p := fun q : Nat × z_av => p q.1) (a := q) (l := r) hp]
      show (if q.1 == j then some q.2 else z_aget (r.filter fun q => p q.1) j) = if p j = true then (if q.1 == j then some q.2 else z_aget r j) else none
      rw [ih]
      by_cases hj : q.1 = j
      · subst hj
        simp [hp]
      · simp [hj]
    · rw [List.filter_cons_of_neg (p := fun q : Nat × z_av => p q.1) (a := q) (l := r) hp, ih]
      show _ = if p j = true then (if q.1 == j then some q.2 else z_aget r j) else none
      by_cases hj : q.1 = j
      · subst hj
        simp [hp]
      · simp [hj]
theorem z_get_keep {p : Nat × Value → Bool} {j : Nat} {w : Value} (hp : p (j, w) = true) : ∀ {l : z_L}, z_get l j = some w → (∀ q, q.1 = j → q.2 = w → p q = true) → z_get (l.filter p) j = some w
  | [], h, _ => by cases h
  | q :: r, h, hq => by
    unfold z_get at h
    split at h
    · rename_i e
      have e' : q.1 = j := by simpa using e
      cases h
      rw [List.filter_cons_of_pos (hq q e' rfl)]
      unfold z_get
      rw [if_pos e]
    · rename_i e
      have ih := z_get_keep hp h hq
      by_cases h2 : p q = true
      · rw [List.filter_cons_of_pos h2]
        unfold z_get
        rw [if_neg e]
        exact ih
      · rw [List.filter_cons_of_neg h2]
        exact ih
theorem z_aset1_ok {L : List (Nat × z_av)} {l : z_L} {i : Nat} {t : z_av} {v : Value} (hL : z_gl N al L l) (ht : z_gv N al t v) : z_gl N al (z_aset1 L i t) (z_set1 l i v) := by
  intro j u hu
  unfold z_aset1 at hu
  have hu : (if i == j then some t else z_aget (L.filter fun q => !(q.1 == i) && !(q.1 + 1 == i && z_awide L q.1)) j) = some u := hu
  by_cases hj : i = j
  · subst hj
    simp at hu
    subst hu
    exact ⟨v, by unfold z_set1 z_get; simp, ht⟩
  · have hne : (i == j) = false := by simpa using hj
    rw [hne] at hu
    rw [if_neg (by decide), z_aget_filter (fun k => !(k == i) && !(k + 1 == i && z_awide L k))] at hu
    split at hu
    · rename_i hp
      obtain ⟨w, h1, h2⟩ := hL j u hu
      refine ⟨w, ?_, h2⟩
      unfold z_set1 z_get
      rw [if_neg (by simpa using hj)]
      simp only [Bool.and_eq_true, Bool.not_eq_true'] at hp
      have hcat : (j + 1 == i && w.category == 2) = false := by
        have h3 := hp.2
        by_cases h4 : j + 1 = i
        · have h5 : z_awide L j = false := by simpa [h4] using h3
          unfold z_awide at h5
          rw [hu] at h5
          have h6 := z_acat_eq h2
          rw [h6]
          simp [h4]
          simpa using h5
        · simp [h4]
      refine z_get_keep ?_ h1 (fun q e1 e2 => ?_)
      · simp only [hcat, hp.1]
        rfl
      · rw [e1, e2, hcat, hp.1]
        rfl
    · cases hu
theorem z_aset2_ok {L : List (Nat × z_av)} {l : z_L} {i : Nat} {t : z_av} {v : Value} (hL : z_gl N al L l) (ht : z_gv N al t v) : z_gl N al (z_aset2 L i t) (z_set2 l i v) := by
  intro j u hu
  unfold z_aset2 at hu
  have hu : (if i == j then some t else z_aget (L.filter fun q => !(q.1 == i) && (!(q.1 == i + 1) && !(q.1 + 1 == i && z_awide L q.1))) j) = some u := hu
  by_cases hj : i = j
  · subst hj
    simp at hu
    subst hu
    exact ⟨v, by unfold z_set2 z_get; simp, ht⟩
  · have hne : (i == j) = false := by simpa using hj
    rw [hne] at hu
    rw [if_neg (by decide), z_aget_filter (fun k => !(k == i) && (!(k == i + 1) && !(k + 1 == i && z_awide L k)))] at hu
    split at hu
    · rename_i hp
      obtain ⟨w, h1, h2⟩ := hL j u hu
      refine ⟨w, ?_, h2⟩
      unfold z_set2 z_get
      rw [if_neg (by simpa using hj)]
      simp only [Bool.and_eq_true, Bool.not_eq_true'] at hp
      have hcat : (j + 1 == i && w.category == 2) = false := by
        have h3 := hp.2.2
        by_cases h4 : j + 1 = i
        · have h5 : z_awide L j = false := by simpa [h4] using h3
          unfold z_awide at h5
          rw [hu] at h5
          have h6 := z_acat_eq h2
          rw [h6]
          simp [h4]
          simpa using h5
        · simp [h4]
      refine z_get_keep ?_ h1 (fun q e1 e2 => ?_)
      · simp only [hcat, hp.1, hp.2.1]
        rfl
      · rw [e1, e2, hcat, hp.1, hp.2.1]
        rfl
    · cases hu
def z_akI : z_av → Bool
  | .inl _ => true
  | _ => false
def z_akL : z_av → Bool
  | .inr (.inl _) => true
  | _ => false
def z_akA : z_av → Bool
  | .inr (.inr _) => true
  | _ => false
theorem z_akI_ok : ∀ {t : z_av} {v : Value}, z_akI t = true → z_gv N al t v → z_isI v = true
  | .inl _, _, _, ⟨_, e, _⟩ => by rw [e]; rfl
  | .inr _, _, h, _ => by cases h
theorem z_akL_ok : ∀ {t : z_av} {v : Value}, z_akL t = true → z_gv N al t v → z_isL v = true
  | .inr (.inl _), _, _, ⟨_, e, _⟩ => by rw [e]; rfl
  | .inl _, _, h, _ => by cases h
  | .inr (.inr _), _, h, _ => by cases h
theorem z_akA_ok : ∀ {t : z_av} {v : Value}, z_akA t = true → z_gv N al t v → z_isA v = true
  | .inr (.inr _), _, _, Or.inl ⟨e, _⟩ => by rw [e]; rfl
  | .inr (.inr _), _, _, Or.inr ⟨_, _, e, _⟩ => by rw [e]; rfl
  | .inl _, _, h, _ => by cases h
  | .inr (.inl _), _, h, _ => by cases h
def z_ald (k : z_av → Bool) (L : List (Nat × z_av)) (i : Nat) (st : List z_av) : Option (List (Nat × z_av) × List z_av) := match z_aget L i with
  | some t => if k t then some (L, t :: st) else none
  | none => none
def z_ast1 (k : z_av → Bool) (nL : Nat) (L : List (Nat × z_av)) (i : Nat) : List z_av → Option (List (Nat × z_av) × List z_av)
  | t :: st => if k t && decide (i < nL) then some (z_aset1 L i t, st) else none
  | _ => none
def z_ast2 (nL : Nat) (L : List (Nat × z_av)) (i : Nat) : List z_av → Option (List (Nat × z_av) × List z_av)
  | .inr (.inl t) :: st => if i + 1 < nL then some (z_aset2 L i (.inr (.inl t)), st) else none
  | _ => none
def z_ainc (nL : Nat) (L : List (Nat × z_av)) (i : Nat) (n : Int) (st : List z_av) : Option (List (Nat × z_av) × List z_av) := match z_aget L i with
  | some (.inl t) => if i < nL then some (z_aset1 L i (.inl (z_ex2 (fun a b => a + b) z_add32 t (z_tc (Int32.ofInt n).toInt))), st) else none
  | _ => none
def z_aloc (nL : Nat) : Instr → List (Nat × z_av) → List z_av → Option (List (Nat × z_av) × List z_av)
  | .iload i => fun l st => z_ald z_akI l i st
  | .iload_n i => fun l st => z_ald z_akI l i st
  | .lload i => fun l st => z_ald z_akL l i st
  | .lload_n i => fun l st => z_ald z_akL l i st
  | .aload i => fun l st => z_ald z_akA l i st
  | .aload_n i => fun l st => z_ald z_akA l i st
  | .istore i => fun l st => z_ast1 z_akI nL l i st
  | .istore_n i => fun l st => z_ast1 z_akI nL l i st
  | .astore i => fun l st => z_ast1 z_akA nL l i st
  | .astore_n i => fun l st => z_ast1 z_akA nL l i st
  | .lstore i => fun l st => z_ast2 nL l i st
  | .lstore_n i => fun l st => z_ast2 nL l i st
  | .iinc i n => fun l st => z_ainc nL l i n st
  | _ => fun _ _ => none
theorem z_ald_ok {ka : z_av → Bool} {k : Value → Bool} (hk : ∀ {t v}, ka t = true → z_gv N al t v → k v = true) {L L' : List (Nat × z_av)} {l : z_L} {i : Nat} {ast ast' : List z_av} {st : List Value} (h : z_ald ka L i ast = some (L', ast')) (hL : z_gl N al L l) (hs : z_all2 (z_gv N al) ast st) : ∃ l' st', z_ld k l i st = some (l', st') ∧ z_gl N al L' l' ∧ z_all2 (z_gv N al) ast' st' := by
  unfold z_ald at h
  split at h
  · rename_i t ht
    split at h
    · rename_i hkt
      cases h
      obtain ⟨v, h1, h2⟩ := hL i t ht
      refine ⟨l, v :: st, ?_, hL, h2, hs⟩
      unfold z_ld
      rw [h1]
      show (if k v = true then some (l, v :: st) else none) = _
      rw [if_pos (hk hkt h2)]
    · cases h
  · cases h
theorem z_ast1_ok {ka : z_av → Bool} {k : Value → Bool} (hk : ∀ {t v}, ka t = true → z_gv N al t v → k v = true) {nL : Nat} {L L' : List (Nat × z_av)} {l : z_L} {i : Nat} {ast ast' : List z_av} {st : List Value} (h : z_ast1 ka nL L i ast = some (L', ast')) (hL : z_gl N al L l) (hs : z_all2 (z_gv N al) ast st) : ∃ l' st', z_st1 k nL l i st = some (l', st') ∧ z_gl N al L' l' ∧ z_all2 (z_gv N al) ast' st' := by
  unfold z_ast1 at h
  split at h
  · split at h
    · rename_i hkt
      rw [Bool.and_eq_true] at hkt
      cases h
      match st, hs with
      | v :: st, ⟨h1, h2⟩ =>
        refine ⟨z_set1 l i v, st, ?_, z_aset1_ok hL h1, h2⟩
        show (if (k v && decide (i < nL)) = true then some (z_set1 l i v, st) else none) = _
        rw [if_pos (by rw [Bool.and_eq_true]; exact ⟨hk hkt.1 h1, hkt.2⟩)]
    · cases h
  · cases h
theorem z_ast2_ok {nL : Nat} {L L' : List (Nat × z_av)} {l : z_L} {i : Nat} {ast ast' : List z_av} {st : List Value} (h : z_ast2 nL L i ast = some (L', ast')) (hL : z_gl N al L l) (hs : z_all2 (z_gv N al) ast st) : ∃ l' st', z_st2 nL l i st = some (l', st') ∧ z_gl N al L' l' ∧ z_all2 (z_gv N al) ast' st' := by
  unfold z_ast2 at h
  split at h
  · split at h
    · rename_i hi
      cases h
      match st, hs with
      | v :: st, ⟨h1, h2⟩ =>
        obtain ⟨x, e, hx⟩ := id h1
        subst e
        refine ⟨z_set2 l i (.long x), st, ?_, z_aset2_ok hL h1, h2⟩
        show (if i + 1 < nL then some (z_set2 l i (.long x), st) else none) = _
        rw [if_pos hi]
    · cases h
  · cases h
theorem z_ainc_ok {nL : Nat} {L L' : List (Nat × z_av)} {l : z_L} {i : Nat} {n : Int} {ast ast' : List z_av} {st : List Value} (h : z_ainc nL L i n ast = some (L', ast')) (hL : z_gl N al L l) (hs : z_all2 (z_gv N al) ast st) : ∃ l' st', z_inc nL l i n st = some (l', st') ∧ z_gl N al L' l' ∧ z_all2 (z_gv N al) ast' st' := by
  unfold z_ainc at h
  split at h
  · rename_i t ht
    split at h
    · rename_i hi
      cases h
      obtain ⟨v, h1, x, e, hx⟩ := hL i _ ht
      subst e
      refine ⟨z_set1 l i (.int (x + Int32.ofInt n)), st, ?_, z_aset1_ok hL ⟨_, rfl, z_ex2_gi hx z_tc_gi (z_add32_gi hx z_tc_gi)⟩, hs⟩
      unfold z_inc
      rw [h1]
      show (if i < nL then _ else none) = _
      rw [if_pos hi]
    · cases h
  · cases h
theorem z_aloc_ok {nL : Nat} {ins : Instr} {L L' : List (Nat × z_av)} {l : z_L} {ast ast' : List z_av} {st : List Value} (h : z_aloc nL ins L ast = some (L', ast')) (hL : z_gl N al L l) (hs : z_all2 (z_gv N al) ast st) : ∃ l' st', z_loc nL ins l st = some (l', st') ∧ z_gl N al L' l' ∧ z_all2 (z_gv N al) ast' st' := by
  cases ins
  case iload i => exact z_ald_ok (fun h1 h2 => z_akI_ok h1 h2) h hL hs
  case iload_n i => exact z_ald_ok (fun h1 h2 => z_akI_ok h1 h2) h hL hs
  case lload i => exact z_ald_ok (fun h1 h2 => z_akL_ok h1 h2) h hL hs
  case lload_n i => exact z_ald_ok (fun h1 h2 => z_akL_ok h1 h2) h hL hs
  case aload i => exact z_ald_ok (fun h1 h2 => z_akA_ok h1 h2) h hL hs
  case aload_n i => exact z_ald_ok (fun h1 h2 => z_akA_ok h1 h2) h hL hs
  case istore i => exact z_ast1_ok (fun h1 h2 => z_akI_ok h1 h2) h hL hs
  case istore_n i => exact z_ast1_ok (fun h1 h2 => z_akI_ok h1 h2) h hL hs
  case astore i => exact z_ast1_ok (fun h1 h2 => z_akA_ok h1 h2) h hL hs
  case astore_n i => exact z_ast1_ok (fun h1 h2 => z_akA_ok h1 h2) h hL hs
  case lstore i => exact z_ast2_ok h hL hs
  case lstore_n i => exact z_ast2_ok h hL hs
  case iinc i n => exact z_ainc_ok h hL hs
  all_goals (cases h)
end ZAL
end
section
section ZABR
variable {strs : List (List Int32)} {N : List Int} {al : Nat → Option Nat}
def z_go (S : z_as_) (t : Nat) (L : List (Nat × z_av)) (r : List z_av) : z_as_ := ((S.1.1, t, L, r, S.1.2.2.2.2), S.2)
theorem z_go_gs {S : z_as_} {f : z_Fr} {rest : List z_Fr} {P : z_H} {t : Nat} {L : List (Nat × z_av)} {l : z_L} {r : List z_av} {r' : List Value} (hS : z_gs strs N al S f rest P) (hL : z_gl N al L l) (hr : z_all2 (z_gv N al) r r') : z_gs strs N al (z_go S t L r) (f.1, t, l, r', f.2.2.2.2.1, f.2.2.2.2.2) rest P := by
  obtain ⟨⟨h1, h2, h3, h4, h5, h6⟩, h7⟩ := hS
  exact ⟨⟨h1, rfl, hL, hr, h5, h6⟩, h7⟩
def z_nar (x : z_tk) (i : z_I) (S : z_as_) : z_as_ := z_cls_ x.1 (i.1 - x.2.2.1) (i.2 - x.2.1) S
theorem z_nar_gs {S : z_as_} {f : z_Fr} {rest : List z_Fr} {P : z_H} {x : z_tk} {i : z_I} {v : Int} (hx : z_gi N x v) (h1 : i.1 ≤ v) (h2 : v ≤ i.2) (hS : z_gs strs N al S f rest P) : z_gs strs N al (z_nar x i S) f rest P := by
  refine z_cls_gs (fun hk => ?_) hS
  obtain ⟨-, -, h0 | ⟨w, e, h4, h5⟩⟩ := hx
  · exact absurd h0 hk
  · exact ⟨w, e, by omega, by omega⟩
def z_addf (X : List (Nat × Nat × Int)) (S : z_as_) : z_as_ := (S.1, S.2.1, S.2.2.1, S.2.2.2.1, X ++ S.2.2.2.2.1, S.2.2.2.2.2)
theorem z_addf_gs {S : z_as_} {f : z_Fr} {rest : List z_Fr} {P : z_H} {X : List (Nat × Nat × Int)} (hX : z_gx N X) (hS : z_gs strs N al S f rest P) : z_gs strs N al (z_addf X S) f rest P := by
  obtain ⟨h1, h2, h3, h4, h5, h6⟩ := hS
  refine ⟨h1, h2, h3, h4, fun q hq => ?_, h6⟩
  rcases List.mem_append.mp hq with hq | hq
  · exact hX q hq
  · exact h5 q hq
/-- x + k ≤ y as a fact -/
def z_f1 (x y : z_tk) (k : Int) : List (Nat × Nat × Int) := if z_xt x && z_xt y then [(x.1, y.1, x.2.1 + k - y.2.1)] else []
theorem z_f1_ok {x y : z_tk} {a b k : Int} (hx : z_gi N x a) (hy : z_gi N y b) (h : a + k ≤ b) : z_gx N (z_f1 x y k) := by
  unfold z_f1
  split
  · rename_i hc
    rw [Bool.and_eq_true] at hc
    obtain ⟨w, e1, r1⟩ := z_xt_eq hc.1 hx
    obtain ⟨u, e2, r2⟩ := z_xt_eq hc.2 hy
    intro q hq
    rw [List.mem_singleton] at hq
    subst hq
    exact ⟨w, u, e1, e2, by show w + (x.2.1 + k - y.2.1) ≤ u; omega⟩
  · intro q hq
    cases hq
theorem z_gx_app {X Y : List (Nat × Nat × Int)} (h1 : z_gx N X) (h2 : z_gx N Y) : z_gx N (X ++ Y) := by
  intro q hq
  rcases List.mem_append.mp hq with hq | hq
  · exact h1 q hq
  · exact h2 q hq
theorem z_gx_nil : z_gx N [] := fun q hq => by cases hq
def z_fcts (c : ClassFile.Cond) (b : Bool) (x y : z_tk) : List (Nat × Nat × Int) := match c, b with
  | .eq, true => z_f1 x y 0 ++ z_f1 y x 0
  | .ne, false => z_f1 x y 0 ++ z_f1 y x 0
  | .lt, true => z_f1 x y 1
  | .ge, false => z_f1 x y 1
  | .le, true => z_f1 x y 0
  | .gt, false => z_f1 x y 0
  | .gt, true => z_f1 y x 1
  | .le, false => z_f1 y x 1
  | .ge, true => z_f1 y x 0
  | .lt, false => z_f1 y x 0
  | _, _ => []
theorem z_fcts_ok {c : ClassFile.Cond} {x y : z_tk} {u v : Int32} (hx : z_gi N x u.toInt) (hy : z_gi N y v.toInt) : z_gx N (z_fcts c (z_cmp c u v) x y) := by
  have eqi : u = v ↔ u.toInt = v.toInt := ⟨fun h => by rw [h], fun h => Int32.toInt_inj.mp h⟩
  have lti : u < v ↔ u.toInt < v.toInt := Int32.lt_iff_toInt_lt
  have gti : v < u ↔ v.toInt < u.toInt := Int32.lt_iff_toInt_lt
  have lei : u ≤ v ↔ u.toInt ≤ v.toInt := Int32.le_iff_toInt_le
  have gei : v ≤ u ↔ v.toInt ≤ u.toInt := Int32.le_iff_toInt_le
  cases c
  case eq =>
    by_cases h : u = v
    · rw [show z_cmp .eq u v = true by simp [z_cmp, h]]
      have := eqi.mp h
      exact z_gx_app (z_f1_ok hx hy (by omega)) (z_f1_ok hy hx (by omega))
    · rw [show z_cmp .eq u v = false by simp [z_cmp, h]]
      exact z_gx_nil
  case ne =>
    by_cases h : u = v
    · rw [show z_cmp .ne u v = false by simp [z_cmp, h]]
      have := eqi.mp h
      exact z_gx_app (z_f1_ok hx hy (by omega)) (z_f1_ok hy hx (by omega))
    · rw [show z_cmp .ne u v = true by simp [z_cmp, h]]
      exact z_gx_nil
  case lt =>
    by_cases h : u < v
    · rw [show z_cmp .lt u v = true by simp [z_cmp, h]]
      exact z_f1_ok hx hy (by have := lti.mp h; omega)
    · rw [show z_cmp .lt u v = false by simp [z_cmp, h]]
      exact z_f1_ok hy hx (by have : ¬ u.toInt < v.toInt := fun q => h (lti.mpr q); omega)
  case ge =>
    by_cases h : v ≤ u
    · rw [show z_cmp .ge u v = true by simp [z_cmp, h]]
      exact z_f1_ok hy hx (by have := gei.mp h; omega)
    · rw [show z_cmp .ge u v = false by simp [z_cmp, h]]
      exact z_f1_ok hx hy (by have : ¬ v.toInt ≤ u.toInt := fun q => h (gei.mpr q); omega)
  case gt =>
    by_cases h : v < u
    · rw [show z_cmp .gt u v = true by simp [z_cmp, h]]
      exact z_f1_ok hy hx (by have := gti.mp h; omega)
    · rw [show z_cmp .gt u v = false by simp [z_cmp, h]]
      exact z_f1_ok hx hy (by have : ¬ v.toInt < u.toInt := fun q => h (gti.mpr q); omega)
  case le =>
    by_cases h : u ≤ v
    · rw [show z_cmp .le u v = true by simp [z_cmp, h]]
      exact z_f1_ok hx hy (by have := lei.mp h; omega)
    · rw [show z_cmp .le u v = false by simp [z_cmp, h]]
      exact z_f1_ok hy hx (by have : ¬ u.toInt ≤ v.toInt := fun q => h (lei.mpr q); omega)
/-- the branch b of a compare -/
def z_br (S : z_as_) (t : Nat) (r : List z_av) (c : ClassFile.Cond) (b : Bool) (x y : z_tk) : List z_as_ := match z_cut S.2.2.2.2.1 c b x y with
  | none => []
  | some q => [z_nar x q.1 (z_nar y q.2 (z_addf (z_fcts c b x y) (z_go S t S.1.2.2.1 r)))]
theorem z_br_ok {S : z_as_} {f : z_Fr} {rest : List z_Fr} {P : z_H} {t : Nat} {r : List z_av} {r' : List Value} {c : ClassFile.Cond} {x y : z_tk} {u v : Int32} (hx : z_gi N x u.toInt) (hy : z_gi N y v.toInt) (hS : z_gs strs N al S f rest P) (hr : z_all2 (z_gv N al) r r') : ∃ S' ∈ z_br S t r c (z_cmp c u v) x y, z_gs strs N al S' (f.1, t, f.2.2.1, r', f.2.2.2.2.1, f.2.2.2.2.2) rest P := by
  obtain ⟨q, h1, h2, h3, h4, h5⟩ := z_cut_ok (c := c) hS.2.2.2.2.1 hx hy
  unfold z_br
  rw [h1]
  exact ⟨_, List.mem_singleton_self _, z_nar_gs hx h2 h3 (z_nar_gs hy h4 h5 (z_addf_gs (z_fcts_ok hx hy) (z_go_gs hS hS.1.2.2.1 hr)))⟩
/-- the places of a switch, from the k-th on -/
def z_sws (S : z_as_) (r : List z_av) (x : z_tk) (pc : Nat) : Int → List Int → Option (List z_as_)
  | _, [] => some []
  | k, off :: offs => if z_lo x ≤ k ∧ k ≤ z_hi x then (match z_tg pc off, z_sws S r x pc (k + 1) offs with
      | some t, some W => some (z_nar x (k, k) (z_go S t S.1.2.2.1 r) :: W)
      | _, _ => none) else z_sws S r x pc (k + 1) offs
theorem z_sws_ok {S : z_as_} {f : z_Fr} {rest : List z_Fr} {P : z_H} {r : List z_av} {r' : List Value} {x : z_tk} {pc : Nat} {u : Int} (hx : z_gi N x u) (hS : z_gs strs N al S f rest P) (hr : z_all2 (z_gv N al) r r') : ∀ {offs : List Int} {k : Int} {W : List z_as_}, z_sws S r x pc k offs = some W → k ≤ u → u < k + offs.length → ∃ off t, offs[(u - k).toNat]? = some off ∧ z_tg pc off = some t ∧ ∃ S' ∈ W, z_gs strs N al S' (f.1, t, f.2.2.1, r', f.2.2.2.2.1, f.2.2.2.2.2) rest P
  | [], k, W, _, h1, h2 => by simp at h2; omega
  | off :: offs, k, W, h, h1, h2 => by
    unfold z_sws at h
    by_cases hu : u = k
    · subst hu
      rw [if_pos ⟨hx.1, hx.2.1⟩] at h
      split at h
      · rename_i t W' ht hW
        cases h
        exact ⟨off, t, by simp, ht, _, List.mem_cons_self, z_nar_gs hx (by show u ≤ u; omega) (by show u ≤ u; omega) (z_go_gs hS hS.1.2.2.1 hr)⟩
      · cases h
    · have hlen : u < (k + 1) + offs.length := by
        simp at h2
        omega
      have hidx : ∀ o, offs[(u - (k + 1)).toNat]? = some o → (off :: offs)[(u - k).toNat]? = some o := fun o ho => by
        rw [show (u - k).toNat = (u - (k + 1)).toNat + 1 by omega]
        simpa using ho
      split at h
      · split at h
        · rename_i t W' ht hW
          cases h
          obtain ⟨o, t', g1, g2, S', g3, g4⟩ := z_sws_ok hx hS hr hW (by omega) hlen
          exact ⟨o, t', hidx o g1, g2, S', List.mem_cons_of_mem _ g3, g4⟩
        · cases h
      · obtain ⟨o, t', g1, g2, S', g3, g4⟩ := z_sws_ok hx hS hr h (by omega) hlen
        exact ⟨o, t', hidx o g1, g2, S', g3, g4⟩
def z_sw (S : z_as_) (r : List z_av) (x : z_tk) (pc : Nat) (dflt lo hi : Int) (offs : List Int) : Option (List z_as_) := match z_sws S r x pc lo offs, z_tg pc dflt with
  | some W, some t => if hi + 1 = lo + offs.length then some (W ++ ((if z_lo x < lo then [z_nar x (z_lo x, lo - 1) (z_go S t S.1.2.2.1 r)] else []) ++ (if hi < z_hi x then [z_nar x (hi + 1, z_hi x) (z_go S t S.1.2.2.1 r)] else []))) else none
  | _, _ => none
/-- jumps -/
def z_ajmp (S : z_as_) : Instr → Nat → List z_av → Option (List z_as_)
  | .goto off => fun pc st => (z_tg pc off).map fun t => [z_go S t S.1.2.2.1 st]
  | .ifCond c off => fun pc st => match st with
    | .inl x :: r => (z_tg pc off).map fun t => z_br S t r c true x (z_tc 0) ++ z_br S (pc + 3) r c false x (z_tc 0)
    | _ => none
  | .if_icmp c off => fun pc st => match st with
    | .inl y :: .inl x :: r => (z_tg pc off).map fun t => z_br S t r c true x y ++ z_br S (pc + 3) r c false x y
    | _ => none
  | .ifnull off => fun pc st => match st with
    | .inr (.inr q) :: r => (z_tg pc off).map fun t => (if q.1 then [z_go S t S.1.2.2.1 r] else []) ++ (if q.2.isEmpty then [] else [z_go S (pc + 3) S.1.2.2.1 r])
    | _ => none
  | .ifnonnull off => fun pc st => match st with
    | .inr (.inr q) :: r => (z_tg pc off).map fun t => (if q.1 then [z_go S (pc + 3) S.1.2.2.1 r] else []) ++ (if q.2.isEmpty then [] else [z_go S t S.1.2.2.1 r])
    | _ => none
  | .tableswitch dflt lo hi offs => fun pc st => match st with
    | .inl x :: r => z_sw S r x pc dflt lo hi offs.toList
    | _ => none
  | _ => fun _ _ => none
theorem z_zero_gi : z_gi N (z_tc 0) (0 : Int32).toInt := z_tc_gi
theorem z_ajmp_ok {S : z_as_} {ins : Instr} {pc : Nat} {Ss : List z_as_} {ast : List z_av} {f : z_Fr} {rest : List z_Fr} {P : z_H} {st : List Value} (h : z_ajmp S ins pc ast = some Ss) (hS : z_gs strs N al S f rest P) (hs : z_all2 (z_gv N al) ast st) : ∃ q, z_jmp ins pc st = some q ∧ ∃ S' ∈ Ss, z_gs strs N al S' (f.1, q.1, f.2.2.1, q.2, f.2.2.2.2.1, f.2.2.2.2.2) rest P := by
  cases ins
  case goto off =>
    obtain ⟨t, h1, h2⟩ := z_map_some h
    subst h2
    exact ⟨(t, st), by show (z_tg pc off).map _ = _; rw [h1]; rfl, _, List.mem_singleton_self _, z_go_gs hS hS.1.2.2.1 hs⟩
  case ifCond c off =>
    unfold z_ajmp at h
    dsimp only at h
    split at h
    · obtain ⟨t, h1, h2⟩ := z_map_some h
      subst h2
      match st, hs with
      | _ :: st, ⟨⟨u, e, hu⟩, hr⟩ =>
        subst e
        refine ⟨(if z_cmp c u 0 then t else pc + 3, st), by show (z_tg pc off).map _ = _; rw [h1]; rfl, ?_⟩
        cases hc : z_cmp c u 0 with
        | true =>
          obtain ⟨S', g1, g2⟩ := z_br_ok (t := t) (c := c) (v := 0) hu z_zero_gi hS hr
          rw [hc] at g1
          exact ⟨S', List.mem_append.mpr (Or.inl g1), g2⟩
        | false =>
          obtain ⟨S', g1, g2⟩ := z_br_ok (t := pc + 3) (c := c) (v := 0) hu z_zero_gi hS hr
          rw [hc] at g1
          exact ⟨S', List.mem_append.mpr (Or.inr g1), g2⟩
    · cases h
  case if_icmp c off =>
    unfold z_ajmp at h
    dsimp only at h
    split at h
    · obtain ⟨t, h1, h2⟩ := z_map_some h
      subst h2
      match st, hs with
      | _ :: _ :: st, ⟨⟨v, e1, hv⟩, ⟨u, e2, hu⟩, hr⟩ =>
        subst e1; subst e2
        refine ⟨(if z_cmp c u v then t else pc + 3, st), by show (z_tg pc off).map _ = _; rw [h1]; rfl, ?_⟩
        cases hc : z_cmp c u v with
        | true =>
          obtain ⟨S', g1, g2⟩ := z_br_ok (t := t) (c := c) hu hv hS hr
          rw [hc] at g1
          exact ⟨S', List.mem_append.mpr (Or.inl g1), g2⟩
        | false =>
          obtain ⟨S', g1, g2⟩ := z_br_ok (t := pc + 3) (c := c) hu hv hS hr
          rw [hc] at g1
          exact ⟨S', List.mem_append.mpr (Or.inr g1), g2⟩
    · cases h
  case ifnull off =>
    unfold z_ajmp at h
    dsimp only at h
    split at h
    · rename_i q r
      obtain ⟨t, h1, h2⟩ := z_map_some h
      subst h2
      match st, hs with
      | _ :: st, ⟨Or.inl ⟨e, hq⟩, hr⟩ =>
        subst e
        exact ⟨(t, st), by show (z_tg pc off).map _ = _; rw [h1]; rfl, z_go S t S.1.2.2.1 r, by rw [if_pos hq]; simp, z_go_gs hS hS.1.2.2.1 hr⟩
      | _ :: st, ⟨Or.inr ⟨a, c, e, hq, hc⟩, hr⟩ =>
        subst e
        have hne : q.2 ≠ [] := fun hq2 => by
          rw [hq2] at hc
          cases hc
        exact ⟨(pc + 3, st), rfl, z_go S (pc + 3) S.1.2.2.1 r, by simp [hne], z_go_gs hS hS.1.2.2.1 hr⟩
    · cases h
  case ifnonnull off =>
    unfold z_ajmp at h
    dsimp only at h
    split at h
    · rename_i q r
      obtain ⟨t, h1, h2⟩ := z_map_some h
      subst h2
      match st, hs with
      | _ :: st, ⟨Or.inl ⟨e, hq⟩, hr⟩ =>
        subst e
        exact ⟨(pc + 3, st), rfl, z_go S (pc + 3) S.1.2.2.1 r, by rw [if_pos hq]; simp, z_go_gs hS hS.1.2.2.1 hr⟩
      | _ :: st, ⟨Or.inr ⟨a, c, e, hq, hc⟩, hr⟩ =>
        subst e
        have hne : q.2 ≠ [] := fun hq2 => by
          rw [hq2] at hc
          cases hc
        exact ⟨(t, st), by show (z_tg pc off).map _ = _; rw [h1]; rfl, z_go S t S.1.2.2.1 r, by simp [hne], z_go_gs hS hS.1.2.2.1 hr⟩
    · cases h
  case tableswitch dflt lo hi offs =>
    unfold z_ajmp at h
    dsimp only at h
    split at h
    · rename_i x r
      unfold z_sw at h
      split at h
      · rename_i W t hW ht
        split at h
        · rename_i hlen
          cases h
          match st, hs with
          | _ :: st, ⟨⟨u, e, hu⟩, hr⟩ =>
            subst e
            by_cases hlo : u.toInt < lo
            · refine ⟨(t, st), by show (if u.toInt < lo ∨ hi < u.toInt then (z_tg pc dflt).map _ else _) = _; rw [if_pos (Or.inl hlo), ht]; rfl, z_nar x (z_lo x, lo - 1) (z_go S t S.1.2.2.1 r), ?_, z_nar_gs hu hu.1 (by show u.toInt ≤ lo - 1; omega) (z_go_gs hS hS.1.2.2.1 hr)⟩
              rw [if_pos (show z_lo x < lo by have := hu.1; omega)]
              simp
            · by_cases hhi : hi < u.toInt
              · refine ⟨(t, st), by show (if u.toInt < lo ∨ hi < u.toInt then (z_tg pc dflt).map _ else _) = _; rw [if_pos (Or.inr hhi), ht]; rfl, z_nar x (hi + 1, z_hi x) (z_go S t S.1.2.2.1 r), ?_, z_nar_gs hu (by show hi + 1 ≤ u.toInt; omega) hu.2.1 (z_go_gs hS hS.1.2.2.1 hr)⟩
                rw [if_pos (show hi < z_hi x by have := hu.2.1; omega)]
                simp
              · obtain ⟨off, t', g1, g2, S', g3, g4⟩ := z_sws_ok hu hS hr hW (by omega) (by omega)
                refine ⟨(t', st), ?_, S', List.mem_append.mpr (Or.inl g3), g4⟩
                show (if u.toInt < lo ∨ hi < u.toInt then _ else match offs[(u.toInt - lo).toNat]? with | some off => (z_tg pc off).map _ | none => none) = _
                rw [if_neg (by omega), ← Array.getElem?_toList, g1]
                show (z_tg pc off).map _ = _
                rw [g2]
                rfl
        · cases h
      · cases h
    · cases h
  all_goals (cases h)
end ZABR
end
section
section ZARD
variable {strs : List (List Int32)} {N : List Int} {al : Nat → Option Nat}
/-- two values in one -/
def z_jt (s t : z_tk) : z_tk := if s.1 = t.1 then (s.1, min s.2.1 t.2.1, max s.2.2.1 t.2.2.1, min (z_lo s) (z_lo t), max (z_hi s) (z_hi t)) else (0, 0, 0, min (z_lo s) (z_lo t), max (z_hi s) (z_hi t))
theorem z_jt_l {s t : z_tk} {v : Int} (h : z_gi N s v) : z_gi N (z_jt s t) v := by
  obtain ⟨h1, h2, h3⟩ := h
  unfold z_jt
  split
  · refine ⟨by show min (z_lo s) (z_lo t) ≤ v; omega, by show v ≤ max (z_hi s) (z_hi t); omega, h3.imp id ?_⟩
    rintro ⟨w, e, h4, h5⟩
    exact ⟨w, e, by show w + min s.2.1 t.2.1 ≤ v; omega, by show v ≤ w + max s.2.2.1 t.2.2.1; omega⟩
  · exact ⟨by show min (z_lo s) (z_lo t) ≤ v; omega, by show v ≤ max (z_hi s) (z_hi t); omega, Or.inl rfl⟩
theorem z_jt_r {s t : z_tk} {v : Int} (h : z_gi N t v) : z_gi N (z_jt s t) v := by
  obtain ⟨h1, h2, h3⟩ := h
  unfold z_jt
  split
  · rename_i hst
    refine ⟨by show min (z_lo s) (z_lo t) ≤ v; omega, by show v ≤ max (z_hi s) (z_hi t); omega, ?_⟩
    rcases h3 with h3 | ⟨w, e, h4, h5⟩
    · exact Or.inl (hst.trans h3)
    · exact Or.inr ⟨w, by show N[s.1]? = some w; rw [hst]; exact e, by show w + min s.2.1 t.2.1 ≤ v; omega, by show v ≤ w + max s.2.2.1 t.2.2.1; omega⟩
  · exact ⟨by show min (z_lo s) (z_lo t) ≤ v; omega, by show v ≤ max (z_hi s) (z_hi t); omega, Or.inl rfl⟩
def z_jn : z_av → z_av → Option z_av
  | .inl s, .inl t => some (.inl (z_jt s t))
  | .inr (.inl s), .inr (.inl t) => some (.inr (.inl (z_jt s t)))
  | .inr (.inr s), .inr (.inr t) => some (.inr (.inr (s.1 || t.1, s.2 ++ t.2.filter fun c => !s.2.contains c)))
  | _, _ => none
theorem z_jn_l : ∀ {s t u : z_av} {v : Value}, z_jn s t = some u → z_gv N al s v → z_gv N al u v
  | .inl s, .inl t, _, _, h, ⟨x, e, g⟩ => by cases h; exact ⟨x, e, z_jt_l g⟩
  | .inr (.inl s), .inr (.inl t), _, _, h, ⟨x, e, g⟩ => by cases h; exact ⟨x, e, z_jt_l g⟩
  | .inr (.inr s), .inr (.inr t), _, _, h, Or.inl ⟨e, g⟩ => by cases h; exact Or.inl ⟨e, by show (s.1 || t.1) = true; rw [g]; rfl⟩
  | .inr (.inr s), .inr (.inr t), _, _, h, Or.inr ⟨a, c, e, g1, g2⟩ => by cases h; exact Or.inr ⟨a, c, e, g1, List.mem_append.mpr (Or.inl g2)⟩
  | .inl _, .inr _, _, _, h, _ => by cases h
  | .inr (.inl _), .inl _, _, _, h, _ => by cases h
  | .inr (.inl _), .inr (.inr _), _, _, h, _ => by cases h
  | .inr (.inr _), .inl _, _, _, h, _ => by cases h
  | .inr (.inr _), .inr (.inl _), _, _, h, _ => by cases h
theorem z_jn_r : ∀ {s t u : z_av} {v : Value}, z_jn s t = some u → z_gv N al t v → z_gv N al u v
  | .inl s, .inl t, _, _, h, ⟨x, e, g⟩ => by cases h; exact ⟨x, e, z_jt_r g⟩
  | .inr (.inl s), .inr (.inl t), _, _, h, ⟨x, e, g⟩ => by cases h; exact ⟨x, e, z_jt_r g⟩
  | .inr (.inr s), .inr (.inr t), _, _, h, Or.inl ⟨e, g⟩ => by cases h; exact Or.inl ⟨e, by show (s.1 || t.1) = true; rw [g]; simp⟩
  | .inr (.inr s), .inr (.inr t), _, _, h, Or.inr ⟨a, c, e, g1, g2⟩ => by
    cases h
    refine Or.inr ⟨a, c, e, g1, List.mem_append.mpr ?_⟩
    by_cases hc : c ∈ s.2
    · exact Or.inl hc
    · exact Or.inr (List.mem_filter.mpr ⟨g2, by simpa using hc⟩)
  | .inl _, .inr _, _, _, h, _ => by cases h
  | .inr (.inl _), .inl _, _, _, h, _ => by cases h
  | .inr (.inl _), .inr (.inr _), _, _, h, _ => by cases h
  | .inr (.inr _), .inl _, _, _, h, _ => by cases h
  | .inr (.inr _), .inr (.inl _), _, _, h, _ => by cases h
/-- many values in one -/
def z_jns : List z_av → Option z_av
  | [] => none
  | t :: ts => match ts with
    | [] => some t
    | _ :: _ => match z_jns ts with
      | some u => z_jn t u
      | none => none
theorem z_jns_ok : ∀ {ts : List z_av} {t u : z_av} {v : Value}, z_jns ts = some u → t ∈ ts → z_gv N al t v → z_gv N al u v
  | [], _, _, _, h, _, _ => by cases h
  | [s], t, u, v, h, hm, hv => by
    rw [List.mem_singleton] at hm
    subst hm
    cases h
    exact hv
  | s :: s' :: ts, t, u, v, h, hm, hv => by
    have h : (match z_jns (s' :: ts) with | some u => z_jn s u | none => none) = some u := h
    split at h
    · rename_i w hw
      rcases List.mem_cons.mp hm with hm | hm
      · subst hm
        exact z_jn_l h hv
      · exact z_jn_r h (z_jns_ok hw hm hv)
    · cases h
/-- what some cells give, one by one -/
def z_rds (AH : List z_ac_) (p : z_ac_ → Option z_av) : List Nat → Option (List z_av)
  | [] => some []
  | c :: cs => match AH[c]? with
    | some A => match p A, z_rds AH p cs with
      | some t, some ts => some (t :: ts)
      | _, _ => none
    | none => none
theorem z_rds_ok {AH : List z_ac_} {p : z_ac_ → Option z_av} : ∀ {cs : List Nat} {ts : List z_av} {c : Nat}, z_rds AH p cs = some ts → c ∈ cs → ∃ A t, AH[c]? = some A ∧ p A = some t ∧ t ∈ ts
  | [], _, _, _, h => by cases h
  | c' :: cs, ts, c, h, hc => by
    unfold z_rds at h
    split at h
    · rename_i A hA
      split at h
      · rename_i t ts' ht hts
        cases h
        rcases List.mem_cons.mp hc with hc | hc
        · subst hc
          exact ⟨A, t, hA, ht, List.mem_cons_self⟩
        · obtain ⟨A', t', h1, h2, h3⟩ := z_rds_ok hts hc
          exact ⟨A', t', h1, h2, List.mem_cons_of_mem _ h3⟩
      · cases h
    · cases h
def z_rdj (AH : List z_ac_) (p : z_ac_ → Option z_av) (cs : List Nat) : Option z_av := match z_rds AH p cs with
  | some ts => z_jns ts
  | none => none
theorem z_rdj_ok {AH : List z_ac_} {p : z_ac_ → Option z_av} {cs : List Nat} {u : z_av} {c : Nat} (h : z_rdj AH p cs = some u) (hc : c ∈ cs) : ∃ A t, AH[c]? = some A ∧ p A = some t ∧ ∀ v, z_gv N al t v → z_gv N al u v := by
  unfold z_rdj at h
  split at h
  · rename_i ts hts
    obtain ⟨A, t, h1, h2, h3⟩ := z_rds_ok hts hc
    exact ⟨A, t, h1, h2, fun v hv => z_jns_ok h h3 hv⟩
  · cases h
/-- an element of a cell: its values with the length -/
def z_ael (i : z_tk) (A : z_ac_) : Option z_av := match A.2.2.1 with
  | some n => if 0 ≤ z_lo i ∧ z_hi i < n then A.2.2.2.head? else none
  | none => if 0 ≤ z_lo i ∧ z_hi i < A.2.2.2.length then z_jns ((A.2.2.2.drop (z_lo i).toNat).take (z_hi i - z_lo i + 1).toNat) else none
theorem z_ael_ok {i : z_tk} {A : z_ac_} {t : z_av} {q : z_C} {x : Int32} (h : z_ael i A = some t) (hi : z_gi N i x.toInt) (hA : z_gc N al A q) : 0 ≤ x.toInt ∧ ∃ v, q.2[x.toNatClampNeg]? = some v ∧ z_gv N al t v := by
  obtain ⟨-, hA⟩ := hA
  have hx : x.toNatClampNeg = x.toInt.toNat := rfl
  unfold z_ael at h
  split at h
  · rename_i n hn
    split at h
    · rename_i hc
      rw [hn] at hA
      obtain ⟨hl, s, e1, e2⟩ := hA
      rw [e1] at h
      cases h
      have h0 : 0 ≤ x.toInt := by have := hi.1; omega
      have h1 : x.toNatClampNeg < q.2.length := by have := hi.2.1; omega
      exact ⟨h0, q.2[x.toNatClampNeg], List.getElem?_eq_getElem h1, e2 _ (List.getElem_mem h1)⟩
    · cases h
  · rename_i hn
    split at h
    · rename_i hc
      rw [hn] at hA
      have h0 : 0 ≤ x.toInt := by have := hi.1; omega
      have hlt : x.toNatClampNeg < A.2.2.2.length := by have := hi.2.1; omega
      obtain ⟨v, e1, e2⟩ := z_all2.get hA (List.getElem?_eq_getElem hlt)
      refine ⟨h0, v, e1, z_jns_ok h ?_ e2⟩
      have e3 : ((A.2.2.2.drop (z_lo i).toNat).take (z_hi i - z_lo i + 1).toNat)[x.toNatClampNeg - (z_lo i).toNat]? = some A.2.2.2[x.toNatClampNeg] := by
        rw [List.getElem?_take_of_lt (by have := hi.1; have := hi.2.1; omega), List.getElem?_drop, show (z_lo i).toNat + (x.toNatClampNeg - (z_lo i).toNat) = x.toNatClampNeg by have := hi.1; omega]
        exact List.getElem?_eq_getElem hlt
      exact List.mem_of_getElem? e3
    · cases h
def z_chk (k : z_av → Bool) : Option z_av → Option z_av
  | some t => if k t then some t else none
  | none => none
theorem z_chk_ok {k : z_av → Bool} {o : Option z_av} {t : z_av} (h : z_chk k o = some t) : o = some t ∧ k t = true := by
  unfold z_chk at h
  split at h
  · split at h
    · rename_i hk
      cases h
      exact ⟨rfl, hk⟩
    · cases h
  · cases h
/-- an element out of a cell of the kind t -/
def z_pe (t : Nat → Bool) (k : z_av → Bool) (i : z_tk) (A : z_ac_) : Option z_av := if t A.1 then z_chk k (z_ael i A) else none
def z_arl (t : Nat → Bool) (k : z_av → Bool) (AH : List z_ac_) : List z_av → Option (List z_av)
  | .inl i :: .inr (.inr r) :: st => if r.1 then none else (z_rdj AH (z_pe t k i) r.2).map (· :: st)
  | _ => none
theorem z_arl_ok {t : Nat → Bool} {ka : z_av → Bool} {k : Value → Bool} (hk : ∀ {t v}, ka t = true → z_gv N al t v → k v = true) {AH : List z_ac_} {P : z_H} {ast ast' : List z_av} {st : List Value} (h : z_arl t ka AH ast = some ast') (hH : z_gh strs N al AH P) (hs : z_all2 (z_gv N al) ast st) :
    ∃ i a r q v, st = .int i :: .ref a :: r ∧ z_lk strs P a = some q ∧ t q.1 = true ∧ 0 ≤ i.toInt ∧ q.2[i.toNatClampNeg]? = some v ∧ k v = true ∧ z_all2 (z_gv N al) ast' (v :: r) := by
  unfold z_arl at h
  split at h
  · split at h
    · cases h
    · rename_i i r as hr
      obtain ⟨u, h1, h2⟩ := z_map_some h
      subst h2
      match st, hs with
      | _ :: _ :: st, ⟨⟨x, e, hx⟩, Or.inl ⟨e2, h3⟩, h4⟩ => exact absurd h3 hr
      | _ :: _ :: st, ⟨⟨x, e, hx⟩, Or.inr ⟨a, c, e2, hac, hc⟩, h4⟩ =>
        subst e; subst e2
        obtain ⟨q, A, g1, g2, g3, -⟩ := hH a c hac
        obtain ⟨A', s, g4, g5, g6⟩ := z_rdj_ok (N := N) (al := al) h1 hc
        rw [g2] at g4
        cases g4
        unfold z_pe at g5
        split at g5
        · rename_i ht
          obtain ⟨g7, g8⟩ := z_chk_ok g5
          obtain ⟨g9, v, g10, g11⟩ := z_ael_ok g7 hx g3
          exact ⟨x, a, st, q, v, rfl, g1, by rw [← g3.1]; exact ht, g9, g10, hk g8 g11, g6 v g11, h4⟩
        · cases g5
  · cases h
def z_plen (nA : Nat) (A : z_ac_) : Option z_av := if 100 ≤ A.1 ∧ A.1 < 100 + nA then match A.2.2.1 with
    | some n => if n < 2147483648 then some (.inl (z_tc n)) else none
    | none => if A.2.2.2.length < 2147483648 then some (.inl (z_tc A.2.2.2.length)) else none
  else none
theorem z_plen_ok {nA : Nat} {A : z_ac_} {q : z_C} {t : z_av} (h : z_plen nA A = some t) (hA : z_gc N al A q) : 100 ≤ q.1 ∧ q.1 < 100 + nA ∧ z_gv N al t (.int (Int32.ofNat q.2.length)) := by
  obtain ⟨h0, hA⟩ := hA
  have hf : ∀ n : Nat, n < 2147483648 → z_gi N (z_tc n) (Int32.ofNat n).toInt := fun n hn => by
    have : (Int32.ofNat n).toInt = (n : Int) := by
      rw [Int32.toInt_ofNat_of_lt (by omega)]
    rw [this]
    exact z_tc_gi
  unfold z_plen at h
  split at h
  · rename_i hc
    rw [h0] at hc
    refine ⟨hc.1, hc.2, ?_⟩
    split at h
    · rename_i n hn
      split at h
      · rename_i hl
        cases h
        rw [hn] at hA
        rw [hA.1]
        exact ⟨_, rfl, hf n hl⟩
      · cases h
    · rename_i hn
      split at h
      · rename_i hl
        cases h
        rw [hn] at hA
        rw [← z_all2.len hA]
        exact ⟨_, rfl, hf _ hl⟩
      · cases h
  · cases h
def z_pfl (f : Nat × Nat) (A : z_ac_) : Option z_av := if A.1 = f.1 ∧ A.1 < 99 then match A.2.2.1 with
    | none => A.2.2.2[f.2]?
    | some _ => none
  else none
theorem z_pfl_ok {f : Nat × Nat} {A : z_ac_} {q : z_C} {t : z_av} (h : z_pfl f A = some t) (hA : z_gc N al A q) : q.1 = f.1 ∧ q.1 < 99 ∧ ∃ v, q.2[f.2]? = some v ∧ z_gv N al t v := by
  obtain ⟨h0, hA⟩ := hA
  unfold z_pfl at h
  split at h
  · rename_i hc
    rw [h0] at hc
    split at h
    · rename_i hn
      rw [hn] at hA
      exact ⟨hc.1, hc.2, z_all2.get hA h⟩
    · cases h
  · cases h
def z_aone (p : z_ac_ → Option z_av) (AH : List z_ac_) : List z_av → Option (List z_av)
  | .inr (.inr r) :: st => if r.1 then none else (z_rdj AH p r.2).map (· :: st)
  | _ => none
theorem z_aone_ok {p : z_ac_ → Option z_av} {AH : List z_ac_} {P : z_H} {ast ast' : List z_av} {st : List Value} (h : z_aone p AH ast = some ast') (hH : z_gh strs N al AH P) (hs : z_all2 (z_gv N al) ast st) :
    ∃ a r q A t u r', st = .ref a :: r ∧ z_lk strs P a = some q ∧ z_gc N al A q ∧ p A = some t ∧ ast' = u :: r' ∧ (∀ v, z_gv N al t v → z_gv N al u v) ∧ z_all2 (z_gv N al) r' r := by
  unfold z_aone at h
  split at h
  · split at h
    · cases h
    · rename_i r as hr
      obtain ⟨u, h1, h2⟩ := z_map_some h
      subst h2
      match st, hs with
      | _ :: st, ⟨Or.inl ⟨e2, h3⟩, h4⟩ => exact absurd h3 hr
      | _ :: st, ⟨Or.inr ⟨a, c, e2, hac, hc⟩, h4⟩ =>
        subst e2
        obtain ⟨q, A, g1, g2, g3, -⟩ := hH a c hac
        obtain ⟨A', s, g4, g5, g6⟩ := z_rdj_ok (N := N) (al := al) h1 hc
        rw [g2] at g4
        cases g4
        exact ⟨a, st, q, A, s, u, as, rfl, g1, g3, g5, rfl, g6, h4⟩
  · cases h
def z_ard (fld : Nat → Option (Nat × Nat)) (nA : Nat) (AH : List z_ac_) : Instr → List z_av → Option (List z_av)
  | .getfield n => fun st => match fld n with
    | some f => z_aone (z_pfl f) AH st
    | none => none
  | .iaload => z_arl (fun t => t == 103) z_akI AH
  | .caload => z_arl (fun t => t == 102) z_akI AH
  | .baload => z_arl (fun t => t == 101 || t == 100) z_akI AH
  | .laload => z_arl (fun t => t == 104) z_akL AH
  | .aaload => z_arl (fun t => decide (105 ≤ t) && decide (t < 100 + nA)) z_akA AH
  | .arraylength => z_aone (z_plen nA) AH
  | _ => fun _ => none
theorem z_ard_ok {fld : Nat → Option (Nat × Nat)} {nA : Nat} {AH : List z_ac_} {P : z_H} {ins : Instr} {ast ast' : List z_av} {st : List Value} (h : z_ard fld nA AH ins ast = some ast') (hH : z_gh strs N al AH P) (hs : z_all2 (z_gv N al) ast st) : ∃ st', z_rd fld nA (z_lk strs P) ins st = some st' ∧ z_all2 (z_gv N al) ast' st' := by
  cases ins
  case getfield n =>
    have h : (match fld n with | some f => z_aone (z_pfl f) AH ast | none => none) = some ast' := h
    split at h
    · rename_i f hf
      obtain ⟨a, r, q, A, t, u, r', e, g1, g2, g3, e2, g4, g5⟩ := z_aone_ok h hH hs
      obtain ⟨g6, g7, v, g8, g9⟩ := z_pfl_ok g3 g2
      subst e; subst e2
      refine ⟨v :: r, ?_, g4 v g9, g5⟩
      show z_gf (fld n) (z_lk strs P) (.ref a :: r) = _
      unfold z_gf
      dsimp only
      rw [hf]
      dsimp only
      rw [g1]
      dsimp only
      rw [if_pos ⟨g6, g7⟩, g8]
    · cases h
  case arraylength =>
    obtain ⟨a, r, q, A, t, u, r', e, g1, g2, g3, e2, g4, g5⟩ := z_aone_ok (p := z_plen nA) h hH hs
    obtain ⟨g6, g7, g8⟩ := z_plen_ok g3 g2
    subst e; subst e2
    refine ⟨.int (Int32.ofNat q.2.length) :: r, ?_, g4 _ g8, g5⟩
    show z_alen nA (z_lk strs P) (.ref a :: r) = _
    unfold z_alen
    dsimp only
    rw [g1]
    dsimp only
    rw [if_pos ⟨g6, g7⟩]
  case iaload =>
    obtain ⟨i, a, r, q, v, e, g1, g2, g3, g4, g5, g6⟩ := z_arl_ok (t := fun t => t == 103) (k := z_isI) (fun h1 h2 => z_akI_ok h1 h2) h hH hs
    subst e
    refine ⟨v :: r, ?_, g6⟩
    show z_al 103 z_isI (z_lk strs P) (.int i :: .ref a :: r) = some (v :: r)
    unfold z_al
    dsimp only
    rw [g1]
    dsimp only
    rw [if_pos ⟨by simpa using g2, g3⟩, g4]
    dsimp only
    rw [if_pos g5]
  case caload =>
    obtain ⟨i, a, r, q, v, e, g1, g2, g3, g4, g5, g6⟩ := z_arl_ok (t := fun t => t == 102) (k := z_isI) (fun h1 h2 => z_akI_ok h1 h2) h hH hs
    subst e
    refine ⟨v :: r, ?_, g6⟩
    show z_al 102 z_isI (z_lk strs P) (.int i :: .ref a :: r) = some (v :: r)
    unfold z_al
    dsimp only
    rw [g1]
    dsimp only
    rw [if_pos ⟨by simpa using g2, g3⟩, g4]
    dsimp only
    rw [if_pos g5]
  case laload =>
    obtain ⟨i, a, r, q, v, e, g1, g2, g3, g4, g5, g6⟩ := z_arl_ok (t := fun t => t == 104) (k := z_isL) (fun h1 h2 => z_akL_ok h1 h2) h hH hs
    subst e
    refine ⟨v :: r, ?_, g6⟩
    show z_al 104 z_isL (z_lk strs P) (.int i :: .ref a :: r) = some (v :: r)
    unfold z_al
    dsimp only
    rw [g1]
    dsimp only
    rw [if_pos ⟨by simpa using g2, g3⟩, g4]
    dsimp only
    rw [if_pos g5]
  case baload =>
    obtain ⟨i, a, r, q, v, e, g1, g2, g3, g4, g5, g6⟩ := z_arl_ok (t := fun t => t == 101 || t == 100) (k := z_isI) (fun h1 h2 => z_akI_ok h1 h2) h hH hs
    subst e
    refine ⟨v :: r, ?_, g6⟩
    show (z_al 101 z_isI (z_lk strs P) _).or (z_al 100 z_isI (z_lk strs P) _) = _
    unfold z_al
    dsimp only
    rw [g1]
    dsimp only
    rw [g4]
    dsimp only
    rw [if_pos g5]
    have h2 : q.1 = 101 ∨ q.1 = 100 := by simpa using g2
    rcases h2 with h2 | h2
    · rw [if_pos ⟨h2, g3⟩]
      rfl
    · rw [if_neg (by omega), if_pos ⟨h2, g3⟩]
      rfl
  case aaload =>
    obtain ⟨i, a, r, q, v, e, g1, g2, g3, g4, g5, g6⟩ := z_arl_ok (t := fun t => decide (105 ≤ t) && decide (t < 100 + nA)) (k := z_isA) (fun h1 h2 => z_akA_ok h1 h2) h hH hs
    subst e
    refine ⟨v :: r, ?_, g6⟩
    show z_alq nA (z_lk strs P) (.int i :: .ref a :: r) = some (v :: r)
    unfold z_alq
    dsimp only
    rw [g1]
    dsimp only
    simp only [Bool.and_eq_true, decide_eq_true_eq] at g2
    rw [if_pos ⟨g2.1, g2.2, g3⟩, g4]
    dsimp only
    rw [if_pos g5]
  all_goals (cases h)
end ZARD
end
section
section ZAWR
variable {strs : List (List Int32)} {N : List Int} {al : Nat → Option Nat}
/-- a cell is at most another -/
def z_wk (A A' : z_ac_) : Prop := A'.2.1 = A.2.1 ∧ ∀ N al q0, z_gc N al A q0 → z_gc N al A' q0
theorem z_wk.rf {A : z_ac_} : z_wk A A := ⟨rfl, fun _ _ _ h => h⟩
theorem z_wk.tr {A B C : z_ac_} (h : z_wk A B) (k : z_wk B C) : z_wk A C := ⟨k.1.trans h.1, fun _ _ _ g => k.2 _ _ _ (h.2 _ _ _ g)⟩
def z_jnr (lo hi : Int) (v : z_av) : Nat → List z_av → Option (List z_av)
  | _, [] => some []
  | k, t :: ts => match (if lo ≤ (k : Int) ∧ (k : Int) ≤ hi then z_jn t v else some t), z_jnr lo hi v (k + 1) ts with
    | some a, some b => some (a :: b)
    | _, _ => none
theorem z_jnr_old {lo hi : Int} {v : z_av} : ∀ {ts us : List z_av} {k : Nat} {vs : List Value}, z_jnr lo hi v k ts = some us → z_all2 (z_gv N al) ts vs → z_all2 (z_gv N al) us vs
  | [], _, _, [], h, _ => by cases h; trivial
  | t :: ts, us, k, w :: vs, h, ⟨h1, h2⟩ => by
    unfold z_jnr at h
    split at h
    · rename_i a b ha hb
      cases h
      refine ⟨?_, z_jnr_old hb h2⟩
      split at ha
      · exact z_jn_l ha h1
      · cases ha
        exact h1
    · cases h
  | [], _, _, _ :: _, _, h => h.elim
  | _ :: _, _, _, [], _, h => h.elim
theorem z_jnr_new {lo hi : Int} {v : z_av} {w : Value} : ∀ {ts us : List z_av} {k i : Nat} {vs : List Value}, z_jnr lo hi v k ts = some us → z_all2 (z_gv N al) ts vs → z_gv N al v w → lo ≤ ((k + i : Nat) : Int) → ((k + i : Nat) : Int) ≤ hi → z_all2 (z_gv N al) us (vs.set i w)
  | [], _, _, _, [], h, _, _, _, _ => by cases h; trivial
  | t :: ts, us, k, i, x :: vs, h, ⟨h1, h2⟩, hw, g1, g2 => by
    unfold z_jnr at h
    split at h
    · rename_i a b ha hb
      cases h
      cases i with
      | zero =>
        refine ⟨?_, z_jnr_old hb h2⟩
        rw [if_pos ⟨by simpa using g1, by simpa using g2⟩] at ha
        exact z_jn_r ha hw
      | succ i =>
        refine ⟨?_, z_jnr_new (i := i) hb h2 hw (by rw [show k + 1 + i = k + (i + 1) by omega]; exact g1) (by rw [show k + 1 + i = k + (i + 1) by omega]; exact g2)⟩
        split at ha
        · exact z_jn_l ha h1
        · cases ha
          exact h1
    · cases h
  | [], _, _, _, _ :: _, _, h, _, _, _ => h.elim
  | _ :: _, _, _, _, [], _, h, _, _, _ => h.elim
/-- a cell written at i, or not -/
def z_wka (tg : Nat → Bool) (v : z_av) (i : z_tk) (A : z_ac_) : Option z_ac_ := if tg A.1 && A.2.1.2 then match A.2.2.1 with
    | some n => if 0 ≤ z_lo i ∧ z_hi i < n then match A.2.2.2 with
        | [t] => (z_jn t v).map fun u => (A.1, A.2.1, some n, [u])
        | _ => none
      else none
    | none => if 0 ≤ z_lo i ∧ z_hi i < A.2.2.2.length then (z_jnr (z_lo i) (z_hi i) v 0 A.2.2.2).map fun w => (A.1, A.2.1, none, w) else none
  else none
theorem z_wka_old {tg : Nat → Bool} {v : z_av} {i : z_tk} {A A' : z_ac_} (h : z_wka tg v i A = some A') : z_wk A A' := by
  unfold z_wka at h
  split at h
  · split at h
    · rename_i n hn
      split at h
      · split at h
        · rename_i t ht
          obtain ⟨u, h1, h2⟩ := z_map_some h
          subst h2
          refine ⟨rfl, fun N al q0 hq => ?_⟩
          obtain ⟨g1, g2⟩ := hq
          rw [hn] at g2
          obtain ⟨g3, s, g4, g5⟩ := g2
          rw [ht] at g4
          cases g4
          exact ⟨g1, g3, u, rfl, fun w hw => z_jn_l h1 (g5 w hw)⟩
        · cases h
      · cases h
    · rename_i hn
      split at h
      · obtain ⟨u, h1, h2⟩ := z_map_some h
        subst h2
        refine ⟨rfl, fun N al q0 hq => ?_⟩
        obtain ⟨g1, g2⟩ := hq
        rw [hn] at g2
        exact ⟨g1, z_jnr_old h1 g2⟩
      · cases h
  · cases h
theorem z_wka_new {tg : Nat → Bool} {v : z_av} {i : z_tk} {A A' : z_ac_} {q : z_C} {k : Nat} {w : Value} (h : z_wka tg v i A = some A') (hA : z_gc N al A q) (hi : z_gi N i k) (hv : z_gv N al v w) : tg q.1 = true ∧ A.2.1.2 = true ∧ k < q.2.length ∧ z_gc N al A' (q.1, q.2.set k w) := by
  unfold z_wka at h
  split at h
  · rename_i ht
    rw [Bool.and_eq_true] at ht
    obtain ⟨g1, g2⟩ := hA
    refine ⟨by rw [← g1]; exact ht.1, ht.2, ?_⟩
    split at h
    · rename_i n hn
      split at h
      · rename_i hb
        split at h
        · rename_i t ht
          obtain ⟨u, h1, h2⟩ := z_map_some h
          subst h2
          rw [hn] at g2
          obtain ⟨g3, s, g4, g5⟩ := g2
          rw [ht] at g4
          cases g4
          refine ⟨by have := hi.2.1; omega, g1, by show (q.2.set k w).length = n; simpa using g3, u, rfl, fun w' hw => ?_⟩
          rcases List.mem_or_eq_of_mem_set hw with hw | hw
          · exact z_jn_l h1 (g5 w' hw)
          · subst hw
            exact z_jn_r h1 hv
        · cases h
      · cases h
    · rename_i hn
      split at h
      · rename_i hb
        obtain ⟨u, h1, h2⟩ := z_map_some h
        subst h2
        rw [hn] at g2
        refine ⟨by have := hi.2.1; have := g2.len; omega, g1, z_jnr_new h1 g2 hv (by have := hi.1; simpa using this) (by have := hi.2.1; simpa using this)⟩
      · cases h
  · cases h
def z_upd (f : z_ac_ → Option z_ac_) : List z_ac_ → List Nat → Option (List z_ac_)
  | AH, [] => some AH
  | AH, c :: cs => match AH[c]? with
    | some A => match f A with
      | some A' => z_upd f (AH.set c A') cs
      | none => none
    | none => none
theorem z_upd_ok {f : z_ac_ → Option z_ac_} (hf : ∀ {A A'}, f A = some A' → z_wk A A') {c' : Nat} : ∀ {cs : List Nat} {AH AH' : List z_ac_} {A : z_ac_}, z_upd f AH cs = some AH' → AH[c']? = some A → ∃ A', AH'[c']? = some A' ∧ z_wk A A' ∧ (c' ∈ cs → ∃ B B', z_wk A B ∧ f B = some B' ∧ z_wk B' A')
  | [], AH, AH', A, h, hA => by
    cases h
    exact ⟨A, hA, z_wk.rf, fun h => by cases h⟩
  | c :: cs, AH, AH', A, h, hA => by
    unfold z_upd at h
    split at h
    · rename_i A1 hA1
      split at h
      · rename_i A2 hA2
        by_cases hc : c' = c
        · subst hc
          have e : A1 = A := Option.some.inj (hA1.symm.trans hA)
          subst e
          have hlt : c' < AH.length := (List.getElem?_eq_some_iff.mp hA).1
          obtain ⟨A', h1, h2, h3⟩ := z_upd_ok hf (A := A2) h (by rw [List.getElem?_set_self hlt])
          exact ⟨A', h1, (hf hA2).tr h2, fun _ => ⟨A1, A2, z_wk.rf, hA2, h2⟩⟩
        · obtain ⟨A', h1, h2, h3⟩ := z_upd_ok hf (A := A) h (by rw [List.getElem?_set_ne (fun q => hc q.symm)]; exact hA)
          refine ⟨A', h1, h2, fun hm => h3 ?_⟩
          rcases List.mem_cons.mp hm with hm | hm
          · exact absurd hm hc
          · exact hm
      · cases h
    · cases h
/-- may it be written over? -/
def z_str (tg : Nat → Bool) (i : z_tk) (A : z_ac_) : Bool := tg A.1 && (A.2.1.2 && (A.2.1.1 && (A.2.2.1.isNone && (decide (z_lo i = z_hi i) && (decide (0 ≤ z_lo i) && decide (z_lo i < A.2.2.2.length))))))
def z_aw1 (tg : Nat → Bool) (v : z_av) (i : z_tk) (AH : List z_ac_) (c : Nat) : Option (List z_ac_) := match AH[c]? with
  | some A => if z_str tg i A then some (AH.set c (A.1, A.2.1, none, A.2.2.2.set (z_lo i).toNat v)) else none
  | none => none
def z_awa (tg : Nat → Bool) (v : z_av) (i : z_tk) (AH : List z_ac_) (cs : List Nat) : Option (List z_ac_) := match cs with
  | [c] => match z_aw1 tg v i AH c with
    | some X => some X
    | none => z_upd (z_wka tg v i) AH cs
  | _ => z_upd (z_wka tg v i) AH cs
/-- a heap after a write -/
theorem z_gh_set {AH AH' : List z_ac_} {P : z_H} {a : Nat} {q' : z_C} (hH : z_gh strs N al AH P) (ha : a < z_far) (hP : a < P.length) (hx : ∀ c' A, AH[c']? = some A → ∃ A', AH'[c']? = some A' ∧ A'.2.1 = A.2.1 ∧ (∀ b q0, b ≠ a → al b = some c' → z_gc N al A q0 → z_gc N al A' q0) ∧ (al a = some c' → z_gc N al A' q')) : z_gh strs N al AH' (P.set a q') := by
  intro b c hb
  obtain ⟨q, A, h1, h2, h3, h4, h5⟩ := hH b c hb
  obtain ⟨A', g1, g2, g3, g4⟩ := hx c A h2
  by_cases hba : b = a
  · subst hba
    refine ⟨q', A', ?_, g1, g4 hb, by rw [g2]; exact h4, by rw [g2]; exact h5⟩
    unfold z_lk
    rw [if_pos ha, List.getElem?_set_self hP]
  · refine ⟨q, A', ?_, g1, g3 b q hba hb h3, by rw [g2]; exact h4, by rw [g2]; exact h5⟩
    unfold z_lk at h1 ⊢
    split
    · rename_i hlt
      rw [if_pos hlt] at h1
      rw [List.getElem?_set_ne (fun e => hba e.symm)]
      exact h1
    · rename_i hlt
      rw [if_neg hlt] at h1
      exact h1
theorem z_awa_ok {tg : Nat → Bool} {v : z_av} {i : z_tk} {AH AH' : List z_ac_} {cs : List Nat} {P : z_H} {a c k : Nat} {w : Value} (h : z_awa tg v i AH cs = some AH') (hH : z_gh strs N al AH P) (hac : al a = some c) (hc : c ∈ cs) (hi : z_gi N i k) (hv : z_gv N al v w) :
    ∃ q, P[a]? = some q ∧ tg q.1 = true ∧ k < q.2.length ∧ z_gh strs N al AH' (P.set a (q.1, q.2.set k w)) := by
  obtain ⟨q, A, e1, e2, e3, e4, e5⟩ := hH a c hac
  have weak : z_upd (z_wka tg v i) AH cs = some AH' → ∃ q, P[a]? = some q ∧ tg q.1 = true ∧ k < q.2.length ∧ z_gh strs N al AH' (P.set a (q.1, q.2.set k w)) := by
    intro h
    obtain ⟨A', g1, g2, g3⟩ := z_upd_ok z_wka_old h e2
    obtain ⟨B, B', g4, g5, g6⟩ := g3 hc
    obtain ⟨g7, g8, g9, g10⟩ := z_wka_new g5 (g4.2 _ _ _ e3) hi hv
    have hfar : a < z_far := e5 (by rw [← g4.1]; exact g8)
    have hPa : P[a]? = some q := by
      unfold z_lk at e1
      rw [if_pos hfar] at e1
      exact e1
    refine ⟨q, hPa, g7, g9, z_gh_set hH hfar (List.getElem?_eq_some_iff.mp hPa).1 fun c' C hC => ?_⟩
    obtain ⟨C', k1, k2, -⟩ := z_upd_ok z_wka_old h hC
    refine ⟨C', k1, k2.1, fun b q0 _ _ k3 => k2.2 _ _ _ k3, fun hc' => ?_⟩
    have : c = c' := Option.some.inj (hac.symm.trans hc')
    subst this
    rw [g1] at k1
    cases k1
    exact g6.2 _ _ _ g10
  unfold z_awa at h
  split at h
  · rename_i c0
    split at h
    · rename_i X hX
      cases h
      rw [List.mem_singleton] at hc
      subst hc
      unfold z_aw1 at hX
      rw [e2] at hX
      dsimp only at hX
      split at hX
      · rename_i hs
        cases hX
        unfold z_str at hs
        simp only [Bool.and_eq_true, decide_eq_true_eq, Option.isNone_iff_eq_none] at hs
        obtain ⟨s1, s2, s3, s4, s5, s6, s7⟩ := hs
        have hfar : a < z_far := e5 s2
        have hPa : P[a]? = some q := by
          unfold z_lk at e1
          rw [if_pos hfar] at e1
          exact e1
        obtain ⟨e6, e7⟩ := e3
        rw [s4] at e7
        have hk : (z_lo i).toNat = k := by have := hi.1; have := hi.2.1; omega
        refine ⟨q, hPa, by rw [← e6]; exact s1, by have := e7.len; omega, z_gh_set hH hfar (List.getElem?_eq_some_iff.mp hPa).1 fun c' C hC => ?_⟩
        by_cases hcc : c' = c
        · subst hcc
          have : A = C := Option.some.inj (e2.symm.trans hC)
          subst this
          have hlt : c' < AH.length := (List.getElem?_eq_some_iff.mp e2).1
          refine ⟨_, List.getElem?_set_self hlt, rfl, fun b q0 hb hbc _ => absurd (e4 s3 b hbc) hb, fun _ => ⟨e6, ?_⟩⟩
          show z_all2 (z_gv N al) (A.2.2.2.set (z_lo i).toNat v) (q.2.set k w)
          rw [hk]
          exact e7.set hv
        · refine ⟨C, by rw [List.getElem?_set_ne (fun e => hcc e.symm)]; exact hC, rfl, fun _ _ _ _ k3 => k3, fun hc' => absurd (Option.some.inj (hc'.symm.trans hac)) hcc⟩
      · cases hX
    · exact weak h
  · exact weak h
end ZAWR
end
section
section ZAWI
variable {strs : List (List Int32)} {N : List Int} {al : Nat → Option Nat}
def z_asI (tg : Nat → Bool) (nf : z_tk → z_tk) (AH : List z_ac_) : List z_av → Option (List z_av × List z_ac_)
  | .inl x :: .inl i :: .inr (.inr r) :: st => if r.1 then none else (z_awa tg (.inl (nf x)) i AH r.2).map fun X => (st, X)
  | _ => none
def z_asL (AH : List z_ac_) : List z_av → Option (List z_av × List z_ac_)
  | .inr (.inl x) :: .inl i :: .inr (.inr r) :: st => if r.1 then none else (z_awa (fun t => t == 104) (.inr (.inl x)) i AH r.2).map fun X => (st, X)
  | _ => none
def z_asA (ac : Nat → Option Nat) (AH : List z_ac_) : List z_av → Option (List z_av × List z_ac_)
  | .inr (.inr v) :: .inl i :: .inr (.inr r) :: st => if r.1 || v.1 then none else (z_awa (fun t => decide (105 ≤ t) && v.2.all fun c => match AH[c]? with
      | some W => W.2.1.2 && (decide (W.1 < 99) && decide (ac (t - 100) = some W.1))
      | none => false) (.inr (.inr v)) i AH r.2).map fun X => (st, X)
  | _ => none
def z_afit : FieldType → z_av → Bool
  | .boolean, .inl t => decide (0 ≤ z_lo t) && decide (z_hi t ≤ 1)
  | .int, .inl _ => true
  | .long, .inr (.inl _) => true
  | .object _, .inr (.inr _) => true
  | .array _, .inr (.inr _) => true
  | _, _ => false
theorem z_afit_ok {ty : FieldType} {t : z_av} {v : Value} (h : z_afit ty t = true) (ht : z_gv N al t v) : fits ty v = true ∧ narrow ty v = v := by
  unfold z_afit at h
  split at h
  · rename_i t
    obtain ⟨x, e, g1, g2, -⟩ := ht
    subst e
    simp only [Bool.and_eq_true, decide_eq_true_eq] at h
    have h01 : x.toInt = 0 ∨ x.toInt = 1 := by omega
    have hx : x = 0 ∨ x = 1 := h01.imp (fun q => Int32.toInt_inj.mp (by rw [q]; decide)) (fun q => Int32.toInt_inj.mp (by rw [q]; decide))
    rcases hx with hx | hx <;> subst hx <;> exact ⟨rfl, rfl⟩
  · obtain ⟨x, e, -⟩ := ht
    subst e
    exact ⟨rfl, rfl⟩
  · obtain ⟨x, e, -⟩ := ht
    subst e
    exact ⟨rfl, rfl⟩
  · rcases ht with ⟨e, -⟩ | ⟨a, c, e, -⟩ <;> subst e <;> exact ⟨rfl, rfl⟩
  · rcases ht with ⟨e, -⟩ | ⟨a, c, e, -⟩ <;> subst e <;> exact ⟨rfl, rfl⟩
  · cases h
def z_apf (fk : Option (Nat × Nat)) (fty : Nat → Nat → FieldType) (fin : Nat → Nat → Bool) (ini : Option Nat) (AH : List z_ac_) : List z_av → Option (List z_av × List z_ac_)
  | v :: .inr (.inr r) :: st => match fk with
    | some f => if r.1 = false ∧ f.1 < 99 ∧ z_afit (fty f.1 f.2) v = true ∧ (fin f.1 f.2 = false ∨ ini = some f.1) then (z_awa (fun t => t == f.1) v (z_tc f.2) AH r.2).map fun X => (st, X) else none
    | none => none
  | _ => none
def z_awr (fld : Nat → Option (Nat × Nat)) (fty : Nat → Nat → FieldType) (fin : Nat → Nat → Bool) (ini : Option Nat) (ac : Nat → Option Nat) (AH : List z_ac_) : Instr → List z_av → Option (List z_av × List z_ac_)
  | .putfield n => z_apf (fld n) fty fin ini AH
  | .iastore => z_asI (fun t => t == 103) (fun x => x) AH
  | .castore => z_asI (fun t => t == 102) (z_cutto 0 65535) AH
  | .bastore => fun st => (z_asI (fun t => t == 101) (z_cutto (-128) 127) AH st).or (z_asI (fun t => t == 100) (z_cutto 0 1) AH st)
  | .lastore => z_asL AH
  | .aastore => z_asA ac AH
  | _ => fun _ => none
theorem z_awa_lo {tg : Nat → Bool} {v : z_av} {i : z_tk} {AH AH' : List z_ac_} {cs : List Nat} (h : z_awa tg v i AH cs = some AH') (hne : cs ≠ []) : 0 ≤ z_lo i := by
  refine Decidable.byContradiction fun hlo => ?_
  have hw : ∀ A, z_wka tg v i A = none := by
    intro A
    unfold z_wka
    split
    · split
      · rw [if_neg (fun q => hlo q.1)]
      · rw [if_neg (fun q => hlo q.1)]
    · rfl
  have hu : ∀ cs, cs ≠ [] → z_upd (z_wka tg v i) AH cs = none := by
    intro cs hcs
    cases cs with
    | nil => exact absurd rfl hcs
    | cons c' cs =>
      unfold z_upd
      split
      · rw [hw]
      · rfl
  unfold z_awa at h
  split at h
  · rename_i c0
    split at h
    · rename_i Y hY
      unfold z_aw1 at hY
      split at hY
      · split at hY
        · rename_i hs
          unfold z_str at hs
          simp only [Bool.and_eq_true, decide_eq_true_eq] at hs
          exact hlo hs.2.2.2.2.2.1
        · cases hY
      · cases hY
    · rw [hu _ hne] at h
      cases h
  · rw [hu _ hne] at h
    cases h
theorem z_awa_ix {tg : Nat → Bool} {v : z_av} {i : z_tk} {AH AH' : List z_ac_} {cs : List Nat} {P : z_H} {a c : Nat} {j : Int32} {w : Value} (h : z_awa tg v i AH cs = some AH') (hH : z_gh strs N al AH P) (hac : al a = some c) (hc : c ∈ cs) (hj : z_gi N i j.toInt) (hv : z_gv N al v w) :
    ∃ q, P[a]? = some q ∧ tg q.1 = true ∧ 0 ≤ j.toInt ∧ j.toNatClampNeg < q.2.length ∧ z_gh strs N al AH' (P.set a (q.1, q.2.set j.toNatClampNeg w)) := by
  have hlo := z_awa_lo h (fun q => by rw [q] at hc; cases hc)
  have hj0 : 0 ≤ j.toInt := by have := hj.1; omega
  have hj' : z_gi N i ((j.toNatClampNeg : Nat) : Int) := by
    have : ((j.toNatClampNeg : Nat) : Int) = j.toInt := by show ((j.toInt.toNat : Nat) : Int) = j.toInt; omega
    rw [this]
    exact hj
  obtain ⟨q, g1, g2, g3, g4⟩ := z_awa_ok h hH hac hc hj' hv
  exact ⟨q, g1, g2, hj0, g3, g4⟩
theorem z_asI_ok {t : Nat} {nf : z_tk → z_tk} {g : Int32 → Int32} (hg : ∀ x a, z_gi N x (Int32.toInt a) → z_gi N (nf x) (g a).toInt) {AH AH' : List z_ac_} {P : z_H} {ast ast' : List z_av} {st : List Value} (h : z_asI (fun k => k == t) nf AH ast = some (ast', AH')) (hH : z_gh strs N al AH P) (hs : z_all2 (z_gv N al) ast st) : ∃ st' P', z_as t g P st = some (st', P') ∧ z_all2 (z_gv N al) ast' st' ∧ z_gh strs N al AH' P' := by
  unfold z_asI at h
  split at h
  · split at h
    · cases h
    · rename_i x i r ast hr
      obtain ⟨X, h1, h2⟩ := z_map_some h
      cases h2
      match st, hs with
      | _ :: _ :: _ :: st, ⟨_, _, Or.inl ⟨_, h3⟩, _⟩ => exact absurd h3 hr
      | _ :: _ :: _ :: st, ⟨⟨a, e1, ha⟩, ⟨j, e2, hj⟩, Or.inr ⟨b, c, e3, hb, hc⟩, h4⟩ =>
        subst e1; subst e2; subst e3
        obtain ⟨q, g1, g2, g5, g3, g4⟩ := z_awa_ix (w := .int (g a)) h1 hH hb hc hj ⟨_, rfl, hg x a ha⟩
        have g2 : q.1 = t := by simpa using g2
        refine ⟨st, P.set b (t, q.2.set j.toNatClampNeg (.int (g a))), ?_, h4, by rw [← g2]; exact g4⟩
        unfold z_as
        dsimp only
        rw [g1]
        dsimp only
        rw [if_pos ⟨g2, g5, g3⟩]
  · cases h
theorem z_asI_no {t : Nat} {nf : z_tk → z_tk} {g : Int32 → Int32} {t' : Nat} (htt : t ≠ t') {AH AH' : List z_ac_} {P : z_H} {ast ast' : List z_av} {st : List Value} (hg : ∀ x a, z_gi N x (Int32.toInt a) → z_gi N (nf x) (g a).toInt) (h : z_asI (fun k => k == t) nf AH ast = some (ast', AH')) (hH : z_gh strs N al AH P) (hs : z_all2 (z_gv N al) ast st) (f : Int32 → Int32) : z_as t' f P st = none := by
  obtain ⟨st', P', h1, -⟩ := z_asI_ok hg h hH hs
  unfold z_as at h1 ⊢
  split at h1
  · split at h1
    · rename_i q hq
      split at h1
      · rename_i hc
        rw [if_neg (fun k => htt (hc.1.symm.trans k.1))]
      · cases h1
    · cases h1
  · cases h1
theorem z_asL_ok {AH AH' : List z_ac_} {P : z_H} {ast ast' : List z_av} {st : List Value} (h : z_asL AH ast = some (ast', AH')) (hH : z_gh strs N al AH P) (hs : z_all2 (z_gv N al) ast st) : ∃ st' P', z_las P st = some (st', P') ∧ z_all2 (z_gv N al) ast' st' ∧ z_gh strs N al AH' P' := by
  unfold z_asL at h
  split at h
  · split at h
    · cases h
    · rename_i x i r ast hr
      obtain ⟨X, h1, h2⟩ := z_map_some h
      cases h2
      match st, hs with
      | _ :: _ :: _ :: st, ⟨_, _, Or.inl ⟨_, h3⟩, _⟩ => exact absurd h3 hr
      | _ :: _ :: _ :: st, ⟨⟨a, e1, ha⟩, ⟨j, e2, hj⟩, Or.inr ⟨b, c, e3, hb, hc⟩, h4⟩ =>
        subst e1; subst e2; subst e3
        obtain ⟨q, g1, g2, g5, g3, g4⟩ := z_awa_ix (w := .long a) h1 hH hb hc hj ⟨_, rfl, ha⟩
        have g2 : q.1 = 104 := by simpa using g2
        refine ⟨st, P.set b (104, q.2.set j.toNatClampNeg (.long a)), ?_, h4, by rw [← g2]; exact g4⟩
        unfold z_las
        dsimp only
        rw [g1]
        dsimp only
        rw [if_pos ⟨g2, g5, g3⟩]
  · cases h
theorem z_asA_ok {ac : Nat → Option Nat} {AH AH' : List z_ac_} {P : z_H} {ast ast' : List z_av} {st : List Value} (h : z_asA ac AH ast = some (ast', AH')) (hH : z_gh strs N al AH P) (hs : z_all2 (z_gv N al) ast st) : ∃ st' P', z_aas ac P st = some (st', P') ∧ z_all2 (z_gv N al) ast' st' ∧ z_gh strs N al AH' P' := by
  unfold z_asA at h
  split at h
  · split at h
    · cases h
    · rename_i x i r ast hr
      obtain ⟨X, h1, h2⟩ := z_map_some h
      cases h2
      rw [Bool.not_eq_true, Bool.or_eq_false_iff] at hr
      match st, hs with
      | _ :: _ :: _ :: st, ⟨_, _, Or.inl ⟨_, h3⟩, _⟩ => rw [hr.1] at h3; cases h3
      | _ :: _ :: _ :: st, ⟨Or.inl ⟨_, h3⟩, _, _, _⟩ => rw [hr.2] at h3; cases h3
      | _ :: _ :: _ :: st, ⟨Or.inr ⟨a, ca, e1, ha, hca⟩, ⟨j, e2, hj⟩, Or.inr ⟨b, c, e3, hb, hc⟩, h4⟩ =>
        subst e1; subst e2; subst e3
        obtain ⟨q, g1, g2, g5, g3, g4⟩ := z_awa_ix (w := .ref a) h1 hH hb hc hj (Or.inr ⟨a, ca, rfl, ha, hca⟩)
        simp only [Bool.and_eq_true, decide_eq_true_eq] at g2
        obtain ⟨g6, g7⟩ := g2
        have g8 := List.all_eq_true.mp g7 ca hca
        obtain ⟨qa, W, k1, k2, k3, -, k5⟩ := hH a ca ha
        rw [k2] at g8
        simp only [Bool.and_eq_true, decide_eq_true_eq] at g8
        obtain ⟨g9, g10, g11⟩ := g8
        have hPa : P[a]? = some qa := by
          unfold z_lk at k1
          rw [if_pos (k5 g9)] at k1
          exact k1
        refine ⟨st, P.set b (q.1, q.2.set j.toNatClampNeg (.ref a)), ?_, h4, g4⟩
        unfold z_aas
        dsimp only
        rw [g1]
        dsimp only
        rw [hPa]
        dsimp only
        rw [if_pos ⟨g6, by rw [← k3.1]; exact g10, by rw [← k3.1]; exact g11, g5, g3⟩]
  · cases h
theorem z_apf_ok {fk : Option (Nat × Nat)} {fty : Nat → Nat → FieldType} {fin : Nat → Nat → Bool} {ini : Option Nat} {AH AH' : List z_ac_} {P : z_H} {ast ast' : List z_av} {st : List Value} (h : z_apf fk fty fin ini AH ast = some (ast', AH')) (hH : z_gh strs N al AH P) (hs : z_all2 (z_gv N al) ast st) : ∃ st' P', z_pf fk fty fin ini P st = some (st', P') ∧ z_all2 (z_gv N al) ast' st' ∧ z_gh strs N al AH' P' := by
  unfold z_apf at h
  split at h
  · rename_i v r ast
    split at h
    · rename_i f
      split at h
      · rename_i hc
        obtain ⟨c1, c2, c3, c4⟩ := hc
        obtain ⟨X, h1, h2⟩ := z_map_some h
        cases h2
        match st, hs with
        | _ :: _ :: st, ⟨_, Or.inl ⟨_, h3⟩, _⟩ => rw [c1] at h3; cases h3
        | w :: _ :: st, ⟨hv, Or.inr ⟨b, c, e3, hb, hcc⟩, h4⟩ =>
          subst e3
          obtain ⟨q, g1, g2, g3, g4⟩ := z_awa_ok (k := f.2) h1 hH hb hcc z_tc_gi hv
          have g2 : q.1 = f.1 := by simpa using g2
          obtain ⟨g5, g6⟩ := z_afit_ok c3 hv
          refine ⟨st, P.set b (f.1, q.2.set f.2 w), ?_, h4, by rw [← g2]; exact g4⟩
          unfold z_pf
          dsimp only
          rw [g1]
          dsimp only
          rw [if_pos ⟨g2, by omega, g3, g5, g6, c4⟩]
      · cases h
    · cases h
  · cases h
theorem z_awr_ok {fld : Nat → Option (Nat × Nat)} {fty : Nat → Nat → FieldType} {fin : Nat → Nat → Bool} {ini : Option Nat} {ac : Nat → Option Nat} {ins : Instr} {AH AH' : List z_ac_} {P : z_H} {ast ast' : List z_av} {st : List Value} (h : z_awr fld fty fin ini ac AH ins ast = some (ast', AH')) (hH : z_gh strs N al AH P) (hs : z_all2 (z_gv N al) ast st) : ∃ st' P', z_wr fld fty fin ini ac P ins st = some (st', P') ∧ z_all2 (z_gv N al) ast' st' ∧ z_gh strs N al AH' P' := by
  have hb : ∀ x a, z_gi N x (Int32.toInt a) → z_gi N (z_cutto (-128) 127 x) (a.toInt8.toInt32).toInt := by
    intro x a hx
    have g1 := a.toInt8.le_toInt
    have g2 := a.toInt8.toInt_lt
    refine z_cutto_gi hx (by rw [Int8.toInt_toInt32]; omega) (by rw [Int8.toInt_toInt32]; omega) (fun g3 g4 => ?_)
    rw [Int8.toInt_toInt32, Int32.toInt_toInt8]
    unfold Int.bmod
    simp only [Nat.reducePow]
    omega
  have hz : ∀ x a, z_gi N x (Int32.toInt a) → z_gi N (z_cutto 0 1 x) (a &&& 1).toInt := by
    intro x a hx
    have g := z_and_in (a := (-2147483648, 2147483647)) (b := (1, 1)) (x := a) (y := 1) ⟨a.le_toInt, by have := a.toInt_lt; omega⟩ ⟨by decide, by decide⟩
    refine z_cutto_gi hx g.1 g.2 (fun g3 g4 => ?_)
    have h01 : a.toInt = 0 ∨ a.toInt = 1 := by omega
    have hx : a = 0 ∨ a = 1 := h01.imp (fun q => Int32.toInt_inj.mp (by rw [q]; decide)) (fun q => Int32.toInt_inj.mp (by rw [q]; decide))
    rcases hx with hx | hx <;> subst hx <;> decide
  have hc : ∀ x a, z_gi N x (Int32.toInt a) → z_gi N (z_cutto 0 65535 x) (a.toUInt32.toUInt16.toUInt32.toInt32).toInt := by
    intro x a hx
    have e : (a.toUInt32.toUInt16.toUInt32.toInt32).toInt = ((a.toBitVec.toNat % 65536 : Nat) : Int) := by
      rw [UInt32.toUInt32_toUInt16, pk_char, nI_toInt (by omega)]
    have e2 : a.toInt = a.toBitVec.toInt := rfl
    rw [BitVec.toInt_eq_toNat_cond] at e2
    refine z_cutto_gi hx (by rw [e]; omega) (by rw [e]; omega) (fun g1 g2 => ?_)
    rw [e]
    split at e2 <;> omega
  cases ins
  case putfield n => exact z_apf_ok h hH hs
  case iastore => exact z_asI_ok (nf := fun x => x) (g := fun x => x) (fun x a hx => hx) h hH hs
  case castore => exact z_asI_ok (g := fun x => x.toUInt32.toUInt16.toUInt32.toInt32) hc h hH hs
  case lastore => exact z_asL_ok h hH hs
  case aastore => exact z_asA_ok h hH hs
  case bastore =>
    have h : (z_asI (fun t => t == 101) (z_cutto (-128) 127) AH ast).or (z_asI (fun t => t == 100) (z_cutto 0 1) AH ast) = some (ast', AH') := h
    cases h1 : z_asI (fun t => t == 101) (z_cutto (-128) 127) AH ast with
    | some X =>
      rw [h1] at h
      cases h
      obtain ⟨st', P', g1, g2⟩ := z_asI_ok (g := fun x => x.toInt8.toInt32) hb h1 hH hs
      refine ⟨st', P', ?_, g2⟩
      show (z_as 101 (fun x => x.toInt8.toInt32) P st).or _ = _
      rw [g1]
      rfl
    | none =>
      rw [h1] at h
      obtain ⟨st', P', g1, g2⟩ := z_asI_ok (g := fun x => x &&& 1) hz h hH hs
      refine ⟨st', P', ?_, g2⟩
      show (z_as 101 (fun x => x.toInt8.toInt32) P st).or (z_as 100 (fun x => x &&& 1) P st) = _
      rw [z_asI_no (t' := 101) (by decide) hz h hH hs, g1]
      rfl
  all_goals (cases h)
end ZAWI
end
section
section ZAMK
variable {strs : List (List Int32)} {N : List Int} {al : Nat → Option Nat}
def z_vabs : Value → Option z_av
  | .int x => some (.inl (z_tc x.toInt))
  | .long x => some (.inr (.inl (z_tc x.toInt)))
  | .null => some (.inr (.inr (true, [])))
  | _ => none
theorem z_vabs_ok {v : Value} {t : z_av} (h : z_vabs v = some t) : z_gv N al t v := by
  unfold z_vabs at h
  split at h
  · cases h
    exact ⟨_, rfl, z_tc_gi⟩
  · cases h
    exact ⟨_, rfl, z_tc_gi⟩
  · cases h
    exact Or.inl ⟨rfl, rfl⟩
  · cases h
def z_vabsl : List Value → Option (List z_av)
  | [] => some []
  | v :: vs => match z_vabs v, z_vabsl vs with
    | some t, some ts => some (t :: ts)
    | _, _ => none
theorem z_vabsl_ok : ∀ {vs : List Value} {ts : List z_av}, z_vabsl vs = some ts → z_all2 (z_gv N al) ts vs
  | [], _, h => by cases h; trivial
  | v :: vs, ts, h => by
    unfold z_vabsl at h
    split at h
    · rename_i t ts' h1 h2
      cases h
      exact ⟨z_vabs_ok h1, z_vabsl_ok h2⟩
    · cases h
theorem z_all2_rep {t : z_av} {v : Value} (h : z_gv N al t v) : ∀ n, z_all2 (z_gv N al) (List.replicate n t) (List.replicate n v)
  | 0 => trivial
  | n + 1 => ⟨h, z_all2_rep h n⟩
/-- new cells behind the old ones -/
def z_alx (al : Nat → Option Nat) (p n k : Nat) (g : Nat → Nat) (a : Nat) : Option Nat := if p ≤ a ∧ a < p + n then some (k + g (a - p)) else al a
theorem z_alx_le {AH : List z_ac_} {P : z_H} {n k : Nat} {g : Nat → Nat} (hH : z_gh strs N al AH P) (hf : P.length + n ≤ z_far) : z_le N N al (z_alx al P.length n k g) := by
  refine ⟨⟨[], by simp⟩, fun a c hac => ?_⟩
  unfold z_alx
  rw [if_neg]
  · exact hac
  · rintro ⟨h1, h2⟩
    obtain ⟨q, A, e, -⟩ := hH a c hac
    unfold z_lk at e
    rw [if_pos (by omega), List.getElem?_eq_none h1] at e
    cases e
theorem z_gh_app {AH AQ : List z_ac_} {P Q : z_H} {g : Nat → Nat} (hH : z_gh strs N al AH P) (hf : P.length + Q.length ≤ z_far)
    (hq : ∀ j q, Q[j]? = some q → ∃ A, AQ[g j]? = some A ∧ z_gc N (z_alx al P.length Q.length AH.length g) A q ∧ (A.2.1.1 = true → ∀ j', j' < Q.length → g j' = g j → j' = j)) : z_gh strs N (z_alx al P.length Q.length AH.length g) (AH ++ AQ) (P ++ Q) := by
  have hle := z_alx_le (n := Q.length) (k := AH.length) (g := g) hH hf
  intro a c hac
  unfold z_alx at hac
  split at hac
  · rename_i hr
    cases hac
    have hlt : a - P.length < Q.length := by omega
    obtain ⟨A, h1, h2, h3⟩ := hq (a - P.length) _ (List.getElem?_eq_getElem hlt)
    refine ⟨Q[a - P.length], A, ?_, ?_, h2, fun hs b hb => ?_, fun _ => by omega⟩
    · unfold z_lk
      rw [if_pos (by omega), List.getElem?_append_right hr.1]
      exact List.getElem?_eq_getElem hlt
    · rw [List.getElem?_append_right (by omega), show AH.length + g (a - P.length) - AH.length = g (a - P.length) by omega]
      exact h1
    · unfold z_alx at hb
      split at hb
      · rename_i hr'
        have hb := Option.some.inj hb
        have := h3 hs (b - P.length) (by omega) (by omega)
        omega
      · obtain ⟨q', A', -, k2, -⟩ := hH b _ hb
        have := (List.getElem?_eq_some_iff.mp k2).1
        omega
  · rename_i hr
    obtain ⟨q, A, h1, h2, h3, h4, h5⟩ := hH a c hac
    have hc := (List.getElem?_eq_some_iff.mp h2).1
    refine ⟨q, A, ?_, by rw [List.getElem?_append_left hc]; exact h2, h3.mono hle, fun hs b hb => ?_, h5⟩
    · unfold z_lk at h1 ⊢
      split
      · rename_i hl
        rw [if_pos hl] at h1
        rw [List.getElem?_append_left (List.getElem?_eq_some_iff.mp h1).1]
        exact h1
      · rename_i hl
        rw [if_neg hl] at h1
        exact h1
    · unfold z_alx at hb
      split at hb
      · have := Option.some.inj hb
        omega
      · exact h4 hs b hb
/-- an array of n values: one by one or in one -/
def z_row (md : Bool) (tg n : Nat) (t : z_av) (sg : Bool) : z_ac_ := if md then (tg, (sg, true), some n, [t]) else (tg, (sg, true), none, List.replicate n t)
theorem z_row_ok {md : Bool} {tg n : Nat} {t : z_av} {v : Value} {sg : Bool} (h : z_gv N al t v) : z_gc N al (z_row md tg n t sg) (tg, List.replicate n v) := by
  unfold z_row
  split
  · exact ⟨rfl, by simp, t, rfl, fun w hw => by rw [(List.mem_replicate.mp hw).2]; exact h⟩
  · exact ⟨rfl, z_all2_rep h n⟩
def z_ama (md : Bool) (o : Option Nat) (dv : Nat → Value) (AH : List z_ac_) (B : Nat) : List z_av → Option (List z_av × List z_ac_ × Nat × Nat)
  | .inl i :: st => match o with
    | some t => match z_vabs (dv t) with
      | some d => if z_lo i = z_hi i ∧ 0 ≤ z_lo i ∧ z_hi i ≤ 10000 ∧ B < z_far then some (.inr (.inr (false, [AH.length])) :: st, AH ++ [z_row md (100 + t) (z_lo i).toNat d true], 1, (z_lo i).toNat) else none
      | none => none
    | none => none
  | _ => none
theorem z_ama_ok {md : Bool} {o : Option Nat} {dv : Nat → Value} {AH AH' : List z_ac_} {B dc ds : Nat} {P : z_H} {ast ast' : List z_av} {st : List Value} (h : z_ama md o dv AH B ast = some (ast', AH', dc, ds)) (hH : z_gh strs N al AH P) (hs : z_all2 (z_gv N al) ast st) (hB : P.length ≤ B) :
    ∃ st' P' al', z_mka o dv P st = some (st', P', dc, ds) ∧ z_le N N al al' ∧ z_all2 (z_gv N al') ast' st' ∧ z_gh strs N al' AH' P' ∧ P'.length = P.length + dc := by
  unfold z_ama at h
  split at h
  · split at h
    · rename_i i r o' t
      split at h
      · rename_i d hd
        split at h
        · rename_i hc
          cases h
          obtain ⟨c1, c2, c3, c4⟩ := hc
          match st, hs with
          | _ :: st, ⟨⟨x, e, hx⟩, h2⟩ =>
            subst e
            have hn : x.toNatClampNeg = (z_lo i).toNat := by
              show x.toInt.toNat = _
              have := hx.1
              have := hx.2.1
              congr 1
              omega
            have h0 : 0 ≤ x.toInt := by have := hx.1; omega
            have hle := z_alx_le (n := 1) (k := AH.length) (g := fun _ => 0) hH (by omega)
            refine ⟨.ref P.length :: st, P ++ [(100 + t, List.replicate x.toNatClampNeg (dv t))], z_alx al P.length 1 AH.length (fun _ => 0), ?_, hle, ⟨Or.inr ⟨P.length, AH.length, rfl, ?_, by simp⟩, h2.mono fun _ _ k => k.mono hle⟩, ?_, by simp⟩
            · unfold z_mka
              dsimp only
              rw [if_pos ⟨h0, by omega, by omega⟩, hn]
            · unfold z_alx
              rw [if_pos ⟨by omega, by omega⟩]
              rfl
            · refine z_gh_app (Q := [(100 + t, List.replicate x.toNatClampNeg (dv t))]) (g := fun _ => 0) hH (by show P.length + 1 ≤ z_far; omega) fun j q hj => ?_
              have hj0 : j = 0 := by
                have := (List.getElem?_eq_some_iff.mp hj).1
                simp at this
                exact this
              subst hj0
              cases hj
              exact ⟨_, rfl, by rw [hn]; exact z_row_ok (z_vabs_ok hd), fun _ j' hj' _ => by simp at hj'; exact hj'⟩
        · cases h
      · cases h
    · cases h
  · cases h
def z_amn (o : Option (Nat × List Value)) (AH : List z_ac_) (B : Nat) (st : List z_av) : Option (List z_av × List z_ac_ × Nat × Nat) := match o with
  | some q => match z_vabsl q.2 with
    | some ts => if q.1 < 99 ∧ B < z_far then some (.inr (.inr (false, [AH.length])) :: st, AH ++ [(q.1, (true, true), none, ts)], 1, q.2.length) else none
    | none => none
  | none => none
theorem z_amn_ok {o : Option (Nat × List Value)} {AH AH' : List z_ac_} {B dc ds : Nat} {P : z_H} {ast ast' : List z_av} {st : List Value} (h : z_amn o AH B ast = some (ast', AH', dc, ds)) (hH : z_gh strs N al AH P) (hs : z_all2 (z_gv N al) ast st) (hB : P.length ≤ B) :
    ∃ st' P' al', (match o with | some q => if q.1 < 99 ∧ P.length < z_far then some (Value.ref P.length :: st, P ++ [q], 1, q.2.length) else none | none => none) = some (st', P', dc, ds) ∧ z_le N N al al' ∧ z_all2 (z_gv N al') ast' st' ∧ z_gh strs N al' AH' P' ∧ P'.length = P.length + dc := by
  unfold z_amn at h
  split at h
  · rename_i q
    split at h
    · rename_i ts hts
      split at h
      · rename_i hc
        cases h
        have hle := z_alx_le (n := 1) (k := AH.length) (g := fun _ => 0) hH (by omega)
        refine ⟨.ref P.length :: st, P ++ [q], z_alx al P.length 1 AH.length (fun _ => 0), ?_, hle, ⟨Or.inr ⟨P.length, AH.length, rfl, ?_, by simp⟩, hs.mono fun _ _ k => k.mono hle⟩, ?_, by simp⟩
        · rw [if_pos ⟨hc.1, by omega⟩]
        · unfold z_alx
          rw [if_pos ⟨by omega, by omega⟩]
          rfl
        · refine z_gh_app (Q := [q]) (g := fun _ => 0) hH (by show P.length + 1 ≤ z_far; omega) fun j q' hj => ?_
          have hj0 : j = 0 := by
            have := (List.getElem?_eq_some_iff.mp hj).1
            simp at this
            exact this
          subst hj0
          cases hj
          exact ⟨_, rfl, ⟨rfl, z_vabsl_ok hts⟩, fun _ j' hj' _ => by simp at hj'; exact hj'⟩
      · cases h
    · cases h
  · cases h
/-- rows of rows: all one by one, or the inner ones all in one -/
def z_amm (md : Bool) (o : Option (Nat × Nat)) (AH : List z_ac_) (B : Nat) : List z_av → Option (List z_av × List z_ac_ × Nat × Nat)
  | .inl k :: .inl n :: st => match o with
    | some t => match z_vabs (z_dv t.2) with
      | some d => if z_lo k = z_hi k ∧ 0 ≤ z_lo k ∧ z_hi k ≤ 10000 ∧ z_lo n = z_hi n ∧ 0 ≤ z_lo n ∧ z_hi n ≤ 10000 ∧ B + 1 + (z_lo n).toNat ≤ z_far then
          some (.inr (.inr (false, [AH.length])) :: st, AH ++ (if md then [(100 + t.1, (true, true), some (z_lo n).toNat, [.inr (.inr (false, [AH.length + 1]))]), z_row md (100 + t.2) (z_lo k).toNat d false] else (100 + t.1, (true, true), none, (List.range (z_lo n).toNat).map fun j => .inr (.inr (false, [AH.length + 1 + j]))) :: List.replicate (z_lo n).toNat (z_row md (100 + t.2) (z_lo k).toNat d true)), 1 + (z_lo n).toNat, (z_lo n).toNat + (z_lo n).toNat * (z_lo k).toNat) else none
      | none => none
    | none => none
  | _ => none
theorem z_all2_map {α β γ : Type} {R : α → β → Prop} {f : γ → α} {g : γ → β} : ∀ {l : List γ}, (∀ x ∈ l, R (f x) (g x)) → z_all2 R (l.map f) (l.map g)
  | [], _ => trivial
  | x :: l, h => ⟨h x List.mem_cons_self, z_all2_map fun y hy => h y (List.mem_cons_of_mem _ hy)⟩
theorem z_amm_ok {md : Bool} {o : Option (Nat × Nat)} {AH AH' : List z_ac_} {B dc ds : Nat} {P : z_H} {ast ast' : List z_av} {st : List Value} (h : z_amm md o AH B ast = some (ast', AH', dc, ds)) (hH : z_gh strs N al AH P) (hs : z_all2 (z_gv N al) ast st) (hB : P.length ≤ B) :
    ∃ st' P' al', z_mkm o P st = some (st', P', dc, ds) ∧ z_le N N al al' ∧ z_all2 (z_gv N al') ast' st' ∧ z_gh strs N al' AH' P' ∧ P'.length = P.length + dc := by
  unfold z_amm at h
  split at h
  · split at h
    · rename_i k n r o' t
      split at h
      · rename_i d hd
        split at h
        · rename_i hc
          cases h
          obtain ⟨c1, c2, c3, c4, c5, c6, c7⟩ := hc
          match st, hs with
          | _ :: _ :: st, ⟨⟨y, e1, hy⟩, ⟨x, e2, hx⟩, h2⟩ =>
            subst e1; subst e2
            have hn : x.toNatClampNeg = (z_lo n).toNat := by
              show x.toInt.toNat = _
              have := hx.1
              have := hx.2.1
              congr 1
              omega
            have hk : y.toNatClampNeg = (z_lo k).toNat := by
              show y.toInt.toNat = _
              have := hy.1
              have := hy.2.1
              congr 1
              omega
            have hx0 : 0 ≤ x.toInt := by have := hx.1; omega
            have hy0 : 0 ≤ y.toInt := by have := hy.1; omega
            have hmk : z_mkm (some t) P (.int y :: .int x :: st) = some (.ref P.length :: st, P ++ (100 + t.1, (List.range (z_lo n).toNat).map (fun j => Value.ref (P.length + 1 + j))) :: List.replicate (z_lo n).toNat (100 + t.2, List.replicate (z_lo k).toNat (z_dv t.2)), 1 + (z_lo n).toNat, (z_lo n).toNat + (z_lo n).toNat * (z_lo k).toNat) := by
              unfold z_mkm
              dsimp only
              rw [if_pos ⟨hx0, hy0, by omega, by omega, by omega⟩, hn, hk]
            have hlen : ((100 + t.1, (List.range (z_lo n).toNat).map (fun j => Value.ref (P.length + 1 + j))) :: List.replicate (z_lo n).toNat (100 + t.2, List.replicate (z_lo k).toNat (z_dv t.2))).length = 1 + (z_lo n).toNat := by simp; omega
            cases md with
            | true =>
              have hle := z_alx_le (n := 1 + (z_lo n).toNat) (k := AH.length) (g := fun j => if j = 0 then 0 else 1) hH (by omega)
              refine ⟨_, _, z_alx al P.length (1 + (z_lo n).toNat) AH.length (fun j => if j = 0 then 0 else 1), hmk, hle, ⟨Or.inr ⟨P.length, AH.length, rfl, ?_, by simp⟩, h2.mono fun _ _ k => k.mono hle⟩, ?_, by rw [List.length_append, hlen]⟩
              · unfold z_alx
                rw [if_pos ⟨by omega, by omega⟩]
                simp
              · rw [← hlen]
                refine z_gh_app (g := fun j => if j = 0 then 0 else 1) hH (by rw [hlen]; omega) fun j q hj => ?_
                rw [hlen]
                cases j with
                | zero =>
                  cases hj
                  refine ⟨_, rfl, ⟨rfl, by simp, _, rfl, fun w hw => ?_⟩, fun _ j' _ hj' => ?_⟩
                  · obtain ⟨i, hi, rfl⟩ := List.mem_map.mp hw
                    have hi := List.mem_range.mp hi
                    refine Or.inr ⟨_, AH.length + 1, rfl, ?_, by simp⟩
                    unfold z_alx
                    rw [if_pos ⟨by omega, by omega⟩]
                    show some (AH.length + (if P.length + 1 + i - P.length = 0 then 0 else 1)) = _
                    rw [if_neg (by omega)]
                  · have hj' : (if j' = 0 then 0 else 1) = (if 0 = 0 then 0 else 1) := hj'
                    split at hj'
                    · assumption
                    · simp at hj'
                | succ j =>
                  have hj : (List.replicate (z_lo n).toNat (100 + t.2, List.replicate (z_lo k).toNat (z_dv t.2)))[j]? = some q := by simpa using hj
                  have hq := (List.mem_replicate.mp (List.mem_of_getElem? hj)).2
                  subst hq
                  exact ⟨_, rfl, z_row_ok (z_vabs_ok hd), fun hs => by cases hs⟩
            | false =>
              have hle := z_alx_le (n := 1 + (z_lo n).toNat) (k := AH.length) (g := fun j => j) hH (by omega)
              refine ⟨_, _, z_alx al P.length (1 + (z_lo n).toNat) AH.length (fun j => j), hmk, hle, ⟨Or.inr ⟨P.length, AH.length, rfl, ?_, by simp⟩, h2.mono fun _ _ k => k.mono hle⟩, ?_, by rw [List.length_append, hlen]⟩
              · unfold z_alx
                rw [if_pos ⟨by omega, by omega⟩]
                simp
              · rw [← hlen]
                refine z_gh_app (g := fun j => j) hH (by rw [hlen]; omega) fun j q hj => ?_
                rw [hlen]
                cases j with
                | zero =>
                  cases hj
                  refine ⟨_, rfl, ⟨rfl, z_all2_map fun i hi => ?_⟩, fun _ j' _ hj' => hj'⟩
                  have hi := List.mem_range.mp hi
                  refine Or.inr ⟨_, AH.length + 1 + i, rfl, ?_, by simp⟩
                  unfold z_alx
                  rw [if_pos ⟨by omega, by omega⟩]
                  show some (AH.length + (P.length + 1 + i - P.length)) = _
                  congr 1
                  omega
                | succ j =>
                  have hj : (List.replicate (z_lo n).toNat (100 + t.2, List.replicate (z_lo k).toNat (z_dv t.2)))[j]? = some q := by simpa using hj
                  have hq := (List.mem_replicate.mp (List.mem_of_getElem? hj)).2
                  subst hq
                  have hlt : j < (z_lo n).toNat := by simpa using (List.getElem?_eq_some_iff.mp hj).1
                  exact ⟨z_row false (100 + t.2) (z_lo k).toNat d true, by simp [hlt], z_row_ok (z_vabs_ok hd), fun _ j' _ hj' => hj'⟩
        · cases h
      · cases h
    · cases h
  · cases h
def z_amk (md : Bool) (cls : Nat → Option (Nat × List Value)) (aan : Nat → Option Nat) (mna : Nat → Option (Nat × Nat)) (AH : List z_ac_) (B : Nat) : Instr → List z_av → Option (List z_av × List z_ac_ × Nat × Nat)
  | .new n => z_amn (cls n) AH B
  | .newarray t => z_ama md (z_atc t) z_dv AH B
  | .anewarray n => z_ama md (aan n) (fun _ => .null) AH B
  | .multianewarray n d => fun st => if d = 2 then z_amm md (mna n) AH B st else none
  | _ => fun _ => none
theorem z_amk_ok {md : Bool} {cls : Nat → Option (Nat × List Value)} {aan : Nat → Option Nat} {mna : Nat → Option (Nat × Nat)} {ins : Instr} {AH AH' : List z_ac_} {B dc ds : Nat} {P : z_H} {ast ast' : List z_av} {st : List Value} (h : z_amk md cls aan mna AH B ins ast = some (ast', AH', dc, ds)) (hH : z_gh strs N al AH P) (hs : z_all2 (z_gv N al) ast st) (hB : P.length ≤ B) :
    ∃ st' P' al', z_mk cls aan mna P ins st = some (st', P', dc, ds) ∧ z_le N N al al' ∧ z_all2 (z_gv N al') ast' st' ∧ z_gh strs N al' AH' P' ∧ P'.length = P.length + dc := by
  cases ins
  case new n => exact z_amn_ok h hH hs hB
  case newarray t => exact z_ama_ok h hH hs hB
  case anewarray n => exact z_ama_ok h hH hs hB
  case multianewarray n d =>
    have h : (if d = 2 then z_amm md (mna n) AH B ast else none) = some (ast', AH', dc, ds) := h
    split at h
    · rename_i hd
      obtain ⟨st', P', al', g1, g2⟩ := z_amm_ok h hH hs hB
      exact ⟨st', P', al', by show (if d = 2 then z_mkm (mna n) P st else none) = _; rw [if_pos hd]; exact g1, g2⟩
    · cases h
  all_goals (cases h)
end ZAMK
end
section
section ZAST
/-- the group of an instruction -/
def z_grp : Instr → Nat
  | .iload _ | .iload_n _ | .lload _ | .lload_n _ | .aload _ | .aload_n _ | .istore _ | .istore_n _ | .astore _ | .astore_n _ | .lstore _ | .lstore_n _ | .iinc _ _ => 1
  | .goto _ | .ifCond _ _ | .if_icmp _ _ | .ifnull _ | .ifnonnull _ | .tableswitch _ _ _ _ => 2
  | .getfield _ | .iaload | .caload | .baload | .laload | .aaload | .arraylength => 3
  | .putfield _ | .iastore | .castore | .bastore | .lastore | .aastore => 4
  | .new _ | .newarray _ | .anewarray _ | .multianewarray _ _ => 5
  | .ldc _ | .ldc_w _ | .ldc2_w _ | .getstatic _ => 6
  | _ => 0
theorem z_no0 {ins : Instr} (h : z_grp ins ≠ 0) (st : List Value) : z_pure ins st = none := by
  cases ins <;> first | rfl | exact absurd rfl h
theorem z_no1 {ins : Instr} (h : z_grp ins ≠ 1) (nL : Nat) (l : z_L) (st : List Value) : z_loc nL ins l st = none := by
  cases ins <;> first | rfl | exact absurd rfl h
theorem z_no2 {ins : Instr} (h : z_grp ins ≠ 2) (pc : Nat) (st : List Value) : z_jmp ins pc st = none := by
  cases ins <;> first | rfl | exact absurd rfl h
theorem z_no3 {ins : Instr} (h : z_grp ins ≠ 3) (fld : Nat → Option (Nat × Nat)) (nA : Nat) (H : Nat → Option z_C) (st : List Value) : z_rd fld nA H ins st = none := by
  cases ins <;> first | rfl | exact absurd rfl h
theorem z_no4 {ins : Instr} (h : z_grp ins ≠ 4) (fld : Nat → Option (Nat × Nat)) (fty : Nat → Nat → FieldType) (fin : Nat → Nat → Bool) (ini : Option Nat) (ac : Nat → Option Nat) (P : z_H) (st : List Value) : z_wr fld fty fin ini ac P ins st = none := by
  cases ins <;> first | rfl | exact absurd rfl h
theorem z_no5 {ins : Instr} (h : z_grp ins ≠ 5) (cls : Nat → Option (Nat × List Value)) (aan : Nat → Option Nat) (mna : Nat → Option (Nat × Nat)) (P : z_H) (st : List Value) : z_mk cls aan mna P ins st = none := by
  cases ins <;> first | rfl | exact absurd rfl h
theorem z_as_len {t : Nat} {nf : Int32 → Int32} {P P' : z_H} {st st' : List Value} (h : z_as t nf P st = some (st', P')) : P'.length = P.length := by
  unfold z_as at h
  split at h
  · split at h
    · split at h
      · cases h
        simp
      · cases h
    · cases h
  · cases h
theorem z_wr_len {fld : Nat → Option (Nat × Nat)} {fty : Nat → Nat → FieldType} {fin : Nat → Nat → Bool} {ini : Option Nat} {ac : Nat → Option Nat} {ins : Instr} {P P' : z_H} {st st' : List Value} (h : z_wr fld fty fin ini ac P ins st = some (st', P')) : P'.length = P.length := by
  cases ins
  case putfield n =>
    have h : z_pf (fld n) fty fin ini P st = some (st', P') := h
    unfold z_pf at h
    split at h
    · split at h
      · split at h
        · split at h
          · cases h
            simp
          · cases h
        · cases h
      · cases h
    · cases h
  case iastore => exact z_as_len h
  case castore => exact z_as_len h
  case bastore =>
    have h : (z_as 101 (fun x => x.toInt8.toInt32) P st).or (z_as 100 (fun x => x &&& 1) P st) = some (st', P') := h
    cases h1 : z_as 101 (fun x => x.toInt8.toInt32) P st with
    | some q =>
      rw [h1] at h
      cases h
      exact z_as_len h1
    | none =>
      rw [h1] at h
      exact z_as_len h
  case lastore =>
    have h : z_las P st = some (st', P') := h
    unfold z_las at h
    split at h
    · split at h
      · split at h
        · cases h
          simp
        · cases h
      · cases h
    · cases h
  case aastore =>
    have h : z_aas ac P st = some (st', P') := h
    unfold z_aas at h
    split at h
    · split at h
      · split at h
        · split at h
          · cases h
            simp
          · cases h
        · cases h
      · cases h
    · cases h
  all_goals (cases h)
variable {strs : List (List Int32)} {N : List Int} {al : Nat → Option Nat}
/-- the Strings' cells stand first in the abstract heap -/
def z_fr (n : Nat) (al : Nat → Option Nat) : Prop := ∀ j, j < n → al (z_far + j) = some j
theorem z_fr.mono {n : Nat} {N N' : List Int} {al al' : Nat → Option Nat} (h : z_fr n al) (hle : z_le N N' al al') : z_fr n al' := fun j hj => hle.2 _ _ (h j hj)
/-- the next place, with a new value on top -/
def z_pu (S : z_as_) (t : Nat) (L : List (Nat × z_av)) (s : List z_av) : z_as_ := match s with
  | [] => z_go S t L []
  | v :: r => ((S.1.1, t, L, (z_newv S.2.2.2.1 v).1 :: r, S.1.2.2.2.2), S.2.1, S.2.2.1, (z_newv S.2.2.2.1 v).2, S.2.2.2.2)
theorem z_gs.mono {S : z_as_} {f : z_Fr} {rest : List z_Fr} {P : z_H} {X : List Int} (h : z_gs strs N al S f rest P) : z_gf_ (N ++ X) al S.1 f ∧ z_all2 (z_gf_ (N ++ X) al) S.2.1 rest ∧ z_gh strs (N ++ X) al S.2.2.1 P ∧ z_gx (N ++ X) S.2.2.2.2.1 ∧ P.length ≤ S.2.2.2.2.2 := by
  have hle : z_le N (N ++ X) al al := ⟨⟨X, rfl⟩, fun _ _ k => k⟩
  obtain ⟨h1, h2, h3, h4, h5, h6⟩ := h
  exact ⟨h1.mono hle, h2.mono fun _ _ k => k.mono hle, h3.mono ⟨X, rfl⟩, h5.mono ⟨X, rfl⟩, h6⟩
theorem z_gl.mono {N' : List Int} {al' : Nat → Option Nat} {L : List (Nat × z_av)} {l : z_L} (h : z_gl N al L l) (hle : z_le N N' al al') : z_gl N' al' L l := fun i t e => by
  obtain ⟨v, g1, g2⟩ := h i t e
  exact ⟨v, g1, g2.mono hle⟩
theorem z_pu_gs {S : z_as_} {f : z_Fr} {rest : List z_Fr} {P : z_H} {t : Nat} {L : List (Nat × z_av)} {l : z_L} {r : List z_av} {r' : List Value} (hS : z_gs strs N al S f rest P) (hL : z_gl N al L l) (hr : z_all2 (z_gv N al) r r') : ∃ N', z_le N N' al al ∧ z_gs strs N' al (z_pu S t L r) (f.1, t, l, r', f.2.2.2.2.1, f.2.2.2.2.2) rest P := by
  match r, r', hr with
  | [], [], hr => exact ⟨N, z_le.rf, z_go_gs hS hL hr⟩
  | v :: r, w :: r', ⟨h1, h2⟩ =>
    obtain ⟨N', hle, g1, g2⟩ := z_newv_gv (N := N) h1
    obtain ⟨⟨X, rfl⟩, -⟩ := id hle
    obtain ⟨k1, k2, k3, k4, k5⟩ := hS.mono (X := X)
    refine ⟨N ++ X, hle, ⟨k1.1, rfl, hL.mono hle, ⟨?_, h2.mono fun _ _ k => k.mono hle⟩, k1.2.2.2.2⟩, k2, k3, ?_, k4, k5⟩
    · show z_gv (N ++ X) al (z_newv S.2.2.2.1 v).1 w
      rw [hS.2.2.2.1]
      exact g1
    · show (z_newv S.2.2.2.1 v).2 = _
      rw [hS.2.2.2.1]
      exact g2
/-- the heap becomes another -/
def z_hp (S : z_as_) (AH : List z_ac_) : z_as_ := (S.1, S.2.1, AH, S.2.2.2)
def z_cva (ns : Nat) : Value → Option z_av
  | .ref a => if z_far ≤ a ∧ a < z_far + ns then some (.inr (.inr (false, [a - z_far]))) else none
  | v => z_vabs v
theorem z_cva_ok {ns : Nat} {v : Value} {t : z_av} (hf : z_fr ns al) (h : z_cva ns v = some t) : z_gv N al t v := by
  unfold z_cva at h
  split at h
  · rename_i a
    split at h
    · rename_i hc
      cases h
      refine Or.inr ⟨a, a - z_far, rfl, ?_, by simp⟩
      have := hf (a - z_far) (Nat.sub_lt_left_of_lt_add hc.1 hc.2)
      rw [Nat.add_sub_of_le hc.1] at this
      exact this
    · cases h
  · exact z_vabs_ok h
/-- an instruction that calls nobody -/
def z_astp (G : z_Pg) (md : Bool) (ns : Nat) (S : z_as_) (ins : Instr) (len : Nat) : Option (List z_as_) := match z_grp ins with
  | 0 => (z_apure ins S.1.2.2.2.1).map fun s => [z_pu S (S.1.2.1 + len) S.1.2.2.1 s]
  | 1 => (z_aloc (z_nL G S.1.1) ins S.1.2.2.1 S.1.2.2.2.1).map fun q => [z_go S (S.1.2.1 + len) q.1 q.2]
  | 2 => z_ajmp S ins S.1.2.1 S.1.2.2.2.1
  | 3 => (z_ard (z_fld G S.1.1) (z_nA G) S.2.2.1 ins S.1.2.2.2.1).map fun s => [z_pu S (S.1.2.1 + len) S.1.2.2.1 s]
  | 4 => (z_awr (z_fld G S.1.1) (z_fty G) (z_fin G) (z_ini G S.1.1) (z_ac G) S.2.2.1 ins S.1.2.2.2.1).map fun q => [z_hp (z_go S (S.1.2.1 + len) S.1.2.2.1 q.1) q.2]
  | 5 => match z_amk md (z_cls G S.1.1) (z_aan G S.1.1) (z_mna G S.1.1) S.2.2.1 S.2.2.2.2.2 ins S.1.2.2.2.1 with
    | some q => if S.1.2.2.2.2.1 + q.2.2.1 ≤ z_mc G S.1.1 ∧ S.1.2.2.2.2.2 + q.2.2.2 ≤ z_ms G S.1.1 then some [((S.1.1, S.1.2.1 + len, S.1.2.2.1, q.1, S.1.2.2.2.2.1 + q.2.2.1, S.1.2.2.2.2.2 + q.2.2.2), S.2.1, q.2.1, S.2.2.2.1, S.2.2.2.2.1, S.2.2.2.2.2 + q.2.2.1)] else none
    | none => none
  | 6 => match z_cstv (z_cs G S.1.1) ins with
    | some v => (z_cva ns v).map fun t => [z_go S (S.1.2.1 + len) S.1.2.2.1 (t :: S.1.2.2.2.1)]
    | none => none
  | _ => none
theorem z_astp_ok {G : z_Pg} {md : Bool} {ns : Nat} {S : z_as_} {ins : Instr} {len : Nat} {Ss : List z_as_} {f : z_Fr} {rest : List z_Fr} {P : z_H} (h : z_astp G md ns S ins len = some Ss) (hS : z_gs (z_strs G) N al S f rest P) (hf : z_fr ns al) :
    ∃ q, z_step G f.1 ins len f.2.1 f.2.2.1 f.2.2.2.1 P f.2.2.2.2.1 f.2.2.2.2.2 = some q ∧ ∃ S' ∈ Ss, ∃ N' al', z_le N N' al al' ∧ z_gs (z_strs G) N' al' S' (f.1, q.1, q.2.1, q.2.2.1, q.2.2.2.2.1, q.2.2.2.2.2) rest q.2.2.2.1 := by
  obtain ⟨⟨a1, a2, a3, a4, a5, a6⟩, b1, b2, b3, b4, b5⟩ := id hS
  unfold z_astp at h
  split at h
  · rename_i hg
    obtain ⟨s, h1, h2⟩ := z_map_some h
    subst h2
    obtain ⟨st', g1, g2⟩ := z_apure_ok h1 a4
    obtain ⟨N', g3, g4⟩ := z_pu_gs (t := f.2.1 + len) hS a3 g2
    refine ⟨(f.2.1 + len, f.2.2.1, st', P, f.2.2.2.2.1, f.2.2.2.2.2), ?_, _, List.mem_singleton_self _, N', al, g3, by rw [a2]; exact g4⟩
    unfold z_step
    rw [g1]
  · rename_i hg
    obtain ⟨s, h1, h2⟩ := z_map_some h
    subst h2
    obtain ⟨l', st', g1, g2, g3⟩ := z_aloc_ok h1 a3 a4
    rw [a1] at g1
    refine ⟨(f.2.1 + len, l', st', P, f.2.2.2.2.1, f.2.2.2.2.2), ?_, _, List.mem_singleton_self _, N, al, z_le.rf, by rw [a2]; exact z_go_gs hS g2 g3⟩
    unfold z_step
    rw [z_no0 (by rw [hg]; decide), g1]
  · rename_i hg
    obtain ⟨q, g1, S', g2, g3⟩ := z_ajmp_ok h hS a4
    rw [a2] at g1
    refine ⟨(q.1, f.2.2.1, q.2, P, f.2.2.2.2.1, f.2.2.2.2.2), ?_, S', g2, N, al, z_le.rf, g3⟩
    unfold z_step
    rw [z_no0 (by rw [hg]; decide), z_no1 (by rw [hg]; decide), g1]
  · rename_i hg
    obtain ⟨s, h1, h2⟩ := z_map_some h
    subst h2
    obtain ⟨st', g1, g2⟩ := z_ard_ok h1 b2 a4
    rw [a1] at g1
    obtain ⟨N', g3, g4⟩ := z_pu_gs (t := f.2.1 + len) hS a3 g2
    refine ⟨(f.2.1 + len, f.2.2.1, st', P, f.2.2.2.2.1, f.2.2.2.2.2), ?_, _, List.mem_singleton_self _, N', al, g3, by rw [a2]; exact g4⟩
    unfold z_step
    rw [z_no0 (by rw [hg]; decide), z_no1 (by rw [hg]; decide), z_no2 (by rw [hg]; decide), g1]
  · rename_i hg
    obtain ⟨s, h1, h2⟩ := z_map_some h
    subst h2
    obtain ⟨st', P', g1, g2, g3⟩ := z_awr_ok h1 b2 a4
    rw [a1] at g1
    refine ⟨(f.2.1 + len, f.2.2.1, st', P', f.2.2.2.2.1, f.2.2.2.2.2), ?_, _, List.mem_singleton_self _, N, al, z_le.rf, ⟨a1, congrArg (· + len) a2, a3, g2, a5, a6⟩, b1, g3, b3, b4, ?_⟩
    · unfold z_step
      rw [z_no0 (by rw [hg]; decide), z_no1 (by rw [hg]; decide), z_no2 (by rw [hg]; decide), z_no3 (by rw [hg]; decide), g1]
    · show P'.length ≤ S.2.2.2.2.2
      rw [z_wr_len g1]
      exact b5
  · rename_i hg
    split at h
    · rename_i q hq
      split at h
      · rename_i hc
        cases h
        obtain ⟨st', P', al', g1, g2, g3, g4, g5⟩ := z_amk_ok (AH' := q.2.1) (dc := q.2.2.1) (ds := q.2.2.2) hq b2 a4 b5
        rw [a1] at g1 hc
        rw [a5, a6] at hc
        refine ⟨(f.2.1 + len, f.2.2.1, st', P', f.2.2.2.2.1 + q.2.2.1, f.2.2.2.2.2 + q.2.2.2), ?_, _, List.mem_singleton_self _, N, al', g2, ⟨a1, by rw [a2], a3.mono g2, g3, by rw [a5], by rw [a6]⟩, b1.mono fun _ _ k => k.mono g2, g4, b3, b4, ?_⟩
        · unfold z_step
          rw [z_no0 (by rw [hg]; decide), z_no1 (by rw [hg]; decide), z_no2 (by rw [hg]; decide), z_no3 (by rw [hg]; decide), z_no4 (by rw [hg]; decide), g1]
          show z_bump G f.1 _ = _
          unfold z_bump
          rw [if_pos hc]
        · show P'.length ≤ S.2.2.2.2.2 + q.2.2.1
          omega
      · cases h
    · cases h
  · rename_i hg
    split at h
    · rename_i v hv
      obtain ⟨t, h1, h2⟩ := z_map_some h
      subst h2
      rw [a1] at hv
      refine ⟨(f.2.1 + len, f.2.2.1, v :: f.2.2.2.1, P, f.2.2.2.2.1, f.2.2.2.2.2), ?_, _, List.mem_singleton_self _, N, al, z_le.rf, by rw [a2]; exact z_go_gs hS a3 ⟨z_cva_ok hf h1, a4⟩⟩
      unfold z_step
      rw [z_no0 (by rw [hg]; decide), z_no1 (by rw [hg]; decide), z_no2 (by rw [hg]; decide), z_no3 (by rw [hg]; decide), z_no4 (by rw [hg]; decide), z_no5 (by rw [hg]; decide)]
      show (match (z_cstv (z_cs G f.1) ins).map (· :: f.2.2.2.1) with | some s' => some (f.2.1 + len, f.2.2.1, s', P, f.2.2.2.2.1, f.2.2.2.2.2) | none => none) = _
      rw [hv]
      rfl
    · cases h
  · cases h
end ZAST
end
section
section ZACK
variable {N : List Int} {al : Nat → Option Nat}
theorem z_all2.take {α β : Type} {R : α → β → Prop} : ∀ {as : List α} {bs : List β} (n : Nat), z_all2 R as bs → z_all2 R (as.take n) (bs.take n)
  | _, _, 0, _ => by simp [z_all2]
  | [], [], n + 1, _ => trivial
  | _ :: _, _ :: _, n + 1, ⟨h1, h2⟩ => ⟨h1, h2.take n⟩
  | [], _ :: _, _ + 1, h => h.elim
  | _ :: _, [], _ + 1, h => h.elim
theorem z_all2.drop {α β : Type} {R : α → β → Prop} : ∀ {as : List α} {bs : List β} (n : Nat), z_all2 R as bs → z_all2 R (as.drop n) (bs.drop n)
  | _, _, 0, h => h
  | [], [], n + 1, _ => trivial
  | _ :: _, _ :: _, n + 1, ⟨_, h2⟩ => h2.drop n
  | [], _ :: _, _ + 1, h => h.elim
  | _ :: _, [], _ + 1, h => h.elim
theorem z_all2.app {α β : Type} {R : α → β → Prop} : ∀ {as : List α} {bs : List β} {cs : List α} {ds : List β}, z_all2 R as bs → z_all2 R cs ds → z_all2 R (as ++ cs) (bs ++ ds)
  | [], [], _, _, _, h => h
  | _ :: _, _ :: _, _, _, ⟨h1, h2⟩, h => ⟨h1, h2.app h⟩
  | [], _ :: _, _, _, h, _ => h.elim
  | _ :: _, [], _, _, h, _ => h.elim
theorem z_all2.rev {α β : Type} {R : α → β → Prop} : ∀ {as : List α} {bs : List β}, z_all2 R as bs → z_all2 R as.reverse bs.reverse
  | [], [], _ => trivial
  | a :: as, b :: bs, ⟨h1, h2⟩ => by
    rw [List.reverse_cons, List.reverse_cons]
    exact h2.rev.app ⟨h1, trivial⟩
  | [], _ :: _, h => h.elim
  | _ :: _, [], h => h.elim
def z_acs (st : List z_av) : Nat := (st.map z_acat).sum
theorem z_acs_eq : ∀ {ts : List z_av} {vs : List Value}, z_all2 (z_gv N al) ts vs → z_cat vs = z_acs ts
  | [], [], _ => rfl
  | t :: ts, v :: vs, ⟨h1, h2⟩ => by
    have := z_acs_eq h2
    unfold z_cat z_acs at this ⊢
    rw [List.map_cons, List.map_cons, List.sum_cons, List.sum_cons, this, z_acat_eq h1]
  | [], _ :: _, h => h.elim
  | _ :: _, [], h => h.elim
def z_alv : Nat → List z_av → List (Nat × z_av)
  | _, [] => []
  | i, t :: ts => (i, t) :: z_alv (if z_acat t = 2 then i + 2 else i + 1) ts
theorem z_alv_ok : ∀ {ts : List z_av} {vs : List Value} {i : Nat}, z_all2 (z_gv N al) ts vs → z_gl N al (z_alv i ts) (lv_args i vs)
  | [], [], _, _ => fun j t h => by cases h
  | t :: ts, v :: vs, i, ⟨h1, h2⟩ => fun j u h => by
    have h : (if i == j then some t else z_aget (z_alv (if z_acat t = 2 then i + 2 else i + 1) ts) j) = some u := h
    show ∃ w, (if i == j then some v else z_get (lv_args (if v.category = 2 then i + 2 else i + 1) vs) j) = some w ∧ z_gv N al u w
    split at h
    · rename_i hj
      cases h
      exact ⟨v, by rw [if_pos hj], h1⟩
    · rename_i hj
      rw [if_neg hj, z_acat_eq h1]
      exact z_alv_ok h2 j u h
  | [], _ :: _, _, h => h.elim
  | _ :: _, [], _, h => h.elim
def z_aat (G : z_Pg) (AH : List z_ac_) (y kd : Nat) : List z_av → Bool
  | .inr (.inr r) :: _ => !r.1 && (!(kd == 1) || r.2.all fun c => match AH[c]? with
      | some A => A.1 == z_rcv G y
      | none => false)
  | _ => false
theorem z_aat_ok {G : z_Pg} {AH : List z_ac_} {P : z_H} {y kd : Nat} {ts : List z_av} {vs : List Value} (h : z_aat G AH y kd ts = true) (hH : z_gh (z_strs G) N al AH P) (hs : z_all2 (z_gv N al) ts vs) : z_at? G P y kd vs = true := by
  unfold z_aat at h
  split at h
  · rename_i r ts
    rw [Bool.and_eq_true, Bool.not_eq_true'] at h
    match vs, hs with
    | _ :: vs, ⟨Or.inl ⟨_, h3⟩, _⟩ => rw [h.1] at h3; cases h3
    | _ :: vs, ⟨Or.inr ⟨a, c, e, hac, hc⟩, _⟩ =>
      subst e
      unfold z_at?
      dsimp only
      split
      · rename_i hk
        have h2 := h.2
        rw [hk] at h2
        have h2 : (r.2.all fun c => match AH[c]? with | some A => A.1 == z_rcv G y | none => false) = true := by simpa using h2
        have h3 := List.all_eq_true.mp h2 c hc
        obtain ⟨q, A, g1, g2, g3, -⟩ := hH a c hac
        rw [g2] at h3
        rw [g1]
        dsimp only at h3 ⊢
        rw [← g3.1]
        exact h3
      · rfl
  · cases h
/-- a call of y -/
def z_aargs (G : z_Pg) (d y kd : Nat) (S : z_as_) : Option z_as_ :=
  if z_na G y ≤ S.1.2.2.2.1.length ∧ 1 ≤ d ∧ z_acs (S.1.2.2.2.1.drop (z_na G y)) ≤ 8 ∧ z_nL G y ≤ 45 ∧ z_acs ((S.1.2.2.2.1.take (z_na G y)).reverse) ≤ z_nL G y ∧ S.1.2.2.2.2.1 + z_mc G y ≤ z_mc G S.1.1 ∧ S.1.2.2.2.2.2 + z_ms G y ≤ z_ms G S.1.1 ∧ (kd = 0 ∨ 1 ≤ z_na G y) ∧ (kd = 0 ∨ z_aat G S.2.2.1 y kd ((S.1.2.2.2.1.take (z_na G y)).reverse) = true) then
    some ((y, 0, z_alv 0 ((S.1.2.2.2.1.take (z_na G y)).reverse), [], 0, 0), (S.1.1, S.1.2.1, S.1.2.2.1, S.1.2.2.2.1.drop (z_na G y), S.1.2.2.2.2) :: S.2.1, S.2.2) else none
theorem z_aargs_ok {G : z_Pg} {d y kd : Nat} {S S' : z_as_} {f : z_Fr} {rest : List z_Fr} {P : z_H} (h : z_aargs G d y kd S = some S') (hS : z_gs (z_strs G) N al S f rest P) :
    1 ≤ d ∧ ∃ as r, z_args G d y kd f.1 f.2.2.2.1 P f.2.2.2.2.1 f.2.2.2.2.2 = some (as, r) ∧ z_gs (z_strs G) N al S' (y, 0, lv_args 0 as, [], 0, 0) ((f.1, f.2.1, f.2.2.1, r, f.2.2.2.2.1, f.2.2.2.2.2) :: rest) P := by
  obtain ⟨⟨a1, a2, a3, a4, a5, a6⟩, b1, b2, b3, b4, b5⟩ := id hS
  unfold z_aargs at h
  split at h
  · rename_i hc
    cases h
    obtain ⟨c1, c2, c3, c4, c5, c6, c7, c8, c9⟩ := hc
    have htk := (a4.take (z_na G y)).rev
    have hdr := a4.drop (z_na G y)
    refine ⟨c2, (f.2.2.2.1.take (z_na G y)).reverse, f.2.2.2.1.drop (z_na G y), ?_, ⟨rfl, rfl, z_alv_ok htk, trivial, rfl, rfl⟩, ⟨⟨a1, a2, a3, hdr, a5, a6⟩, b1⟩, b2, b3, b4, b5⟩
    unfold z_args
    dsimp only
    rw [if_pos]
    refine ⟨by rw [← a4.len]; exact c1, c2, by rw [z_acs_eq hdr]; exact c3, c4, by rw [z_acs_eq htk]; exact c5, by rw [← a1, ← a5]; exact c6, by rw [← a1, ← a6]; exact c7, c8, c9.imp id fun k => z_aat_ok k b2 htk⟩
  · cases h
def z_isr : Instr → Bool
  | .return_ => true
  | .ireturn => true
  | .lreturn => true
  | .areturn => true
  | _ => false
theorem z_isr_no {rt : Option FieldType} {ins : Instr} {st : List Value} (h : z_isr ins = false) : z_ret rt ins st = none := by
  cases ins <;> first | rfl | cases h
def z_aret (rt : Option FieldType) : Instr → List z_av → Option (Option z_av)
  | .return_, [] => if rt = none then some none else none
  | .ireturn, [.inl t] => match rt with
    | some ty => if z_afit ty (.inl t) then some (some (.inl t)) else none
    | none => none
  | .lreturn, [.inr (.inl t)] => if rt = some .long then some (some (.inr (.inl t))) else none
  | .areturn, [.inr (.inr t)] => match rt with
    | some (.object _) => some (some (.inr (.inr t)))
    | some (.array _) => some (some (.inr (.inr t)))
    | _ => none
  | _, _ => none
def z_go_ (N : List Int) (al : Nat → Option Nat) : Option z_av → Option Value → Prop
  | none, none => True
  | some t, some v => z_gv N al t v
  | _, _ => False
theorem z_go_l {t : Option z_av} {v : Option Value} (h : z_go_ N al t v) : z_all2 (z_gv N al) t.toList v.toList := by
  match t, v, h with
  | none, none, _ => exact trivial
  | some t, some v, h => exact ⟨h, trivial⟩
theorem z_aret_ok {rt : Option FieldType} {ins : Instr} {ast : List z_av} {st : List Value} {r : Option z_av} (h : z_aret rt ins ast = some r) (hs : z_all2 (z_gv N al) ast st) : ∃ v, z_ret rt ins st = some v ∧ z_go_ N al r v := by
  unfold z_aret at h
  split at h
  · split at h
    · rename_i hrt
      cases h
      match st, hs with
      | [], _ => exact ⟨none, by unfold z_ret; rw [if_pos hrt], trivial⟩
    · cases h
  · rename_i t
    split at h
    · rename_i ty
      split at h
      · rename_i hf
        cases h
        match st, hs with
        | [_], ⟨⟨x, e, hx⟩, _⟩ =>
          subst e
          have hv : z_gv N al (.inl t) (.int x) := ⟨x, rfl, hx⟩
          refine ⟨some (.int x), ?_, hv⟩
          unfold z_ret
          dsimp only
          rw [if_pos (z_afit_ok hf hv).2]
      · cases h
    · cases h
  · rename_i t
    split at h
    · rename_i hrt
      cases h
      match st, hs with
      | [_], ⟨⟨x, e, hx⟩, _⟩ =>
        subst e
        refine ⟨some (.long x), ?_, ⟨x, rfl, hx⟩⟩
        unfold z_ret
        dsimp only
        rw [if_pos hrt]
    · cases h
  · rename_i t
    match st, hs with
    | [v], ⟨hv, _⟩ =>
      have hA : z_isA v = true := z_akA_ok (t := .inr (.inr t)) rfl hv
      split at h
      · cases h
        refine ⟨some v, ?_, hv⟩
        unfold z_ret
        dsimp only
        rw [if_pos hA]
      · cases h
        refine ⟨some v, ?_, hv⟩
        unfold z_ret
        dsimp only
        rw [if_pos hA]
      · cases h
  · cases h
end ZACK
end
section
section ZASN
variable {N : List Int} {al : Nat → Option Nat}
/-- Object's own constructor -/
def z_aprim (kd d : Nat) (S : z_as_) : Option z_as_ := if kd = 3 then match S.1.2.2.2.1 with
    | .inr (.inr r) :: st => if r.1 = false ∧ 1 ≤ d ∧ z_acs st ≤ 8 then some (z_go S (S.1.2.1 + 3) S.1.2.2.1 st) else none
    | _ => none
  else none
theorem z_aprim_ok {G : z_Pg} {kd d : Nat} {S S' : z_as_} {f : z_Fr} {rest : List z_Fr} {P : z_H} (h : z_aprim kd d S = some S') (hS : z_gs (z_strs G) N al S f rest P) :
    ∃ q, z_prim kd d f.2.1 f.2.2.1 f.2.2.2.1 P f.2.2.2.2.1 f.2.2.2.2.2 = some q ∧ z_gs (z_strs G) N al S' (f.1, q.1, q.2.1, q.2.2.1, q.2.2.2.2.1, q.2.2.2.2.2) rest q.2.2.2.1 := by
  obtain ⟨⟨a1, a2, a3, a4, a5, a6⟩, -⟩ := id hS
  unfold z_aprim at h
  split at h
  · rename_i hk
    split at h
    · rename_i r st hst
      split at h
      · rename_i hc
        cases h
        rw [hst] at a4
        generalize hv : f.2.2.2.1 = vs at a4
        match vs, a4 with
        | _ :: vs, ⟨Or.inl ⟨_, h3⟩, _⟩ => rw [hc.1] at h3; cases h3
        | _ :: vs, ⟨Or.inr ⟨a, c, e, _⟩, h4⟩ =>
          subst e
          refine ⟨(f.2.1 + 3, f.2.2.1, vs, P, f.2.2.2.2.1, f.2.2.2.2.2), ?_, by rw [a2]; exact z_go_gs hS a3 h4⟩
          unfold z_prim
          rw [if_pos hk]
          dsimp only
          rw [if_pos ⟨hc.2.1, by rw [z_acs_eq h4]; exact hc.2.2⟩]
      · cases h
    · cases h
  · cases h
/-- behind a call that gave r -/
def z_afb (G : z_Pg) (g : z_af) (r : Option z_av) (y : Nat) : z_af := (g.1, g.2.1 + 3, g.2.2.1, r.toList ++ g.2.2.2.1, g.2.2.2.2.1 + z_mc G y, g.2.2.2.2.2 + z_ms G y)
/-- what comes next: an end, or some states with their depths -/
def z_succ (G : z_Pg) (md : Nat → Nat → Bool) (ns d : Nat) (S : z_as_) : Option (Option z_av ⊕ List (Nat × z_as_)) := match z_cod G S.1.1 S.1.2.1 with
  | none => none
  | some i => match z_call G S.1.1 i.1 with
    | some yk => if yk.2 < 3 then match z_aargs G d yk.1 yk.2 S with
        | some S' => some (.inr [(d - 1, S')])
        | none => none
      else match z_aprim yk.2 d S with
        | some S' => some (.inr [(d, S')])
        | none => none
    | none => if z_isr i.1 then match z_aret (z_rty G S.1.1) i.1 S.1.2.2.2.1 with
        | some r => match S.2.1 with
          | [] => some (.inl r)
          | g :: rest => some (.inr [(d + 1, (z_afb G g r S.1.1, rest, S.2.2))])
        | none => none
      else match z_astp G (md S.1.1 S.1.2.1) ns S i.1 i.2 with
        | some Ss => some (.inr (Ss.map fun S' => (d, S')))
        | none => none
/-- the walk of all roads: every end is told to Q -/
def z_walk (G : z_Pg) (md : Nat → Nat → Bool) (ns : Nat) (Q : z_as_ → Option z_av → Bool) : Nat → List (Nat × z_as_) → Bool
  | _, [] => true
  | 0, _ :: _ => false
  | f + 1, x :: W => match z_succ G md ns x.1 x.2 with
    | none => false
    | some (.inl r) => match Q x.2 r with
      | true => z_walk G md ns Q f W
      | false => false
    | some (.inr Ss) => z_walk G md ns Q f (Ss ++ W)
/-- what is known of an end -/
def z_end (G : z_Pg) (Q : z_as_ → Option z_av → Bool) (N : List Int) (al : Nat → Option Nat) (r : Option Value) (P' : z_H) : Prop :=
  ∃ S' t N' al', Q S' t = true ∧ z_le N N' al al' ∧ z_gh (z_strs G) N' al' S'.2.2.1 P' ∧ S'.2.2.2.1 = N'.length ∧ z_gx N' S'.2.2.2.2.1 ∧ P'.length ≤ S'.2.2.2.2.2 ∧ z_go_ N' al' t r
theorem z_end.mono {G : z_Pg} {Q : z_as_ → Option z_av → Bool} {N N1 : List Int} {al al1 : Nat → Option Nat} {r : Option Value} {P' : z_H} (hle : z_le N N1 al al1) (h : z_end G Q N1 al1 r P') : z_end G Q N al r P' := by
  obtain ⟨⟨X, rfl⟩, k⟩ := hle
  obtain ⟨S', t, N', al', g1, ⟨⟨Y, rfl⟩, k'⟩, g3⟩ := h
  exact ⟨S', t, _, al', g1, ⟨⟨X ++ Y, by rw [List.append_assoc]⟩, fun a c hac => k' a c (k a c hac)⟩, g3⟩
/-- one step of the walk -/
theorem z_succ_ok {G : z_Pg} {md : Nat → Nat → Bool} {ns : Nat} {Q : z_as_ → Option z_av → Bool} {d : Nat} {S : z_as_} {N : List Int} {al : Nat → Option Nat} {f : z_Fr} {rest : List z_Fr} {P : z_H} {o : Option z_av ⊕ List (Nat × z_as_)} (h : z_succ G md ns d S = some o) (hS : z_gs (z_strs G) N al S f rest P) (hf : z_fr ns al)
    (hend : ∀ r, o = .inl r → Q S r = true) (hgo : ∀ Ss, o = .inr Ss → ∀ x ∈ Ss, ∀ {N al f rest P}, z_gs (z_strs G) N al x.2 f rest P → z_fr ns al → ∃ r P', z_RF G rest f x.1 P r P' ∧ z_end G Q N al r P') : ∃ r P', z_RF G rest f d P r P' ∧ z_end G Q N al r P' := by
    obtain ⟨⟨a1, a2, a3, a4, a5, a6⟩, b1, b2, b3, b4, b5⟩ := id hS
    unfold z_succ at h
    rw [a1, a2] at h
    split at h
    · cases h
    · rename_i i hi
      split at h
      · rename_i yk hyk
        split at h
        · rename_i hlt
          split at h
          · rename_i S' hS'
            cases h
            obtain ⟨hd, as, r, g1, g2⟩ := z_aargs_ok hS' hS
            obtain ⟨rv, P', k1, k2⟩ := hgo _ rfl (d - 1, S') (List.mem_singleton_self _) g2 hf
            refine ⟨rv, P', z_RF_call hd ?_ k1, k2⟩
            unfold z_next
            show (match z_cod G f.1 f.2.1 with | none => none | some i => _) = _
            rw [hi]
            dsimp only
            rw [hyk]
            dsimp only
            rw [if_pos hlt]
            show (match z_args G d yk.1 yk.2 f.1 f.2.2.2.1 P f.2.2.2.2.1 f.2.2.2.2.2 with | some ar => _ | none => none) = _
            rw [g1]
          · cases h
        · rename_i hlt
          split at h
          · rename_i S' hS'
            cases h
            obtain ⟨q, g1, g2⟩ := z_aprim_ok hS' hS
            obtain ⟨rv, P', k1, k2⟩ := hgo _ rfl (d, S') (List.mem_singleton_self _) g2 hf
            refine ⟨rv, P', z_RF_step ?_ k1, k2⟩
            unfold z_next
            show (match z_cod G f.1 f.2.1 with | none => none | some i => _) = _
            rw [hi]
            dsimp only
            rw [hyk]
            dsimp only
            rw [if_neg hlt]
            show (match z_prim yk.2 d f.2.1 f.2.2.1 f.2.2.2.1 P f.2.2.2.2.1 f.2.2.2.2.2 with | some q' => _ | none => none) = _
            rw [g1]
          · cases h
      · rename_i hno
        split at h
        · rename_i hisr
          split at h
          · rename_i r hr
            obtain ⟨v, g1, g2⟩ := z_aret_ok hr a4
            have hn : z_next G d f.1 (z_fs f P) = some (.inl v) := by
              unfold z_next
              show (match z_cod G f.1 f.2.1 with | none => none | some i => _) = _
              rw [hi]
              dsimp only
              rw [hno]
              show (match z_ret (z_rty G f.1) i.1 f.2.2.2.1 with | some r => _ | none => _) = _
              rw [g1]
            split at h
            · rename_i hrest
              cases h
              rw [hrest] at b1
              match rest, b1 with
              | [], _ => exact ⟨v, P, z_RF_end hn, S, r, N, al, hend r rfl, z_le.rf, b2, b3, b4, b5, g2⟩
            · rename_i g grest hrest
              cases h
              rw [hrest] at b1
              match rest, b1 with
              | fr :: rest, ⟨c1, c2⟩ =>
                obtain ⟨e1, e2, e3, e4, e5, e6⟩ := c1
                have hS2 : z_gs (z_strs G) N al (z_afb G g r f.1, grest, S.2.2) (z_fb G fr v f.1) rest P := ⟨⟨e1, congrArg (· + 3) e2, e3, (z_go_l g2).app e4, congrArg (· + z_mc G f.1) e5, congrArg (· + z_ms G f.1) e6⟩, c2, b2, b3, b4, b5⟩
                obtain ⟨rv, P', k1, k2⟩ := hgo _ rfl (d + 1, (z_afb G g r f.1, grest, S.2.2)) (List.mem_singleton_self _) hS2 hf
                exact ⟨rv, P', z_RF_ret hn k1, k2⟩
          · cases h
        · rename_i hisr
          split at h
          · rename_i Ss hSs
            cases h
            obtain ⟨q, g1, S', g2, N1, al1, g3, g4⟩ := z_astp_ok hSs hS hf
            obtain ⟨rv, P', k1, k2⟩ := hgo _ rfl (d, S') (List.mem_map.mpr ⟨S', g2, rfl⟩) g4 (hf.mono g3)
            refine ⟨rv, P', z_RF_step ?_ k1, k2.mono g3⟩
            unfold z_next
            show (match z_cod G f.1 f.2.1 with | none => none | some i => _) = _
            rw [hi]
            dsimp only
            rw [hno]
            show (match z_ret (z_rty G f.1) i.1 f.2.2.2.1 with | some r => _ | none => _) = _
            rw [z_isr_no (by simpa using hisr)]
            show (match z_step G f.1 i.1 i.2 f.2.1 f.2.2.1 f.2.2.2.1 P f.2.2.2.2.1 f.2.2.2.2.2 with | some q' => _ | none => none) = _
            rw [g1]
          · cases h
theorem z_walk_ok {G : z_Pg} {md : Nat → Nat → Bool} {ns : Nat} {Q : z_as_ → Option z_av → Bool} : ∀ {fu : Nat} {W : List (Nat × z_as_)}, z_walk G md ns Q fu W = true → ∀ x ∈ W, ∀ {N : List Int} {al : Nat → Option Nat} {f : z_Fr} {rest : List z_Fr} {P : z_H}, z_gs (z_strs G) N al x.2 f rest P → z_fr ns al → ∃ r P', z_RF G rest f x.1 P r P' ∧ z_end G Q N al r P'
  | _, [], _, x, hx => by cases hx
  | 0, _ :: _, h, _, _ => by cases h
  | fu + 1, y :: W, h, x, hx => by
    unfold z_walk at h
    split at h
    · cases h
    · rename_i r hr
      split at h
      · rename_i hq
        rcases List.mem_cons.mp hx with hx | hx
        · subst hx
          intro hS hf
          exact z_succ_ok hr hS hf (fun r' e => by cases e; exact hq) (fun Ss e => by cases e)
        · exact z_walk_ok h x hx
      · cases h
    · rename_i Ss hr
      rcases List.mem_cons.mp hx with hx | hx
      · subst hx
        intro hS hf
        exact z_succ_ok hr hS hf (fun r' e => by cases e) (fun Ss' e x' hx' => by
          cases e
          exact z_walk_ok h x' (List.mem_append.mpr (Or.inl hx')))
      · exact z_walk_ok h x (List.mem_append.mpr (Or.inr hx))
end ZASN
end
section
/-! The tables of the program, by wip/gen/gen.py. -/
section ZPROG
def z_code_0 : z_bm (Instr × Nat) := [(31, [(0, ((.aload_n 0 : Instr), 1)), (1, ((.invokespecial 3 : Instr), 3)), (4, ((.aload_n 0 : Instr), 1)), (5, ((.new 9 : Instr), 3)), (8, ((.dup : Instr), 1)), (9, ((.invokespecial 11 : Instr), 3)), (12, ((.putfield 12 : Instr), 3)), (15, ((.aload_n 0 : Instr), 1)), (16, ((.new 16 : Instr), 3)), (19, ((.dup : Instr), 1)), (20, ((.invokespecial 18 : Instr), 3)), (23, ((.putfield 19 : Instr), 3)), (26, ((.aload_n 0 : Instr), 1)), (27, ((.new 23 : Instr), 3)), (30, ((.dup : Instr), 1)), (31, ((.invokespecial 25 : Instr), 3))]),
  (63, [(34, ((.putfield 26 : Instr), 3)), (37, ((.aload_n 0 : Instr), 1)), (38, ((.new 30 : Instr), 3)), (41, ((.dup : Instr), 1)), (42, ((.invokespecial 32 : Instr), 3)), (45, ((.putfield 33 : Instr), 3)), (48, ((.aload_n 0 : Instr), 1)), (49, ((.iconst 3 : Instr), 1)), (50, ((.anewarray 30 : Instr), 3)), (53, ((.dup : Instr), 1)), (54, ((.iconst 0 : Instr), 1)), (55, ((.new 30 : Instr), 3)), (58, ((.dup : Instr), 1)), (59, ((.invokespecial 32 : Instr), 3)), (62, ((.aastore : Instr), 1)), (63, ((.dup : Instr), 1))]),
  (91, [(64, ((.iconst 1 : Instr), 1)), (65, ((.new 30 : Instr), 3)), (68, ((.dup : Instr), 1)), (69, ((.invokespecial 32 : Instr), 3)), (72, ((.aastore : Instr), 1)), (73, ((.dup : Instr), 1)), (74, ((.iconst 2 : Instr), 1)), (75, ((.new 30 : Instr), 3)), (78, ((.dup : Instr), 1)), (79, ((.invokespecial 32 : Instr), 3)), (82, ((.aastore : Instr), 1)), (83, ((.putfield 37 : Instr), 3)), (86, ((.aload_n 0 : Instr), 1)), (87, ((.new 41 : Instr), 3)), (90, ((.dup : Instr), 1)), (91, ((.invokespecial 43 : Instr), 3))]),
  (128, [(94, ((.putfield 44 : Instr), 3)), (97, ((.aload_n 0 : Instr), 1)), (98, ((.new 41 : Instr), 3)), (101, ((.dup : Instr), 1)), (102, ((.invokespecial 43 : Instr), 3)), (105, ((.putfield 48 : Instr), 3)), (108, ((.aload_n 0 : Instr), 1)), (109, ((.new 51 : Instr), 3)), (112, ((.dup : Instr), 1)), (113, ((.invokespecial 53 : Instr), 3)), (116, ((.putfield 54 : Instr), 3)), (119, ((.aload_n 0 : Instr), 1)), (120, ((.bipush 7 : Instr), 2)), (122, ((.anewarray 58 : Instr), 3)), (125, ((.putfield 60 : Instr), 3)), (128, ((.aload_n 0 : Instr), 1))]),
  (161, [(129, ((.iconst 0 : Instr), 1)), (130, ((.putfield 64 : Instr), 3)), (133, ((.aload_n 0 : Instr), 1)), (134, ((.bipush 10 : Instr), 2)), (136, ((.newarray .int : Instr), 2)), (138, ((.putfield 68 : Instr), 3)), (141, ((.aload_n 0 : Instr), 1)), (142, ((.bipush 20 : Instr), 2)), (144, ((.bipush 10 : Instr), 2)), (146, ((.multianewarray 72 2 : Instr), 4)), (150, ((.putfield 74 : Instr), 3)), (153, ((.aload_n 0 : Instr), 1)), (154, ((.bipush 10 : Instr), 2)), (156, ((.newarray .int : Instr), 2)), (158, ((.putfield 77 : Instr), 3)), (161, ((.aload_n 0 : Instr), 1))]),
  (195, [(162, ((.bipush 10 : Instr), 2)), (164, ((.newarray .int : Instr), 2)), (166, ((.putfield 80 : Instr), 3)), (169, ((.aload_n 0 : Instr), 1)), (170, ((.bipush 24 : Instr), 2)), (172, ((.bipush 24 : Instr), 2)), (174, ((.multianewarray 72 2 : Instr), 4)), (178, ((.putfield 83 : Instr), 3)), (181, ((.aload_n 0 : Instr), 1)), (182, ((.iconst 5 : Instr), 1)), (183, ((.bipush 25 : Instr), 2)), (185, ((.multianewarray 72 2 : Instr), 4)), (189, ((.putfield 86 : Instr), 3)), (192, ((.aload_n 0 : Instr), 1)), (193, ((.bipush 7 : Instr), 2)), (195, ((.newarray .int : Instr), 2))]),
  (205, [(197, ((.putfield 89 : Instr), 3)), (200, ((.aload_n 0 : Instr), 1)), (201, ((.iconst 0 : Instr), 1)), (202, ((.putfield 92 : Instr), 3)), (205, ((.return_ : Instr), 1))])]
/-- ChaffInTheWind.<init>()V -/
def z_meth_0 : z_Mr := (⟨"ChaffInTheWind", "<init>", "()V"⟩, prog_1_method_1_code, (1, 1, 243, 4269), none, some 0, 0, 0, z_code_0, (2, 29, 1, 28, 0))
def z_code_1 : z_bm (Instr × Nat) := [(27, [(0, ((.aload_n 0 : Instr), 1)), (1, ((.invokespecial 3 : Instr), 3)), (4, ((.aload_n 0 : Instr), 1)), (5, ((.bipush 80 : Instr), 2)), (7, ((.newarray .char : Instr), 2)), (9, ((.putfield 11 : Instr), 3)), (12, ((.aload_n 0 : Instr), 1)), (13, ((.iconst 0 : Instr), 1)), (14, ((.putfield 15 : Instr), 3)), (17, ((.aload_n 0 : Instr), 1)), (18, ((.iconst 0 : Instr), 1)), (19, ((.putfield 19 : Instr), 3)), (22, ((.aload_n 0 : Instr), 1)), (23, ((.iconst 0 : Instr), 1)), (24, ((.putfield 22 : Instr), 3)), (27, ((.aload_n 0 : Instr), 1))]),
  (32, [(28, ((.iconst 0 : Instr), 1)), (29, ((.putfield 25 : Instr), 3)), (32, ((.return_ : Instr), 1))])]
/-- ChaffInTheWind$Signs.<init>()V -/
def z_meth_1 : z_Mr := (⟨"ChaffInTheWind$Signs", "<init>", "()V"⟩, prog_9_method_1_code, (1, 1, 1, 80), none, some 1, 1, 1, z_code_1, (2, 37, 2, 36, 0))
def z_code_2 : z_bm (Instr × Nat) := [(16, [(0, ((.aload_n 0 : Instr), 1)), (1, ((.invokespecial 3 : Instr), 3)), (4, ((.aload_n 0 : Instr), 1)), (5, ((.iconst 4 : Instr), 1)), (6, ((.newarray .long : Instr), 2)), (8, ((.putfield 9 : Instr), 3)), (11, ((.aload_n 0 : Instr), 1)), (12, ((.iconst 0 : Instr), 1)), (13, ((.putfield 15 : Instr), 3)), (16, ((.return_ : Instr), 1))])]
/-- ChaffInTheWind$Row.<init>()V -/
def z_meth_2 : z_Mr := (⟨"ChaffInTheWind$Row", "<init>", "()V"⟩, prog_8_method_1_code, (1, 1, 1, 4), none, some 2, 2, 2, z_code_2, (2, 61, 3, 60, 0))
def z_code_3 : z_bm (Instr × Nat) := [(29, [(0, ((.aload_n 0 : Instr), 1)), (1, ((.invokespecial 3 : Instr), 3)), (4, ((.aload_n 0 : Instr), 1)), (5, ((.bipush 10 : Instr), 2)), (7, ((.newarray .int : Instr), 2)), (9, ((.putfield 9 : Instr), 3)), (12, ((.aload_n 0 : Instr), 1)), (13, ((.bipush 10 : Instr), 2)), (15, ((.newarray .int : Instr), 2)), (17, ((.putfield 15 : Instr), 3)), (20, ((.aload_n 0 : Instr), 1)), (21, ((.bipush 10 : Instr), 2)), (23, ((.newarray .int : Instr), 2)), (25, ((.putfield 18 : Instr), 3)), (28, ((.aload_n 0 : Instr), 1)), (29, ((.bipush 10 : Instr), 2))]),
  (60, [(31, ((.newarray .int : Instr), 2)), (33, ((.putfield 21 : Instr), 3)), (36, ((.aload_n 0 : Instr), 1)), (37, ((.bipush 10 : Instr), 2)), (39, ((.newarray .int : Instr), 2)), (41, ((.putfield 24 : Instr), 3)), (44, ((.aload_n 0 : Instr), 1)), (45, ((.iconst 0 : Instr), 1)), (46, ((.putfield 27 : Instr), 3)), (49, ((.aload_n 0 : Instr), 1)), (50, ((.bipush 12 : Instr), 2)), (52, ((.putfield 31 : Instr), 3)), (55, ((.aload_n 0 : Instr), 1)), (56, ((.iconst 0 : Instr), 1)), (57, ((.putfield 34 : Instr), 3)), (60, ((.aload_n 0 : Instr), 1))]),
  (82, [(61, ((.iconst 0 : Instr), 1)), (62, ((.putfield 37 : Instr), 3)), (65, ((.aload_n 0 : Instr), 1)), (66, ((.iconst 0 : Instr), 1)), (67, ((.putfield 40 : Instr), 3)), (70, ((.aload_n 0 : Instr), 1)), (71, ((.iconst 5 : Instr), 1)), (72, ((.newarray .int : Instr), 2)), (74, ((.dup : Instr), 1)), (75, ((.iconst 0 : Instr), 1)), (76, ((.bipush 100 : Instr), 2)), (78, ((.iastore : Instr), 1)), (79, ((.dup : Instr), 1)), (80, ((.iconst 1 : Instr), 1)), (81, ((.iconst 0 : Instr), 1)), (82, ((.iastore : Instr), 1))]),
  (103, [(83, ((.dup : Instr), 1)), (84, ((.iconst 2 : Instr), 1)), (85, ((.iconst 0 : Instr), 1)), (86, ((.iastore : Instr), 1)), (87, ((.dup : Instr), 1)), (88, ((.iconst 3 : Instr), 1)), (89, ((.bipush 20 : Instr), 2)), (91, ((.iastore : Instr), 1)), (92, ((.dup : Instr), 1)), (93, ((.iconst 4 : Instr), 1)), (94, ((.iconst 0 : Instr), 1)), (95, ((.iastore : Instr), 1)), (96, ((.putfield 43 : Instr), 3)), (99, ((.aload_n 0 : Instr), 1)), (100, ((.new 46 : Instr), 3)), (103, ((.dup : Instr), 1))]),
  (122, [(104, ((.invokespecial 48 : Instr), 3)), (107, ((.putfield 49 : Instr), 3)), (110, ((.aload_n 0 : Instr), 1)), (111, ((.bipush 10 : Instr), 2)), (113, ((.bipush 121 : Instr), 2)), (115, ((.multianewarray 53 2 : Instr), 4)), (119, ((.putfield 55 : Instr), 3)), (122, ((.return_ : Instr), 1))])]
/-- ChaffInTheWind$Barn.<init>()V -/
def z_meth_3 : z_Mr := (⟨"ChaffInTheWind$Barn", "<init>", "()V"⟩, prog_2_method_1_code, (1, 1, 18, 1283), none, some 3, 3, 3, z_code_3, (2, 77, 4, 76, 0))
def z_code_4 : z_bm (Instr × Nat) := [(25, [(0, ((.aload_n 0 : Instr), 1)), (1, ((.invokespecial 1 : Instr), 3)), (4, ((.aload_n 0 : Instr), 1)), (5, ((.iconst 1 : Instr), 1)), (6, ((.putfield 7 : Instr), 3)), (9, ((.aload_n 0 : Instr), 1)), (10, ((.iconst 0 : Instr), 1)), (11, ((.putfield 13 : Instr), 3)), (14, ((.aload_n 0 : Instr), 1)), (15, ((.iconst 0 : Instr), 1)), (16, ((.putfield 16 : Instr), 3)), (19, ((.aload_n 0 : Instr), 1)), (20, ((.iconst 0 : Instr), 1)), (21, ((.putfield 19 : Instr), 3)), (24, ((.aload_n 0 : Instr), 1)), (25, ((.iconst 0 : Instr), 1))]),
  (44, [(26, ((.putfield 22 : Instr), 3)), (29, ((.aload_n 0 : Instr), 1)), (30, ((.iconst 0 : Instr), 1)), (31, ((.putfield 25 : Instr), 3)), (34, ((.aload_n 0 : Instr), 1)), (35, ((.iconst 0 : Instr), 1)), (36, ((.putfield 28 : Instr), 3)), (39, ((.aload_n 0 : Instr), 1)), (40, ((.iconst 0 : Instr), 1)), (41, ((.putfield 31 : Instr), 3)), (44, ((.return_ : Instr), 1))])]
/-- ChaffInTheWind$Flight.<init>()V -/
def z_meth_4 : z_Mr := (⟨"ChaffInTheWind$Flight", "<init>", "()V"⟩, prog_3_method_1_code, (1, 1, 0, 0), none, some 4, 4, 4, z_code_4, (2, 83, 5, 82, 0))
def z_code_5 : z_bm (Instr × Nat) := [(33, [(0, ((.aload_n 0 : Instr), 1)), (1, ((.invokespecial 3 : Instr), 3)), (4, ((.aload_n 0 : Instr), 1)), (5, ((.bipush 6 : Instr), 2)), (7, ((.bipush 10 : Instr), 2)), (9, ((.multianewarray 9 2 : Instr), 4)), (13, ((.putfield 11 : Instr), 3)), (16, ((.aload_n 0 : Instr), 1)), (17, ((.bipush 24 : Instr), 2)), (19, ((.bipush 10 : Instr), 2)), (21, ((.multianewarray 9 2 : Instr), 4)), (25, ((.putfield 16 : Instr), 3)), (28, ((.aload_n 0 : Instr), 1)), (29, ((.bipush 10 : Instr), 2)), (31, ((.newarray .int : Instr), 2)), (33, ((.putfield 19 : Instr), 3))]),
  (51, [(36, ((.aload_n 0 : Instr), 1)), (37, ((.iconst 0 : Instr), 1)), (38, ((.putfield 23 : Instr), 3)), (41, ((.aload_n 0 : Instr), 1)), (42, ((.iconst 1 : Instr), 1)), (43, ((.putfield 27 : Instr), 3)), (46, ((.aload_n 0 : Instr), 1)), (47, ((.iconst 0 : Instr), 1)), (48, ((.putfield 30 : Instr), 3)), (51, ((.return_ : Instr), 1))])]
/-- ChaffInTheWind$Store.<init>()V -/
def z_meth_5 : z_Mr := (⟨"ChaffInTheWind$Store", "<init>", "()V"⟩, prog_10_method_1_code, (1, 1, 33, 340), none, some 5, 5, 5, z_code_5, (2, 176, 6, 175, 0))
def z_code_6 : z_bm (Instr × Nat) := [(29, [(0, ((.aload_n 0 : Instr), 1)), (1, ((.invokespecial 3 : Instr), 3)), (4, ((.aload_n 0 : Instr), 1)), (5, ((.bipush 10 : Instr), 2)), (7, ((.newarray .int : Instr), 2)), (9, ((.putfield 11 : Instr), 3)), (12, ((.aload_n 0 : Instr), 1)), (13, ((.bipush 10 : Instr), 2)), (15, ((.newarray .int : Instr), 2)), (17, ((.putfield 15 : Instr), 3)), (20, ((.aload_n 0 : Instr), 1)), (21, ((.bipush 10 : Instr), 2)), (23, ((.newarray .int : Instr), 2)), (25, ((.putfield 18 : Instr), 3)), (28, ((.aload_n 0 : Instr), 1)), (29, ((.iconst 0 : Instr), 1))]),
  (38, [(30, ((.putfield 21 : Instr), 3)), (33, ((.aload_n 0 : Instr), 1)), (34, ((.iconst 0 : Instr), 1)), (35, ((.putfield 25 : Instr), 3)), (38, ((.return_ : Instr), 1))])]
/-- ChaffInTheWind$Gusts.<init>()V -/
def z_meth_6 : z_Mr := (⟨"ChaffInTheWind$Gusts", "<init>", "()V"⟩, prog_5_method_1_code, (1, 1, 3, 30), none, some 6, 6, 6, z_code_6, (2, 209, 7, 208, 0))
def z_code_7 : z_bm (Instr × Nat) := [(25, [(0, ((.aload_n 0 : Instr), 1)), (1, ((.invokespecial 3 : Instr), 3)), (4, ((.aload_n 0 : Instr), 1)), (5, ((.iconst 4 : Instr), 1)), (6, ((.anewarray 9 : Instr), 3)), (9, ((.dup : Instr), 1)), (10, ((.iconst 0 : Instr), 1)), (11, ((.new 9 : Instr), 3)), (14, ((.dup : Instr), 1)), (15, ((.invokespecial 11 : Instr), 3)), (18, ((.aastore : Instr), 1)), (19, ((.dup : Instr), 1)), (20, ((.iconst 1 : Instr), 1)), (21, ((.new 9 : Instr), 3)), (24, ((.dup : Instr), 1)), (25, ((.invokespecial 11 : Instr), 3))]),
  (53, [(28, ((.aastore : Instr), 1)), (29, ((.dup : Instr), 1)), (30, ((.iconst 2 : Instr), 1)), (31, ((.new 9 : Instr), 3)), (34, ((.dup : Instr), 1)), (35, ((.invokespecial 11 : Instr), 3)), (38, ((.aastore : Instr), 1)), (39, ((.dup : Instr), 1)), (40, ((.iconst 3 : Instr), 1)), (41, ((.new 9 : Instr), 3)), (44, ((.dup : Instr), 1)), (45, ((.invokespecial 11 : Instr), 3)), (48, ((.aastore : Instr), 1)), (49, ((.putfield 12 : Instr), 3)), (52, ((.aload_n 0 : Instr), 1)), (53, ((.new 9 : Instr), 3))]),
  (76, [(56, ((.dup : Instr), 1)), (57, ((.invokespecial 11 : Instr), 3)), (60, ((.putfield 18 : Instr), 3)), (63, ((.aload_n 0 : Instr), 1)), (64, ((.bipush 8 : Instr), 2)), (66, ((.newarray .int : Instr), 2)), (68, ((.putfield 22 : Instr), 3)), (71, ((.aload_n 0 : Instr), 1)), (72, ((.iconst (-1) : Instr), 1)), (73, ((.putfield 26 : Instr), 3)), (76, ((.return_ : Instr), 1))])]
/-- ChaffInTheWind$Market.<init>()V -/
def z_meth_7 : z_Mr := (⟨"ChaffInTheWind$Market", "<init>", "()V"⟩, prog_6_method_1_code, (1, 1, 17, 427), none, some 7, 7, 7, z_code_7, (2, 232, 8, 231, 0))
def z_code_8 : z_bm (Instr × Nat) := [(25, [(0, ((.aload_n 0 : Instr), 1)), (1, ((.invokespecial 3 : Instr), 3)), (4, ((.aload_n 0 : Instr), 1)), (5, ((.bipush 40 : Instr), 2)), (7, ((.newarray .int : Instr), 2)), (9, ((.putfield 9 : Instr), 3)), (12, ((.aload_n 0 : Instr), 1)), (13, ((.bipush 40 : Instr), 2)), (15, ((.newarray .int : Instr), 2)), (17, ((.putfield 15 : Instr), 3)), (20, ((.aload_n 0 : Instr), 1)), (21, ((.iconst 0 : Instr), 1)), (22, ((.putfield 18 : Instr), 3)), (25, ((.return_ : Instr), 1))])]
/-- ChaffInTheWind$Formula.<init>()V -/
def z_meth_8 : z_Mr := (⟨"ChaffInTheWind$Formula", "<init>", "()V"⟩, prog_4_method_1_code, (1, 1, 2, 80), none, some 8, 8, 8, z_code_8, (2, 239, 9, 238, 0))
def z_code_9 : z_bm (Instr × Nat) := [(8, [(0, ((.aload_n 0 : Instr), 1)), (1, ((.getfield 12 : Instr), 3)), (4, ((.iload_n 1 : Instr), 1)), (5, ((.invokevirtual 95 : Instr), 3)), (8, ((.ireturn : Instr), 1))])]
/-- ChaffInTheWind.sign(I)I -/
def z_meth_9 : z_Mr := (⟨"ChaffInTheWind", "sign", "(I)I"⟩, prog_1_method_2_code, (2, 2, 0, 0), some .int, none, 0, 0, z_code_9, (1, 327, 1, 325, 326))
def z_code_10 : z_bm (Instr × Nat) := [(25, [(0, ((.aload_n 0 : Instr), 1)), (1, ((.getfield 15 : Instr), 3)), (4, ((.iconst 4 : Instr), 1)), (5, ((.iadd : Instr), 1)), (6, ((.bipush 80 : Instr), 2)), (8, ((.if_icmp .le 5 : Instr), 3)), (11, ((.iconst (-1) : Instr), 1)), (12, ((.ireturn : Instr), 1)), (13, ((.bipush 24 : Instr), 2)), (15, ((.istore_n 2 : Instr), 1)), (16, ((.iload_n 2 : Instr), 1)), (17, ((.ifCond .lt 36 : Instr), 3)), (20, ((.aload_n 0 : Instr), 1)), (21, ((.getfield 11 : Instr), 3)), (24, ((.aload_n 0 : Instr), 1)), (25, ((.getfield 15 : Instr), 3))]),
  (53, [(28, ((.iload_n 1 : Instr), 1)), (29, ((.iload_n 2 : Instr), 1)), (30, ((.iushr : Instr), 1)), (31, ((.sipush 255 : Instr), 3)), (34, ((.iand : Instr), 1)), (35, ((.i2c : Instr), 1)), (36, ((.castore : Instr), 1)), (37, ((.aload_n 0 : Instr), 1)), (38, ((.dup : Instr), 1)), (39, ((.getfield 15 : Instr), 3)), (42, ((.iconst 1 : Instr), 1)), (43, ((.iadd : Instr), 1)), (44, ((.putfield 15 : Instr), 3)), (47, ((.iinc 2 (-8) : Instr), 3)), (50, ((.goto (-34) : Instr), 3)), (53, ((.aload_n 0 : Instr), 1))]),
  (57, [(54, ((.getfield 15 : Instr), 3)), (57, ((.ireturn : Instr), 1))])]
/-- ChaffInTheWind$Signs.append(I)I -/
def z_meth_10 : z_Mr := (⟨"ChaffInTheWind$Signs", "append", "(I)I"⟩, prog_9_method_2_code, (3, 2, 0, 0), some .int, none, 1, 1, z_code_10, (1, 331, 2, 330, 100000))
def z_code_11 : z_bm (Instr × Nat) := [(8, [(0, ((.aload_n 0 : Instr), 1)), (1, ((.getfield 12 : Instr), 3)), (4, ((.iload_n 1 : Instr), 1)), (5, ((.invokevirtual 99 : Instr), 3)), (8, ((.ireturn : Instr), 1))])]
/-- ChaffInTheWind.end(I)Z -/
def z_meth_11 : z_Mr := (⟨"ChaffInTheWind", "end", "(I)Z"⟩, prog_1_method_3_code, (2, 2, 0, 0), some .boolean, none, 0, 0, z_code_11, (1, 335, 1, 333, 334))
def z_code_12 : z_bm (Instr × Nat) := [(20, [(0, ((.iload_n 1 : Instr), 1)), (1, ((.ifCond .lt 11 : Instr), 3)), (4, ((.iload_n 1 : Instr), 1)), (5, ((.aload_n 0 : Instr), 1)), (6, ((.getfield 15 : Instr), 3)), (9, ((.if_icmp .le 5 : Instr), 3)), (12, ((.iconst 0 : Instr), 1)), (13, ((.ireturn : Instr), 1)), (14, ((.aload_n 0 : Instr), 1)), (15, ((.iload_n 1 : Instr), 1)), (16, ((.putfield 15 : Instr), 3)), (19, ((.iconst 1 : Instr), 1)), (20, ((.ireturn : Instr), 1))])]
/-- ChaffInTheWind$Signs.shorten(I)Z -/
def z_meth_12 : z_Mr := (⟨"ChaffInTheWind$Signs", "shorten", "(I)Z"⟩, prog_9_method_3_code, (2, 2, 0, 0), some .boolean, none, 1, 1, z_code_12, (1, 339, 2, 338, 100001))
def z_code_13 : z_bm (Instr × Nat) := [(30, [(0, ((.aload_n 0 : Instr), 1)), (1, ((.getfield 12 : Instr), 3)), (4, ((.bipush 76 : Instr), 2)), (6, ((.invokevirtual 103 : Instr), 3)), (9, ((.aload_n 0 : Instr), 1)), (10, ((.getfield 26 : Instr), 3)), (13, ((.aload_n 0 : Instr), 1)), (14, ((.getfield 12 : Instr), 3)), (17, ((.invokevirtual 107 : Instr), 3)), (20, ((.istore_n 1 : Instr), 1)), (21, ((.iload_n 1 : Instr), 1)), (22, ((.iconst (-1) : Instr), 1)), (23, ((.if_icmp .eq 17 : Instr), 3)), (26, ((.aload_n 0 : Instr), 1)), (27, ((.getfield 12 : Instr), 3)), (30, ((.invokevirtual 111 : Instr), 3))]),
  (62, [(33, ((.ifCond .ne 7 : Instr), 3)), (36, ((.iconst 1 : Instr), 1)), (37, ((.goto 4 : Instr), 3)), (40, ((.iconst 0 : Instr), 1)), (41, ((.istore_n 2 : Instr), 1)), (42, ((.aload_n 0 : Instr), 1)), (43, ((.getfield 12 : Instr), 3)), (46, ((.invokevirtual 115 : Instr), 3)), (49, ((.iload_n 2 : Instr), 1)), (50, ((.ifCond .ne 11 : Instr), 3)), (53, ((.aload_n 0 : Instr), 1)), (54, ((.getfield 12 : Instr), 3)), (57, ((.invokevirtual 118 : Instr), 3)), (60, ((.ireturn : Instr), 1)), (61, ((.aload_n 0 : Instr), 1)), (62, ((.getfield 26 : Instr), 3))]),
  (98, [(65, ((.invokevirtual 122 : Instr), 3)), (68, ((.ifCond .eq 10 : Instr), 3)), (71, ((.aload_n 0 : Instr), 1)), (72, ((.getfield 33 : Instr), 3)), (75, ((.invokevirtual 125 : Instr), 3)), (78, ((.aload_n 0 : Instr), 1)), (79, ((.getfield 26 : Instr), 3)), (82, ((.getfield 128 : Instr), 3)), (85, ((.istore_n 3 : Instr), 1)), (86, ((.iload_n 3 : Instr), 1)), (87, ((.aload_n 0 : Instr), 1)), (88, ((.getfield 26 : Instr), 3)), (91, ((.getfield 131 : Instr), 3)), (94, ((.if_icmp .ge 35 : Instr), 3)), (97, ((.iload_n 3 : Instr), 1)), (98, ((.bipush 10 : Instr), 2))]),
  (129, [(100, ((.if_icmp .ge 29 : Instr), 3)), (103, ((.aload_n 0 : Instr), 1)), (104, ((.getfield 33 : Instr), 3)), (107, ((.getfield 134 : Instr), 3)), (110, ((.iconst 0 : Instr), 1)), (111, ((.aaload : Instr), 1)), (112, ((.iload_n 3 : Instr), 1)), (113, ((.aload_n 0 : Instr), 1)), (114, ((.getfield 26 : Instr), 3)), (117, ((.getfield 137 : Instr), 3)), (120, ((.iload_n 3 : Instr), 1)), (121, ((.iaload : Instr), 1)), (122, ((.iastore : Instr), 1)), (123, ((.iinc 3 1 : Instr), 3)), (126, ((.goto (-40) : Instr), 3)), (129, ((.aload_n 0 : Instr), 1))]),
  (137, [(130, ((.getfield 26 : Instr), 3)), (133, ((.invokevirtual 140 : Instr), 3)), (136, ((.iload_n 1 : Instr), 1)), (137, ((.ireturn : Instr), 1))])]
/-- ChaffInTheWind.barn()I -/
def z_meth_13 : z_Mr := (⟨"ChaffInTheWind", "barn", "()I"⟩, prog_1_method_4_code, (4, 1, 0, 0), some .int, none, 0, 0, z_code_13, (1, 343, 1, 341, 342))
def z_code_14 : z_bm (Instr × Nat) := [(27, [(0, ((.aload_n 0 : Instr), 1)), (1, ((.iconst 0 : Instr), 1)), (2, ((.putfield 19 : Instr), 3)), (5, ((.aload_n 0 : Instr), 1)), (6, ((.aload_n 0 : Instr), 1)), (7, ((.getfield 15 : Instr), 3)), (10, ((.iload_n 1 : Instr), 1)), (11, ((.invokestatic 29 : Instr), 3)), (14, ((.putfield 22 : Instr), 3)), (17, ((.aload_n 0 : Instr), 1)), (18, ((.aload_n 0 : Instr), 1)), (19, ((.getfield 15 : Instr), 3)), (22, ((.iload_n 1 : Instr), 1)), (23, ((.if_icmp .le 7 : Instr), 3)), (26, ((.iconst 1 : Instr), 1)), (27, ((.goto 4 : Instr), 3))]),
  (34, [(30, ((.iconst 0 : Instr), 1)), (31, ((.putfield 25 : Instr), 3)), (34, ((.return_ : Instr), 1))])]
/-- ChaffInTheWind$Signs.open(I)V -/
def z_meth_14 : z_Mr := (⟨"ChaffInTheWind$Signs", "open", "(I)V"⟩, prog_9_method_5_code, (2, 2, 0, 0), none, none, 1, 1, z_code_14, (1, 347, 2, 346, 100002))
def z_code_15 : z_bm (Instr × Nat) := [(10, [(0, ((.iload_n 0 : Instr), 1)), (1, ((.iload_n 1 : Instr), 1)), (2, ((.if_icmp .gt 7 : Instr), 3)), (5, ((.iload_n 0 : Instr), 1)), (6, ((.goto 4 : Instr), 3)), (9, ((.iload_n 1 : Instr), 1)), (10, ((.ireturn : Instr), 1))])]
/-- java/lang/Math.min(II)I -/
def z_meth_15 : z_Mr := (⟨"java/lang/Math", "min", "(II)I"⟩, prog_19_method_69_code, (2, 2, 0, 0), some .int, none, 0, 9, z_code_15, (0, 350, 11, 349, 0))
def z_code_16 : z_bm (Instr × Nat) := [(27, [(0, ((.aload_n 0 : Instr), 1)), (1, ((.aload_n 0 : Instr), 1)), (2, ((.getfield 27 : Instr), 3)), (5, ((.putfield 34 : Instr), 3)), (8, ((.aload_n 0 : Instr), 1)), (9, ((.iconst 0 : Instr), 1)), (10, ((.putfield 37 : Instr), 3)), (13, ((.aload_n 0 : Instr), 1)), (14, ((.aload_n 0 : Instr), 1)), (15, ((.getfield 43 : Instr), 3)), (18, ((.iconst 2 : Instr), 1)), (19, ((.iaload : Instr), 1)), (20, ((.putfield 40 : Instr), 3)), (23, ((.aload_n 1 : Instr), 1)), (24, ((.invokevirtual 58 : Instr), 3)), (27, ((.ifCond .eq 5 : Instr), 3))]),
  (54, [(30, ((.iconst 0 : Instr), 1)), (31, ((.ireturn : Instr), 1)), (32, ((.iconst 1 : Instr), 1)), (33, ((.istore_n 2 : Instr), 1)), (34, ((.iload_n 2 : Instr), 1)), (35, ((.bipush 76 : Instr), 2)), (37, ((.if_icmp .gt 39 : Instr), 3)), (40, ((.aload_n 0 : Instr), 1)), (41, ((.aload_n 1 : Instr), 1)), (42, ((.invokevirtual 64 : Instr), 3)), (45, ((.ifCond .ne 5 : Instr), 3)), (48, ((.iconst (-1) : Instr), 1)), (49, ((.ireturn : Instr), 1)), (50, ((.aload_n 1 : Instr), 1)), (51, ((.invokevirtual 58 : Instr), 3)), (54, ((.ifCond .eq 5 : Instr), 3))]),
  (77, [(57, ((.iload_n 2 : Instr), 1)), (58, ((.ireturn : Instr), 1)), (59, ((.aload_n 1 : Instr), 1)), (60, ((.bipush 59 : Instr), 2)), (62, ((.invokevirtual 68 : Instr), 3)), (65, ((.ifCond .ne 5 : Instr), 3)), (68, ((.iconst (-1) : Instr), 1)), (69, ((.ireturn : Instr), 1)), (70, ((.iinc 2 1 : Instr), 3)), (73, ((.goto (-39) : Instr), 3)), (76, ((.iconst (-1) : Instr), 1)), (77, ((.ireturn : Instr), 1))])]
/-- ChaffInTheWind$Barn.read(LChaffInTheWind$Signs;)I -/
def z_meth_16 : z_Mr := (⟨"ChaffInTheWind$Barn", "read", "(LChaffInTheWind$Signs;)I"⟩, prog_2_method_2_code, (3, 2, 0, 0), some .int, none, 3, 3, z_code_16, (1, 354, 4, 353, 100003))
def z_code_17 : z_bm (Instr × Nat) := [(16, [(0, ((.aload_n 0 : Instr), 1)), (1, ((.getfield 19 : Instr), 3)), (4, ((.aload_n 0 : Instr), 1)), (5, ((.getfield 22 : Instr), 3)), (8, ((.if_icmp .lt 7 : Instr), 3)), (11, ((.iconst 1 : Instr), 1)), (12, ((.goto 4 : Instr), 3)), (15, ((.iconst 0 : Instr), 1)), (16, ((.ireturn : Instr), 1))])]
/-- ChaffInTheWind$Signs.isDone()Z -/
def z_meth_17 : z_Mr := (⟨"ChaffInTheWind$Signs", "isDone", "()Z"⟩, prog_9_method_7_code, (1, 1, 0, 0), some .boolean, none, 1, 1, z_code_17, (1, 358, 2, 357, 100004))
def z_code_18 : z_bm (Instr × Nat) := [(27, [(0, ((.aload_n 1 : Instr), 1)), (1, ((.bipush 121 : Instr), 2)), (3, ((.invokevirtual 68 : Instr), 3)), (6, ((.ifCond .eq 9 : Instr), 3)), (9, ((.aload_n 0 : Instr), 1)), (10, ((.aload_n 1 : Instr), 1)), (11, ((.invokevirtual 72 : Instr), 3)), (14, ((.ireturn : Instr), 1)), (15, ((.aload_n 0 : Instr), 1)), (16, ((.getfield 34 : Instr), 3)), (19, ((.bipush 10 : Instr), 2)), (21, ((.if_icmp .lt 5 : Instr), 3)), (24, ((.iconst 0 : Instr), 1)), (25, ((.ireturn : Instr), 1)), (26, ((.aload_n 0 : Instr), 1)), (27, ((.aload_n 1 : Instr), 1))]),
  (35, [(28, ((.aload_n 0 : Instr), 1)), (29, ((.getfield 34 : Instr), 3)), (32, ((.invokevirtual 75 : Instr), 3)), (35, ((.ireturn : Instr), 1))])]
/-- ChaffInTheWind$Barn.readLine(LChaffInTheWind$Signs;)Z -/
def z_meth_18 : z_Mr := (⟨"ChaffInTheWind$Barn", "readLine", "(LChaffInTheWind$Signs;)Z"⟩, prog_2_method_3_code, (2, 2, 0, 0), some .boolean, none, 3, 3, z_code_18, (1, 362, 4, 361, 100005))
def z_code_19 : z_bm (Instr × Nat) := [(21, [(0, ((.aload_n 0 : Instr), 1)), (1, ((.iload_n 1 : Instr), 1)), (2, ((.invokevirtual 35 : Instr), 3)), (5, ((.ifCond .ne 5 : Instr), 3)), (8, ((.iconst 0 : Instr), 1)), (9, ((.ireturn : Instr), 1)), (10, ((.aload_n 0 : Instr), 1)), (11, ((.dup : Instr), 1)), (12, ((.getfield 19 : Instr), 3)), (15, ((.iconst 1 : Instr), 1)), (16, ((.iadd : Instr), 1)), (17, ((.putfield 19 : Instr), 3)), (20, ((.iconst 1 : Instr), 1)), (21, ((.ireturn : Instr), 1))])]
/-- ChaffInTheWind$Signs.take(C)Z -/
def z_meth_19 : z_Mr := (⟨"ChaffInTheWind$Signs", "take", "(C)Z"⟩, prog_9_method_10_code, (2, 2, 0, 0), some .boolean, none, 1, 1, z_code_19, (1, 366, 2, 365, 100006))
def z_code_20 : z_bm (Instr × Nat) := [(29, [(0, ((.aload_n 0 : Instr), 1)), (1, ((.getfield 19 : Instr), 3)), (4, ((.aload_n 0 : Instr), 1)), (5, ((.getfield 22 : Instr), 3)), (8, ((.if_icmp .ge 20 : Instr), 3)), (11, ((.aload_n 0 : Instr), 1)), (12, ((.getfield 11 : Instr), 3)), (15, ((.aload_n 0 : Instr), 1)), (16, ((.getfield 19 : Instr), 3)), (19, ((.caload : Instr), 1)), (20, ((.iload_n 1 : Instr), 1)), (21, ((.if_icmp .ne 7 : Instr), 3)), (24, ((.iconst 1 : Instr), 1)), (25, ((.goto 4 : Instr), 3)), (28, ((.iconst 0 : Instr), 1)), (29, ((.ireturn : Instr), 1))])]
/-- ChaffInTheWind$Signs.isNext(C)Z -/
def z_meth_20 : z_Mr := (⟨"ChaffInTheWind$Signs", "isNext", "(C)Z"⟩, prog_9_method_9_code, (2, 2, 0, 0), some .boolean, none, 1, 1, z_code_20, (1, 370, 2, 369, 100007))
def z_code_21 : z_bm (Instr × Nat) := [(22, [(0, ((.aload_n 1 : Instr), 1)), (1, ((.iconst 2 : Instr), 1)), (2, ((.iconst 2 : Instr), 1)), (3, ((.bipush 24 : Instr), 2)), (5, ((.invokevirtual 79 : Instr), 3)), (8, ((.istore_n 2 : Instr), 1)), (9, ((.iload_n 2 : Instr), 1)), (10, ((.iconst (-1) : Instr), 1)), (11, ((.if_icmp .ne 5 : Instr), 3)), (14, ((.iconst 0 : Instr), 1)), (15, ((.ireturn : Instr), 1)), (16, ((.aload_n 0 : Instr), 1)), (17, ((.iload_n 2 : Instr), 1)), (18, ((.putfield 37 : Instr), 3)), (21, ((.aload_n 0 : Instr), 1)), (22, ((.aload_n 0 : Instr), 1))]),
  (36, [(23, ((.getfield 40 : Instr), 3)), (26, ((.iload_n 2 : Instr), 1)), (27, ((.iconst 1 : Instr), 1)), (28, ((.isub : Instr), 1)), (29, ((.invokestatic 83 : Instr), 3)), (32, ((.putfield 40 : Instr), 3)), (35, ((.iconst 1 : Instr), 1)), (36, ((.ireturn : Instr), 1))])]
/-- ChaffInTheWind$Barn.readYards(LChaffInTheWind$Signs;)Z -/
def z_meth_21 : z_Mr := (⟨"ChaffInTheWind$Barn", "readYards", "(LChaffInTheWind$Signs;)Z"⟩, prog_2_method_4_code, (3, 2, 0, 0), some .boolean, none, 3, 3, z_code_21, (1, 374, 4, 373, 100008))
def z_code_22 : z_bm (Instr × Nat) := [(28, [(0, ((.iconst 0 : Instr), 1)), (1, ((.istore 4 : Instr), 2)), (3, ((.iconst 0 : Instr), 1)), (4, ((.istore 5 : Instr), 2)), (6, ((.iload 5 : Instr), 2)), (8, ((.iload_n 1 : Instr), 1)), (9, ((.if_icmp .ge 46 : Instr), 3)), (12, ((.aload_n 0 : Instr), 1)), (13, ((.invokevirtual 45 : Instr), 3)), (16, ((.ifCond .eq 39 : Instr), 3)), (19, ((.bipush 10 : Instr), 2)), (21, ((.iload 4 : Instr), 2)), (23, ((.imul : Instr), 1)), (24, ((.aload_n 0 : Instr), 1)), (25, ((.getfield 11 : Instr), 3)), (28, ((.aload_n 0 : Instr), 1))]),
  (57, [(29, ((.getfield 19 : Instr), 3)), (32, ((.caload : Instr), 1)), (33, ((.iadd : Instr), 1)), (34, ((.bipush 48 : Instr), 2)), (36, ((.isub : Instr), 1)), (37, ((.istore 4 : Instr), 2)), (39, ((.aload_n 0 : Instr), 1)), (40, ((.dup : Instr), 1)), (41, ((.getfield 19 : Instr), 3)), (44, ((.iconst 1 : Instr), 1)), (45, ((.iadd : Instr), 1)), (46, ((.putfield 19 : Instr), 3)), (49, ((.iinc 5 1 : Instr), 3)), (52, ((.goto (-46) : Instr), 3)), (55, ((.iload 5 : Instr), 2)), (57, ((.ifCond .le 27 : Instr), 3))]),
  (86, [(60, ((.iload 4 : Instr), 2)), (62, ((.iload_n 2 : Instr), 1)), (63, ((.if_icmp .lt 9 : Instr), 3)), (66, ((.iload 4 : Instr), 2)), (68, ((.iload_n 3 : Instr), 1)), (69, ((.if_icmp .le 15 : Instr), 3)), (72, ((.aload_n 0 : Instr), 1)), (73, ((.dup : Instr), 1)), (74, ((.getfield 19 : Instr), 3)), (77, ((.iconst 1 : Instr), 1)), (78, ((.isub : Instr), 1)), (79, ((.putfield 19 : Instr), 3)), (82, ((.iconst (-1) : Instr), 1)), (83, ((.ireturn : Instr), 1)), (84, ((.iload 5 : Instr), 2)), (86, ((.ifCond .le 8 : Instr), 3))]),
  (95, [(89, ((.iload 4 : Instr), 2)), (91, ((.goto 4 : Instr), 3)), (94, ((.iconst (-1) : Instr), 1)), (95, ((.ireturn : Instr), 1))])]
/-- ChaffInTheWind$Signs.number(III)I -/
def z_meth_22 : z_Mr := (⟨"ChaffInTheWind$Signs", "number", "(III)I"⟩, prog_9_method_12_code, (6, 4, 0, 0), some .int, none, 1, 1, z_code_22, (1, 378, 2, 377, 100009))
def z_code_23 : z_bm (Instr × Nat) := [(30, [(0, ((.aload_n 0 : Instr), 1)), (1, ((.getfield 19 : Instr), 3)), (4, ((.aload_n 0 : Instr), 1)), (5, ((.getfield 22 : Instr), 3)), (8, ((.if_icmp .ge 35 : Instr), 3)), (11, ((.aload_n 0 : Instr), 1)), (12, ((.getfield 11 : Instr), 3)), (15, ((.aload_n 0 : Instr), 1)), (16, ((.getfield 19 : Instr), 3)), (19, ((.caload : Instr), 1)), (20, ((.bipush 48 : Instr), 2)), (22, ((.if_icmp .lt 21 : Instr), 3)), (25, ((.aload_n 0 : Instr), 1)), (26, ((.getfield 11 : Instr), 3)), (29, ((.aload_n 0 : Instr), 1)), (30, ((.getfield 19 : Instr), 3))]),
  (44, [(33, ((.caload : Instr), 1)), (34, ((.bipush 57 : Instr), 2)), (36, ((.if_icmp .gt 7 : Instr), 3)), (39, ((.iconst 1 : Instr), 1)), (40, ((.goto 4 : Instr), 3)), (43, ((.iconst 0 : Instr), 1)), (44, ((.ireturn : Instr), 1))])]
/-- ChaffInTheWind$Signs.isDigitNext()Z -/
def z_meth_23 : z_Mr := (⟨"ChaffInTheWind$Signs", "isDigitNext", "()Z"⟩, prog_9_method_13_code, (1, 1, 0, 0), some .boolean, none, 1, 1, z_code_23, (1, 382, 2, 381, 100010))
def z_code_24 : z_bm (Instr × Nat) := [(24, [(0, ((.aload_n 0 : Instr), 1)), (1, ((.getfield 9 : Instr), 3)), (4, ((.iload_n 2 : Instr), 1)), (5, ((.aload_n 1 : Instr), 1)), (6, ((.ldc 89 : Instr), 2)), (8, ((.invokevirtual 91 : Instr), 3)), (11, ((.iastore : Instr), 1)), (12, ((.aload_n 0 : Instr), 1)), (13, ((.getfield 9 : Instr), 3)), (16, ((.iload_n 2 : Instr), 1)), (17, ((.iaload : Instr), 1)), (18, ((.iconst (-1) : Instr), 1)), (19, ((.if_icmp .ne 5 : Instr), 3)), (22, ((.iconst 0 : Instr), 1)), (23, ((.ireturn : Instr), 1)), (24, ((.aload_n 0 : Instr), 1))]),
  (49, [(25, ((.getfield 15 : Instr), 3)), (28, ((.iload_n 2 : Instr), 1)), (29, ((.aload_n 1 : Instr), 1)), (30, ((.iconst 2 : Instr), 1)), (31, ((.iconst 1 : Instr), 1)), (32, ((.bipush 99 : Instr), 2)), (34, ((.invokevirtual 79 : Instr), 3)), (37, ((.iastore : Instr), 1)), (38, ((.aload_n 0 : Instr), 1)), (39, ((.getfield 15 : Instr), 3)), (42, ((.iload_n 2 : Instr), 1)), (43, ((.iaload : Instr), 1)), (44, ((.iconst (-1) : Instr), 1)), (45, ((.if_icmp .eq 12 : Instr), 3)), (48, ((.aload_n 1 : Instr), 1)), (49, ((.bipush 44 : Instr), 2))]),
  (77, [(51, ((.invokevirtual 68 : Instr), 3)), (54, ((.ifCond .ne 5 : Instr), 3)), (57, ((.iconst 0 : Instr), 1)), (58, ((.ireturn : Instr), 1)), (59, ((.aload_n 0 : Instr), 1)), (60, ((.getfield 18 : Instr), 3)), (63, ((.iload_n 2 : Instr), 1)), (64, ((.aload_n 1 : Instr), 1)), (65, ((.iconst 2 : Instr), 1)), (66, ((.iconst 1 : Instr), 1)), (67, ((.bipush 60 : Instr), 2)), (69, ((.invokevirtual 79 : Instr), 3)), (72, ((.iastore : Instr), 1)), (73, ((.aload_n 0 : Instr), 1)), (74, ((.getfield 18 : Instr), 3)), (77, ((.iload_n 2 : Instr), 1))]),
  (102, [(78, ((.iaload : Instr), 1)), (79, ((.iconst (-1) : Instr), 1)), (80, ((.if_icmp .eq 12 : Instr), 3)), (83, ((.aload_n 1 : Instr), 1)), (84, ((.bipush 44 : Instr), 2)), (86, ((.invokevirtual 68 : Instr), 3)), (89, ((.ifCond .ne 5 : Instr), 3)), (92, ((.iconst 0 : Instr), 1)), (93, ((.ireturn : Instr), 1)), (94, ((.aload_n 0 : Instr), 1)), (95, ((.getfield 21 : Instr), 3)), (98, ((.iload_n 2 : Instr), 1)), (99, ((.aload_n 1 : Instr), 1)), (100, ((.iconst 2 : Instr), 1)), (101, ((.iconst 0 : Instr), 1)), (102, ((.bipush 60 : Instr), 2))]),
  (130, [(104, ((.invokevirtual 79 : Instr), 3)), (107, ((.iastore : Instr), 1)), (108, ((.aload_n 0 : Instr), 1)), (109, ((.getfield 21 : Instr), 3)), (112, ((.iload_n 2 : Instr), 1)), (113, ((.iaload : Instr), 1)), (114, ((.iconst (-1) : Instr), 1)), (115, ((.if_icmp .eq 12 : Instr), 3)), (118, ((.aload_n 1 : Instr), 1)), (119, ((.bipush 42 : Instr), 2)), (121, ((.invokevirtual 68 : Instr), 3)), (124, ((.ifCond .ne 5 : Instr), 3)), (127, ((.iconst 0 : Instr), 1)), (128, ((.ireturn : Instr), 1)), (129, ((.aload_n 0 : Instr), 1)), (130, ((.getfield 24 : Instr), 3))]),
  (156, [(133, ((.iload_n 2 : Instr), 1)), (134, ((.aload_n 1 : Instr), 1)), (135, ((.iconst 3 : Instr), 1)), (136, ((.iconst 0 : Instr), 1)), (137, ((.sipush 999 : Instr), 3)), (140, ((.invokevirtual 79 : Instr), 3)), (143, ((.iastore : Instr), 1)), (144, ((.aload_n 0 : Instr), 1)), (145, ((.getfield 24 : Instr), 3)), (148, ((.iload_n 2 : Instr), 1)), (149, ((.iaload : Instr), 1)), (150, ((.iconst (-1) : Instr), 1)), (151, ((.if_icmp .ne 5 : Instr), 3)), (154, ((.iconst 0 : Instr), 1)), (155, ((.ireturn : Instr), 1)), (156, ((.aload_n 0 : Instr), 1))]),
  (164, [(157, ((.iload_n 2 : Instr), 1)), (158, ((.iconst 1 : Instr), 1)), (159, ((.iadd : Instr), 1)), (160, ((.putfield 34 : Instr), 3)), (163, ((.iconst 1 : Instr), 1)), (164, ((.ireturn : Instr), 1))])]
/-- ChaffInTheWind$Barn.readSort(LChaffInTheWind$Signs;I)Z -/
def z_meth_24 : z_Mr := (⟨"ChaffInTheWind$Barn", "readSort", "(LChaffInTheWind$Signs;I)Z"⟩, prog_2_method_5_code, (3, 3, 0, 0), some .boolean, none, 3, 3, z_code_24, (1, 387, 4, 386, 100011))
def z_code_25 : z_bm (Instr × Nat) := [(29, [(0, ((.aload_n 0 : Instr), 1)), (1, ((.getfield 19 : Instr), 3)), (4, ((.aload_n 0 : Instr), 1)), (5, ((.getfield 22 : Instr), 3)), (8, ((.if_icmp .ge 19 : Instr), 3)), (11, ((.aload_n 1 : Instr), 1)), (12, ((.aload_n 0 : Instr), 1)), (13, ((.getfield 11 : Instr), 3)), (16, ((.aload_n 0 : Instr), 1)), (17, ((.getfield 19 : Instr), 3)), (20, ((.caload : Instr), 1)), (21, ((.invokevirtual 39 : Instr), 3)), (24, ((.goto 4 : Instr), 3)), (27, ((.iconst (-1) : Instr), 1)), (28, ((.istore_n 2 : Instr), 1)), (29, ((.iload_n 2 : Instr), 1))]),
  (46, [(30, ((.ifCond .lt 15 : Instr), 3)), (33, ((.aload_n 0 : Instr), 1)), (34, ((.dup : Instr), 1)), (35, ((.getfield 19 : Instr), 3)), (38, ((.iconst 1 : Instr), 1)), (39, ((.iadd : Instr), 1)), (40, ((.putfield 19 : Instr), 3)), (43, ((.iload_n 2 : Instr), 1)), (44, ((.ireturn : Instr), 1)), (45, ((.iconst (-1) : Instr), 1)), (46, ((.ireturn : Instr), 1))])]
/-- ChaffInTheWind$Signs.takeOneOf(Ljava/lang/String;)I -/
def z_meth_25 : z_Mr := (⟨"ChaffInTheWind$Signs", "takeOneOf", "(Ljava/lang/String;)I"⟩, prog_9_method_11_code, (3, 2, 0, 0), some .int, none, 1, 1, z_code_25, (1, 392, 2, 391, 100012))
def z_code_26 : z_bm (Instr × Nat) := [(6, [(0, ((.aload_n 0 : Instr), 1)), (1, ((.iload_n 1 : Instr), 1)), (2, ((.iconst 0 : Instr), 1)), (3, ((.invokevirtual 633 : Instr), 3)), (6, ((.ireturn : Instr), 1))])]
/-- java/lang/String.indexOf(I)I -/
def z_meth_26 : z_Mr := (⟨"java/lang/String", "indexOf", "(I)I"⟩, prog_21_method_79_code, (2, 2, 0, 0), some .int, none, 98, 10, z_code_26, (1, 396, 12, 394, 395))
def z_code_27 : z_bm (Instr × Nat) := [(29, [(0, ((.aload_n 0 : Instr), 1)), (1, ((.invokevirtual 492 : Instr), 3)), (4, ((.ifCond .eq 19 : Instr), 3)), (7, ((.aload_n 0 : Instr), 1)), (8, ((.getfield 9 : Instr), 3)), (11, ((.iload_n 1 : Instr), 1)), (12, ((.iload_n 2 : Instr), 1)), (13, ((.aload_n 0 : Instr), 1)), (14, ((.invokevirtual 505 : Instr), 3)), (17, ((.invokestatic 637 : Instr), 3)), (20, ((.goto 16 : Instr), 3)), (23, ((.aload_n 0 : Instr), 1)), (24, ((.getfield 9 : Instr), 3)), (27, ((.iload_n 1 : Instr), 1)), (28, ((.iload_n 2 : Instr), 1)), (29, ((.aload_n 0 : Instr), 1))]),
  (36, [(30, ((.invokevirtual 505 : Instr), 3)), (33, ((.invokestatic 640 : Instr), 3)), (36, ((.ireturn : Instr), 1))])]
/-- java/lang/String.indexOf(II)I -/
def z_meth_27 : z_Mr := (⟨"java/lang/String", "indexOf", "(II)I"⟩, prog_21_method_80_code, (3, 3, 0, 0), some .int, none, 98, 10, z_code_27, (1, 400, 12, 398, 399))
def z_code_28 : z_bm (Instr × Nat) := [(18, [(0, ((.getstatic 38 : Instr), 3)), (3, ((.ifCond .eq 14 : Instr), 3)), (6, ((.aload_n 0 : Instr), 1)), (7, ((.getfield 15 : Instr), 3)), (10, ((.ifCond .ne 7 : Instr), 3)), (13, ((.iconst 1 : Instr), 1)), (14, ((.goto 4 : Instr), 3)), (17, ((.iconst 0 : Instr), 1)), (18, ((.ireturn : Instr), 1))])]
/-- java/lang/String.isLatin1()Z -/
def z_meth_28 : z_Mr := (⟨"java/lang/String", "isLatin1", "()Z"⟩, prog_21_method_154_code, (1, 1, 0, 0), some .boolean, none, 98, 10, z_code_28, (1, 404, 12, 402, 403))
def z_code_29 : z_bm (Instr × Nat) := [(10, [(0, ((.aload_n 0 : Instr), 1)), (1, ((.getfield 9 : Instr), 3)), (4, ((.arraylength : Instr), 1)), (5, ((.aload_n 0 : Instr), 1)), (6, ((.invokevirtual 335 : Instr), 3)), (9, ((.ishr : Instr), 1)), (10, ((.ireturn : Instr), 1))])]
/-- java/lang/String.length()I -/
def z_meth_29 : z_Mr := (⟨"java/lang/String", "length", "()I"⟩, prog_21_method_54_code, (1, 1, 0, 0), some .int, none, 98, 10, z_code_29, (1, 410, 12, 408, 409))
def z_code_30 : z_bm (Instr × Nat) := [(14, [(0, ((.getstatic 38 : Instr), 3)), (3, ((.ifCond .eq 10 : Instr), 3)), (6, ((.aload_n 0 : Instr), 1)), (7, ((.getfield 15 : Instr), 3)), (10, ((.goto 4 : Instr), 3)), (13, ((.iconst 1 : Instr), 1)), (14, ((.ireturn : Instr), 1))])]
/-- java/lang/String.coder()B -/
def z_meth_30 : z_Mr := (⟨"java/lang/String", "coder", "()B"⟩, prog_21_method_152_code, (1, 1, 0, 0), some .byte, none, 98, 10, z_code_30, (1, 414, 12, 412, 413))
def z_code_31 : z_bm (Instr × Nat) := [(23, [(0, ((.iload_n 1 : Instr), 1)), (1, ((.invokestatic 88 : Instr), 3)), (4, ((.ifCond .ne 5 : Instr), 3)), (7, ((.iconst (-1) : Instr), 1)), (8, ((.ireturn : Instr), 1)), (9, ((.iload_n 2 : Instr), 1)), (10, ((.iconst 0 : Instr), 1)), (11, ((.invokestatic 92 : Instr), 3)), (14, ((.istore_n 2 : Instr), 1)), (15, ((.iload_n 3 : Instr), 1)), (16, ((.aload_n 0 : Instr), 1)), (17, ((.arraylength : Instr), 1)), (18, ((.invokestatic 38 : Instr), 3)), (21, ((.istore_n 3 : Instr), 1)), (22, ((.iload_n 2 : Instr), 1)), (23, ((.iload_n 3 : Instr), 1))]),
  (36, [(24, ((.if_icmp .lt 5 : Instr), 3)), (27, ((.iconst (-1) : Instr), 1)), (28, ((.ireturn : Instr), 1)), (29, ((.aload_n 0 : Instr), 1)), (30, ((.iload_n 1 : Instr), 1)), (31, ((.iload_n 2 : Instr), 1)), (32, ((.iload_n 3 : Instr), 1)), (33, ((.invokestatic 95 : Instr), 3)), (36, ((.ireturn : Instr), 1))])]
/-- java/lang/StringLatin1.indexOf([BIII)I -/
def z_meth_31 : z_Mr := (⟨"java/lang/StringLatin1", "indexOf", "([BIII)I"⟩, prog_22_method_22_code, (4, 4, 0, 0), some .int, none, 0, 11, z_code_31, (0, 417, 13, 416, 0))
def z_code_32 : z_bm (Instr × Nat) := [(16, [(0, ((.iload_n 0 : Instr), 1)), (1, ((.ifCond .lt 14 : Instr), 3)), (4, ((.iload_n 0 : Instr), 1)), (5, ((.sipush 255 : Instr), 3)), (8, ((.if_icmp .gt 7 : Instr), 3)), (11, ((.iconst 1 : Instr), 1)), (12, ((.goto 4 : Instr), 3)), (15, ((.iconst 0 : Instr), 1)), (16, ((.ireturn : Instr), 1))])]
/-- java/lang/StringLatin1.canEncode(I)Z -/
def z_meth_32 : z_Mr := (⟨"java/lang/StringLatin1", "canEncode", "(I)Z"⟩, prog_22_method_4_code, (1, 1, 0, 0), some .boolean, none, 0, 11, z_code_32, (0, 420, 13, 419, 0))
def z_code_33 : z_bm (Instr × Nat) := [(10, [(0, ((.iload_n 0 : Instr), 1)), (1, ((.iload_n 1 : Instr), 1)), (2, ((.if_icmp .lt 7 : Instr), 3)), (5, ((.iload_n 0 : Instr), 1)), (6, ((.goto 4 : Instr), 3)), (9, ((.iload_n 1 : Instr), 1)), (10, ((.ireturn : Instr), 1))])]
/-- java/lang/Math.max(II)I -/
def z_meth_33 : z_Mr := (⟨"java/lang/Math", "max", "(II)I"⟩, prog_19_method_65_code, (2, 2, 0, 0), some .int, none, 0, 9, z_code_33, (0, 423, 11, 422, 0))
def z_code_34 : z_bm (Instr × Nat) := [(25, [(0, ((.iload_n 1 : Instr), 1)), (1, ((.i2b : Instr), 1)), (2, ((.istore 4 : Instr), 2)), (4, ((.iload_n 2 : Instr), 1)), (5, ((.istore 5 : Instr), 2)), (7, ((.iload 5 : Instr), 2)), (9, ((.iload_n 3 : Instr), 1)), (10, ((.if_icmp .ge 21 : Instr), 3)), (13, ((.aload_n 0 : Instr), 1)), (14, ((.iload 5 : Instr), 2)), (16, ((.baload : Instr), 1)), (17, ((.iload 4 : Instr), 2)), (19, ((.if_icmp .ne 6 : Instr), 3)), (22, ((.iload 5 : Instr), 2)), (24, ((.ireturn : Instr), 1)), (25, ((.iinc 5 1 : Instr), 3))]),
  (32, [(28, ((.goto (-21) : Instr), 3)), (31, ((.iconst (-1) : Instr), 1)), (32, ((.ireturn : Instr), 1))])]
/-- java/lang/StringLatin1.indexOfChar([BIII)I -/
def z_meth_34 : z_Mr := (⟨"java/lang/StringLatin1", "indexOfChar", "([BIII)I"⟩, prog_22_method_23_code, (6, 4, 0, 0), some .int, none, 0, 11, z_code_34, (0, 427, 13, 426, 0))
def z_code_35 : z_bm (Instr × Nat) := [(4, [(0, ((.aload_n 0 : Instr), 1)), (1, ((.getfield 25 : Instr), 3)), (4, ((.ireturn : Instr), 1))])]
/-- ChaffInTheWind$Signs.hasMore()Z -/
def z_meth_35 : z_Mr := (⟨"ChaffInTheWind$Signs", "hasMore", "()Z"⟩, prog_9_method_6_code, (1, 1, 0, 0), some .boolean, none, 1, 1, z_code_35, (1, 480, 2, 479, 100013))
def z_code_36 : z_bm (Instr × Nat) := [(5, [(0, ((.aload_n 0 : Instr), 1)), (1, ((.iconst 0 : Instr), 1)), (2, ((.putfield 15 : Instr), 3)), (5, ((.return_ : Instr), 1))])]
/-- ChaffInTheWind$Signs.clear()V -/
def z_meth_36 : z_Mr := (⟨"ChaffInTheWind$Signs", "clear", "()V"⟩, prog_9_method_4_code, (1, 1, 0, 0), none, none, 1, 1, z_code_36, (1, 484, 2, 483, 100014))
def z_code_37 : z_bm (Instr × Nat) := [(6, [(0, ((.iconst (-1) : Instr), 1)), (1, ((.aload_n 0 : Instr), 1)), (2, ((.getfield 19 : Instr), 3)), (5, ((.isub : Instr), 1)), (6, ((.ireturn : Instr), 1))])]
/-- ChaffInTheWind$Signs.fault()I -/
def z_meth_37 : z_Mr := (⟨"ChaffInTheWind$Signs", "fault", "()I"⟩, prog_9_method_8_code, (1, 1, 0, 0), some .int, none, 1, 1, z_code_37, (1, 488, 2, 487, 100015))
def z_code_38 : z_bm (Instr × Nat) := [(12, [(0, ((.aload_n 0 : Instr), 1)), (1, ((.getfield 37 : Instr), 3)), (4, ((.ifCond .le 7 : Instr), 3)), (7, ((.iconst 1 : Instr), 1)), (8, ((.goto 4 : Instr), 3)), (11, ((.iconst 0 : Instr), 1)), (12, ((.ireturn : Instr), 1))])]
/-- ChaffInTheWind$Barn.tellsYards()Z -/
def z_meth_38 : z_Mr := (⟨"ChaffInTheWind$Barn", "tellsYards", "()Z"⟩, prog_2_method_6_code, (1, 1, 0, 0), some .boolean, none, 3, 3, z_code_38, (1, 492, 4, 491, 100016))
def z_code_39 : z_bm (Instr × Nat) := [(24, [(0, ((.iconst 0 : Instr), 1)), (1, ((.istore_n 1 : Instr), 1)), (2, ((.iload_n 1 : Instr), 1)), (3, ((.bipush 24 : Instr), 2)), (5, ((.if_icmp .ge 19 : Instr), 3)), (8, ((.aload_n 0 : Instr), 1)), (9, ((.getfield 16 : Instr), 3)), (12, ((.iload_n 1 : Instr), 1)), (13, ((.aaload : Instr), 1)), (14, ((.iconst 0 : Instr), 1)), (15, ((.invokestatic 37 : Instr), 3)), (18, ((.iinc 1 1 : Instr), 3)), (21, ((.goto (-19) : Instr), 3)), (24, ((.return_ : Instr), 1))])]
/-- ChaffInTheWind$Store.clearYards()V -/
def z_meth_39 : z_Mr := (⟨"ChaffInTheWind$Store", "clearYards", "()V"⟩, prog_10_method_3_code, (2, 1, 0, 0), none, none, 5, 5, z_code_39, (1, 496, 6, 495, 100017))
def z_code_40 : z_bm (Instr × Nat) := [(20, [(0, ((.iconst 0 : Instr), 1)), (1, ((.istore_n 2 : Instr), 1)), (2, ((.aload_n 0 : Instr), 1)), (3, ((.arraylength : Instr), 1)), (4, ((.istore_n 3 : Instr), 1)), (5, ((.iload_n 2 : Instr), 1)), (6, ((.iload_n 3 : Instr), 1)), (7, ((.if_icmp .ge 13 : Instr), 3)), (10, ((.aload_n 0 : Instr), 1)), (11, ((.iload_n 2 : Instr), 1)), (12, ((.iload_n 1 : Instr), 1)), (13, ((.iastore : Instr), 1)), (14, ((.iinc 2 1 : Instr), 3)), (17, ((.goto (-12) : Instr), 3)), (20, ((.return_ : Instr), 1))])]
/-- java/util/Arrays.fill([II)V -/
def z_meth_40 : z_Mr := (⟨"java/util/Arrays", "fill", "([II)V"⟩, prog_28_method_103_code, (4, 2, 0, 0), none, none, 0, 12, z_code_40, (0, 499, 17, 498, 0))
def z_code_41 : z_bm (Instr × Nat) := [(29, [(0, ((.aload_n 0 : Instr), 1)), (1, ((.aload_n 0 : Instr), 1)), (2, ((.getfield 34 : Instr), 3)), (5, ((.putfield 27 : Instr), 3)), (8, ((.aload_n 0 : Instr), 1)), (9, ((.invokevirtual 95 : Instr), 3)), (12, ((.ifCond .eq 21 : Instr), 3)), (15, ((.aload_n 0 : Instr), 1)), (16, ((.aload_n 0 : Instr), 1)), (17, ((.getfield 37 : Instr), 3)), (20, ((.putfield 31 : Instr), 3)), (23, ((.aload_n 0 : Instr), 1)), (24, ((.getfield 43 : Instr), 3)), (27, ((.iconst 2 : Instr), 1)), (28, ((.aload_n 0 : Instr), 1)), (29, ((.getfield 40 : Instr), 3))]),
  (37, [(32, ((.iastore : Instr), 1)), (33, ((.aload_n 0 : Instr), 1)), (34, ((.invokevirtual 98 : Instr), 3)), (37, ((.return_ : Instr), 1))])]
/-- ChaffInTheWind$Barn.settle()V -/
def z_meth_41 : z_Mr := (⟨"ChaffInTheWind$Barn", "settle", "()V"⟩, prog_2_method_7_code, (1, 1, 0, 0), none, none, 3, 3, z_code_41, (1, 503, 4, 502, 100018))
def z_code_42 : z_bm (Instr × Nat) := [(24, [(0, ((.iconst 0 : Instr), 1)), (1, ((.istore_n 1 : Instr), 1)), (2, ((.iload_n 1 : Instr), 1)), (3, ((.bipush 10 : Instr), 2)), (5, ((.if_icmp .ge 19 : Instr), 3)), (8, ((.aload_n 0 : Instr), 1)), (9, ((.getfield 55 : Instr), 3)), (12, ((.iload_n 1 : Instr), 1)), (13, ((.aaload : Instr), 1)), (14, ((.iconst (-1) : Instr), 1)), (15, ((.invokestatic 101 : Instr), 3)), (18, ((.iinc 1 1 : Instr), 3)), (21, ((.goto (-19) : Instr), 3)), (24, ((.return_ : Instr), 1))])]
/-- ChaffInTheWind$Barn.forgetLandings()V -/
def z_meth_42 : z_Mr := (⟨"ChaffInTheWind$Barn", "forgetLandings", "()V"⟩, prog_2_method_13_code, (2, 1, 0, 0), none, none, 3, 3, z_code_42, (1, 508, 4, 507, 100019))
def z_code_43 : z_bm (Instr × Nat) := [(30, [(0, ((.aload_n 0 : Instr), 1)), (1, ((.getfield 12 : Instr), 3)), (4, ((.bipush 40 : Instr), 2)), (6, ((.invokevirtual 103 : Instr), 3)), (9, ((.aload_n 0 : Instr), 1)), (10, ((.getfield 48 : Instr), 3)), (13, ((.aload_n 0 : Instr), 1)), (14, ((.getfield 12 : Instr), 3)), (17, ((.invokevirtual 143 : Instr), 3)), (20, ((.istore_n 1 : Instr), 1)), (21, ((.iload_n 1 : Instr), 1)), (22, ((.iconst (-1) : Instr), 1)), (23, ((.if_icmp .eq 17 : Instr), 3)), (26, ((.aload_n 0 : Instr), 1)), (27, ((.getfield 12 : Instr), 3)), (30, ((.invokevirtual 111 : Instr), 3))]),
  (62, [(33, ((.ifCond .ne 7 : Instr), 3)), (36, ((.iconst 1 : Instr), 1)), (37, ((.goto 4 : Instr), 3)), (40, ((.iconst 0 : Instr), 1)), (41, ((.istore_n 2 : Instr), 1)), (42, ((.aload_n 0 : Instr), 1)), (43, ((.getfield 12 : Instr), 3)), (46, ((.invokevirtual 115 : Instr), 3)), (49, ((.iload_n 2 : Instr), 1)), (50, ((.ifCond .ne 11 : Instr), 3)), (53, ((.aload_n 0 : Instr), 1)), (54, ((.getfield 12 : Instr), 3)), (57, ((.invokevirtual 118 : Instr), 3)), (60, ((.ireturn : Instr), 1)), (61, ((.aload_n 0 : Instr), 1)), (62, ((.getfield 44 : Instr), 3))]),
  (88, [(65, ((.astore_n 3 : Instr), 1)), (66, ((.aload_n 0 : Instr), 1)), (67, ((.aload_n 0 : Instr), 1)), (68, ((.getfield 48 : Instr), 3)), (71, ((.putfield 44 : Instr), 3)), (74, ((.aload_n 0 : Instr), 1)), (75, ((.aload_n 3 : Instr), 1)), (76, ((.putfield 48 : Instr), 3)), (79, ((.aload_n 0 : Instr), 1)), (80, ((.getfield 33 : Instr), 3)), (83, ((.iconst 0 : Instr), 1)), (84, ((.putfield 144 : Instr), 3)), (87, ((.iload_n 1 : Instr), 1)), (88, ((.ireturn : Instr), 1))])]
/-- ChaffInTheWind.wind()I -/
def z_meth_43 : z_Mr := (⟨"ChaffInTheWind", "wind", "()I"⟩, prog_1_method_5_code, (4, 1, 0, 0), some .int, none, 0, 0, z_code_43, (1, 514, 1, 512, 513))
def z_code_44 : z_bm (Instr × Nat) := [(24, [(0, ((.aload_n 0 : Instr), 1)), (1, ((.iconst 0 : Instr), 1)), (2, ((.putfield 21 : Instr), 3)), (5, ((.aload_n 0 : Instr), 1)), (6, ((.iconst 0 : Instr), 1)), (7, ((.putfield 25 : Instr), 3)), (10, ((.aload_n 1 : Instr), 1)), (11, ((.invokevirtual 28 : Instr), 3)), (14, ((.ifCond .eq 5 : Instr), 3)), (17, ((.iconst 0 : Instr), 1)), (18, ((.ireturn : Instr), 1)), (19, ((.iconst 0 : Instr), 1)), (20, ((.istore_n 2 : Instr), 1)), (21, ((.iload_n 2 : Instr), 1)), (22, ((.bipush 10 : Instr), 2)), (24, ((.if_icmp .ge 65 : Instr), 3))]),
  (50, [(27, ((.aload_n 0 : Instr), 1)), (28, ((.aload_n 1 : Instr), 1)), (29, ((.iload_n 2 : Instr), 1)), (30, ((.invokevirtual 34 : Instr), 3)), (33, ((.ifCond .ne 5 : Instr), 3)), (36, ((.iconst (-1) : Instr), 1)), (37, ((.ireturn : Instr), 1)), (38, ((.aload_n 0 : Instr), 1)), (39, ((.iload_n 2 : Instr), 1)), (40, ((.iconst 1 : Instr), 1)), (41, ((.iadd : Instr), 1)), (42, ((.putfield 21 : Instr), 3)), (45, ((.aload_n 0 : Instr), 1)), (46, ((.dup : Instr), 1)), (47, ((.getfield 25 : Instr), 3)), (50, ((.aload_n 0 : Instr), 1))]),
  (81, [(51, ((.getfield 15 : Instr), 3)), (54, ((.iload_n 2 : Instr), 1)), (55, ((.iaload : Instr), 1)), (56, ((.iadd : Instr), 1)), (57, ((.putfield 25 : Instr), 3)), (60, ((.aload_n 1 : Instr), 1)), (61, ((.invokevirtual 28 : Instr), 3)), (64, ((.ifCond .eq 8 : Instr), 3)), (67, ((.aload_n 0 : Instr), 1)), (68, ((.getfield 21 : Instr), 3)), (71, ((.ireturn : Instr), 1)), (72, ((.aload_n 1 : Instr), 1)), (73, ((.bipush 59 : Instr), 2)), (75, ((.invokevirtual 38 : Instr), 3)), (78, ((.ifCond .ne 5 : Instr), 3)), (81, ((.iconst (-1) : Instr), 1))]),
  (90, [(82, ((.ireturn : Instr), 1)), (83, ((.iinc 2 1 : Instr), 3)), (86, ((.goto (-65) : Instr), 3)), (89, ((.iconst (-1) : Instr), 1)), (90, ((.ireturn : Instr), 1))])]
/-- ChaffInTheWind$Gusts.read(LChaffInTheWind$Signs;)I -/
def z_meth_44 : z_Mr := (⟨"ChaffInTheWind$Gusts", "read", "(LChaffInTheWind$Signs;)I"⟩, prog_5_method_2_code, (3, 2, 0, 0), some .int, none, 6, 6, z_code_44, (1, 518, 7, 517, 100020))
def z_code_45 : z_bm (Instr × Nat) := [(26, [(0, ((.aload_n 1 : Instr), 1)), (1, ((.bipush 45 : Instr), 2)), (3, ((.invokevirtual 38 : Instr), 3)), (6, ((.istore_n 3 : Instr), 1)), (7, ((.aload_n 1 : Instr), 1)), (8, ((.iconst 2 : Instr), 1)), (9, ((.iconst 0 : Instr), 1)), (10, ((.bipush 60 : Instr), 2)), (12, ((.invokevirtual 42 : Instr), 3)), (15, ((.istore 4 : Instr), 2)), (17, ((.iload 4 : Instr), 2)), (19, ((.iconst (-1) : Instr), 1)), (20, ((.if_icmp .eq 12 : Instr), 3)), (23, ((.aload_n 1 : Instr), 1)), (24, ((.bipush 42 : Instr), 2)), (26, ((.invokevirtual 38 : Instr), 3))]),
  (56, [(29, ((.ifCond .ne 5 : Instr), 3)), (32, ((.iconst 0 : Instr), 1)), (33, ((.ireturn : Instr), 1)), (34, ((.aload_n 0 : Instr), 1)), (35, ((.getfield 11 : Instr), 3)), (38, ((.iload_n 2 : Instr), 1)), (39, ((.iload_n 3 : Instr), 1)), (40, ((.ifCond .eq 9 : Instr), 3)), (43, ((.iload 4 : Instr), 2)), (45, ((.ineg : Instr), 1)), (46, ((.goto 5 : Instr), 3)), (49, ((.iload 4 : Instr), 2)), (51, ((.iastore : Instr), 1)), (52, ((.aload_n 0 : Instr), 1)), (53, ((.getfield 15 : Instr), 3)), (56, ((.iload_n 2 : Instr), 1))]),
  (79, [(57, ((.aload_n 1 : Instr), 1)), (58, ((.iconst 2 : Instr), 1)), (59, ((.iconst 1 : Instr), 1)), (60, ((.bipush 99 : Instr), 2)), (62, ((.invokevirtual 42 : Instr), 3)), (65, ((.iastore : Instr), 1)), (66, ((.aload_n 0 : Instr), 1)), (67, ((.getfield 18 : Instr), 3)), (70, ((.iload_n 2 : Instr), 1)), (71, ((.iconst 0 : Instr), 1)), (72, ((.iastore : Instr), 1)), (73, ((.aload_n 0 : Instr), 1)), (74, ((.getfield 15 : Instr), 3)), (77, ((.iload_n 2 : Instr), 1)), (78, ((.iaload : Instr), 1)), (79, ((.iconst (-1) : Instr), 1))]),
  (107, [(80, ((.if_icmp .ne 5 : Instr), 3)), (83, ((.iconst 0 : Instr), 1)), (84, ((.ireturn : Instr), 1)), (85, ((.aload_n 1 : Instr), 1)), (86, ((.bipush 126 : Instr), 2)), (88, ((.invokevirtual 38 : Instr), 3)), (91, ((.ifCond .eq 17 : Instr), 3)), (94, ((.aload_n 0 : Instr), 1)), (95, ((.getfield 18 : Instr), 3)), (98, ((.iload_n 2 : Instr), 1)), (99, ((.aload_n 1 : Instr), 1)), (100, ((.iconst 2 : Instr), 1)), (101, ((.iconst 1 : Instr), 1)), (102, ((.bipush 20 : Instr), 2)), (104, ((.invokevirtual 42 : Instr), 3)), (107, ((.iastore : Instr), 1))]),
  (123, [(108, ((.aload_n 0 : Instr), 1)), (109, ((.getfield 18 : Instr), 3)), (112, ((.iload_n 2 : Instr), 1)), (113, ((.iaload : Instr), 1)), (114, ((.iconst (-1) : Instr), 1)), (115, ((.if_icmp .eq 7 : Instr), 3)), (118, ((.iconst 1 : Instr), 1)), (119, ((.goto 4 : Instr), 3)), (122, ((.iconst 0 : Instr), 1)), (123, ((.ireturn : Instr), 1))])]
/-- ChaffInTheWind$Gusts.readLine(LChaffInTheWind$Signs;I)Z -/
def z_meth_45 : z_Mr := (⟨"ChaffInTheWind$Gusts", "readLine", "(LChaffInTheWind$Signs;I)Z"⟩, prog_5_method_3_code, (5, 3, 0, 0), some .boolean, none, 6, 6, z_code_45, (1, 523, 7, 522, 100021))
def z_code_46 : z_bm (Instr × Nat) := [(29, [(0, ((.iload_n 1 : Instr), 1)), (1, ((.ifCond .lt 8 : Instr), 3)), (4, ((.iload_n 1 : Instr), 1)), (5, ((.iconst 3 : Instr), 1)), (6, ((.if_icmp .le 13 : Instr), 3)), (9, ((.aload_n 0 : Instr), 1)), (10, ((.getfield 12 : Instr), 3)), (13, ((.invokevirtual 115 : Instr), 3)), (16, ((.bipush (-100) : Instr), 2)), (18, ((.ireturn : Instr), 1)), (19, ((.aload_n 0 : Instr), 1)), (20, ((.getfield 12 : Instr), 3)), (23, ((.bipush 40 : Instr), 2)), (25, ((.invokevirtual 103 : Instr), 3)), (28, ((.aload_n 0 : Instr), 1)), (29, ((.getfield 54 : Instr), 3))]),
  (63, [(32, ((.aload_n 0 : Instr), 1)), (33, ((.getfield 12 : Instr), 3)), (36, ((.iload_n 1 : Instr), 1)), (37, ((.invokevirtual 147 : Instr), 3)), (40, ((.ifCond .eq 17 : Instr), 3)), (43, ((.aload_n 0 : Instr), 1)), (44, ((.getfield 12 : Instr), 3)), (47, ((.invokevirtual 111 : Instr), 3)), (50, ((.ifCond .ne 7 : Instr), 3)), (53, ((.iconst 1 : Instr), 1)), (54, ((.goto 4 : Instr), 3)), (57, ((.iconst 0 : Instr), 1)), (58, ((.istore_n 2 : Instr), 1)), (59, ((.aload_n 0 : Instr), 1)), (60, ((.getfield 12 : Instr), 3)), (63, ((.invokevirtual 115 : Instr), 3))]),
  (87, [(66, ((.iload_n 2 : Instr), 1)), (67, ((.ifCond .ne 11 : Instr), 3)), (70, ((.aload_n 0 : Instr), 1)), (71, ((.getfield 12 : Instr), 3)), (74, ((.invokevirtual 118 : Instr), 3)), (77, ((.ireturn : Instr), 1)), (78, ((.aload_n 0 : Instr), 1)), (79, ((.getfield 54 : Instr), 3)), (82, ((.iload_n 1 : Instr), 1)), (83, ((.invokevirtual 150 : Instr), 3)), (86, ((.iconst 0 : Instr), 1)), (87, ((.ireturn : Instr), 1))])]
/-- ChaffInTheWind.says(I)I -/
def z_meth_46 : z_Mr := (⟨"ChaffInTheWind", "says", "(I)I"⟩, prog_1_method_6_code, (3, 2, 0, 0), some .int, none, 0, 0, z_code_46, (1, 529, 1, 527, 528))
def z_code_47 : z_bm (Instr × Nat) := [(20, [(0, ((.aload_n 0 : Instr), 1)), (1, ((.getfield 18 : Instr), 3)), (4, ((.aload_n 1 : Instr), 1)), (5, ((.iload_n 2 : Instr), 1)), (6, ((.iconst 3 : Instr), 1)), (7, ((.if_icmp .ne 8 : Instr), 3)), (10, ((.ldc 30 : Instr), 2)), (12, ((.goto 5 : Instr), 3)), (15, ((.ldc 32 : Instr), 2)), (17, ((.invokevirtual 34 : Instr), 3)), (20, ((.ireturn : Instr), 1))])]
/-- ChaffInTheWind$Market.read(LChaffInTheWind$Signs;I)Z -/
def z_meth_47 : z_Mr := (⟨"ChaffInTheWind$Market", "read", "(LChaffInTheWind$Signs;I)Z"⟩, prog_6_method_2_code, (3, 3, 0, 0), some .boolean, none, 7, 7, z_code_47, (1, 533, 8, 532, 100022))
def z_code_48 : z_bm (Instr × Nat) := [(29, [(0, ((.aload_n 0 : Instr), 1)), (1, ((.iconst 0 : Instr), 1)), (2, ((.putfield 18 : Instr), 3)), (5, ((.aload_n 1 : Instr), 1)), (6, ((.invokevirtual 22 : Instr), 3)), (9, ((.ifCond .ne 20 : Instr), 3)), (12, ((.aload_n 0 : Instr), 1)), (13, ((.aload_n 1 : Instr), 1)), (14, ((.aload_n 2 : Instr), 1)), (15, ((.iconst 0 : Instr), 1)), (16, ((.invokevirtual 28 : Instr), 3)), (19, ((.ifCond .eq 14 : Instr), 3)), (22, ((.aload_n 1 : Instr), 1)), (23, ((.invokevirtual 22 : Instr), 3)), (26, ((.ifCond .eq 7 : Instr), 3)), (29, ((.iconst 1 : Instr), 1))]),
  (34, [(30, ((.goto 4 : Instr), 3)), (33, ((.iconst 0 : Instr), 1)), (34, ((.ireturn : Instr), 1))])]
/-- ChaffInTheWind$Formula.read(LChaffInTheWind$Signs;Ljava/lang/String;)Z -/
def z_meth_48 : z_Mr := (⟨"ChaffInTheWind$Formula", "read", "(LChaffInTheWind$Signs;Ljava/lang/String;)Z"⟩, prog_4_method_2_code, (3, 3, 0, 0), some .boolean, none, 8, 8, z_code_48, (1, 539, 9, 538, 100023))
def z_code_49 : z_bm (Instr × Nat) := [(26, [(0, ((.aload_n 0 : Instr), 1)), (1, ((.aload_n 1 : Instr), 1)), (2, ((.aload_n 2 : Instr), 1)), (3, ((.iload_n 3 : Instr), 1)), (4, ((.invokevirtual 32 : Instr), 3)), (7, ((.ifCond .ne 5 : Instr), 3)), (10, ((.iconst 0 : Instr), 1)), (11, ((.ireturn : Instr), 1)), (12, ((.aload_n 1 : Instr), 1)), (13, ((.ldc 35 : Instr), 2)), (15, ((.invokevirtual 37 : Instr), 3)), (18, ((.istore 4 : Instr), 2)), (20, ((.iload 4 : Instr), 2)), (22, ((.iconst (-1) : Instr), 1)), (23, ((.if_icmp .eq 26 : Instr), 3)), (26, ((.aload_n 0 : Instr), 1))]),
  (54, [(27, ((.aload_n 1 : Instr), 1)), (28, ((.aload_n 2 : Instr), 1)), (29, ((.iload_n 3 : Instr), 1)), (30, ((.invokevirtual 32 : Instr), 3)), (33, ((.ifCond .eq 20 : Instr), 3)), (36, ((.aload_n 0 : Instr), 1)), (37, ((.sipush 2000 : Instr), 3)), (40, ((.iload 4 : Instr), 2)), (42, ((.iadd : Instr), 1)), (43, ((.invokevirtual 41 : Instr), 3)), (46, ((.ifCond .eq 7 : Instr), 3)), (49, ((.iconst 1 : Instr), 1)), (50, ((.goto 4 : Instr), 3)), (53, ((.iconst 0 : Instr), 1)), (54, ((.ireturn : Instr), 1))])]
/-- ChaffInTheWind$Formula.readComparison(LChaffInTheWind$Signs;Ljava/lang/String;I)Z -/
def z_meth_49 : z_Mr := (⟨"ChaffInTheWind$Formula", "readComparison", "(LChaffInTheWind$Signs;Ljava/lang/String;I)Z"⟩, prog_4_method_3_code, (5, 4, 0, 0), some .boolean, none, 8, 8, z_code_49, (1, 544, 9, 543, 100024))
def z_code_50 : z_bm (Instr × Nat) := [(25, [(0, ((.aload_n 0 : Instr), 1)), (1, ((.aload_n 1 : Instr), 1)), (2, ((.aload_n 2 : Instr), 1)), (3, ((.iload_n 3 : Instr), 1)), (4, ((.invokevirtual 45 : Instr), 3)), (7, ((.ifCond .ne 5 : Instr), 3)), (10, ((.iconst 0 : Instr), 1)), (11, ((.ireturn : Instr), 1)), (12, ((.iconst 0 : Instr), 1)), (13, ((.istore 4 : Instr), 2)), (15, ((.iload 4 : Instr), 2)), (17, ((.bipush 40 : Instr), 2)), (19, ((.if_icmp .ge 50 : Instr), 3)), (22, ((.aload_n 1 : Instr), 1)), (23, ((.ldc 48 : Instr), 2)), (25, ((.invokevirtual 37 : Instr), 3))]),
  (54, [(28, ((.istore 5 : Instr), 2)), (30, ((.iload 5 : Instr), 2)), (32, ((.iconst (-1) : Instr), 1)), (33, ((.if_icmp .ne 5 : Instr), 3)), (36, ((.iconst 1 : Instr), 1)), (37, ((.ireturn : Instr), 1)), (38, ((.aload_n 0 : Instr), 1)), (39, ((.aload_n 1 : Instr), 1)), (40, ((.aload_n 2 : Instr), 1)), (41, ((.iload_n 3 : Instr), 1)), (42, ((.invokevirtual 45 : Instr), 3)), (45, ((.ifCond .eq 16 : Instr), 3)), (48, ((.aload_n 0 : Instr), 1)), (49, ((.sipush 2003 : Instr), 3)), (52, ((.iload 5 : Instr), 2)), (54, ((.iadd : Instr), 1))]),
  (70, [(55, ((.invokevirtual 41 : Instr), 3)), (58, ((.ifCond .ne 5 : Instr), 3)), (61, ((.iconst 0 : Instr), 1)), (62, ((.ireturn : Instr), 1)), (63, ((.iinc 4 1 : Instr), 3)), (66, ((.goto (-51) : Instr), 3)), (69, ((.iconst 0 : Instr), 1)), (70, ((.ireturn : Instr), 1))])]
/-- ChaffInTheWind$Formula.readSum(LChaffInTheWind$Signs;Ljava/lang/String;I)Z -/
def z_meth_50 : z_Mr := (⟨"ChaffInTheWind$Formula", "readSum", "(LChaffInTheWind$Signs;Ljava/lang/String;I)Z"⟩, prog_4_method_4_code, (6, 4, 0, 0), some .boolean, none, 8, 8, z_code_50, (1, 548, 9, 547, 100025))
def z_code_51 : z_bm (Instr × Nat) := [(25, [(0, ((.aload_n 0 : Instr), 1)), (1, ((.aload_n 1 : Instr), 1)), (2, ((.aload_n 2 : Instr), 1)), (3, ((.iload_n 3 : Instr), 1)), (4, ((.invokevirtual 50 : Instr), 3)), (7, ((.ifCond .ne 5 : Instr), 3)), (10, ((.iconst 0 : Instr), 1)), (11, ((.ireturn : Instr), 1)), (12, ((.iconst 0 : Instr), 1)), (13, ((.istore 4 : Instr), 2)), (15, ((.iload 4 : Instr), 2)), (17, ((.bipush 40 : Instr), 2)), (19, ((.if_icmp .ge 50 : Instr), 3)), (22, ((.aload_n 1 : Instr), 1)), (23, ((.ldc 53 : Instr), 2)), (25, ((.invokevirtual 37 : Instr), 3))]),
  (54, [(28, ((.istore 5 : Instr), 2)), (30, ((.iload 5 : Instr), 2)), (32, ((.iconst (-1) : Instr), 1)), (33, ((.if_icmp .ne 5 : Instr), 3)), (36, ((.iconst 1 : Instr), 1)), (37, ((.ireturn : Instr), 1)), (38, ((.aload_n 0 : Instr), 1)), (39, ((.aload_n 1 : Instr), 1)), (40, ((.aload_n 2 : Instr), 1)), (41, ((.iload_n 3 : Instr), 1)), (42, ((.invokevirtual 50 : Instr), 3)), (45, ((.ifCond .eq 16 : Instr), 3)), (48, ((.aload_n 0 : Instr), 1)), (49, ((.sipush 2005 : Instr), 3)), (52, ((.iload 5 : Instr), 2)), (54, ((.iadd : Instr), 1))]),
  (70, [(55, ((.invokevirtual 41 : Instr), 3)), (58, ((.ifCond .ne 5 : Instr), 3)), (61, ((.iconst 0 : Instr), 1)), (62, ((.ireturn : Instr), 1)), (63, ((.iinc 4 1 : Instr), 3)), (66, ((.goto (-51) : Instr), 3)), (69, ((.iconst 0 : Instr), 1)), (70, ((.ireturn : Instr), 1))])]
/-- ChaffInTheWind$Formula.readProduct(LChaffInTheWind$Signs;Ljava/lang/String;I)Z -/
def z_meth_51 : z_Mr := (⟨"ChaffInTheWind$Formula", "readProduct", "(LChaffInTheWind$Signs;Ljava/lang/String;I)Z"⟩, prog_4_method_5_code, (6, 4, 0, 0), some .boolean, none, 8, 8, z_code_51, (1, 552, 9, 551, 100026))
def z_code_52 : z_bm (Instr × Nat) := [(31, [(0, ((.iconst 0 : Instr), 1)), (1, ((.istore 4 : Instr), 2)), (3, ((.iconst 0 : Instr), 1)), (4, ((.istore 5 : Instr), 2)), (6, ((.iload 5 : Instr), 2)), (8, ((.bipush 40 : Instr), 2)), (10, ((.if_icmp .ge 30 : Instr), 3)), (13, ((.aload_n 1 : Instr), 1)), (14, ((.bipush 45 : Instr), 2)), (16, ((.invokevirtual 55 : Instr), 3)), (19, ((.ifCond .eq 21 : Instr), 3)), (22, ((.iload 4 : Instr), 2)), (24, ((.ifCond .ne 7 : Instr), 3)), (27, ((.iconst 1 : Instr), 1)), (28, ((.goto 4 : Instr), 3)), (31, ((.iconst 0 : Instr), 1))]),
  (65, [(32, ((.istore 4 : Instr), 2)), (34, ((.iinc 5 1 : Instr), 3)), (37, ((.goto (-31) : Instr), 3)), (40, ((.aload_n 0 : Instr), 1)), (41, ((.aload_n 1 : Instr), 1)), (42, ((.aload_n 2 : Instr), 1)), (43, ((.iload_n 3 : Instr), 1)), (44, ((.invokevirtual 59 : Instr), 3)), (47, ((.ifCond .eq 22 : Instr), 3)), (50, ((.iload 4 : Instr), 2)), (52, ((.ifCond .eq 13 : Instr), 3)), (55, ((.aload_n 0 : Instr), 1)), (56, ((.sipush 2007 : Instr), 3)), (59, ((.invokevirtual 41 : Instr), 3)), (62, ((.ifCond .eq 7 : Instr), 3)), (65, ((.iconst 1 : Instr), 1))]),
  (70, [(66, ((.goto 4 : Instr), 3)), (69, ((.iconst 0 : Instr), 1)), (70, ((.ireturn : Instr), 1))])]
/-- ChaffInTheWind$Formula.readThing(LChaffInTheWind$Signs;Ljava/lang/String;I)Z -/
def z_meth_52 : z_Mr := (⟨"ChaffInTheWind$Formula", "readThing", "(LChaffInTheWind$Signs;Ljava/lang/String;I)Z"⟩, prog_4_method_6_code, (6, 4, 0, 0), some .boolean, none, 8, 8, z_code_52, (1, 556, 9, 555, 100027))
def z_code_53 : z_bm (Instr × Nat) := [(27, [(0, ((.aload_n 1 : Instr), 1)), (1, ((.bipush 40 : Instr), 2)), (3, ((.invokevirtual 62 : Instr), 3)), (6, ((.ifCond .eq 44 : Instr), 3)), (9, ((.iload_n 3 : Instr), 1)), (10, ((.iconst 4 : Instr), 1)), (11, ((.if_icmp .ge 37 : Instr), 3)), (14, ((.aload_n 1 : Instr), 1)), (15, ((.bipush 40 : Instr), 2)), (17, ((.invokevirtual 55 : Instr), 3)), (20, ((.ifCond .eq 28 : Instr), 3)), (23, ((.aload_n 0 : Instr), 1)), (24, ((.aload_n 1 : Instr), 1)), (25, ((.aload_n 2 : Instr), 1)), (26, ((.iload_n 3 : Instr), 1)), (27, ((.iconst 1 : Instr), 1))]),
  (57, [(28, ((.iadd : Instr), 1)), (29, ((.invokevirtual 28 : Instr), 3)), (32, ((.ifCond .eq 16 : Instr), 3)), (35, ((.aload_n 1 : Instr), 1)), (36, ((.bipush 41 : Instr), 2)), (38, ((.invokevirtual 55 : Instr), 3)), (41, ((.ifCond .eq 7 : Instr), 3)), (44, ((.iconst 1 : Instr), 1)), (45, ((.goto 4 : Instr), 3)), (48, ((.iconst 0 : Instr), 1)), (49, ((.ireturn : Instr), 1)), (50, ((.aload_n 1 : Instr), 1)), (51, ((.aload_n 2 : Instr), 1)), (52, ((.invokevirtual 37 : Instr), 3)), (55, ((.istore 4 : Instr), 2)), (57, ((.iload 4 : Instr), 2))]),
  (87, [(59, ((.iconst (-1) : Instr), 1)), (60, ((.if_icmp .eq 14 : Instr), 3)), (63, ((.aload_n 0 : Instr), 1)), (64, ((.sipush 1000 : Instr), 3)), (67, ((.iload 4 : Instr), 2)), (69, ((.iadd : Instr), 1)), (70, ((.invokevirtual 41 : Instr), 3)), (73, ((.ireturn : Instr), 1)), (74, ((.aload_n 1 : Instr), 1)), (75, ((.iconst 3 : Instr), 1)), (76, ((.iconst 0 : Instr), 1)), (77, ((.sipush 999 : Instr), 3)), (80, ((.invokevirtual 65 : Instr), 3)), (83, ((.istore 5 : Instr), 2)), (85, ((.iload 5 : Instr), 2)), (87, ((.iconst (-1) : Instr), 1))]),
  (105, [(88, ((.if_icmp .eq 16 : Instr), 3)), (91, ((.aload_n 0 : Instr), 1)), (92, ((.iload 5 : Instr), 2)), (94, ((.invokevirtual 41 : Instr), 3)), (97, ((.ifCond .eq 7 : Instr), 3)), (100, ((.iconst 1 : Instr), 1)), (101, ((.goto 4 : Instr), 3)), (104, ((.iconst 0 : Instr), 1)), (105, ((.ireturn : Instr), 1))])]
/-- ChaffInTheWind$Formula.readBareThing(LChaffInTheWind$Signs;Ljava/lang/String;I)Z -/
def z_meth_53 : z_Mr := (⟨"ChaffInTheWind$Formula", "readBareThing", "(LChaffInTheWind$Signs;Ljava/lang/String;I)Z"⟩, prog_4_method_7_code, (6, 4, 0, 0), some .boolean, none, 8, 8, z_code_53, (1, 561, 9, 560, 100028))
def z_code_54 : z_bm (Instr × Nat) := [(25, [(0, ((.aload_n 0 : Instr), 1)), (1, ((.getfield 18 : Instr), 3)), (4, ((.aload_n 0 : Instr), 1)), (5, ((.getfield 9 : Instr), 3)), (8, ((.arraylength : Instr), 1)), (9, ((.if_icmp .lt 5 : Instr), 3)), (12, ((.iconst 0 : Instr), 1)), (13, ((.ireturn : Instr), 1)), (14, ((.aload_n 0 : Instr), 1)), (15, ((.getfield 9 : Instr), 3)), (18, ((.aload_n 0 : Instr), 1)), (19, ((.getfield 18 : Instr), 3)), (22, ((.iload_n 1 : Instr), 1)), (23, ((.iastore : Instr), 1)), (24, ((.aload_n 0 : Instr), 1)), (25, ((.dup : Instr), 1))]),
  (35, [(26, ((.getfield 18 : Instr), 3)), (29, ((.iconst 1 : Instr), 1)), (30, ((.iadd : Instr), 1)), (31, ((.putfield 18 : Instr), 3)), (34, ((.iconst 1 : Instr), 1)), (35, ((.ireturn : Instr), 1))])]
/-- ChaffInTheWind$Formula.append(I)Z -/
def z_meth_54 : z_Mr := (⟨"ChaffInTheWind$Formula", "append", "(I)Z"⟩, prog_4_method_8_code, (2, 2, 0, 0), some .boolean, none, 8, 8, z_code_54, (1, 567, 9, 566, 100029))
def z_code_55 : z_bm (Instr × Nat) := [(22, [(0, ((.aload_n 0 : Instr), 1)), (1, ((.getfield 12 : Instr), 3)), (4, ((.iload_n 1 : Instr), 1)), (5, ((.aaload : Instr), 1)), (6, ((.astore_n 2 : Instr), 1)), (7, ((.aload_n 0 : Instr), 1)), (8, ((.getfield 12 : Instr), 3)), (11, ((.iload_n 1 : Instr), 1)), (12, ((.aload_n 0 : Instr), 1)), (13, ((.getfield 18 : Instr), 3)), (16, ((.aastore : Instr), 1)), (17, ((.aload_n 0 : Instr), 1)), (18, ((.aload_n 2 : Instr), 1)), (19, ((.putfield 18 : Instr), 3)), (22, ((.return_ : Instr), 1))])]
/-- ChaffInTheWind$Market.settle(I)V -/
def z_meth_55 : z_Mr := (⟨"ChaffInTheWind$Market", "settle", "(I)V"⟩, prog_6_method_3_code, (3, 2, 0, 0), none, none, 7, 7, z_code_55, (1, 575, 8, 574, 100030))
def z_code_56 : z_bm (Instr × Nat) := [(27, [(0, ((.iload_n 1 : Instr), 1)), (1, ((.ifCond .lt 32 : Instr), 3)), (4, ((.iload_n 1 : Instr), 1)), (5, ((.iconst 5 : Instr), 1)), (6, ((.if_icmp .ge 27 : Instr), 3)), (9, ((.iload_n 2 : Instr), 1)), (10, ((.aload_n 0 : Instr), 1)), (11, ((.getfield 26 : Instr), 3)), (14, ((.iload_n 1 : Instr), 1)), (15, ((.invokevirtual 152 : Instr), 3)), (18, ((.if_icmp .lt 15 : Instr), 3)), (21, ((.iload_n 2 : Instr), 1)), (22, ((.aload_n 0 : Instr), 1)), (23, ((.getfield 26 : Instr), 3)), (26, ((.iload_n 1 : Instr), 1)), (27, ((.invokevirtual 155 : Instr), 3))]),
  (44, [(30, ((.if_icmp .le 5 : Instr), 3)), (33, ((.iconst (-1) : Instr), 1)), (34, ((.ireturn : Instr), 1)), (35, ((.aload_n 0 : Instr), 1)), (36, ((.getfield 26 : Instr), 3)), (39, ((.iload_n 1 : Instr), 1)), (40, ((.iload_n 2 : Instr), 1)), (41, ((.invokevirtual 158 : Instr), 3)), (44, ((.ireturn : Instr), 1))])]
/-- ChaffInTheWind.set(II)I -/
def z_meth_56 : z_Mr := (⟨"ChaffInTheWind", "set", "(II)I"⟩, prog_1_method_7_code, (3, 3, 0, 0), some .int, none, 0, 0, z_code_56, (1, 579, 1, 577, 578))
def z_code_57 : z_bm (Instr × Nat) := [(22, [(0, ((.iload_n 1 : Instr), 1)), (1, ((.iconst 1 : Instr), 1)), (2, ((.if_icmp .ne 6 : Instr), 3)), (5, ((.bipush (-40) : Instr), 2)), (7, ((.ireturn : Instr), 1)), (8, ((.iload_n 1 : Instr), 1)), (9, ((.ifCond .eq 8 : Instr), 3)), (12, ((.iload_n 1 : Instr), 1)), (13, ((.iconst 3 : Instr), 1)), (14, ((.if_icmp .ne 7 : Instr), 3)), (17, ((.iconst 1 : Instr), 1)), (18, ((.goto 4 : Instr), 3)), (21, ((.iconst 0 : Instr), 1)), (22, ((.ireturn : Instr), 1))])]
/-- ChaffInTheWind$Barn.leastOf(I)I -/
def z_meth_57 : z_Mr := (⟨"ChaffInTheWind$Barn", "leastOf", "(I)I"⟩, prog_2_method_8_code, (2, 2, 0, 0), some .int, none, 3, 3, z_code_57, (1, 583, 4, 582, 100031))
def z_code_58 : z_bm (Instr × Nat) := [(51, [(0, ((.iload_n 1 : Instr), 1)), (1, ((.tableswitch 48 0 3 #[31, 35, 38, 45] : Instr), 31)), (32, ((.sipush 400 : Instr), 3)), (35, ((.ireturn : Instr), 1)), (36, ((.bipush 40 : Instr), 2)), (38, ((.ireturn : Instr), 1)), (39, ((.aload_n 0 : Instr), 1)), (40, ((.getfield 31 : Instr), 3)), (43, ((.iconst 1 : Instr), 1)), (44, ((.isub : Instr), 1)), (45, ((.ireturn : Instr), 1)), (46, ((.bipush 99 : Instr), 2)), (48, ((.ireturn : Instr), 1)), (49, ((.bipush 50 : Instr), 2)), (51, ((.ireturn : Instr), 1))])]
/-- ChaffInTheWind$Barn.mostOf(I)I -/
def z_meth_58 : z_Mr := (⟨"ChaffInTheWind$Barn", "mostOf", "(I)I"⟩, prog_2_method_9_code, (2, 2, 0, 0), some .int, none, 3, 3, z_code_58, (1, 587, 4, 586, 100032))
def z_code_59 : z_bm (Instr × Nat) := [(19, [(0, ((.aload_n 0 : Instr), 1)), (1, ((.getfield 43 : Instr), 3)), (4, ((.iload_n 1 : Instr), 1)), (5, ((.iaload : Instr), 1)), (6, ((.istore_n 3 : Instr), 1)), (7, ((.aload_n 0 : Instr), 1)), (8, ((.getfield 43 : Instr), 3)), (11, ((.iload_n 1 : Instr), 1)), (12, ((.iload_n 2 : Instr), 1)), (13, ((.iastore : Instr), 1)), (14, ((.aload_n 0 : Instr), 1)), (15, ((.invokevirtual 98 : Instr), 3)), (18, ((.iload_n 3 : Instr), 1)), (19, ((.ireturn : Instr), 1))])]
/-- ChaffInTheWind$Barn.change(II)I -/
def z_meth_59 : z_Mr := (⟨"ChaffInTheWind$Barn", "change", "(II)I"⟩, prog_2_method_10_code, (4, 3, 0, 0), some .int, none, 3, 3, z_code_59, (1, 591, 4, 590, 100033))
def z_code_60 : z_bm (Instr × Nat) := [(29, [(0, ((.iload_n 1 : Instr), 1)), (1, ((.invokestatic 180 : Instr), 3)), (4, ((.ifCond .eq 25 : Instr), 3)), (7, ((.aload_n 0 : Instr), 1)), (8, ((.iload_n 2 : Instr), 1)), (9, ((.invokevirtual 162 : Instr), 3)), (12, ((.ifCond .eq 17 : Instr), 3)), (15, ((.aload_n 0 : Instr), 1)), (16, ((.getfield 33 : Instr), 3)), (19, ((.getfield 134 : Instr), 3)), (22, ((.iload_n 1 : Instr), 1)), (23, ((.aaload : Instr), 1)), (24, ((.iload_n 2 : Instr), 1)), (25, ((.iaload : Instr), 1)), (26, ((.goto 4 : Instr), 3)), (29, ((.iconst (-1) : Instr), 1))]),
  (30, [(30, ((.ireturn : Instr), 1))])]
/-- ChaffInTheWind.has(II)I -/
def z_meth_60 : z_Mr := (⟨"ChaffInTheWind", "has", "(II)I"⟩, prog_1_method_9_code, (3, 3, 0, 0), some .int, none, 0, 0, z_code_60, (1, 595, 1, 593, 594))
def z_code_61 : z_bm (Instr × Nat) := [(15, [(0, ((.iload_n 0 : Instr), 1)), (1, ((.ifCond .lt 13 : Instr), 3)), (4, ((.iload_n 0 : Instr), 1)), (5, ((.bipush 6 : Instr), 2)), (7, ((.if_icmp .ge 7 : Instr), 3)), (10, ((.iconst 1 : Instr), 1)), (11, ((.goto 4 : Instr), 3)), (14, ((.iconst 0 : Instr), 1)), (15, ((.ireturn : Instr), 1))])]
/-- ChaffInTheWind.isHeap(I)Z -/
def z_meth_61 : z_Mr := (⟨"ChaffInTheWind", "isHeap", "(I)Z"⟩, prog_1_method_86_code, (1, 1, 0, 0), some .boolean, none, 0, 0, z_code_61, (0, 598, 1, 597, 0))
def z_code_62 : z_bm (Instr × Nat) := [(20, [(0, ((.iload_n 1 : Instr), 1)), (1, ((.ifCond .lt 18 : Instr), 3)), (4, ((.iload_n 1 : Instr), 1)), (5, ((.aload_n 0 : Instr), 1)), (6, ((.getfield 26 : Instr), 3)), (9, ((.getfield 128 : Instr), 3)), (12, ((.if_icmp .ge 7 : Instr), 3)), (15, ((.iconst 1 : Instr), 1)), (16, ((.goto 4 : Instr), 3)), (19, ((.iconst 0 : Instr), 1)), (20, ((.ireturn : Instr), 1))])]
/-- ChaffInTheWind.isSort(I)Z -/
def z_meth_62 : z_Mr := (⟨"ChaffInTheWind", "isSort", "(I)Z"⟩, prog_1_method_91_code, (2, 2, 0, 0), some .boolean, none, 0, 0, z_code_62, (1, 602, 1, 601, 100034))
def z_code_63 : z_bm (Instr × Nat) := [(27, [(0, ((.aload_n 0 : Instr), 1)), (1, ((.iload_n 1 : Instr), 1)), (2, ((.invokevirtual 183 : Instr), 3)), (5, ((.ifCond .eq 21 : Instr), 3)), (8, ((.aload_n 0 : Instr), 1)), (9, ((.iload_n 2 : Instr), 1)), (10, ((.invokevirtual 162 : Instr), 3)), (13, ((.ifCond .eq 13 : Instr), 3)), (16, ((.aload_n 0 : Instr), 1)), (17, ((.iload_n 1 : Instr), 1)), (18, ((.invokevirtual 186 : Instr), 3)), (21, ((.iload_n 2 : Instr), 1)), (22, ((.iaload : Instr), 1)), (23, ((.goto 4 : Instr), 3)), (26, ((.iconst (-1) : Instr), 1)), (27, ((.ireturn : Instr), 1))])]
/-- ChaffInTheWind.lies(II)I -/
def z_meth_63 : z_Mr := (⟨"ChaffInTheWind", "lies", "(II)I"⟩, prog_1_method_10_code, (3, 3, 0, 0), some .int, none, 0, 0, z_code_63, (1, 606, 1, 604, 605))
def z_code_64 : z_bm (Instr × Nat) := [(20, [(0, ((.iload_n 1 : Instr), 1)), (1, ((.ifCond .lt 18 : Instr), 3)), (4, ((.iload_n 1 : Instr), 1)), (5, ((.aload_n 0 : Instr), 1)), (6, ((.getfield 26 : Instr), 3)), (9, ((.getfield 368 : Instr), 3)), (12, ((.if_icmp .gt 7 : Instr), 3)), (15, ((.iconst 1 : Instr), 1)), (16, ((.goto 4 : Instr), 3)), (19, ((.iconst 0 : Instr), 1)), (20, ((.ireturn : Instr), 1))])]
/-- ChaffInTheWind.isYardOrOut(I)Z -/
def z_meth_64 : z_Mr := (⟨"ChaffInTheWind", "isYardOrOut", "(I)Z"⟩, prog_1_method_93_code, (2, 2, 0, 0), some .boolean, none, 0, 0, z_code_64, (1, 610, 1, 609, 100035))
def z_code_65 : z_bm (Instr × Nat) := [(30, [(0, ((.aload_n 0 : Instr), 1)), (1, ((.getfield 26 : Instr), 3)), (4, ((.iload_n 1 : Instr), 1)), (5, ((.invokevirtual 283 : Instr), 3)), (8, ((.ifCond .eq 13 : Instr), 3)), (11, ((.aload_n 0 : Instr), 1)), (12, ((.getfield 33 : Instr), 3)), (15, ((.getfield 497 : Instr), 3)), (18, ((.goto 12 : Instr), 3)), (21, ((.aload_n 0 : Instr), 1)), (22, ((.getfield 33 : Instr), 3)), (25, ((.getfield 253 : Instr), 3)), (28, ((.iload_n 1 : Instr), 1)), (29, ((.aaload : Instr), 1)), (30, ((.areturn : Instr), 1))])]
/-- ChaffInTheWind.placeOf(I)[I -/
def z_meth_65 : z_Mr := (⟨"ChaffInTheWind", "placeOf", "(I)[I"⟩, prog_1_method_94_code, (2, 2, 0, 0), some (.array .int), none, 0, 0, z_code_65, (1, 614, 1, 613, 100036))
def z_code_66 : z_bm (Instr × Nat) := [(13, [(0, ((.iload_n 1 : Instr), 1)), (1, ((.aload_n 0 : Instr), 1)), (2, ((.getfield 31 : Instr), 3)), (5, ((.if_icmp .lt 7 : Instr), 3)), (8, ((.iconst 1 : Instr), 1)), (9, ((.goto 4 : Instr), 3)), (12, ((.iconst 0 : Instr), 1)), (13, ((.ireturn : Instr), 1))])]
/-- ChaffInTheWind$Barn.isOut(I)Z -/
def z_meth_66 : z_Mr := (⟨"ChaffInTheWind$Barn", "isOut", "(I)Z"⟩, prog_2_method_12_code, (2, 2, 0, 0), some .boolean, none, 3, 3, z_code_66, (1, 618, 4, 617, 100037))
def z_code_67 : z_bm (Instr × Nat) := [(26, [(0, ((.iload_n 1 : Instr), 1)), (1, ((.invokestatic 180 : Instr), 3)), (4, ((.ifCond .eq 18 : Instr), 3)), (7, ((.iload_n 2 : Instr), 1)), (8, ((.ifCond .lt 14 : Instr), 3)), (11, ((.iload_n 2 : Instr), 1)), (12, ((.iconst 3 : Instr), 1)), (13, ((.if_icmp .gt 9 : Instr), 3)), (16, ((.iload_n 3 : Instr), 1)), (17, ((.bipush 10 : Instr), 2)), (19, ((.if_icmp .le 5 : Instr), 3)), (22, ((.iconst (-1) : Instr), 1)), (23, ((.ireturn : Instr), 1)), (24, ((.iload_n 2 : Instr), 1)), (25, ((.iconst 3 : Instr), 1)), (26, ((.if_icmp .ge 10 : Instr), 3))]),
  (55, [(29, ((.iload_n 3 : Instr), 1)), (30, ((.ifCond .ge 6 : Instr), 3)), (33, ((.bipush (-2) : Instr), 2)), (35, ((.ireturn : Instr), 1)), (36, ((.aload_n 0 : Instr), 1)), (37, ((.getfield 33 : Instr), 3)), (40, ((.getfield 134 : Instr), 3)), (43, ((.iload_n 1 : Instr), 1)), (44, ((.aaload : Instr), 1)), (45, ((.astore 6 : Instr), 2)), (47, ((.aload 6 : Instr), 2)), (49, ((.iconst 0 : Instr), 1)), (50, ((.invokestatic 190 : Instr), 3)), (53, ((.iload_n 2 : Instr), 1)), (54, ((.iconst 3 : Instr), 1)), (55, ((.if_icmp .ne 6 : Instr), 3))]),
  (87, [(58, ((.bipush (-3) : Instr), 2)), (60, ((.ireturn : Instr), 1)), (61, ((.iconst 0 : Instr), 1)), (62, ((.istore 7 : Instr), 2)), (64, ((.iload 7 : Instr), 2)), (66, ((.iload_n 3 : Instr), 1)), (67, ((.if_icmp .ge 39 : Instr), 3)), (70, ((.iload 7 : Instr), 2)), (72, ((.aload_n 0 : Instr), 1)), (73, ((.getfield 26 : Instr), 3)), (76, ((.getfield 128 : Instr), 3)), (79, ((.if_icmp .ge 27 : Instr), 3)), (82, ((.aload 6 : Instr), 2)), (84, ((.iload 7 : Instr), 2)), (86, ((.aload_n 0 : Instr), 1)), (87, ((.iload_n 2 : Instr), 1))]),
  (111, [(88, ((.iload 4 : Instr), 2)), (90, ((.iload 7 : Instr), 2)), (92, ((.iload 5 : Instr), 2)), (94, ((.imul : Instr), 1)), (95, ((.iadd : Instr), 1)), (96, ((.invokevirtual 196 : Instr), 3)), (99, ((.iastore : Instr), 1)), (100, ((.iinc 7 1 : Instr), 3)), (103, ((.goto (-39) : Instr), 3)), (106, ((.aload 6 : Instr), 2)), (108, ((.invokestatic 199 : Instr), 3)), (111, ((.ireturn : Instr), 1))])]
/-- ChaffInTheWind.sheet(IIIII)I -/
def z_meth_67 : z_Mr := (⟨"ChaffInTheWind", "sheet", "(IIIII)I"⟩, prog_1_method_11_code, (8, 6, 0, 0), some .int, none, 0, 0, z_code_67, (1, 622, 1, 620, 621))
def z_code_68 : z_bm (Instr × Nat) := [(23, [(0, ((.iload_n 1 : Instr), 1)), (1, ((.ifCond .ne 8 : Instr), 3)), (4, ((.iload_n 2 : Instr), 1)), (5, ((.i2b : Instr), 1)), (6, ((.goto 14 : Instr), 3)), (9, ((.iload_n 1 : Instr), 1)), (10, ((.iconst 1 : Instr), 1)), (11, ((.if_icmp .ne 8 : Instr), 3)), (14, ((.iload_n 2 : Instr), 1)), (15, ((.i2s : Instr), 1)), (16, ((.goto 4 : Instr), 3)), (19, ((.iload_n 2 : Instr), 1)), (20, ((.istore_n 3 : Instr), 1)), (21, ((.iload_n 3 : Instr), 1)), (22, ((.iconst 0 : Instr), 1)), (23, ((.sipush 999 : Instr), 3))]),
  (29, [(26, ((.invokestatic 203 : Instr), 3)), (29, ((.ireturn : Instr), 1))])]
/-- ChaffInTheWind.entry(II)I -/
def z_meth_68 : z_Mr := (⟨"ChaffInTheWind", "entry", "(II)I"⟩, prog_1_method_12_code, (4, 3, 0, 0), some .int, none, 0, 0, z_code_68, (1, 627, 1, 626, 100038))
def z_code_69 : z_bm (Instr × Nat) := [(9, [(0, ((.iload_n 1 : Instr), 1)), (1, ((.iload_n 2 : Instr), 1)), (2, ((.iload_n 0 : Instr), 1)), (3, ((.invokestatic 370 : Instr), 3)), (6, ((.invokestatic 479 : Instr), 3)), (9, ((.ireturn : Instr), 1))])]
/-- ChaffInTheWind.put(III)I -/
def z_meth_69 : z_Mr := (⟨"ChaffInTheWind", "put", "(III)I"⟩, prog_1_method_98_code, (3, 3, 0, 0), some .int, none, 0, 0, z_code_69, (0, 630, 1, 629, 0))
def z_code_70 : z_bm (Instr × Nat) := [(20, [(0, ((.iconst 0 : Instr), 1)), (1, ((.istore_n 1 : Instr), 1)), (2, ((.aload_n 0 : Instr), 1)), (3, ((.astore_n 2 : Instr), 1)), (4, ((.aload_n 2 : Instr), 1)), (5, ((.arraylength : Instr), 1)), (6, ((.istore_n 3 : Instr), 1)), (7, ((.iconst 0 : Instr), 1)), (8, ((.istore 4 : Instr), 2)), (10, ((.iload 4 : Instr), 2)), (12, ((.iload_n 3 : Instr), 1)), (13, ((.if_icmp .ge 20 : Instr), 3)), (16, ((.aload_n 2 : Instr), 1)), (17, ((.iload 4 : Instr), 2)), (19, ((.iaload : Instr), 1)), (20, ((.istore 5 : Instr), 2))]),
  (34, [(22, ((.iload_n 1 : Instr), 1)), (23, ((.iload 5 : Instr), 2)), (25, ((.iadd : Instr), 1)), (26, ((.istore_n 1 : Instr), 1)), (27, ((.iinc 4 1 : Instr), 3)), (30, ((.goto (-20) : Instr), 3)), (33, ((.iload_n 1 : Instr), 1)), (34, ((.ireturn : Instr), 1))])]
/-- ChaffInTheWind.sumOf([I)I -/
def z_meth_70 : z_Mr := (⟨"ChaffInTheWind", "sumOf", "([I)I"⟩, prog_1_method_95_code, (6, 1, 0, 0), some .int, none, 0, 0, z_code_70, (0, 635, 1, 634, 0))
def z_code_71 : z_bm (Instr × Nat) := [(27, [(0, ((.aload_n 0 : Instr), 1)), (1, ((.iload_n 1 : Instr), 1)), (2, ((.invokevirtual 162 : Instr), 3)), (5, ((.ifCond .eq 10 : Instr), 3)), (8, ((.iload_n 2 : Instr), 1)), (9, ((.invokestatic 207 : Instr), 3)), (12, ((.ifCond .ne 5 : Instr), 3)), (15, ((.iconst (-1) : Instr), 1)), (16, ((.ireturn : Instr), 1)), (17, ((.aload_n 0 : Instr), 1)), (18, ((.getfield 26 : Instr), 3)), (21, ((.iload_n 1 : Instr), 1)), (22, ((.iload_n 2 : Instr), 1)), (23, ((.invokevirtual 210 : Instr), 3)), (26, ((.istore_n 3 : Instr), 1)), (27, ((.aload_n 0 : Instr), 1))]),
  (63, [(28, ((.getfield 19 : Instr), 3)), (31, ((.aload_n 0 : Instr), 1)), (32, ((.getfield 26 : Instr), 3)), (35, ((.getfield 213 : Instr), 3)), (38, ((.getfield 217 : Instr), 3)), (41, ((.i2l : Instr), 1)), (42, ((.invokevirtual 222 : Instr), 3)), (45, ((.aload_n 0 : Instr), 1)), (46, ((.getfield 19 : Instr), 3)), (49, ((.aload_n 0 : Instr), 1)), (50, ((.getfield 26 : Instr), 3)), (53, ((.getfield 213 : Instr), 3)), (56, ((.getfield 226 : Instr), 3)), (59, ((.i2l : Instr), 1)), (60, ((.invokevirtual 229 : Instr), 3)), (63, ((.aload_n 0 : Instr), 1))]),
  (82, [(64, ((.getfield 19 : Instr), 3)), (67, ((.aload_n 0 : Instr), 1)), (68, ((.getfield 26 : Instr), 3)), (71, ((.getfield 213 : Instr), 3)), (74, ((.getfield 232 : Instr), 3)), (77, ((.i2l : Instr), 1)), (78, ((.invokevirtual 229 : Instr), 3)), (81, ((.iload_n 3 : Instr), 1)), (82, ((.ireturn : Instr), 1))])]
/-- ChaffInTheWind.lands(II)I -/
def z_meth_71 : z_Mr := (⟨"ChaffInTheWind", "lands", "(II)I"⟩, prog_1_method_13_code, (4, 3, 0, 0), some .int, none, 0, 0, z_code_71, (1, 639, 1, 637, 638))
def z_code_72 : z_bm (Instr × Nat) := [(17, [(0, ((.iload_n 0 : Instr), 1)), (1, ((.bipush (-60) : Instr), 2)), (3, ((.if_icmp .lt 13 : Instr), 3)), (6, ((.iload_n 0 : Instr), 1)), (7, ((.bipush 60 : Instr), 2)), (9, ((.if_icmp .gt 7 : Instr), 3)), (12, ((.iconst 1 : Instr), 1)), (13, ((.goto 4 : Instr), 3)), (16, ((.iconst 0 : Instr), 1)), (17, ((.ireturn : Instr), 1))])]
/-- ChaffInTheWind.isWind(I)Z -/
def z_meth_72 : z_Mr := (⟨"ChaffInTheWind", "isWind", "(I)Z"⟩, prog_1_method_88_code, (1, 1, 0, 0), some .boolean, none, 0, 0, z_code_72, (0, 642, 1, 641, 0))
def z_code_73 : z_bm (Instr × Nat) := [(25, [(0, ((.aload_n 0 : Instr), 1)), (1, ((.iload_n 1 : Instr), 1)), (2, ((.iload_n 2 : Instr), 1)), (3, ((.aload_n 0 : Instr), 1)), (4, ((.getfield 43 : Instr), 3)), (7, ((.iconst 1 : Instr), 1)), (8, ((.iaload : Instr), 1)), (9, ((.invokevirtual 110 : Instr), 3)), (12, ((.aload_n 0 : Instr), 1)), (13, ((.getfield 49 : Instr), 3)), (16, ((.aload_n 0 : Instr), 1)), (17, ((.getfield 43 : Instr), 3)), (20, ((.iconst 0 : Instr), 1)), (21, ((.iaload : Instr), 1)), (22, ((.invokevirtual 114 : Instr), 3)), (25, ((.aload_n 0 : Instr), 1))]),
  (36, [(26, ((.aload_n 0 : Instr), 1)), (27, ((.getfield 49 : Instr), 3)), (30, ((.getfield 118 : Instr), 3)), (33, ((.invokevirtual 121 : Instr), 3)), (36, ((.ireturn : Instr), 1))])]
/-- ChaffInTheWind$Barn.land(II)I -/
def z_meth_73 : z_Mr := (⟨"ChaffInTheWind$Barn", "land", "(II)I"⟩, prog_2_method_15_code, (3, 3, 0, 0), some .int, none, 3, 3, z_code_73, (1, 646, 4, 645, 100039))
def z_code_74 : z_bm (Instr × Nat) := [(23, [(0, ((.aload_n 0 : Instr), 1)), (1, ((.getfield 49 : Instr), 3)), (4, ((.aload_n 0 : Instr), 1)), (5, ((.getfield 15 : Instr), 3)), (8, ((.iload_n 1 : Instr), 1)), (9, ((.iaload : Instr), 1)), (10, ((.aload_n 0 : Instr), 1)), (11, ((.getfield 43 : Instr), 3)), (14, ((.iconst 4 : Instr), 1)), (15, ((.iaload : Instr), 1)), (16, ((.iadd : Instr), 1)), (17, ((.aload_n 0 : Instr), 1)), (18, ((.getfield 21 : Instr), 3)), (21, ((.iload_n 1 : Instr), 1)), (22, ((.iaload : Instr), 1)), (23, ((.iload_n 2 : Instr), 1))]),
  (28, [(24, ((.iload_n 3 : Instr), 1)), (25, ((.invokevirtual 125 : Instr), 3)), (28, ((.return_ : Instr), 1))])]
/-- ChaffInTheWind$Barn.throwUp(III)V -/
def z_meth_74 : z_Mr := (⟨"ChaffInTheWind$Barn", "throwUp", "(III)V"⟩, prog_2_method_16_code, (4, 4, 0, 0), none, none, 3, 3, z_code_74, (1, 650, 4, 649, 100040))
def z_code_75 : z_bm (Instr × Nat) := [(25, [(0, ((.aload_n 0 : Instr), 1)), (1, ((.iconst 1 : Instr), 1)), (2, ((.iconst 4 : Instr), 1)), (3, ((.iload_n 1 : Instr), 1)), (4, ((.imul : Instr), 1)), (5, ((.invokestatic 34 : Instr), 3)), (8, ((.putfield 7 : Instr), 3)), (11, ((.aload_n 0 : Instr), 1)), (12, ((.iload_n 2 : Instr), 1)), (13, ((.aload_n 0 : Instr), 1)), (14, ((.getfield 7 : Instr), 3)), (17, ((.invokestatic 40 : Instr), 3)), (20, ((.putfield 13 : Instr), 3)), (23, ((.aload_n 0 : Instr), 1)), (24, ((.iload_n 3 : Instr), 1)), (25, ((.putfield 16 : Instr), 3))]),
  (54, [(28, ((.aload_n 0 : Instr), 1)), (29, ((.iload 4 : Instr), 2)), (31, ((.putfield 19 : Instr), 3)), (34, ((.aload_n 0 : Instr), 1)), (35, ((.iconst 0 : Instr), 1)), (36, ((.putfield 22 : Instr), 3)), (39, ((.aload_n 0 : Instr), 1)), (40, ((.iconst 0 : Instr), 1)), (41, ((.putfield 25 : Instr), 3)), (44, ((.aload_n 0 : Instr), 1)), (45, ((.iconst 0 : Instr), 1)), (46, ((.putfield 28 : Instr), 3)), (49, ((.aload_n 0 : Instr), 1)), (50, ((.iconst 0 : Instr), 1)), (51, ((.putfield 31 : Instr), 3)), (54, ((.return_ : Instr), 1))])]
/-- ChaffInTheWind$Flight.start(IIII)V -/
def z_meth_75 : z_Mr := (⟨"ChaffInTheWind$Flight", "start", "(IIII)V"⟩, prog_3_method_2_code, (5, 5, 0, 0), none, none, 4, 4, z_code_75, (1, 654, 5, 653, 100041))
def z_code_76 : z_bm (Instr × Nat) := [(27, [(0, ((.iconst 0 : Instr), 1)), (1, ((.istore_n 2 : Instr), 1)), (2, ((.iload_n 2 : Instr), 1)), (3, ((.sipush 400 : Instr), 3)), (6, ((.if_icmp .ge 21 : Instr), 3)), (9, ((.aload_n 0 : Instr), 1)), (10, ((.getfield 31 : Instr), 3)), (13, ((.iload_n 1 : Instr), 1)), (14, ((.if_icmp .ge 13 : Instr), 3)), (17, ((.aload_n 0 : Instr), 1)), (18, ((.invokevirtual 43 : Instr), 3)), (21, ((.iinc 2 1 : Instr), 3)), (24, ((.goto (-22) : Instr), 3)), (27, ((.return_ : Instr), 1))])]
/-- ChaffInTheWind$Flight.fall(I)V -/
def z_meth_76 : z_Mr := (⟨"ChaffInTheWind$Flight", "fall", "(I)V"⟩, prog_3_method_3_code, (3, 2, 0, 0), none, none, 4, 4, z_code_76, (1, 660, 5, 659, 100042))
def z_code_77 : z_bm (Instr × Nat) := [(25, [(0, ((.aload_n 0 : Instr), 1)), (1, ((.dup : Instr), 1)), (2, ((.getfield 28 : Instr), 3)), (5, ((.iconst 2 : Instr), 1)), (6, ((.iadd : Instr), 1)), (7, ((.putfield 28 : Instr), 3)), (10, ((.aload_n 0 : Instr), 1)), (11, ((.dup : Instr), 1)), (12, ((.getfield 28 : Instr), 3)), (15, ((.aload_n 0 : Instr), 1)), (16, ((.getfield 13 : Instr), 3)), (19, ((.aload_n 0 : Instr), 1)), (20, ((.getfield 28 : Instr), 3)), (23, ((.imul : Instr), 1)), (24, ((.aload_n 0 : Instr), 1)), (25, ((.getfield 7 : Instr), 3))]),
  (53, [(28, ((.idiv : Instr), 1)), (29, ((.isub : Instr), 1)), (30, ((.putfield 28 : Instr), 3)), (33, ((.aload_n 0 : Instr), 1)), (34, ((.dup : Instr), 1)), (35, ((.getfield 19 : Instr), 3)), (38, ((.aload_n 0 : Instr), 1)), (39, ((.getfield 13 : Instr), 3)), (42, ((.aload_n 0 : Instr), 1)), (43, ((.getfield 16 : Instr), 3)), (46, ((.aload_n 0 : Instr), 1)), (47, ((.getfield 19 : Instr), 3)), (50, ((.isub : Instr), 1)), (51, ((.imul : Instr), 1)), (52, ((.aload_n 0 : Instr), 1)), (53, ((.getfield 7 : Instr), 3))]),
  (81, [(56, ((.idiv : Instr), 1)), (57, ((.iadd : Instr), 1)), (58, ((.putfield 19 : Instr), 3)), (61, ((.aload_n 0 : Instr), 1)), (62, ((.dup : Instr), 1)), (63, ((.getfield 25 : Instr), 3)), (66, ((.aload_n 0 : Instr), 1)), (67, ((.getfield 19 : Instr), 3)), (70, ((.iadd : Instr), 1)), (71, ((.putfield 25 : Instr), 3)), (74, ((.aload_n 0 : Instr), 1)), (75, ((.dup : Instr), 1)), (76, ((.getfield 31 : Instr), 3)), (79, ((.iconst 1 : Instr), 1)), (80, ((.aload_n 0 : Instr), 1)), (81, ((.getfield 28 : Instr), 3))]),
  (101, [(84, ((.invokestatic 34 : Instr), 3)), (87, ((.iadd : Instr), 1)), (88, ((.putfield 31 : Instr), 3)), (91, ((.aload_n 0 : Instr), 1)), (92, ((.dup : Instr), 1)), (93, ((.getfield 22 : Instr), 3)), (96, ((.iconst 1 : Instr), 1)), (97, ((.iadd : Instr), 1)), (98, ((.putfield 22 : Instr), 3)), (101, ((.return_ : Instr), 1))])]
/-- ChaffInTheWind$Flight.tick()V -/
def z_meth_77 : z_Mr := (⟨"ChaffInTheWind$Flight", "tick", "()V"⟩, prog_3_method_4_code, (1, 1, 0, 0), none, none, 4, 4, z_code_77, (1, 664, 5, 663, 100043))
def z_code_78 : z_bm (Instr × Nat) := [(21, [(0, ((.aload_n 0 : Instr), 1)), (1, ((.getfield 43 : Instr), 3)), (4, ((.iconst 2 : Instr), 1)), (5, ((.iaload : Instr), 1)), (6, ((.iload_n 1 : Instr), 1)), (7, ((.bipush 16 : Instr), 2)), (9, ((.invokestatic 129 : Instr), 3)), (12, ((.iadd : Instr), 1)), (13, ((.iconst 0 : Instr), 1)), (14, ((.aload_n 0 : Instr), 1)), (15, ((.getfield 31 : Instr), 3)), (18, ((.invokestatic 132 : Instr), 3)), (21, ((.ireturn : Instr), 1))])]
/-- ChaffInTheWind$Barn.yardAt(I)I -/
def z_meth_78 : z_Mr := (⟨"ChaffInTheWind$Barn", "yardAt", "(I)I"⟩, prog_2_method_17_code, (2, 2, 0, 0), some .int, none, 3, 3, z_code_78, (1, 668, 4, 667, 100044))
def z_code_79 : z_bm (Instr × Nat) := [(19, [(0, ((.iload_n 0 : Instr), 1)), (1, ((.iload_n 1 : Instr), 1)), (2, ((.idiv : Instr), 1)), (3, ((.istore_n 2 : Instr), 1)), (4, ((.iload_n 0 : Instr), 1)), (5, ((.iload_n 1 : Instr), 1)), (6, ((.ixor : Instr), 1)), (7, ((.ifCond .ge 14 : Instr), 3)), (10, ((.iload_n 2 : Instr), 1)), (11, ((.iload_n 1 : Instr), 1)), (12, ((.imul : Instr), 1)), (13, ((.iload_n 0 : Instr), 1)), (14, ((.if_icmp .eq 7 : Instr), 3)), (17, ((.iload_n 2 : Instr), 1)), (18, ((.iconst 1 : Instr), 1)), (19, ((.isub : Instr), 1))]),
  (22, [(20, ((.ireturn : Instr), 1)), (21, ((.iload_n 2 : Instr), 1)), (22, ((.ireturn : Instr), 1))])]
/-- java/lang/Math.floorDiv(II)I -/
def z_meth_79 : z_Mr := (⟨"java/lang/Math", "floorDiv", "(II)I"⟩, prog_19_method_47_code, (3, 2, 0, 0), some .int, none, 0, 9, z_code_79, (0, 671, 11, 670, 0))
def z_code_80 : z_bm (Instr × Nat) := [(10, [(0, ((.aload_n 0 : Instr), 1)), (1, ((.iconst 0 : Instr), 1)), (2, ((.putfield 15 : Instr), 3)), (5, ((.aload_n 0 : Instr), 1)), (6, ((.lload_n 1 : Instr), 1)), (7, ((.invokevirtual 19 : Instr), 3)), (10, ((.return_ : Instr), 1))])]
/-- ChaffInTheWind$Row.only(J)V -/
def z_meth_80 : z_Mr := (⟨"ChaffInTheWind$Row", "only", "(J)V"⟩, prog_8_method_3_code, (3, 2, 0, 0), none, none, 2, 2, z_code_80, (1, 676, 3, 675, 100045))
def z_code_81 : z_bm (Instr × Nat) := [(27, [(0, ((.aload_n 0 : Instr), 1)), (1, ((.getfield 15 : Instr), 3)), (4, ((.aload_n 0 : Instr), 1)), (5, ((.getfield 9 : Instr), 3)), (8, ((.arraylength : Instr), 1)), (9, ((.if_icmp .ge 23 : Instr), 3)), (12, ((.aload_n 0 : Instr), 1)), (13, ((.getfield 9 : Instr), 3)), (16, ((.aload_n 0 : Instr), 1)), (17, ((.getfield 15 : Instr), 3)), (20, ((.lload_n 1 : Instr), 1)), (21, ((.lastore : Instr), 1)), (22, ((.aload_n 0 : Instr), 1)), (23, ((.dup : Instr), 1)), (24, ((.getfield 15 : Instr), 3)), (27, ((.iconst 1 : Instr), 1))]),
  (32, [(28, ((.iadd : Instr), 1)), (29, ((.putfield 15 : Instr), 3)), (32, ((.return_ : Instr), 1))])]
/-- ChaffInTheWind$Row.add(J)V -/
def z_meth_81 : z_Mr := (⟨"ChaffInTheWind$Row", "add", "(J)V"⟩, prog_8_method_4_code, (3, 2, 0, 0), none, none, 2, 2, z_code_81, (1, 680, 3, 679, 100046))
def z_code_82 : z_bm (Instr × Nat) := [(29, [(0, ((.iload_n 1 : Instr), 1)), (1, ((.invokestatic 180 : Instr), 3)), (4, ((.ifCond .eq 14 : Instr), 3)), (7, ((.iload_n 2 : Instr), 1)), (8, ((.ifCond .lt 10 : Instr), 3)), (11, ((.iload_n 2 : Instr), 1)), (12, ((.sipush 500 : Instr), 3)), (15, ((.if_icmp .le 5 : Instr), 3)), (18, ((.iconst (-1) : Instr), 1)), (19, ((.ireturn : Instr), 1)), (20, ((.aload_n 0 : Instr), 1)), (21, ((.getfield 33 : Instr), 3)), (24, ((.getfield 134 : Instr), 3)), (27, ((.iload_n 1 : Instr), 1)), (28, ((.aaload : Instr), 1)), (29, ((.astore_n 3 : Instr), 1))]),
  (55, [(30, ((.iconst 0 : Instr), 1)), (31, ((.istore 4 : Instr), 2)), (33, ((.iconst 0 : Instr), 1)), (34, ((.istore 5 : Instr), 2)), (36, ((.iload 4 : Instr), 2)), (38, ((.iload_n 2 : Instr), 1)), (39, ((.if_icmp .ge 28 : Instr), 3)), (42, ((.aload_n 0 : Instr), 1)), (43, ((.aload_n 3 : Instr), 1)), (44, ((.invokevirtual 235 : Instr), 3)), (47, ((.iconst (-1) : Instr), 1)), (48, ((.if_icmp .eq 19 : Instr), 3)), (51, ((.iload 5 : Instr), 2)), (53, ((.aload_n 0 : Instr), 1)), (54, ((.aload_n 3 : Instr), 1)), (55, ((.invokevirtual 237 : Instr), 3))]),
  (79, [(58, ((.iadd : Instr), 1)), (59, ((.istore 5 : Instr), 2)), (61, ((.iinc 4 1 : Instr), 3)), (64, ((.goto (-28) : Instr), 3)), (67, ((.aload_n 0 : Instr), 1)), (68, ((.getfield 19 : Instr), 3)), (71, ((.iload 5 : Instr), 2)), (73, ((.i2l : Instr), 1)), (74, ((.invokevirtual 222 : Instr), 3)), (77, ((.iload 4 : Instr), 2)), (79, ((.ireturn : Instr), 1))])]
/-- ChaffInTheWind.go(II)I -/
def z_meth_82 : z_Mr := (⟨"ChaffInTheWind", "go", "(II)I"⟩, prog_1_method_14_code, (6, 3, 0, 0), some .int, none, 0, 0, z_code_82, (1, 685, 1, 683, 684))
def z_code_83 : z_bm (Instr × Nat) := [(24, [(0, ((.iconst (-1) : Instr), 1)), (1, ((.istore_n 2 : Instr), 1)), (2, ((.iconst 0 : Instr), 1)), (3, ((.istore_n 3 : Instr), 1)), (4, ((.iconst 0 : Instr), 1)), (5, ((.istore 4 : Instr), 2)), (7, ((.iload 4 : Instr), 2)), (9, ((.aload_n 0 : Instr), 1)), (10, ((.getfield 26 : Instr), 3)), (13, ((.getfield 128 : Instr), 3)), (16, ((.if_icmp .ge 25 : Instr), 3)), (19, ((.aload_n 1 : Instr), 1)), (20, ((.iload 4 : Instr), 2)), (22, ((.iaload : Instr), 1)), (23, ((.iload_n 3 : Instr), 1)), (24, ((.if_icmp .le 11 : Instr), 3))]),
  (42, [(27, ((.aload_n 1 : Instr), 1)), (28, ((.iload 4 : Instr), 2)), (30, ((.iaload : Instr), 1)), (31, ((.istore_n 3 : Instr), 1)), (32, ((.iload 4 : Instr), 2)), (34, ((.istore_n 2 : Instr), 1)), (35, ((.iinc 4 1 : Instr), 3)), (38, ((.goto (-31) : Instr), 3)), (41, ((.iload_n 2 : Instr), 1)), (42, ((.ireturn : Instr), 1))])]
/-- ChaffInTheWind.mostOf([I)I -/
def z_meth_83 : z_Mr := (⟨"ChaffInTheWind", "mostOf", "([I)I"⟩, prog_1_method_22_code, (5, 2, 0, 0), some .int, none, 0, 0, z_code_83, (1, 689, 1, 688, 100047))
def z_code_84 : z_bm (Instr × Nat) := [(25, [(0, ((.aload_n 0 : Instr), 1)), (1, ((.invokevirtual 274 : Instr), 3)), (4, ((.istore_n 2 : Instr), 1)), (5, ((.iconst 0 : Instr), 1)), (6, ((.istore_n 3 : Instr), 1)), (7, ((.iconst 0 : Instr), 1)), (8, ((.istore 4 : Instr), 2)), (10, ((.iload 4 : Instr), 2)), (12, ((.aload_n 0 : Instr), 1)), (13, ((.getfield 26 : Instr), 3)), (16, ((.getfield 277 : Instr), 3)), (19, ((.iconst 3 : Instr), 1)), (20, ((.iaload : Instr), 1)), (21, ((.if_icmp .ge 72 : Instr), 3)), (24, ((.aload_n 0 : Instr), 1)), (25, ((.aload_n 1 : Instr), 1))]),
  (54, [(26, ((.invokevirtual 235 : Instr), 3)), (29, ((.istore 5 : Instr), 2)), (31, ((.iload 5 : Instr), 2)), (33, ((.iconst (-1) : Instr), 1)), (34, ((.if_icmp .ne 5 : Instr), 3)), (37, ((.iload_n 3 : Instr), 1)), (38, ((.ireturn : Instr), 1)), (39, ((.aload_n 0 : Instr), 1)), (40, ((.getfield 26 : Instr), 3)), (43, ((.iload 5 : Instr), 2)), (45, ((.iload_n 2 : Instr), 1)), (46, ((.invokevirtual 280 : Instr), 3)), (49, ((.istore 6 : Instr), 2)), (51, ((.aload_n 1 : Instr), 1)), (52, ((.iload 5 : Instr), 2)), (54, ((.dup2 : Instr), 1))]),
  (76, [(55, ((.iaload : Instr), 1)), (56, ((.iconst 1 : Instr), 1)), (57, ((.isub : Instr), 1)), (58, ((.iastore : Instr), 1)), (59, ((.aload_n 0 : Instr), 1)), (60, ((.iload 6 : Instr), 2)), (62, ((.invokevirtual 186 : Instr), 3)), (65, ((.iload 5 : Instr), 2)), (67, ((.dup2 : Instr), 1)), (68, ((.iaload : Instr), 1)), (69, ((.iconst 1 : Instr), 1)), (70, ((.iadd : Instr), 1)), (71, ((.iastore : Instr), 1)), (72, ((.aload_n 0 : Instr), 1)), (73, ((.getfield 26 : Instr), 3)), (76, ((.iload 6 : Instr), 2))]),
  (94, [(78, ((.invokevirtual 283 : Instr), 3)), (81, ((.ifCond .eq 6 : Instr), 3)), (84, ((.iinc 3 1 : Instr), 3)), (87, ((.iinc 4 1 : Instr), 3)), (90, ((.goto (-80) : Instr), 3)), (93, ((.iload_n 3 : Instr), 1)), (94, ((.ireturn : Instr), 1))])]
/-- ChaffInTheWind.throwShovel([I)I -/
def z_meth_84 : z_Mr := (⟨"ChaffInTheWind", "throwShovel", "([I)I"⟩, prog_1_method_20_code, (7, 2, 0, 0), some .int, none, 0, 0, z_code_84, (1, 693, 1, 692, 100048))
def z_code_85 : z_bm (Instr × Nat) := [(29, [(0, ((.aload_n 0 : Instr), 1)), (1, ((.getfield 44 : Instr), 3)), (4, ((.aload_n 0 : Instr), 1)), (5, ((.getfield 33 : Instr), 3)), (8, ((.getfield 144 : Instr), 3)), (11, ((.invokevirtual 240 : Instr), 3)), (14, ((.istore_n 1 : Instr), 1)), (15, ((.aload_n 0 : Instr), 1)), (16, ((.getfield 33 : Instr), 3)), (19, ((.dup : Instr), 1)), (20, ((.getfield 144 : Instr), 3)), (23, ((.iconst 1 : Instr), 1)), (24, ((.iadd : Instr), 1)), (25, ((.putfield 144 : Instr), 3)), (28, ((.aload_n 0 : Instr), 1)), (29, ((.getfield 44 : Instr), 3))]),
  (57, [(32, ((.iload_n 1 : Instr), 1)), (33, ((.invokevirtual 286 : Instr), 3)), (36, ((.istore_n 2 : Instr), 1)), (37, ((.iload_n 2 : Instr), 1)), (38, ((.ifCond .ne 7 : Instr), 3)), (41, ((.iconst 0 : Instr), 1)), (42, ((.goto 17 : Instr), 3)), (45, ((.aload_n 0 : Instr), 1)), (46, ((.getfield 33 : Instr), 3)), (49, ((.iconst 2 : Instr), 1)), (50, ((.iload_n 2 : Instr), 1)), (51, ((.imul : Instr), 1)), (52, ((.iconst 1 : Instr), 1)), (53, ((.iadd : Instr), 1)), (54, ((.invokevirtual 289 : Instr), 3)), (57, ((.iload_n 2 : Instr), 1))]),
  (77, [(58, ((.isub : Instr), 1)), (59, ((.istore_n 3 : Instr), 1)), (60, ((.aload_n 0 : Instr), 1)), (61, ((.getfield 44 : Instr), 3)), (64, ((.iload_n 1 : Instr), 1)), (65, ((.invokevirtual 246 : Instr), 3)), (68, ((.iload_n 3 : Instr), 1)), (69, ((.iadd : Instr), 1)), (70, ((.bipush (-60) : Instr), 2)), (72, ((.bipush 60 : Instr), 2)), (74, ((.invokestatic 203 : Instr), 3)), (77, ((.ireturn : Instr), 1))])]
/-- ChaffInTheWind.windOfThrow()I -/
def z_meth_85 : z_Mr := (⟨"ChaffInTheWind", "windOfThrow", "()I"⟩, prog_1_method_21_code, (4, 1, 0, 0), some .int, none, 0, 0, z_code_85, (1, 697, 1, 696, 100049))
def z_code_86 : z_bm (Instr × Nat) := [(25, [(0, ((.aload_n 0 : Instr), 1)), (1, ((.getfield 25 : Instr), 3)), (4, ((.ifCond .ne 7 : Instr), 3)), (7, ((.iconst 0 : Instr), 1)), (8, ((.goto 9 : Instr), 3)), (11, ((.iload_n 1 : Instr), 1)), (12, ((.aload_n 0 : Instr), 1)), (13, ((.getfield 25 : Instr), 3)), (16, ((.irem : Instr), 1)), (17, ((.istore_n 2 : Instr), 1)), (18, ((.iconst 0 : Instr), 1)), (19, ((.istore_n 3 : Instr), 1)), (20, ((.iload_n 3 : Instr), 1)), (21, ((.aload_n 0 : Instr), 1)), (22, ((.getfield 21 : Instr), 3)), (25, ((.if_icmp .ge 30 : Instr), 3))]),
  (49, [(28, ((.iload_n 2 : Instr), 1)), (29, ((.aload_n 0 : Instr), 1)), (30, ((.getfield 15 : Instr), 3)), (33, ((.iload_n 3 : Instr), 1)), (34, ((.iaload : Instr), 1)), (35, ((.if_icmp .ge 5 : Instr), 3)), (38, ((.iload_n 3 : Instr), 1)), (39, ((.ireturn : Instr), 1)), (40, ((.iload_n 2 : Instr), 1)), (41, ((.aload_n 0 : Instr), 1)), (42, ((.getfield 15 : Instr), 3)), (45, ((.iload_n 3 : Instr), 1)), (46, ((.iaload : Instr), 1)), (47, ((.isub : Instr), 1)), (48, ((.istore_n 2 : Instr), 1)), (49, ((.iinc 3 1 : Instr), 3))]),
  (56, [(52, ((.goto (-32) : Instr), 3)), (55, ((.iconst (-1) : Instr), 1)), (56, ((.ireturn : Instr), 1))])]
/-- ChaffInTheWind$Gusts.lineAt(I)I -/
def z_meth_86 : z_Mr := (⟨"ChaffInTheWind$Gusts", "lineAt", "(I)I"⟩, prog_5_method_4_code, (4, 2, 0, 0), some .int, none, 6, 6, z_code_86, (1, 701, 7, 700, 100050))
def z_code_87 : z_bm (Instr × Nat) := [(22, [(0, ((.iload_n 1 : Instr), 1)), (1, ((.ifCond .lt 20 : Instr), 3)), (4, ((.iload_n 1 : Instr), 1)), (5, ((.aload_n 0 : Instr), 1)), (6, ((.getfield 21 : Instr), 3)), (9, ((.if_icmp .ge 12 : Instr), 3)), (12, ((.aload_n 0 : Instr), 1)), (13, ((.getfield 18 : Instr), 3)), (16, ((.iload_n 1 : Instr), 1)), (17, ((.iaload : Instr), 1)), (18, ((.goto 4 : Instr), 3)), (21, ((.iconst 0 : Instr), 1)), (22, ((.ireturn : Instr), 1))])]
/-- ChaffInTheWind$Gusts.spreadOf(I)I -/
def z_meth_87 : z_Mr := (⟨"ChaffInTheWind$Gusts", "spreadOf", "(I)I"⟩, prog_5_method_7_code, (2, 2, 0, 0), some .int, none, 6, 6, z_code_87, (1, 705, 7, 704, 100051))
def z_code_88 : z_bm (Instr × Nat) := [(27, [(0, ((.aload_n 0 : Instr), 1)), (1, ((.aload_n 0 : Instr), 1)), (2, ((.getfield 27 : Instr), 3)), (5, ((.ldc 43 : Instr), 2)), (7, ((.imul : Instr), 1)), (8, ((.sipush 12345 : Instr), 3)), (11, ((.iadd : Instr), 1)), (12, ((.putfield 27 : Instr), 3)), (15, ((.iload_n 1 : Instr), 1)), (16, ((.ifCond .le 15 : Instr), 3)), (19, ((.aload_n 0 : Instr), 1)), (20, ((.getfield 27 : Instr), 3)), (23, ((.bipush 16 : Instr), 2)), (25, ((.iushr : Instr), 1)), (26, ((.iload_n 1 : Instr), 1)), (27, ((.irem : Instr), 1))]),
  (32, [(28, ((.goto 4 : Instr), 3)), (31, ((.iconst 0 : Instr), 1)), (32, ((.ireturn : Instr), 1))])]
/-- ChaffInTheWind$Store.draw(I)I -/
def z_meth_88 : z_Mr := (⟨"ChaffInTheWind$Store", "draw", "(I)I"⟩, prog_10_method_4_code, (2, 2, 0, 0), some .int, none, 5, 5, z_code_88, (1, 709, 6, 708, 100052))
def z_code_89 : z_bm (Instr × Nat) := [(22, [(0, ((.iload_n 1 : Instr), 1)), (1, ((.ifCond .lt 20 : Instr), 3)), (4, ((.iload_n 1 : Instr), 1)), (5, ((.aload_n 0 : Instr), 1)), (6, ((.getfield 21 : Instr), 3)), (9, ((.if_icmp .ge 12 : Instr), 3)), (12, ((.aload_n 0 : Instr), 1)), (13, ((.getfield 11 : Instr), 3)), (16, ((.iload_n 1 : Instr), 1)), (17, ((.iaload : Instr), 1)), (18, ((.goto 4 : Instr), 3)), (21, ((.iconst 0 : Instr), 1)), (22, ((.ireturn : Instr), 1))])]
/-- ChaffInTheWind$Gusts.windOf(I)I -/
def z_meth_89 : z_Mr := (⟨"ChaffInTheWind$Gusts", "windOf", "(I)I"⟩, prog_5_method_6_code, (2, 2, 0, 0), some .int, none, 6, 6, z_code_89, (1, 714, 7, 713, 100053))
def z_code_90 : z_bm (Instr × Nat) := [(20, [(0, ((.aload_n 0 : Instr), 1)), (1, ((.getfield 55 : Instr), 3)), (4, ((.iload_n 1 : Instr), 1)), (5, ((.aaload : Instr), 1)), (6, ((.iload_n 2 : Instr), 1)), (7, ((.bipush 60 : Instr), 2)), (9, ((.iadd : Instr), 1)), (10, ((.iaload : Instr), 1)), (11, ((.istore_n 3 : Instr), 1)), (12, ((.iload_n 3 : Instr), 1)), (13, ((.iconst (-1) : Instr), 1)), (14, ((.if_icmp .eq 5 : Instr), 3)), (17, ((.iload_n 3 : Instr), 1)), (18, ((.ireturn : Instr), 1)), (19, ((.aload_n 0 : Instr), 1)), (20, ((.iload_n 1 : Instr), 1))]),
  (42, [(21, ((.iload_n 2 : Instr), 1)), (22, ((.invokevirtual 107 : Instr), 3)), (25, ((.istore 4 : Instr), 2)), (27, ((.aload_n 0 : Instr), 1)), (28, ((.getfield 55 : Instr), 3)), (31, ((.iload_n 1 : Instr), 1)), (32, ((.aaload : Instr), 1)), (33, ((.iload_n 2 : Instr), 1)), (34, ((.bipush 60 : Instr), 2)), (36, ((.iadd : Instr), 1)), (37, ((.iload 4 : Instr), 2)), (39, ((.iastore : Instr), 1)), (40, ((.iload 4 : Instr), 2)), (42, ((.ireturn : Instr), 1))])]
/-- ChaffInTheWind$Barn.landing(II)I -/
def z_meth_90 : z_Mr := (⟨"ChaffInTheWind$Barn", "landing", "(II)I"⟩, prog_2_method_14_code, (5, 3, 0, 0), some .int, none, 3, 3, z_code_90, (1, 718, 4, 717, 100054))
def z_code_91 : z_bm (Instr × Nat) := [(29, [(0, ((.aload_n 0 : Instr), 1)), (1, ((.getfield 44 : Instr), 3)), (4, ((.aload_n 0 : Instr), 1)), (5, ((.getfield 33 : Instr), 3)), (8, ((.getfield 144 : Instr), 3)), (11, ((.invokevirtual 240 : Instr), 3)), (14, ((.istore_n 1 : Instr), 1)), (15, ((.aload_n 0 : Instr), 1)), (16, ((.getfield 19 : Instr), 3)), (19, ((.iload_n 1 : Instr), 1)), (20, ((.i2l : Instr), 1)), (21, ((.invokevirtual 222 : Instr), 3)), (24, ((.aload_n 0 : Instr), 1)), (25, ((.getfield 19 : Instr), 3)), (28, ((.aload_n 0 : Instr), 1)), (29, ((.getfield 44 : Instr), 3))]),
  (54, [(32, ((.aload_n 0 : Instr), 1)), (33, ((.getfield 33 : Instr), 3)), (36, ((.getfield 144 : Instr), 3)), (39, ((.invokevirtual 243 : Instr), 3)), (42, ((.i2l : Instr), 1)), (43, ((.invokevirtual 229 : Instr), 3)), (46, ((.aload_n 0 : Instr), 1)), (47, ((.getfield 44 : Instr), 3)), (50, ((.iload_n 1 : Instr), 1)), (51, ((.invokevirtual 246 : Instr), 3)), (54, ((.ireturn : Instr), 1))])]
/-- ChaffInTheWind.blows()I -/
def z_meth_91 : z_Mr := (⟨"ChaffInTheWind", "blows", "()I"⟩, prog_1_method_15_code, (2, 1, 0, 0), some .int, none, 0, 0, z_code_91, (1, 723, 1, 721, 722))
def z_code_92 : z_bm (Instr × Nat) := [(25, [(0, ((.aload_n 0 : Instr), 1)), (1, ((.getfield 25 : Instr), 3)), (4, ((.ifCond .ne 7 : Instr), 3)), (7, ((.iconst 0 : Instr), 1)), (8, ((.goto 9 : Instr), 3)), (11, ((.iload_n 1 : Instr), 1)), (12, ((.aload_n 0 : Instr), 1)), (13, ((.getfield 25 : Instr), 3)), (16, ((.irem : Instr), 1)), (17, ((.istore_n 2 : Instr), 1)), (18, ((.iconst 0 : Instr), 1)), (19, ((.istore_n 3 : Instr), 1)), (20, ((.iload_n 3 : Instr), 1)), (21, ((.aload_n 0 : Instr), 1)), (22, ((.getfield 21 : Instr), 3)), (25, ((.if_icmp .ge 37 : Instr), 3))]),
  (49, [(28, ((.iload_n 2 : Instr), 1)), (29, ((.aload_n 0 : Instr), 1)), (30, ((.getfield 15 : Instr), 3)), (33, ((.iload_n 3 : Instr), 1)), (34, ((.iaload : Instr), 1)), (35, ((.if_icmp .ge 12 : Instr), 3)), (38, ((.aload_n 0 : Instr), 1)), (39, ((.getfield 15 : Instr), 3)), (42, ((.iload_n 3 : Instr), 1)), (43, ((.iaload : Instr), 1)), (44, ((.iload_n 2 : Instr), 1)), (45, ((.isub : Instr), 1)), (46, ((.ireturn : Instr), 1)), (47, ((.iload_n 2 : Instr), 1)), (48, ((.aload_n 0 : Instr), 1)), (49, ((.getfield 15 : Instr), 3))]),
  (63, [(52, ((.iload_n 3 : Instr), 1)), (53, ((.iaload : Instr), 1)), (54, ((.isub : Instr), 1)), (55, ((.istore_n 2 : Instr), 1)), (56, ((.iinc 3 1 : Instr), 3)), (59, ((.goto (-39) : Instr), 3)), (62, ((.iconst 0 : Instr), 1)), (63, ((.ireturn : Instr), 1))])]
/-- ChaffInTheWind$Gusts.leftAt(I)I -/
def z_meth_92 : z_Mr := (⟨"ChaffInTheWind$Gusts", "leftAt", "(I)I"⟩, prog_5_method_5_code, (4, 2, 0, 0), some .int, none, 6, 6, z_code_92, (1, 727, 7, 726, 100055))
def z_code_93 : z_bm (Instr × Nat) := [(26, [(0, ((.aload_n 0 : Instr), 1)), (1, ((.iload_n 1 : Instr), 1)), (2, ((.iload_n 2 : Instr), 1)), (3, ((.invokevirtual 249 : Instr), 3)), (6, ((.ifCond .eq 10 : Instr), 3)), (9, ((.iload_n 3 : Instr), 1)), (10, ((.invokestatic 180 : Instr), 3)), (13, ((.ifCond .ne 5 : Instr), 3)), (16, ((.iconst (-1) : Instr), 1)), (17, ((.ireturn : Instr), 1)), (18, ((.iconst 0 : Instr), 1)), (19, ((.istore 4 : Instr), 2)), (21, ((.iload_n 1 : Instr), 1)), (22, ((.istore 5 : Instr), 2)), (24, ((.iload 5 : Instr), 2)), (26, ((.iload_n 2 : Instr), 1))]),
  (56, [(27, ((.if_icmp .gt 37 : Instr), 3)), (30, ((.iload 4 : Instr), 2)), (32, ((.aload_n 0 : Instr), 1)), (33, ((.aload_n 0 : Instr), 1)), (34, ((.getfield 33 : Instr), 3)), (37, ((.getfield 253 : Instr), 3)), (40, ((.iload 5 : Instr), 2)), (42, ((.aaload : Instr), 1)), (43, ((.aload_n 0 : Instr), 1)), (44, ((.getfield 33 : Instr), 3)), (47, ((.getfield 134 : Instr), 3)), (50, ((.iload_n 3 : Instr), 1)), (51, ((.aaload : Instr), 1)), (52, ((.invokevirtual 256 : Instr), 3)), (55, ((.iadd : Instr), 1)), (56, ((.istore 4 : Instr), 2))]),
  (66, [(58, ((.iinc 5 1 : Instr), 3)), (61, ((.goto (-37) : Instr), 3)), (64, ((.iload 4 : Instr), 2)), (66, ((.ireturn : Instr), 1))])]
/-- ChaffInTheWind.gather(III)I -/
def z_meth_93 : z_Mr := (⟨"ChaffInTheWind", "gather", "(III)I"⟩, prog_1_method_16_code, (6, 4, 0, 0), some .int, none, 0, 0, z_code_93, (1, 731, 1, 729, 730))
def z_code_94 : z_bm (Instr × Nat) := [(25, [(0, ((.iload_n 1 : Instr), 1)), (1, ((.ifCond .lt 23 : Instr), 3)), (4, ((.iload_n 1 : Instr), 1)), (5, ((.iload_n 2 : Instr), 1)), (6, ((.if_icmp .gt 18 : Instr), 3)), (9, ((.iload_n 2 : Instr), 1)), (10, ((.aload_n 0 : Instr), 1)), (11, ((.getfield 26 : Instr), 3)), (14, ((.getfield 368 : Instr), 3)), (17, ((.if_icmp .ge 7 : Instr), 3)), (20, ((.iconst 1 : Instr), 1)), (21, ((.goto 4 : Instr), 3)), (24, ((.iconst 0 : Instr), 1)), (25, ((.ireturn : Instr), 1))])]
/-- ChaffInTheWind.areYards(II)Z -/
def z_meth_94 : z_Mr := (⟨"ChaffInTheWind", "areYards", "(II)Z"⟩, prog_1_method_92_code, (3, 3, 0, 0), some .boolean, none, 0, 0, z_code_94, (1, 735, 1, 734, 100056))
def z_code_95 : z_bm (Instr × Nat) := [(26, [(0, ((.iconst 0 : Instr), 1)), (1, ((.istore_n 3 : Instr), 1)), (2, ((.iconst 0 : Instr), 1)), (3, ((.istore 4 : Instr), 2)), (5, ((.iload 4 : Instr), 2)), (7, ((.aload_n 0 : Instr), 1)), (8, ((.getfield 26 : Instr), 3)), (11, ((.getfield 128 : Instr), 3)), (14, ((.if_icmp .ge 20 : Instr), 3)), (17, ((.iload_n 3 : Instr), 1)), (18, ((.aload_n 0 : Instr), 1)), (19, ((.iload 4 : Instr), 2)), (21, ((.aload_n 1 : Instr), 1)), (22, ((.aload_n 2 : Instr), 1)), (23, ((.invokevirtual 266 : Instr), 3)), (26, ((.iadd : Instr), 1))]),
  (35, [(27, ((.istore_n 3 : Instr), 1)), (28, ((.iinc 4 1 : Instr), 3)), (31, ((.goto (-26) : Instr), 3)), (34, ((.iload_n 3 : Instr), 1)), (35, ((.ireturn : Instr), 1))])]
/-- ChaffInTheWind.moveAll([I[I)I -/
def z_meth_95 : z_Mr := (⟨"ChaffInTheWind", "moveAll", "([I[I)I"⟩, prog_1_method_23_code, (5, 3, 0, 0), some .int, none, 0, 0, z_code_95, (1, 739, 1, 738, 100057))
def z_code_96 : z_bm (Instr × Nat) := [(17, [(0, ((.aload_n 2 : Instr), 1)), (1, ((.iload_n 1 : Instr), 1)), (2, ((.iaload : Instr), 1)), (3, ((.istore 4 : Instr), 2)), (5, ((.aload_n 2 : Instr), 1)), (6, ((.iload_n 1 : Instr), 1)), (7, ((.iconst 0 : Instr), 1)), (8, ((.iastore : Instr), 1)), (9, ((.aload_n 3 : Instr), 1)), (10, ((.iload_n 1 : Instr), 1)), (11, ((.dup2 : Instr), 1)), (12, ((.iaload : Instr), 1)), (13, ((.iload 4 : Instr), 2)), (15, ((.iadd : Instr), 1)), (16, ((.iastore : Instr), 1)), (17, ((.iload 4 : Instr), 2))]),
  (19, [(19, ((.ireturn : Instr), 1))])]
/-- ChaffInTheWind.move(I[I[I)I -/
def z_meth_96 : z_Mr := (⟨"ChaffInTheWind", "move", "(I[I[I)I"⟩, prog_1_method_24_code, (5, 4, 0, 0), some .int, none, 0, 0, z_code_96, (1, 743, 1, 742, 100058))
def z_code_97 : z_bm (Instr × Nat) := [(27, [(0, ((.iload_n 1 : Instr), 1)), (1, ((.iload_n 2 : Instr), 1)), (2, ((.invokestatic 260 : Instr), 3)), (5, ((.ifCond .ne 5 : Instr), 3)), (8, ((.iconst (-1) : Instr), 1)), (9, ((.ireturn : Instr), 1)), (10, ((.aload_n 0 : Instr), 1)), (11, ((.aload_n 0 : Instr), 1)), (12, ((.getfield 33 : Instr), 3)), (15, ((.getfield 134 : Instr), 3)), (18, ((.iload_n 1 : Instr), 1)), (19, ((.aaload : Instr), 1)), (20, ((.aload_n 0 : Instr), 1)), (21, ((.getfield 33 : Instr), 3)), (24, ((.getfield 134 : Instr), 3)), (27, ((.iload_n 2 : Instr), 1))]),
  (32, [(28, ((.aaload : Instr), 1)), (29, ((.invokevirtual 256 : Instr), 3)), (32, ((.ireturn : Instr), 1))])]
/-- ChaffInTheWind.mix(II)I -/
def z_meth_97 : z_Mr := (⟨"ChaffInTheWind", "mix", "(II)I"⟩, prog_1_method_17_code, (3, 3, 0, 0), some .int, none, 0, 0, z_code_97, (1, 747, 1, 745, 746))
def z_code_98 : z_bm (Instr × Nat) := [(24, [(0, ((.iload_n 0 : Instr), 1)), (1, ((.invokestatic 180 : Instr), 3)), (4, ((.ifCond .eq 19 : Instr), 3)), (7, ((.iload_n 1 : Instr), 1)), (8, ((.invokestatic 180 : Instr), 3)), (11, ((.ifCond .eq 12 : Instr), 3)), (14, ((.iload_n 0 : Instr), 1)), (15, ((.iload_n 1 : Instr), 1)), (16, ((.if_icmp .eq 7 : Instr), 3)), (19, ((.iconst 1 : Instr), 1)), (20, ((.goto 4 : Instr), 3)), (23, ((.iconst 0 : Instr), 1)), (24, ((.ireturn : Instr), 1))])]
/-- ChaffInTheWind.areTwoHeaps(II)Z -/
def z_meth_98 : z_Mr := (⟨"ChaffInTheWind", "areTwoHeaps", "(II)Z"⟩, prog_1_method_87_code, (2, 2, 0, 0), some .boolean, none, 0, 0, z_code_98, (0, 750, 1, 749, 0))
def z_code_99 : z_bm (Instr × Nat) := [(26, [(0, ((.iload_n 1 : Instr), 1)), (1, ((.iload_n 3 : Instr), 1)), (2, ((.invokestatic 260 : Instr), 3)), (5, ((.ifCond .eq 10 : Instr), 3)), (8, ((.iload_n 2 : Instr), 1)), (9, ((.invokestatic 263 : Instr), 3)), (12, ((.ifCond .ne 5 : Instr), 3)), (15, ((.iconst (-1) : Instr), 1)), (16, ((.ireturn : Instr), 1)), (17, ((.iconst 0 : Instr), 1)), (18, ((.istore 4 : Instr), 2)), (20, ((.iconst 0 : Instr), 1)), (21, ((.istore 5 : Instr), 2)), (23, ((.iload 5 : Instr), 2)), (25, ((.aload_n 0 : Instr), 1)), (26, ((.getfield 26 : Instr), 3))]),
  (61, [(29, ((.getfield 128 : Instr), 3)), (32, ((.if_icmp .ge 52 : Instr), 3)), (35, ((.aload_n 0 : Instr), 1)), (36, ((.getfield 26 : Instr), 3)), (39, ((.getfield 174 : Instr), 3)), (42, ((.iload 5 : Instr), 2)), (44, ((.iaload : Instr), 1)), (45, ((.iload_n 2 : Instr), 1)), (46, ((.if_icmp .ge 32 : Instr), 3)), (49, ((.iload 4 : Instr), 2)), (51, ((.aload_n 0 : Instr), 1)), (52, ((.iload 5 : Instr), 2)), (54, ((.aload_n 0 : Instr), 1)), (55, ((.getfield 33 : Instr), 3)), (58, ((.getfield 134 : Instr), 3)), (61, ((.iload_n 1 : Instr), 1))]),
  (86, [(62, ((.aaload : Instr), 1)), (63, ((.aload_n 0 : Instr), 1)), (64, ((.getfield 33 : Instr), 3)), (67, ((.getfield 134 : Instr), 3)), (70, ((.iload_n 3 : Instr), 1)), (71, ((.aaload : Instr), 1)), (72, ((.invokevirtual 266 : Instr), 3)), (75, ((.iadd : Instr), 1)), (76, ((.istore 4 : Instr), 2)), (78, ((.iinc 5 1 : Instr), 3)), (81, ((.goto (-58) : Instr), 3)), (84, ((.iload 4 : Instr), 2)), (86, ((.ireturn : Instr), 1))])]
/-- ChaffInTheWind.sieve(III)I -/
def z_meth_99 : z_Mr := (⟨"ChaffInTheWind", "sieve", "(III)I"⟩, prog_1_method_18_code, (6, 4, 0, 0), some .int, none, 0, 0, z_code_99, (1, 754, 1, 752, 753))
def z_code_100 : z_bm (Instr × Nat) := [(16, [(0, ((.iload_n 0 : Instr), 1)), (1, ((.iconst 1 : Instr), 1)), (2, ((.if_icmp .lt 13 : Instr), 3)), (5, ((.iload_n 0 : Instr), 1)), (6, ((.bipush 60 : Instr), 2)), (8, ((.if_icmp .gt 7 : Instr), 3)), (11, ((.iconst 1 : Instr), 1)), (12, ((.goto 4 : Instr), 3)), (15, ((.iconst 0 : Instr), 1)), (16, ((.ireturn : Instr), 1))])]
/-- ChaffInTheWind.isHole(I)Z -/
def z_meth_100 : z_Mr := (⟨"ChaffInTheWind", "isHole", "(I)Z"⟩, prog_1_method_89_code, (1, 1, 0, 0), some .boolean, none, 0, 0, z_code_100, (0, 757, 1, 756, 0))
def z_code_101 : z_bm (Instr × Nat) := [(25, [(0, ((.iload_n 1 : Instr), 1)), (1, ((.iload_n 3 : Instr), 1)), (2, ((.invokestatic 260 : Instr), 3)), (5, ((.ifCond .eq 14 : Instr), 3)), (8, ((.iload_n 2 : Instr), 1)), (9, ((.iconst 1 : Instr), 1)), (10, ((.if_icmp .lt 9 : Instr), 3)), (13, ((.iload_n 2 : Instr), 1)), (14, ((.bipush 9 : Instr), 2)), (16, ((.if_icmp .le 5 : Instr), 3)), (19, ((.iconst (-1) : Instr), 1)), (20, ((.ireturn : Instr), 1)), (21, ((.iconst 0 : Instr), 1)), (22, ((.istore 4 : Instr), 2)), (24, ((.iconst 0 : Instr), 1)), (25, ((.istore 5 : Instr), 2))]),
  (59, [(27, ((.iload 5 : Instr), 2)), (29, ((.aload_n 0 : Instr), 1)), (30, ((.getfield 26 : Instr), 3)), (33, ((.getfield 128 : Instr), 3)), (36, ((.if_icmp .ge 55 : Instr), 3)), (39, ((.aload_n 0 : Instr), 1)), (40, ((.getfield 54 : Instr), 3)), (43, ((.aload_n 0 : Instr), 1)), (44, ((.getfield 26 : Instr), 3)), (47, ((.iload 5 : Instr), 2)), (49, ((.iload_n 2 : Instr), 1)), (50, ((.invokevirtual 270 : Instr), 3)), (53, ((.ifCond .eq 32 : Instr), 3)), (56, ((.iload 4 : Instr), 2)), (58, ((.aload_n 0 : Instr), 1)), (59, ((.iload 5 : Instr), 2))]),
  (91, [(61, ((.aload_n 0 : Instr), 1)), (62, ((.getfield 33 : Instr), 3)), (65, ((.getfield 134 : Instr), 3)), (68, ((.iload_n 1 : Instr), 1)), (69, ((.aaload : Instr), 1)), (70, ((.aload_n 0 : Instr), 1)), (71, ((.getfield 33 : Instr), 3)), (74, ((.getfield 134 : Instr), 3)), (77, ((.iload_n 3 : Instr), 1)), (78, ((.aaload : Instr), 1)), (79, ((.invokevirtual 266 : Instr), 3)), (82, ((.iadd : Instr), 1)), (83, ((.istore 4 : Instr), 2)), (85, ((.iinc 5 1 : Instr), 3)), (88, ((.goto (-61) : Instr), 3)), (91, ((.iload 4 : Instr), 2))]),
  (93, [(93, ((.ireturn : Instr), 1))])]
/-- ChaffInTheWind.stroke(III)I -/
def z_meth_101 : z_Mr := (⟨"ChaffInTheWind", "stroke", "(III)I"⟩, prog_1_method_19_code, (6, 4, 0, 0), some .int, none, 0, 0, z_code_101, (1, 761, 1, 759, 760))
def z_code_102 : z_bm (Instr × Nat) := [(23, [(0, ((.aload_n 0 : Instr), 1)), (1, ((.getfield 22 : Instr), 3)), (4, ((.iconst 0 : Instr), 1)), (5, ((.aload_n 1 : Instr), 1)), (6, ((.getfield 56 : Instr), 3)), (9, ((.iload_n 2 : Instr), 1)), (10, ((.iaload : Instr), 1)), (11, ((.iastore : Instr), 1)), (12, ((.aload_n 0 : Instr), 1)), (13, ((.getfield 22 : Instr), 3)), (16, ((.iconst 1 : Instr), 1)), (17, ((.aload_n 1 : Instr), 1)), (18, ((.getfield 83 : Instr), 3)), (21, ((.iload_n 2 : Instr), 1)), (22, ((.iaload : Instr), 1)), (23, ((.iastore : Instr), 1))]),
  (47, [(24, ((.aload_n 0 : Instr), 1)), (25, ((.getfield 22 : Instr), 3)), (28, ((.iconst 2 : Instr), 1)), (29, ((.aload_n 1 : Instr), 1)), (30, ((.getfield 86 : Instr), 3)), (33, ((.iload_n 2 : Instr), 1)), (34, ((.iaload : Instr), 1)), (35, ((.iastore : Instr), 1)), (36, ((.aload_n 0 : Instr), 1)), (37, ((.getfield 22 : Instr), 3)), (40, ((.iconst 3 : Instr), 1)), (41, ((.aload_n 1 : Instr), 1)), (42, ((.getfield 59 : Instr), 3)), (45, ((.iload_n 2 : Instr), 1)), (46, ((.iaload : Instr), 1)), (47, ((.iastore : Instr), 1))]),
  (73, [(48, ((.aload_n 0 : Instr), 1)), (49, ((.getfield 22 : Instr), 3)), (52, ((.iconst 4 : Instr), 1)), (53, ((.iload_n 3 : Instr), 1)), (54, ((.iastore : Instr), 1)), (55, ((.aload_n 0 : Instr), 1)), (56, ((.iconst 3 : Instr), 1)), (57, ((.invokevirtual 41 : Instr), 3)), (60, ((.ifCond .eq 23 : Instr), 3)), (63, ((.aload_n 0 : Instr), 1)), (64, ((.getfield 12 : Instr), 3)), (67, ((.iconst 3 : Instr), 1)), (68, ((.aaload : Instr), 1)), (69, ((.aload_n 0 : Instr), 1)), (70, ((.getfield 22 : Instr), 3)), (73, ((.invokevirtual 65 : Instr), 3))]),
  (84, [(76, ((.ifCond .eq 7 : Instr), 3)), (79, ((.iconst 1 : Instr), 1)), (80, ((.goto 4 : Instr), 3)), (83, ((.iconst 0 : Instr), 1)), (84, ((.ireturn : Instr), 1))])]
/-- ChaffInTheWind$Market.flings(LChaffInTheWind$Barn;II)Z -/
def z_meth_102 : z_Mr := (⟨"ChaffInTheWind$Market", "flings", "(LChaffInTheWind$Barn;II)Z"⟩, prog_6_method_9_code, (4, 4, 0, 0), some .boolean, none, 7, 7, z_code_102, (1, 765, 8, 764, 100059))
def z_code_103 : z_bm (Instr × Nat) := [(17, [(0, ((.aload_n 0 : Instr), 1)), (1, ((.getfield 12 : Instr), 3)), (4, ((.iload_n 1 : Instr), 1)), (5, ((.aaload : Instr), 1)), (6, ((.getfield 38 : Instr), 3)), (9, ((.ifCond .le 7 : Instr), 3)), (12, ((.iconst 1 : Instr), 1)), (13, ((.goto 4 : Instr), 3)), (16, ((.iconst 0 : Instr), 1)), (17, ((.ireturn : Instr), 1))])]
/-- ChaffInTheWind$Market.isTold(I)Z -/
def z_meth_103 : z_Mr := (⟨"ChaffInTheWind$Market", "isTold", "(I)Z"⟩, prog_6_method_4_code, (2, 2, 0, 0), some .boolean, none, 7, 7, z_code_103, (1, 769, 8, 768, 100060))
def z_code_104 : z_bm (Instr × Nat) := [(25, [(0, ((.iconst (-1) : Instr), 1)), (1, ((.istore_n 2 : Instr), 1)), (2, ((.iconst 0 : Instr), 1)), (3, ((.istore_n 3 : Instr), 1)), (4, ((.iload_n 3 : Instr), 1)), (5, ((.aload_n 0 : Instr), 1)), (6, ((.getfield 18 : Instr), 3)), (9, ((.if_icmp .ge 119 : Instr), 3)), (12, ((.aload_n 0 : Instr), 1)), (13, ((.getfield 9 : Instr), 3)), (16, ((.iload_n 3 : Instr), 1)), (17, ((.iaload : Instr), 1)), (18, ((.istore 4 : Instr), 2)), (20, ((.iload 4 : Instr), 2)), (22, ((.sipush 2000 : Instr), 3)), (25, ((.if_icmp .ge 36 : Instr), 3))]),
  (58, [(28, ((.iinc 2 1 : Instr), 3)), (31, ((.aload_n 0 : Instr), 1)), (32, ((.getfield 15 : Instr), 3)), (35, ((.iload_n 2 : Instr), 1)), (36, ((.iload 4 : Instr), 2)), (38, ((.sipush 1000 : Instr), 3)), (41, ((.if_icmp .ge 8 : Instr), 3)), (44, ((.iload 4 : Instr), 2)), (46, ((.goto 11 : Instr), 3)), (49, ((.aload_n 1 : Instr), 1)), (50, ((.iload 4 : Instr), 2)), (52, ((.sipush 1000 : Instr), 3)), (55, ((.isub : Instr), 1)), (56, ((.iaload : Instr), 1)), (57, ((.iastore : Instr), 1)), (58, ((.goto 64 : Instr), 3))]),
  (89, [(61, ((.iload 4 : Instr), 2)), (63, ((.sipush 2007 : Instr), 3)), (66, ((.if_icmp .ne 23 : Instr), 3)), (69, ((.iload_n 2 : Instr), 1)), (70, ((.ifCond .lt 19 : Instr), 3)), (73, ((.aload_n 0 : Instr), 1)), (74, ((.getfield 15 : Instr), 3)), (77, ((.iload_n 2 : Instr), 1)), (78, ((.aload_n 0 : Instr), 1)), (79, ((.getfield 15 : Instr), 3)), (82, ((.iload_n 2 : Instr), 1)), (83, ((.iaload : Instr), 1)), (84, ((.ineg : Instr), 1)), (85, ((.iastore : Instr), 1)), (86, ((.goto 36 : Instr), 3)), (89, ((.iload_n 2 : Instr), 1))]),
  (116, [(90, ((.iconst 1 : Instr), 1)), (91, ((.if_icmp .lt 31 : Instr), 3)), (94, ((.iinc 2 (-1) : Instr), 3)), (97, ((.aload_n 0 : Instr), 1)), (98, ((.getfield 15 : Instr), 3)), (101, ((.iload_n 2 : Instr), 1)), (102, ((.iload 4 : Instr), 2)), (104, ((.aload_n 0 : Instr), 1)), (105, ((.getfield 15 : Instr), 3)), (108, ((.iload_n 2 : Instr), 1)), (109, ((.iaload : Instr), 1)), (110, ((.aload_n 0 : Instr), 1)), (111, ((.getfield 15 : Instr), 3)), (114, ((.iload_n 2 : Instr), 1)), (115, ((.iconst 1 : Instr), 1)), (116, ((.iadd : Instr), 1))]),
  (142, [(117, ((.iaload : Instr), 1)), (118, ((.invokestatic 69 : Instr), 3)), (121, ((.iastore : Instr), 1)), (122, ((.iinc 3 1 : Instr), 3)), (125, ((.goto (-121) : Instr), 3)), (128, ((.iload_n 2 : Instr), 1)), (129, ((.ifCond .lt 12 : Instr), 3)), (132, ((.aload_n 0 : Instr), 1)), (133, ((.getfield 15 : Instr), 3)), (136, ((.iconst 0 : Instr), 1)), (137, ((.iaload : Instr), 1)), (138, ((.goto 4 : Instr), 3)), (141, ((.iconst 0 : Instr), 1)), (142, ((.ireturn : Instr), 1))])]
/-- ChaffInTheWind$Formula.value([I)I -/
def z_meth_104 : z_Mr := (⟨"ChaffInTheWind$Formula", "value", "([I)I"⟩, prog_4_method_9_code, (5, 2, 0, 0), some .int, none, 8, 8, z_code_104, (1, 773, 9, 772, 100061))
def z_code_105 : z_bm (Instr × Nat) := [(61, [(0, ((.iload_n 0 : Instr), 1)), (1, ((.tableswitch 84 2000 2005 #[39, 50, 61, 72, 76, 80] : Instr), 39)), (40, ((.iload_n 1 : Instr), 1)), (41, ((.iload_n 2 : Instr), 1)), (42, ((.if_icmp .ge 7 : Instr), 3)), (45, ((.iconst 1 : Instr), 1)), (46, ((.goto 4 : Instr), 3)), (49, ((.iconst 0 : Instr), 1)), (50, ((.ireturn : Instr), 1)), (51, ((.iload_n 1 : Instr), 1)), (52, ((.iload_n 2 : Instr), 1)), (53, ((.if_icmp .le 7 : Instr), 3)), (56, ((.iconst 1 : Instr), 1)), (57, ((.goto 4 : Instr), 3)), (60, ((.iconst 0 : Instr), 1)), (61, ((.ireturn : Instr), 1))]),
  (81, [(62, ((.iload_n 1 : Instr), 1)), (63, ((.iload_n 2 : Instr), 1)), (64, ((.if_icmp .ne 7 : Instr), 3)), (67, ((.iconst 1 : Instr), 1)), (68, ((.goto 4 : Instr), 3)), (71, ((.iconst 0 : Instr), 1)), (72, ((.ireturn : Instr), 1)), (73, ((.iload_n 1 : Instr), 1)), (74, ((.iload_n 2 : Instr), 1)), (75, ((.iadd : Instr), 1)), (76, ((.ireturn : Instr), 1)), (77, ((.iload_n 1 : Instr), 1)), (78, ((.iload_n 2 : Instr), 1)), (79, ((.isub : Instr), 1)), (80, ((.ireturn : Instr), 1)), (81, ((.iload_n 1 : Instr), 1))]),
  (96, [(82, ((.iload_n 2 : Instr), 1)), (83, ((.imul : Instr), 1)), (84, ((.ireturn : Instr), 1)), (85, ((.iload_n 2 : Instr), 1)), (86, ((.ifCond .ne 7 : Instr), 3)), (89, ((.iconst 0 : Instr), 1)), (90, ((.goto 6 : Instr), 3)), (93, ((.iload_n 1 : Instr), 1)), (94, ((.iload_n 2 : Instr), 1)), (95, ((.idiv : Instr), 1)), (96, ((.ireturn : Instr), 1))])]
/-- ChaffInTheWind$Formula.operated(III)I -/
def z_meth_105 : z_Mr := (⟨"ChaffInTheWind$Formula", "operated", "(III)I"⟩, prog_4_method_10_code, (3, 3, 0, 0), some .int, none, 8, 8, z_code_105, (0, 776, 9, 775, 0))
def z_code_106 : z_bm (Instr × Nat) := [(24, [(0, ((.aload_n 0 : Instr), 1)), (1, ((.iload_n 1 : Instr), 1)), (2, ((.invokevirtual 162 : Instr), 3)), (5, ((.ifCond .eq 11 : Instr), 3)), (8, ((.aload_n 0 : Instr), 1)), (9, ((.iload_n 2 : Instr), 1)), (10, ((.invokevirtual 162 : Instr), 3)), (13, ((.ifCond .ne 5 : Instr), 3)), (16, ((.iconst (-1) : Instr), 1)), (17, ((.ireturn : Instr), 1)), (18, ((.iconst 0 : Instr), 1)), (19, ((.istore_n 3 : Instr), 1)), (20, ((.iconst 0 : Instr), 1)), (21, ((.istore 4 : Instr), 2)), (23, ((.iconst 0 : Instr), 1)), (24, ((.istore 5 : Instr), 2))]),
  (57, [(26, ((.iconst 0 : Instr), 1)), (27, ((.istore 6 : Instr), 2)), (29, ((.iload 6 : Instr), 2)), (31, ((.bipush 121 : Instr), 2)), (33, ((.if_icmp .ge 65 : Instr), 3)), (36, ((.iload 6 : Instr), 2)), (38, ((.invokestatic 292 : Instr), 3)), (41, ((.istore 7 : Instr), 2)), (43, ((.aload_n 0 : Instr), 1)), (44, ((.getfield 26 : Instr), 3)), (47, ((.iload_n 1 : Instr), 1)), (48, ((.iload 7 : Instr), 2)), (50, ((.invokevirtual 280 : Instr), 3)), (53, ((.aload_n 0 : Instr), 1)), (54, ((.getfield 26 : Instr), 3)), (57, ((.iload_n 2 : Instr), 1))]),
  (92, [(58, ((.iload 7 : Instr), 2)), (60, ((.invokevirtual 280 : Instr), 3)), (63, ((.isub : Instr), 1)), (64, ((.invokestatic 295 : Instr), 3)), (67, ((.istore 8 : Instr), 2)), (69, ((.iload 8 : Instr), 2)), (71, ((.ifCond .le 6 : Instr), 3)), (74, ((.iinc 3 1 : Instr), 3)), (77, ((.iload 8 : Instr), 2)), (79, ((.iload 4 : Instr), 2)), (81, ((.if_icmp .le 11 : Instr), 3)), (84, ((.iload 8 : Instr), 2)), (86, ((.istore 4 : Instr), 2)), (88, ((.iload 7 : Instr), 2)), (90, ((.istore 5 : Instr), 2)), (92, ((.iinc 6 1 : Instr), 3))]),
  (126, [(95, ((.goto (-66) : Instr), 3)), (98, ((.aload_n 0 : Instr), 1)), (99, ((.getfield 19 : Instr), 3)), (102, ((.invokevirtual 300 : Instr), 3)), (105, ((.iload_n 3 : Instr), 1)), (106, ((.ifCond .le 23 : Instr), 3)), (109, ((.aload_n 0 : Instr), 1)), (110, ((.getfield 19 : Instr), 3)), (113, ((.iload 5 : Instr), 2)), (115, ((.i2l : Instr), 1)), (116, ((.invokevirtual 229 : Instr), 3)), (119, ((.aload_n 0 : Instr), 1)), (120, ((.getfield 19 : Instr), 3)), (123, ((.iload 4 : Instr), 2)), (125, ((.i2l : Instr), 1)), (126, ((.invokevirtual 229 : Instr), 3))]),
  (130, [(129, ((.iload_n 3 : Instr), 1)), (130, ((.ireturn : Instr), 1))])]
/-- ChaffInTheWind.parts(II)I -/
def z_meth_106 : z_Mr := (⟨"ChaffInTheWind", "parts", "(II)I"⟩, prog_1_method_25_code, (9, 3, 0, 0), some .int, none, 0, 0, z_code_106, (1, 780, 1, 778, 779))
def z_code_107 : z_bm (Instr × Nat) := [(19, [(0, ((.iload_n 0 : Instr), 1)), (1, ((.iconst 1 : Instr), 1)), (2, ((.iand : Instr), 1)), (3, ((.iconst 1 : Instr), 1)), (4, ((.if_icmp .ne 12 : Instr), 3)), (7, ((.iload_n 0 : Instr), 1)), (8, ((.iconst 1 : Instr), 1)), (9, ((.iadd : Instr), 1)), (10, ((.iconst 1 : Instr), 1)), (11, ((.ishr : Instr), 1)), (12, ((.ineg : Instr), 1)), (13, ((.goto 6 : Instr), 3)), (16, ((.iload_n 0 : Instr), 1)), (17, ((.iconst 1 : Instr), 1)), (18, ((.ishr : Instr), 1)), (19, ((.ireturn : Instr), 1))])]
/-- ChaffInTheWind.windBySize(I)I -/
def z_meth_107 : z_Mr := (⟨"ChaffInTheWind", "windBySize", "(I)I"⟩, prog_1_method_34_code, (1, 1, 0, 0), some .int, none, 0, 0, z_code_107, (0, 783, 1, 782, 0))
def z_code_108 : z_bm (Instr × Nat) := [(10, [(0, ((.iload_n 0 : Instr), 1)), (1, ((.ifCond .ge 8 : Instr), 3)), (4, ((.iload_n 0 : Instr), 1)), (5, ((.ineg : Instr), 1)), (6, ((.goto 4 : Instr), 3)), (9, ((.iload_n 0 : Instr), 1)), (10, ((.ireturn : Instr), 1))])]
/-- java/lang/Math.abs(I)I -/
def z_meth_108 : z_Mr := (⟨"java/lang/Math", "abs", "(I)I"⟩, prog_19_method_59_code, (1, 1, 0, 0), some .int, none, 0, 9, z_code_108, (0, 786, 11, 785, 0))
def z_code_109 : z_bm (Instr × Nat) := [(5, [(0, ((.aload_n 0 : Instr), 1)), (1, ((.iconst 0 : Instr), 1)), (2, ((.putfield 15 : Instr), 3)), (5, ((.return_ : Instr), 1))])]
/-- ChaffInTheWind$Row.clear()V -/
def z_meth_109 : z_Mr := (⟨"ChaffInTheWind$Row", "clear", "()V"⟩, prog_8_method_2_code, (1, 1, 0, 0), none, none, 2, 2, z_code_109, (1, 790, 3, 789, 100062))
def z_code_110 : z_bm (Instr × Nat) := [(25, [(0, ((.aload_n 0 : Instr), 1)), (1, ((.getfield 19 : Instr), 3)), (4, ((.invokevirtual 300 : Instr), 3)), (7, ((.iconst 0 : Instr), 1)), (8, ((.istore_n 1 : Instr), 1)), (9, ((.iconst 0 : Instr), 1)), (10, ((.istore_n 2 : Instr), 1)), (11, ((.iload_n 2 : Instr), 1)), (12, ((.aload_n 0 : Instr), 1)), (13, ((.getfield 26 : Instr), 3)), (16, ((.getfield 128 : Instr), 3)), (19, ((.if_icmp .ge 85 : Instr), 3)), (22, ((.iconst 0 : Instr), 1)), (23, ((.istore_n 3 : Instr), 1)), (24, ((.iload_n 3 : Instr), 1)), (25, ((.aload_n 0 : Instr), 1))]),
  (59, [(26, ((.getfield 26 : Instr), 3)), (29, ((.getfield 128 : Instr), 3)), (32, ((.if_icmp .ge 66 : Instr), 3)), (35, ((.aload_n 0 : Instr), 1)), (36, ((.getfield 26 : Instr), 3)), (39, ((.iload_n 2 : Instr), 1)), (40, ((.invokevirtual 301 : Instr), 3)), (43, ((.ifCond .eq 49 : Instr), 3)), (46, ((.aload_n 0 : Instr), 1)), (47, ((.getfield 26 : Instr), 3)), (50, ((.iload_n 3 : Instr), 1)), (51, ((.invokevirtual 301 : Instr), 3)), (54, ((.ifCond .ne 38 : Instr), 3)), (57, ((.aload_n 0 : Instr), 1)), (58, ((.iload_n 2 : Instr), 1)), (59, ((.iload_n 3 : Instr), 1))]),
  (89, [(60, ((.invokevirtual 304 : Instr), 3)), (63, ((.ifCond .eq 29 : Instr), 3)), (66, ((.iinc 1 1 : Instr), 3)), (69, ((.iload_n 1 : Instr), 1)), (70, ((.iconst 1 : Instr), 1)), (71, ((.if_icmp .ne 21 : Instr), 3)), (74, ((.aload_n 0 : Instr), 1)), (75, ((.getfield 19 : Instr), 3)), (78, ((.iload_n 2 : Instr), 1)), (79, ((.i2l : Instr), 1)), (80, ((.invokevirtual 229 : Instr), 3)), (83, ((.aload_n 0 : Instr), 1)), (84, ((.getfield 19 : Instr), 3)), (87, ((.iload_n 3 : Instr), 1)), (88, ((.i2l : Instr), 1)), (89, ((.invokevirtual 229 : Instr), 3))]),
  (105, [(92, ((.iinc 3 1 : Instr), 3)), (95, ((.goto (-71) : Instr), 3)), (98, ((.iinc 2 1 : Instr), 3)), (101, ((.goto (-90) : Instr), 3)), (104, ((.iload_n 1 : Instr), 1)), (105, ((.ireturn : Instr), 1))])]
/-- ChaffInTheWind.never()I -/
def z_meth_110 : z_Mr := (⟨"ChaffInTheWind", "never", "()I"⟩, prog_1_method_26_code, (4, 1, 0, 0), some .int, none, 0, 0, z_code_110, (1, 794, 1, 792, 793))
def z_code_111 : z_bm (Instr × Nat) := [(14, [(0, ((.aload_n 0 : Instr), 1)), (1, ((.getfield 9 : Instr), 3)), (4, ((.iload_n 1 : Instr), 1)), (5, ((.iaload : Instr), 1)), (6, ((.ifCond .ne 7 : Instr), 3)), (9, ((.iconst 1 : Instr), 1)), (10, ((.goto 4 : Instr), 3)), (13, ((.iconst 0 : Instr), 1)), (14, ((.ireturn : Instr), 1))])]
/-- ChaffInTheWind$Barn.isCorn(I)Z -/
def z_meth_111 : z_Mr := (⟨"ChaffInTheWind$Barn", "isCorn", "(I)Z"⟩, prog_2_method_11_code, (2, 2, 0, 0), some .boolean, none, 3, 3, z_code_111, (1, 798, 4, 797, 100063))
def z_code_112 : z_bm (Instr × Nat) := [(27, [(0, ((.bipush (-60) : Instr), 2)), (2, ((.istore_n 3 : Instr), 1)), (3, ((.iload_n 3 : Instr), 1)), (4, ((.bipush 60 : Instr), 2)), (6, ((.if_icmp .gt 32 : Instr), 3)), (9, ((.aload_n 0 : Instr), 1)), (10, ((.getfield 26 : Instr), 3)), (13, ((.iload_n 1 : Instr), 1)), (14, ((.iload_n 3 : Instr), 1)), (15, ((.invokevirtual 280 : Instr), 3)), (18, ((.aload_n 0 : Instr), 1)), (19, ((.getfield 26 : Instr), 3)), (22, ((.iload_n 2 : Instr), 1)), (23, ((.iload_n 3 : Instr), 1)), (24, ((.invokevirtual 280 : Instr), 3)), (27, ((.if_icmp .eq 5 : Instr), 3))]),
  (39, [(30, ((.iconst 0 : Instr), 1)), (31, ((.ireturn : Instr), 1)), (32, ((.iinc 3 1 : Instr), 3)), (35, ((.goto (-32) : Instr), 3)), (38, ((.iconst 1 : Instr), 1)), (39, ((.ireturn : Instr), 1))])]
/-- ChaffInTheWind.landAlike(II)Z -/
def z_meth_112 : z_Mr := (⟨"ChaffInTheWind", "landAlike", "(II)Z"⟩, prog_1_method_38_code, (4, 3, 0, 0), some .boolean, none, 0, 0, z_code_112, (1, 802, 1, 801, 100064))
def z_code_113 : z_bm (Instr × Nat) := [(24, [(0, ((.iload_n 1 : Instr), 1)), (1, ((.invokestatic 180 : Instr), 3)), (4, ((.ifCond .ne 5 : Instr), 3)), (7, ((.iconst (-1) : Instr), 1)), (8, ((.ireturn : Instr), 1)), (9, ((.aload_n 0 : Instr), 1)), (10, ((.getfield 33 : Instr), 3)), (13, ((.getfield 134 : Instr), 3)), (16, ((.iload_n 1 : Instr), 1)), (17, ((.aaload : Instr), 1)), (18, ((.astore_n 2 : Instr), 1)), (19, ((.iconst (-1) : Instr), 1)), (20, ((.istore_n 3 : Instr), 1)), (21, ((.iconst 0 : Instr), 1)), (22, ((.istore 4 : Instr), 2)), (24, ((.iconst 0 : Instr), 1))]),
  (56, [(25, ((.istore 5 : Instr), 2)), (27, ((.iload 5 : Instr), 2)), (29, ((.bipush 121 : Instr), 2)), (31, ((.if_icmp .ge 45 : Instr), 3)), (34, ((.aload_n 0 : Instr), 1)), (35, ((.iload 5 : Instr), 2)), (37, ((.invokestatic 292 : Instr), 3)), (40, ((.invokevirtual 307 : Instr), 3)), (43, ((.aload_n 0 : Instr), 1)), (44, ((.aload_n 2 : Instr), 1)), (45, ((.aload_n 0 : Instr), 1)), (46, ((.getfield 68 : Instr), 3)), (49, ((.invokevirtual 310 : Instr), 3)), (52, ((.istore 6 : Instr), 2)), (54, ((.iload 6 : Instr), 2)), (56, ((.iload_n 3 : Instr), 1))]),
  (88, [(57, ((.if_icmp .le 13 : Instr), 3)), (60, ((.iload 6 : Instr), 2)), (62, ((.istore_n 3 : Instr), 1)), (63, ((.iload 5 : Instr), 2)), (65, ((.invokestatic 292 : Instr), 3)), (68, ((.istore 4 : Instr), 2)), (70, ((.iinc 5 1 : Instr), 3)), (73, ((.goto (-46) : Instr), 3)), (76, ((.aload_n 0 : Instr), 1)), (77, ((.iload 4 : Instr), 2)), (79, ((.invokevirtual 307 : Instr), 3)), (82, ((.aload_n 0 : Instr), 1)), (83, ((.getfield 19 : Instr), 3)), (86, ((.iload_n 3 : Instr), 1)), (87, ((.i2l : Instr), 1)), (88, ((.invokevirtual 222 : Instr), 3))]),
  (106, [(91, ((.aload_n 0 : Instr), 1)), (92, ((.getfield 19 : Instr), 3)), (95, ((.aload_n 0 : Instr), 1)), (96, ((.aload_n 2 : Instr), 1)), (97, ((.invokevirtual 313 : Instr), 3)), (100, ((.i2l : Instr), 1)), (101, ((.invokevirtual 229 : Instr), 3)), (104, ((.iload 4 : Instr), 2)), (106, ((.ireturn : Instr), 1))])]
/-- ChaffInTheWind.best(I)I -/
def z_meth_113 : z_Mr := (⟨"ChaffInTheWind", "best", "(I)I"⟩, prog_1_method_27_code, (7, 2, 0, 0), some .int, none, 0, 0, z_code_113, (1, 806, 1, 804, 805))
def z_code_114 : z_bm (Instr × Nat) := [(27, [(0, ((.iconst 0 : Instr), 1)), (1, ((.istore_n 2 : Instr), 1)), (2, ((.iload_n 2 : Instr), 1)), (3, ((.aload_n 0 : Instr), 1)), (4, ((.getfield 26 : Instr), 3)), (7, ((.getfield 128 : Instr), 3)), (10, ((.if_icmp .ge 24 : Instr), 3)), (13, ((.aload_n 0 : Instr), 1)), (14, ((.getfield 68 : Instr), 3)), (17, ((.iload_n 2 : Instr), 1)), (18, ((.aload_n 0 : Instr), 1)), (19, ((.getfield 26 : Instr), 3)), (22, ((.iload_n 2 : Instr), 1)), (23, ((.iload_n 1 : Instr), 1)), (24, ((.invokevirtual 280 : Instr), 3)), (27, ((.iastore : Instr), 1))]),
  (34, [(28, ((.iinc 2 1 : Instr), 3)), (31, ((.goto (-29) : Instr), 3)), (34, ((.return_ : Instr), 1))])]
/-- ChaffInTheWind.landAll(I)V -/
def z_meth_114 : z_Mr := (⟨"ChaffInTheWind", "landAll", "(I)V"⟩, prog_1_method_36_code, (3, 2, 0, 0), none, none, 0, 0, z_code_114, (1, 810, 1, 809, 100065))
def z_code_115 : z_bm (Instr × Nat) := [(30, [(0, ((.iconst 0 : Instr), 1)), (1, ((.istore_n 3 : Instr), 1)), (2, ((.iconst 0 : Instr), 1)), (3, ((.istore 4 : Instr), 2)), (5, ((.iload 4 : Instr), 2)), (7, ((.aload_n 0 : Instr), 1)), (8, ((.getfield 26 : Instr), 3)), (11, ((.getfield 128 : Instr), 3)), (14, ((.if_icmp .ge 55 : Instr), 3)), (17, ((.aload_n 0 : Instr), 1)), (18, ((.getfield 26 : Instr), 3)), (21, ((.iload 4 : Instr), 2)), (23, ((.invokevirtual 301 : Instr), 3)), (26, ((.ifCond .eq 37 : Instr), 3)), (29, ((.aload_n 0 : Instr), 1)), (30, ((.getfield 26 : Instr), 3))]),
  (58, [(33, ((.aload_n 2 : Instr), 1)), (34, ((.iload 4 : Instr), 2)), (36, ((.iaload : Instr), 1)), (37, ((.invokevirtual 283 : Instr), 3)), (40, ((.ifCond .ne 23 : Instr), 3)), (43, ((.aload_n 0 : Instr), 1)), (44, ((.aload_n 1 : Instr), 1)), (45, ((.aload_n 2 : Instr), 1)), (46, ((.aload_n 2 : Instr), 1)), (47, ((.iload 4 : Instr), 2)), (49, ((.iaload : Instr), 1)), (50, ((.invokevirtual 343 : Instr), 3)), (53, ((.ifCond .ne 10 : Instr), 3)), (56, ((.iload_n 3 : Instr), 1)), (57, ((.aload_n 1 : Instr), 1)), (58, ((.iload 4 : Instr), 2))]),
  (70, [(60, ((.iaload : Instr), 1)), (61, ((.iadd : Instr), 1)), (62, ((.istore_n 3 : Instr), 1)), (63, ((.iinc 4 1 : Instr), 3)), (66, ((.goto (-61) : Instr), 3)), (69, ((.iload_n 3 : Instr), 1)), (70, ((.ireturn : Instr), 1))])]
/-- ChaffInTheWind.cleanCorn([I[I)I -/
def z_meth_115 : z_Mr := (⟨"ChaffInTheWind", "cleanCorn", "([I[I)I"⟩, prog_1_method_39_code, (5, 3, 0, 0), some .int, none, 0, 0, z_code_115, (1, 814, 1, 813, 100066))
def z_code_116 : z_bm (Instr × Nat) := [(31, [(0, ((.iconst 0 : Instr), 1)), (1, ((.istore 4 : Instr), 2)), (3, ((.iload 4 : Instr), 2)), (5, ((.aload_n 0 : Instr), 1)), (6, ((.getfield 26 : Instr), 3)), (9, ((.getfield 128 : Instr), 3)), (12, ((.if_icmp .ge 38 : Instr), 3)), (15, ((.aload_n 0 : Instr), 1)), (16, ((.getfield 26 : Instr), 3)), (19, ((.iload 4 : Instr), 2)), (21, ((.invokevirtual 301 : Instr), 3)), (24, ((.ifCond .ne 20 : Instr), 3)), (27, ((.aload_n 1 : Instr), 1)), (28, ((.iload 4 : Instr), 2)), (30, ((.iaload : Instr), 1)), (31, ((.ifCond .le 13 : Instr), 3))]),
  (51, [(34, ((.aload_n 2 : Instr), 1)), (35, ((.iload 4 : Instr), 2)), (37, ((.iaload : Instr), 1)), (38, ((.iload_n 3 : Instr), 1)), (39, ((.if_icmp .ne 5 : Instr), 3)), (42, ((.iconst 1 : Instr), 1)), (43, ((.ireturn : Instr), 1)), (44, ((.iinc 4 1 : Instr), 3)), (47, ((.goto (-44) : Instr), 3)), (50, ((.iconst 0 : Instr), 1)), (51, ((.ireturn : Instr), 1))])]
/-- ChaffInTheWind.isSoiled([I[II)Z -/
def z_meth_116 : z_Mr := (⟨"ChaffInTheWind", "isSoiled", "([I[II)Z"⟩, prog_1_method_40_code, (5, 4, 0, 0), some .boolean, none, 0, 0, z_code_116, (1, 818, 1, 817, 100067))
def z_code_117 : z_bm (Instr × Nat) := [(27, [(0, ((.iconst 0 : Instr), 1)), (1, ((.istore_n 2 : Instr), 1)), (2, ((.iconst 0 : Instr), 1)), (3, ((.istore_n 3 : Instr), 1)), (4, ((.iload_n 3 : Instr), 1)), (5, ((.aload_n 0 : Instr), 1)), (6, ((.getfield 26 : Instr), 3)), (9, ((.getfield 128 : Instr), 3)), (12, ((.if_icmp .ge 42 : Instr), 3)), (15, ((.aload_n 0 : Instr), 1)), (16, ((.getfield 26 : Instr), 3)), (19, ((.iload_n 3 : Instr), 1)), (20, ((.invokevirtual 301 : Instr), 3)), (23, ((.ifCond .eq 25 : Instr), 3)), (26, ((.aload_n 0 : Instr), 1)), (27, ((.getfield 26 : Instr), 3))]),
  (55, [(30, ((.aload_n 0 : Instr), 1)), (31, ((.getfield 68 : Instr), 3)), (34, ((.iload_n 3 : Instr), 1)), (35, ((.iaload : Instr), 1)), (36, ((.invokevirtual 283 : Instr), 3)), (39, ((.ifCond .eq 9 : Instr), 3)), (42, ((.iload_n 2 : Instr), 1)), (43, ((.aload_n 1 : Instr), 1)), (44, ((.iload_n 3 : Instr), 1)), (45, ((.iaload : Instr), 1)), (46, ((.iadd : Instr), 1)), (47, ((.istore_n 2 : Instr), 1)), (48, ((.iinc 3 1 : Instr), 3)), (51, ((.goto (-47) : Instr), 3)), (54, ((.iload_n 2 : Instr), 1)), (55, ((.ireturn : Instr), 1))])]
/-- ChaffInTheWind.cornOut([I)I -/
def z_meth_117 : z_Mr := (⟨"ChaffInTheWind", "cornOut", "([I)I"⟩, prog_1_method_41_code, (4, 2, 0, 0), some .int, none, 0, 0, z_code_117, (1, 822, 1, 821, 100068))
def z_code_118 : z_bm (Instr × Nat) := [(27, [(0, ((.iload_n 1 : Instr), 1)), (1, ((.invokestatic 180 : Instr), 3)), (4, ((.ifCond .eq 10 : Instr), 3)), (7, ((.iload_n 2 : Instr), 1)), (8, ((.invokestatic 207 : Instr), 3)), (11, ((.ifCond .ne 5 : Instr), 3)), (14, ((.iconst (-1) : Instr), 1)), (15, ((.ireturn : Instr), 1)), (16, ((.aload_n 0 : Instr), 1)), (17, ((.getfield 33 : Instr), 3)), (20, ((.getfield 134 : Instr), 3)), (23, ((.iload_n 1 : Instr), 1)), (24, ((.aaload : Instr), 1)), (25, ((.astore_n 3 : Instr), 1)), (26, ((.iconst (-1) : Instr), 1)), (27, ((.istore 4 : Instr), 2))]),
  (56, [(29, ((.iconst 0 : Instr), 1)), (30, ((.istore 5 : Instr), 2)), (32, ((.iconst 0 : Instr), 1)), (33, ((.istore 6 : Instr), 2)), (35, ((.bipush (-40) : Instr), 2)), (37, ((.istore 7 : Instr), 2)), (39, ((.iload 7 : Instr), 2)), (41, ((.bipush 40 : Instr), 2)), (43, ((.if_icmp .gt 85 : Instr), 3)), (46, ((.aload_n 0 : Instr), 1)), (47, ((.iload_n 2 : Instr), 1)), (48, ((.iload 7 : Instr), 2)), (50, ((.invokevirtual 316 : Instr), 3)), (53, ((.iconst 0 : Instr), 1)), (54, ((.istore 8 : Instr), 2)), (56, ((.iload 8 : Instr), 2))]),
  (88, [(58, ((.bipush 20 : Instr), 2)), (60, ((.if_icmp .ge 62 : Instr), 3)), (63, ((.aload_n 0 : Instr), 1)), (64, ((.aload_n 3 : Instr), 1)), (65, ((.aload_n 0 : Instr), 1)), (66, ((.getfield 74 : Instr), 3)), (69, ((.iload 8 : Instr), 2)), (71, ((.aaload : Instr), 1)), (72, ((.invokevirtual 310 : Instr), 3)), (75, ((.istore 9 : Instr), 2)), (77, ((.iload 9 : Instr), 2)), (79, ((.iload 4 : Instr), 2)), (81, ((.if_icmp .gt 20 : Instr), 3)), (84, ((.iload 9 : Instr), 2)), (86, ((.iload 4 : Instr), 2)), (88, ((.if_icmp .ne 28 : Instr), 3))]),
  (128, [(91, ((.iload 8 : Instr), 2)), (93, ((.invokestatic 320 : Instr), 3)), (96, ((.iload 5 : Instr), 2)), (98, ((.if_icmp .ge 18 : Instr), 3)), (101, ((.iload 9 : Instr), 2)), (103, ((.istore 4 : Instr), 2)), (105, ((.iload 8 : Instr), 2)), (107, ((.invokestatic 320 : Instr), 3)), (110, ((.istore 5 : Instr), 2)), (112, ((.iload 7 : Instr), 2)), (114, ((.istore 6 : Instr), 2)), (116, ((.iinc 8 1 : Instr), 3)), (119, ((.goto (-63) : Instr), 3)), (122, ((.iinc 7 10 : Instr), 3)), (125, ((.goto (-86) : Instr), 3)), (128, ((.aload_n 0 : Instr), 1))]),
  (150, [(129, ((.getfield 19 : Instr), 3)), (132, ((.iload 5 : Instr), 2)), (134, ((.i2l : Instr), 1)), (135, ((.invokevirtual 222 : Instr), 3)), (138, ((.aload_n 0 : Instr), 1)), (139, ((.getfield 19 : Instr), 3)), (142, ((.iload 6 : Instr), 2)), (144, ((.i2l : Instr), 1)), (145, ((.invokevirtual 229 : Instr), 3)), (148, ((.iload 4 : Instr), 2)), (150, ((.ireturn : Instr), 1))])]
/-- ChaffInTheWind.aim(II)I -/
def z_meth_118 : z_Mr := (⟨"ChaffInTheWind", "aim", "(II)I"⟩, prog_1_method_28_code, (10, 3, 0, 0), some .int, none, 0, 0, z_code_118, (1, 826, 1, 824, 825))
def z_code_119 : z_bm (Instr × Nat) := [(26, [(0, ((.iconst 0 : Instr), 1)), (1, ((.istore_n 3 : Instr), 1)), (2, ((.iload_n 3 : Instr), 1)), (3, ((.aload_n 0 : Instr), 1)), (4, ((.getfield 26 : Instr), 3)), (7, ((.getfield 128 : Instr), 3)), (10, ((.if_icmp .ge 76 : Instr), 3)), (13, ((.aload_n 0 : Instr), 1)), (14, ((.getfield 26 : Instr), 3)), (17, ((.iload_n 3 : Instr), 1)), (18, ((.iload_n 1 : Instr), 1)), (19, ((.iload_n 2 : Instr), 1)), (20, ((.invokevirtual 333 : Instr), 3)), (23, ((.iconst 0 : Instr), 1)), (24, ((.istore 4 : Instr), 2)), (26, ((.iload 4 : Instr), 2))]),
  (60, [(28, ((.bipush 20 : Instr), 2)), (30, ((.if_icmp .ge 50 : Instr), 3)), (33, ((.aload_n 0 : Instr), 1)), (34, ((.getfield 26 : Instr), 3)), (37, ((.getfield 213 : Instr), 3)), (40, ((.iload 4 : Instr), 2)), (42, ((.invokestatic 320 : Instr), 3)), (45, ((.invokevirtual 337 : Instr), 3)), (48, ((.aload_n 0 : Instr), 1)), (49, ((.getfield 74 : Instr), 3)), (52, ((.iload 4 : Instr), 2)), (54, ((.aaload : Instr), 1)), (55, ((.iload_n 3 : Instr), 1)), (56, ((.aload_n 0 : Instr), 1)), (57, ((.getfield 26 : Instr), 3)), (60, ((.aload_n 0 : Instr), 1))]),
  (86, [(61, ((.getfield 26 : Instr), 3)), (64, ((.getfield 213 : Instr), 3)), (67, ((.getfield 226 : Instr), 3)), (70, ((.invokevirtual 340 : Instr), 3)), (73, ((.iastore : Instr), 1)), (74, ((.iinc 4 1 : Instr), 3)), (77, ((.goto (-51) : Instr), 3)), (80, ((.iinc 3 1 : Instr), 3)), (83, ((.goto (-81) : Instr), 3)), (86, ((.return_ : Instr), 1))])]
/-- ChaffInTheWind.landFromHeights(II)V -/
def z_meth_119 : z_Mr := (⟨"ChaffInTheWind", "landFromHeights", "(II)V"⟩, prog_1_method_37_code, (5, 3, 0, 0), none, none, 0, 0, z_code_119, (1, 830, 1, 829, 100069))
def z_code_120 : z_bm (Instr × Nat) := [(6, [(0, ((.bipush 20 : Instr), 2)), (2, ((.iload_n 0 : Instr), 1)), (3, ((.iconst 1 : Instr), 1)), (4, ((.iadd : Instr), 1)), (5, ((.imul : Instr), 1)), (6, ((.ireturn : Instr), 1))])]
/-- ChaffInTheWind.heightAt(I)I -/
def z_meth_120 : z_Mr := (⟨"ChaffInTheWind", "heightAt", "(I)I"⟩, prog_1_method_35_code, (1, 1, 0, 0), some .int, none, 0, 0, z_code_120, (0, 834, 1, 833, 0))
def z_code_121 : z_bm (Instr × Nat) := [(27, [(0, ((.iload_n 1 : Instr), 1)), (1, ((.invokestatic 180 : Instr), 3)), (4, ((.ifCond .eq 7 : Instr), 3)), (7, ((.iload_n 2 : Instr), 1)), (8, ((.ifCond .ge 5 : Instr), 3)), (11, ((.iconst (-1) : Instr), 1)), (12, ((.ireturn : Instr), 1)), (13, ((.aload_n 0 : Instr), 1)), (14, ((.getfield 33 : Instr), 3)), (17, ((.getfield 134 : Instr), 3)), (20, ((.iload_n 1 : Instr), 1)), (21, ((.aaload : Instr), 1)), (22, ((.astore_n 3 : Instr), 1)), (23, ((.bipush 30 : Instr), 2)), (25, ((.istore 4 : Instr), 2)), (27, ((.iload 4 : Instr), 2))]),
  (55, [(29, ((.ifCond .lt 42 : Instr), 3)), (32, ((.aload_n 0 : Instr), 1)), (33, ((.iconst 2 : Instr), 1)), (34, ((.iload 4 : Instr), 2)), (36, ((.imul : Instr), 1)), (37, ((.invokevirtual 307 : Instr), 3)), (40, ((.aload_n 0 : Instr), 1)), (41, ((.aload_n 3 : Instr), 1)), (42, ((.invokevirtual 313 : Instr), 3)), (45, ((.iload_n 2 : Instr), 1)), (46, ((.if_icmp .gt 19 : Instr), 3)), (49, ((.aload_n 0 : Instr), 1)), (50, ((.getfield 19 : Instr), 3)), (53, ((.aload_n 0 : Instr), 1)), (54, ((.aload_n 3 : Instr), 1)), (55, ((.invokevirtual 323 : Instr), 3))]),
  (73, [(58, ((.i2l : Instr), 1)), (59, ((.invokevirtual 222 : Instr), 3)), (62, ((.iload 4 : Instr), 2)), (64, ((.ireturn : Instr), 1)), (65, ((.iinc 4 (-1) : Instr), 3)), (68, ((.goto (-41) : Instr), 3)), (71, ((.bipush (-2) : Instr), 2)), (73, ((.ireturn : Instr), 1))])]
/-- ChaffInTheWind.fan(II)I -/
def z_meth_121 : z_Mr := (⟨"ChaffInTheWind", "fan", "(II)I"⟩, prog_1_method_29_code, (5, 3, 0, 0), some .int, none, 0, 0, z_code_121, (1, 840, 1, 838, 839))
def z_code_122 : z_bm (Instr × Nat) := [(25, [(0, ((.iconst 0 : Instr), 1)), (1, ((.istore_n 2 : Instr), 1)), (2, ((.iconst 0 : Instr), 1)), (3, ((.istore_n 3 : Instr), 1)), (4, ((.iload_n 3 : Instr), 1)), (5, ((.aload_n 0 : Instr), 1)), (6, ((.getfield 26 : Instr), 3)), (9, ((.getfield 128 : Instr), 3)), (12, ((.if_icmp .ge 58 : Instr), 3)), (15, ((.aload_n 0 : Instr), 1)), (16, ((.getfield 26 : Instr), 3)), (19, ((.getfield 168 : Instr), 3)), (22, ((.iload_n 3 : Instr), 1)), (23, ((.iaload : Instr), 1)), (24, ((.iconst 1 : Instr), 1)), (25, ((.if_icmp .ne 39 : Instr), 3))]),
  (55, [(28, ((.aload_n 0 : Instr), 1)), (29, ((.getfield 26 : Instr), 3)), (32, ((.aload_n 0 : Instr), 1)), (33, ((.getfield 68 : Instr), 3)), (36, ((.iload_n 3 : Instr), 1)), (37, ((.iaload : Instr), 1)), (38, ((.invokevirtual 283 : Instr), 3)), (41, ((.ifCond .ne 23 : Instr), 3)), (44, ((.aload_n 0 : Instr), 1)), (45, ((.aload_n 1 : Instr), 1)), (46, ((.aload_n 0 : Instr), 1)), (47, ((.getfield 68 : Instr), 3)), (50, ((.iload_n 3 : Instr), 1)), (51, ((.iaload : Instr), 1)), (52, ((.invokevirtual 347 : Instr), 3)), (55, ((.ifCond .eq 9 : Instr), 3))]),
  (71, [(58, ((.iload_n 2 : Instr), 1)), (59, ((.aload_n 1 : Instr), 1)), (60, ((.iload_n 3 : Instr), 1)), (61, ((.iaload : Instr), 1)), (62, ((.iadd : Instr), 1)), (63, ((.istore_n 2 : Instr), 1)), (64, ((.iinc 3 1 : Instr), 3)), (67, ((.goto (-63) : Instr), 3)), (70, ((.iload_n 2 : Instr), 1)), (71, ((.ireturn : Instr), 1))])]
/-- ChaffInTheWind.chaffWithCorn([I)I -/
def z_meth_122 : z_Mr := (⟨"ChaffInTheWind", "chaffWithCorn", "([I)I"⟩, prog_1_method_42_code, (4, 2, 0, 0), some .int, none, 0, 0, z_code_122, (1, 844, 1, 843, 100070))
def z_code_123 : z_bm (Instr × Nat) := [(27, [(0, ((.iconst 0 : Instr), 1)), (1, ((.istore_n 3 : Instr), 1)), (2, ((.iload_n 3 : Instr), 1)), (3, ((.aload_n 0 : Instr), 1)), (4, ((.getfield 26 : Instr), 3)), (7, ((.getfield 128 : Instr), 3)), (10, ((.if_icmp .ge 38 : Instr), 3)), (13, ((.aload_n 0 : Instr), 1)), (14, ((.getfield 26 : Instr), 3)), (17, ((.iload_n 3 : Instr), 1)), (18, ((.invokevirtual 301 : Instr), 3)), (21, ((.ifCond .eq 21 : Instr), 3)), (24, ((.aload_n 1 : Instr), 1)), (25, ((.iload_n 3 : Instr), 1)), (26, ((.iaload : Instr), 1)), (27, ((.ifCond .le 15 : Instr), 3))]),
  (49, [(30, ((.aload_n 0 : Instr), 1)), (31, ((.getfield 68 : Instr), 3)), (34, ((.iload_n 3 : Instr), 1)), (35, ((.iaload : Instr), 1)), (36, ((.iload_n 2 : Instr), 1)), (37, ((.if_icmp .ne 5 : Instr), 3)), (40, ((.iconst 1 : Instr), 1)), (41, ((.ireturn : Instr), 1)), (42, ((.iinc 3 1 : Instr), 3)), (45, ((.goto (-43) : Instr), 3)), (48, ((.iconst 0 : Instr), 1)), (49, ((.ireturn : Instr), 1))])]
/-- ChaffInTheWind.cornLandsIn([II)Z -/
def z_meth_123 : z_Mr := (⟨"ChaffInTheWind", "cornLandsIn", "([II)Z"⟩, prog_1_method_43_code, (4, 3, 0, 0), some .boolean, none, 0, 0, z_code_123, (1, 848, 1, 847, 100071))
def z_code_124 : z_bm (Instr × Nat) := [(25, [(0, ((.aload_n 0 : Instr), 1)), (1, ((.iload_n 1 : Instr), 1)), (2, ((.invokevirtual 162 : Instr), 3)), (5, ((.ifCond .eq 11 : Instr), 3)), (8, ((.aload_n 0 : Instr), 1)), (9, ((.iload_n 2 : Instr), 1)), (10, ((.invokevirtual 162 : Instr), 3)), (13, ((.ifCond .ne 5 : Instr), 3)), (16, ((.iconst (-1) : Instr), 1)), (17, ((.ireturn : Instr), 1)), (18, ((.iconst 0 : Instr), 1)), (19, ((.istore_n 3 : Instr), 1)), (20, ((.iconst 0 : Instr), 1)), (21, ((.istore 4 : Instr), 2)), (23, ((.iload 4 : Instr), 2)), (25, ((.aload_n 0 : Instr), 1))]),
  (60, [(26, ((.getfield 44 : Instr), 3)), (29, ((.getfield 326 : Instr), 3)), (32, ((.if_icmp .ge 50 : Instr), 3)), (35, ((.aload_n 0 : Instr), 1)), (36, ((.getfield 44 : Instr), 3)), (39, ((.iload 4 : Instr), 2)), (41, ((.invokevirtual 246 : Instr), 3)), (44, ((.istore 5 : Instr), 2)), (46, ((.aload_n 0 : Instr), 1)), (47, ((.getfield 26 : Instr), 3)), (50, ((.iload_n 1 : Instr), 1)), (51, ((.iload 5 : Instr), 2)), (53, ((.invokevirtual 280 : Instr), 3)), (56, ((.aload_n 0 : Instr), 1)), (57, ((.getfield 26 : Instr), 3)), (60, ((.iload_n 2 : Instr), 1))]),
  (83, [(61, ((.iload 5 : Instr), 2)), (63, ((.invokevirtual 280 : Instr), 3)), (66, ((.if_icmp .eq 10 : Instr), 3)), (69, ((.iload_n 3 : Instr), 1)), (70, ((.iconst 1 : Instr), 1)), (71, ((.iload 4 : Instr), 2)), (73, ((.ishl : Instr), 1)), (74, ((.ior : Instr), 1)), (75, ((.istore_n 3 : Instr), 1)), (76, ((.iinc 4 1 : Instr), 3)), (79, ((.goto (-56) : Instr), 3)), (82, ((.iload_n 3 : Instr), 1)), (83, ((.ireturn : Instr), 1))])]
/-- ChaffInTheWind.serves(II)I -/
def z_meth_124 : z_Mr := (⟨"ChaffInTheWind", "serves", "(II)I"⟩, prog_1_method_30_code, (6, 3, 0, 0), some .int, none, 0, 0, z_code_124, (1, 852, 1, 850, 851))
def z_code_125 : z_bm (Instr × Nat) := [(30, [(0, ((.aload_n 0 : Instr), 1)), (1, ((.iload_n 1 : Instr), 1)), (2, ((.invokevirtual 162 : Instr), 3)), (5, ((.ifCond .eq 28 : Instr), 3)), (8, ((.iload_n 2 : Instr), 1)), (9, ((.ifCond .lt 24 : Instr), 3)), (12, ((.iload_n 2 : Instr), 1)), (13, ((.aload_n 0 : Instr), 1)), (14, ((.getfield 44 : Instr), 3)), (17, ((.getfield 326 : Instr), 3)), (20, ((.if_icmp .ge 13 : Instr), 3)), (23, ((.aload_n 0 : Instr), 1)), (24, ((.iload_n 3 : Instr), 1)), (25, ((.iload 4 : Instr), 2)), (27, ((.invokevirtual 249 : Instr), 3)), (30, ((.ifCond .ne 5 : Instr), 3))]),
  (60, [(33, ((.iconst (-1) : Instr), 1)), (34, ((.ireturn : Instr), 1)), (35, ((.aload_n 0 : Instr), 1)), (36, ((.getfield 44 : Instr), 3)), (39, ((.iload_n 2 : Instr), 1)), (40, ((.invokevirtual 286 : Instr), 3)), (43, ((.istore 5 : Instr), 2)), (45, ((.iconst 0 : Instr), 1)), (46, ((.istore 6 : Instr), 2)), (48, ((.iload 5 : Instr), 2)), (50, ((.ineg : Instr), 1)), (51, ((.istore 7 : Instr), 2)), (53, ((.iload 7 : Instr), 2)), (55, ((.iload 5 : Instr), 2)), (57, ((.if_icmp .gt 53 : Instr), 3)), (60, ((.aload_n 0 : Instr), 1))]),
  (91, [(61, ((.getfield 26 : Instr), 3)), (64, ((.iload_n 1 : Instr), 1)), (65, ((.aload_n 0 : Instr), 1)), (66, ((.getfield 44 : Instr), 3)), (69, ((.iload_n 2 : Instr), 1)), (70, ((.invokevirtual 246 : Instr), 3)), (73, ((.iload 7 : Instr), 2)), (75, ((.iadd : Instr), 1)), (76, ((.bipush (-60) : Instr), 2)), (78, ((.bipush 60 : Instr), 2)), (80, ((.invokestatic 203 : Instr), 3)), (83, ((.invokevirtual 280 : Instr), 3)), (86, ((.istore 8 : Instr), 2)), (88, ((.iload 8 : Instr), 2)), (90, ((.iload_n 3 : Instr), 1)), (91, ((.if_icmp .lt 13 : Instr), 3))]),
  (125, [(94, ((.iload 8 : Instr), 2)), (96, ((.iload 4 : Instr), 2)), (98, ((.if_icmp .gt 6 : Instr), 3)), (101, ((.iinc 6 1 : Instr), 3)), (104, ((.iinc 7 1 : Instr), 3)), (107, ((.goto (-54) : Instr), 3)), (110, ((.aload_n 0 : Instr), 1)), (111, ((.getfield 19 : Instr), 3)), (114, ((.invokevirtual 300 : Instr), 3)), (117, ((.aload_n 0 : Instr), 1)), (118, ((.iload 6 : Instr), 2)), (120, ((.i2l : Instr), 1)), (121, ((.iconst 2 : Instr), 1)), (122, ((.iload 5 : Instr), 2)), (124, ((.imul : Instr), 1)), (125, ((.iconst 1 : Instr), 1))]),
  (132, [(126, ((.iadd : Instr), 1)), (127, ((.i2l : Instr), 1)), (128, ((.invokevirtual 329 : Instr), 3)), (131, ((.iconst 0 : Instr), 1)), (132, ((.ireturn : Instr), 1))])]
/-- ChaffInTheWind.odds(IIII)I -/
def z_meth_125 : z_Mr := (⟨"ChaffInTheWind", "odds", "(IIII)I"⟩, prog_1_method_31_code, (9, 5, 0, 0), some .int, none, 0, 0, z_code_125, (1, 856, 1, 854, 855))
def z_code_126 : z_bm (Instr × Nat) := [(25, [(0, ((.lload_n 1 : Instr), 1)), (1, ((.lconst 0 : Instr), 1)), (2, ((.lcmp : Instr), 1)), (3, ((.ifCond .ne 7 : Instr), 3)), (6, ((.lload_n 3 : Instr), 1)), (7, ((.goto 8 : Instr), 3)), (10, ((.lload_n 1 : Instr), 1)), (11, ((.lload_n 3 : Instr), 1)), (12, ((.invokestatic 514 : Instr), 3)), (15, ((.lstore 5 : Instr), 2)), (17, ((.aload_n 0 : Instr), 1)), (18, ((.getfield 19 : Instr), 3)), (21, ((.lload 5 : Instr), 2)), (23, ((.lconst 0 : Instr), 1)), (24, ((.lcmp : Instr), 1)), (25, ((.ifCond .ne 7 : Instr), 3))]),
  (55, [(28, ((.lconst 0 : Instr), 1)), (29, ((.goto 7 : Instr), 3)), (32, ((.lload_n 1 : Instr), 1)), (33, ((.lload 5 : Instr), 2)), (35, ((.ldiv : Instr), 1)), (36, ((.invokevirtual 229 : Instr), 3)), (39, ((.aload_n 0 : Instr), 1)), (40, ((.getfield 19 : Instr), 3)), (43, ((.lload 5 : Instr), 2)), (45, ((.lconst 0 : Instr), 1)), (46, ((.lcmp : Instr), 1)), (47, ((.ifCond .ne 7 : Instr), 3)), (50, ((.lconst 1 : Instr), 1)), (51, ((.goto 7 : Instr), 3)), (54, ((.lload_n 3 : Instr), 1)), (55, ((.lload 5 : Instr), 2))]),
  (61, [(57, ((.ldiv : Instr), 1)), (58, ((.invokevirtual 229 : Instr), 3)), (61, ((.return_ : Instr), 1))])]
/-- ChaffInTheWind.tellFraction(JJ)V -/
def z_meth_126 : z_Mr := (⟨"ChaffInTheWind", "tellFraction", "(JJ)V"⟩, prog_1_method_99_code, (7, 3, 0, 0), none, none, 0, 0, z_code_126, (1, 860, 1, 859, 100072))
def z_code_127 : z_bm (Instr × Nat) := [(27, [(0, ((.lload_n 0 : Instr), 1)), (1, ((.lstore 4 : Instr), 2)), (3, ((.lload_n 2 : Instr), 1)), (4, ((.lstore 6 : Instr), 2)), (6, ((.iconst 0 : Instr), 1)), (7, ((.istore 8 : Instr), 2)), (9, ((.iload 8 : Instr), 2)), (11, ((.bipush 100 : Instr), 2)), (13, ((.if_icmp .ge 31 : Instr), 3)), (16, ((.lload 6 : Instr), 2)), (18, ((.lconst 0 : Instr), 1)), (19, ((.lcmp : Instr), 1)), (20, ((.ifCond .eq 24 : Instr), 3)), (23, ((.lload 4 : Instr), 2)), (25, ((.lload 6 : Instr), 2)), (27, ((.lrem : Instr), 1))]),
  (46, [(28, ((.lstore 9 : Instr), 2)), (30, ((.lload 6 : Instr), 2)), (32, ((.lstore 4 : Instr), 2)), (34, ((.lload 9 : Instr), 2)), (36, ((.lstore 6 : Instr), 2)), (38, ((.iinc 8 1 : Instr), 3)), (41, ((.goto (-32) : Instr), 3)), (44, ((.lload 4 : Instr), 2)), (46, ((.lreturn : Instr), 1))])]
/-- ChaffInTheWind.commonPart(JJ)J -/
def z_meth_127 : z_Mr := (⟨"ChaffInTheWind", "commonPart", "(JJ)J"⟩, prog_1_method_100_code, (11, 2, 0, 0), some .long, none, 0, 0, z_code_127, (0, 863, 1, 862, 0))
def z_code_128 : z_bm (Instr × Nat) := [(25, [(0, ((.aload_n 0 : Instr), 1)), (1, ((.iload_n 1 : Instr), 1)), (2, ((.invokevirtual 162 : Instr), 3)), (5, ((.ifCond .ne 5 : Instr), 3)), (8, ((.iconst (-1) : Instr), 1)), (9, ((.ireturn : Instr), 1)), (10, ((.iconst 0 : Instr), 1)), (11, ((.istore_n 2 : Instr), 1)), (12, ((.iconst 0 : Instr), 1)), (13, ((.istore_n 3 : Instr), 1)), (14, ((.iload_n 3 : Instr), 1)), (15, ((.aload_n 0 : Instr), 1)), (16, ((.getfield 26 : Instr), 3)), (19, ((.getfield 128 : Instr), 3)), (22, ((.if_icmp .ge 29 : Instr), 3)), (25, ((.iload_n 3 : Instr), 1))]),
  (51, [(26, ((.iload_n 1 : Instr), 1)), (27, ((.if_icmp .eq 18 : Instr), 3)), (30, ((.aload_n 0 : Instr), 1)), (31, ((.iload_n 1 : Instr), 1)), (32, ((.iload_n 3 : Instr), 1)), (33, ((.invokevirtual 304 : Instr), 3)), (36, ((.ifCond .eq 9 : Instr), 3)), (39, ((.iload_n 2 : Instr), 1)), (40, ((.iconst 1 : Instr), 1)), (41, ((.iload_n 3 : Instr), 1)), (42, ((.ishl : Instr), 1)), (43, ((.ior : Instr), 1)), (44, ((.istore_n 2 : Instr), 1)), (45, ((.iinc 3 1 : Instr), 3)), (48, ((.goto (-34) : Instr), 3)), (51, ((.iload_n 2 : Instr), 1))]),
  (52, [(52, ((.ireturn : Instr), 1))])]
/-- ChaffInTheWind.kin(I)I -/
def z_meth_128 : z_Mr := (⟨"ChaffInTheWind", "kin", "(I)I"⟩, prog_1_method_32_code, (4, 2, 0, 0), some .int, none, 0, 0, z_code_128, (1, 867, 1, 865, 866))
def z_code_129 : z_bm (Instr × Nat) := [(24, [(0, ((.aload_n 0 : Instr), 1)), (1, ((.iload_n 1 : Instr), 1)), (2, ((.invokevirtual 162 : Instr), 3)), (5, ((.ifCond .eq 11 : Instr), 3)), (8, ((.aload_n 0 : Instr), 1)), (9, ((.iload_n 2 : Instr), 1)), (10, ((.invokevirtual 183 : Instr), 3)), (13, ((.ifCond .ne 5 : Instr), 3)), (16, ((.iconst (-1) : Instr), 1)), (17, ((.ireturn : Instr), 1)), (18, ((.iconst 0 : Instr), 1)), (19, ((.istore_n 3 : Instr), 1)), (20, ((.iconst 0 : Instr), 1)), (21, ((.istore 4 : Instr), 2)), (23, ((.iconst 0 : Instr), 1)), (24, ((.istore 5 : Instr), 2))]),
  (59, [(26, ((.iload 5 : Instr), 2)), (28, ((.bipush 121 : Instr), 2)), (30, ((.if_icmp .ge 45 : Instr), 3)), (33, ((.aload_n 0 : Instr), 1)), (34, ((.getfield 26 : Instr), 3)), (37, ((.iload_n 1 : Instr), 1)), (38, ((.iload 5 : Instr), 2)), (40, ((.invokestatic 292 : Instr), 3)), (43, ((.invokevirtual 280 : Instr), 3)), (46, ((.iload_n 2 : Instr), 1)), (47, ((.if_icmp .ne 22 : Instr), 3)), (50, ((.iload_n 3 : Instr), 1)), (51, ((.ifCond .ne 11 : Instr), 3)), (54, ((.iload 5 : Instr), 2)), (56, ((.invokestatic 292 : Instr), 3)), (59, ((.goto 5 : Instr), 3))]),
  (93, [(62, ((.iload 4 : Instr), 2)), (64, ((.istore 4 : Instr), 2)), (66, ((.iinc 3 1 : Instr), 3)), (69, ((.iinc 5 1 : Instr), 3)), (72, ((.goto (-46) : Instr), 3)), (75, ((.iload_n 3 : Instr), 1)), (76, ((.ifCond .ne 6 : Instr), 3)), (79, ((.bipush (-99) : Instr), 2)), (81, ((.ireturn : Instr), 1)), (82, ((.aload_n 0 : Instr), 1)), (83, ((.getfield 19 : Instr), 3)), (86, ((.iload_n 3 : Instr), 1)), (87, ((.i2l : Instr), 1)), (88, ((.invokevirtual 222 : Instr), 3)), (91, ((.iload 4 : Instr), 2)), (93, ((.ireturn : Instr), 1))])]
/-- ChaffInTheWind.sends(II)I -/
def z_meth_129 : z_Mr := (⟨"ChaffInTheWind", "sends", "(II)I"⟩, prog_1_method_33_code, (6, 3, 0, 0), some .int, none, 0, 0, z_code_129, (1, 871, 1, 869, 870))
def z_code_130 : z_bm (Instr × Nat) := [(29, [(0, ((.iload_n 1 : Instr), 1)), (1, ((.invokestatic 180 : Instr), 3)), (4, ((.ifCond .ne 5 : Instr), 3)), (7, ((.iconst (-1) : Instr), 1)), (8, ((.ireturn : Instr), 1)), (9, ((.aload_n 0 : Instr), 1)), (10, ((.getfield 54 : Instr), 3)), (13, ((.aload_n 0 : Instr), 1)), (14, ((.getfield 26 : Instr), 3)), (17, ((.aload_n 0 : Instr), 1)), (18, ((.getfield 33 : Instr), 3)), (21, ((.getfield 134 : Instr), 3)), (24, ((.iload_n 1 : Instr), 1)), (25, ((.aaload : Instr), 1)), (26, ((.invokevirtual 361 : Instr), 3)), (29, ((.istore_n 2 : Instr), 1))]),
  (61, [(30, ((.aload_n 0 : Instr), 1)), (31, ((.getfield 19 : Instr), 3)), (34, ((.aload_n 0 : Instr), 1)), (35, ((.getfield 54 : Instr), 3)), (38, ((.getfield 365 : Instr), 3)), (41, ((.i2l : Instr), 1)), (42, ((.invokevirtual 222 : Instr), 3)), (45, ((.aload_n 0 : Instr), 1)), (46, ((.getfield 19 : Instr), 3)), (49, ((.aload_n 0 : Instr), 1)), (50, ((.getfield 33 : Instr), 3)), (53, ((.getfield 134 : Instr), 3)), (56, ((.iload_n 1 : Instr), 1)), (57, ((.aaload : Instr), 1)), (58, ((.invokestatic 199 : Instr), 3)), (61, ((.i2l : Instr), 1))]),
  (66, [(62, ((.invokevirtual 229 : Instr), 3)), (65, ((.iload_n 2 : Instr), 1)), (66, ((.ireturn : Instr), 1))])]
/-- ChaffInTheWind.worth(I)I -/
def z_meth_130 : z_Mr := (⟨"ChaffInTheWind", "worth", "(I)I"⟩, prog_1_method_45_code, (3, 2, 0, 0), some .int, none, 0, 0, z_code_130, (1, 875, 1, 873, 874))
def z_code_131 : z_bm (Instr × Nat) := [(23, [(0, ((.aload_n 0 : Instr), 1)), (1, ((.aload_n 1 : Instr), 1)), (2, ((.aload_n 2 : Instr), 1)), (3, ((.invokevirtual 75 : Instr), 3)), (6, ((.aload_n 0 : Instr), 1)), (7, ((.iconst (-1) : Instr), 1)), (8, ((.putfield 26 : Instr), 3)), (11, ((.iconst 0 : Instr), 1)), (12, ((.istore_n 3 : Instr), 1)), (13, ((.iconst 0 : Instr), 1)), (14, ((.istore 4 : Instr), 2)), (16, ((.iload 4 : Instr), 2)), (18, ((.iconst 3 : Instr), 1)), (19, ((.if_icmp .ge 67 : Instr), 3)), (22, ((.aload_n 0 : Instr), 1)), (23, ((.getfield 22 : Instr), 3))]),
  (57, [(26, ((.iconst 5 : Instr), 1)), (27, ((.iaload : Instr), 1)), (28, ((.ifCond .le 58 : Instr), 3)), (31, ((.aload_n 0 : Instr), 1)), (32, ((.iload 4 : Instr), 2)), (34, ((.invokevirtual 41 : Instr), 3)), (37, ((.ifCond .eq 12 : Instr), 3)), (40, ((.aload_n 0 : Instr), 1)), (41, ((.iload 4 : Instr), 2)), (43, ((.invokevirtual 79 : Instr), 3)), (46, ((.goto 4 : Instr), 3)), (49, ((.iconst (-1) : Instr), 1)), (50, ((.istore 5 : Instr), 2)), (52, ((.iload 5 : Instr), 2)), (54, ((.ifCond .lt 26 : Instr), 3)), (57, ((.aload_n 0 : Instr), 1))]),
  (87, [(58, ((.getfield 26 : Instr), 3)), (61, ((.iconst (-1) : Instr), 1)), (62, ((.if_icmp .eq 9 : Instr), 3)), (65, ((.iload 5 : Instr), 2)), (67, ((.iload_n 3 : Instr), 1)), (68, ((.if_icmp .le 12 : Instr), 3)), (71, ((.iload 5 : Instr), 2)), (73, ((.istore_n 3 : Instr), 1)), (74, ((.aload_n 0 : Instr), 1)), (75, ((.iload 4 : Instr), 2)), (77, ((.putfield 26 : Instr), 3)), (80, ((.iinc 4 1 : Instr), 3)), (83, ((.goto (-67) : Instr), 3)), (86, ((.iload_n 3 : Instr), 1)), (87, ((.ireturn : Instr), 1))])]
/-- ChaffInTheWind$Market.worthOf(LChaffInTheWind$Barn;[I)I -/
def z_meth_131 : z_Mr := (⟨"ChaffInTheWind$Market", "worthOf", "(LChaffInTheWind$Barn;[I)I"⟩, prog_6_method_8_code, (6, 3, 0, 0), some .int, none, 7, 7, z_code_131, (1, 879, 8, 878, 100073))
def z_code_132 : z_bm (Instr × Nat) := [(25, [(0, ((.aload_n 0 : Instr), 1)), (1, ((.getfield 22 : Instr), 3)), (4, ((.iconst 0 : Instr), 1)), (5, ((.invokestatic 45 : Instr), 3)), (8, ((.iconst 0 : Instr), 1)), (9, ((.istore_n 3 : Instr), 1)), (10, ((.iload_n 3 : Instr), 1)), (11, ((.aload_n 1 : Instr), 1)), (12, ((.getfield 51 : Instr), 3)), (15, ((.if_icmp .ge 87 : Instr), 3)), (18, ((.aload_n 2 : Instr), 1)), (19, ((.iload_n 3 : Instr), 1)), (20, ((.iaload : Instr), 1)), (21, ((.aload_n 1 : Instr), 1)), (22, ((.getfield 56 : Instr), 3)), (25, ((.iload_n 3 : Instr), 1))]),
  (47, [(26, ((.iaload : Instr), 1)), (27, ((.imul : Instr), 1)), (28, ((.istore 4 : Instr), 2)), (30, ((.aload_n 0 : Instr), 1)), (31, ((.getfield 22 : Instr), 3)), (34, ((.iconst 0 : Instr), 1)), (35, ((.dup2 : Instr), 1)), (36, ((.iaload : Instr), 1)), (37, ((.iload 4 : Instr), 2)), (39, ((.iadd : Instr), 1)), (40, ((.iastore : Instr), 1)), (41, ((.aload_n 0 : Instr), 1)), (42, ((.getfield 22 : Instr), 3)), (45, ((.iconst 1 : Instr), 1)), (46, ((.aload_n 1 : Instr), 1)), (47, ((.getfield 59 : Instr), 3))]),
  (68, [(50, ((.iload_n 3 : Instr), 1)), (51, ((.iaload : Instr), 1)), (52, ((.iadd : Instr), 1)), (53, ((.dup2 : Instr), 1)), (54, ((.iaload : Instr), 1)), (55, ((.iload 4 : Instr), 2)), (57, ((.iadd : Instr), 1)), (58, ((.iastore : Instr), 1)), (59, ((.aload_n 0 : Instr), 1)), (60, ((.getfield 22 : Instr), 3)), (63, ((.iconst 5 : Instr), 1)), (64, ((.dup2 : Instr), 1)), (65, ((.iaload : Instr), 1)), (66, ((.aload_n 2 : Instr), 1)), (67, ((.iload_n 3 : Instr), 1)), (68, ((.iaload : Instr), 1))]),
  (93, [(69, ((.iadd : Instr), 1)), (70, ((.iastore : Instr), 1)), (71, ((.aload_n 1 : Instr), 1)), (72, ((.iload_n 3 : Instr), 1)), (73, ((.invokevirtual 62 : Instr), 3)), (76, ((.ifCond .eq 20 : Instr), 3)), (79, ((.aload_n 2 : Instr), 1)), (80, ((.iload_n 3 : Instr), 1)), (81, ((.iaload : Instr), 1)), (82, ((.ifCond .le 14 : Instr), 3)), (85, ((.aload_n 0 : Instr), 1)), (86, ((.getfield 22 : Instr), 3)), (89, ((.bipush 6 : Instr), 2)), (91, ((.dup2 : Instr), 1)), (92, ((.iaload : Instr), 1)), (93, ((.iconst 1 : Instr), 1))]),
  (122, [(94, ((.iadd : Instr), 1)), (95, ((.iastore : Instr), 1)), (96, ((.iinc 3 1 : Instr), 3)), (99, ((.goto (-89) : Instr), 3)), (102, ((.aload_n 0 : Instr), 1)), (103, ((.getfield 22 : Instr), 3)), (106, ((.bipush 7 : Instr), 2)), (108, ((.aload_n 0 : Instr), 1)), (109, ((.getfield 22 : Instr), 3)), (112, ((.iconst 0 : Instr), 1)), (113, ((.iaload : Instr), 1)), (114, ((.ifCond .ne 7 : Instr), 3)), (117, ((.iconst 0 : Instr), 1)), (118, ((.goto 19 : Instr), 3)), (121, ((.aload_n 0 : Instr), 1)), (122, ((.getfield 22 : Instr), 3))]),
  (138, [(125, ((.iconst 1 : Instr), 1)), (126, ((.iaload : Instr), 1)), (127, ((.bipush 100 : Instr), 2)), (129, ((.imul : Instr), 1)), (130, ((.aload_n 0 : Instr), 1)), (131, ((.getfield 22 : Instr), 3)), (134, ((.iconst 0 : Instr), 1)), (135, ((.iaload : Instr), 1)), (136, ((.idiv : Instr), 1)), (137, ((.iastore : Instr), 1)), (138, ((.return_ : Instr), 1))])]
/-- ChaffInTheWind$Market.weigh(LChaffInTheWind$Barn;[I)V -/
def z_meth_132 : z_Mr := (⟨"ChaffInTheWind$Market", "weigh", "(LChaffInTheWind$Barn;[I)V"⟩, prog_6_method_6_code, (5, 3, 0, 0), none, none, 7, 7, z_code_132, (1, 883, 8, 882, 100074))
def z_code_133 : z_bm (Instr × Nat) := [(20, [(0, ((.aload_n 0 : Instr), 1)), (1, ((.getfield 12 : Instr), 3)), (4, ((.iload_n 1 : Instr), 1)), (5, ((.aaload : Instr), 1)), (6, ((.aload_n 0 : Instr), 1)), (7, ((.getfield 22 : Instr), 3)), (10, ((.invokevirtual 65 : Instr), 3)), (13, ((.ldc 69 : Instr), 2)), (15, ((.ldc 70 : Instr), 2)), (17, ((.invokestatic 71 : Instr), 3)), (20, ((.ireturn : Instr), 1))])]
/-- ChaffInTheWind$Market.valueOf(I)I -/
def z_meth_133 : z_Mr := (⟨"ChaffInTheWind$Market", "valueOf", "(I)I"⟩, prog_6_method_7_code, (2, 2, 0, 0), some .int, none, 7, 7, z_code_133, (1, 889, 8, 888, 100075))
def z_code_134 : z_bm (Instr × Nat) := [(25, [(0, ((.iload_n 1 : Instr), 1)), (1, ((.iconst 1 : Instr), 1)), (2, ((.if_icmp .lt 8 : Instr), 3)), (5, ((.iload_n 1 : Instr), 1)), (6, ((.iconst 4 : Instr), 1)), (7, ((.if_icmp .le 5 : Instr), 3)), (10, ((.iconst (-1) : Instr), 1)), (11, ((.ireturn : Instr), 1)), (12, ((.iload_n 1 : Instr), 1)), (13, ((.aload_n 0 : Instr), 1)), (14, ((.getfield 26 : Instr), 3)), (17, ((.getfield 368 : Instr), 3)), (20, ((.invokestatic 370 : Instr), 3)), (23, ((.istore_n 2 : Instr), 1)), (24, ((.aload_n 0 : Instr), 1)), (25, ((.invokevirtual 373 : Instr), 3))]),
  (52, [(28, ((.aload_n 0 : Instr), 1)), (29, ((.iload_n 2 : Instr), 1)), (30, ((.invokevirtual 376 : Instr), 3)), (33, ((.iconst 1 : Instr), 1)), (34, ((.istore_n 3 : Instr), 1)), (35, ((.iconst 2 : Instr), 1)), (36, ((.istore 4 : Instr), 2)), (38, ((.iload 4 : Instr), 2)), (40, ((.iload_n 2 : Instr), 1)), (41, ((.if_icmp .gt 32 : Instr), 3)), (44, ((.aload_n 0 : Instr), 1)), (45, ((.getfield 86 : Instr), 3)), (48, ((.iload 4 : Instr), 2)), (50, ((.aaload : Instr), 1)), (51, ((.iconst 0 : Instr), 1)), (52, ((.iaload : Instr), 1))]),
  (79, [(53, ((.aload_n 0 : Instr), 1)), (54, ((.getfield 86 : Instr), 3)), (57, ((.iload_n 3 : Instr), 1)), (58, ((.aaload : Instr), 1)), (59, ((.iconst 0 : Instr), 1)), (60, ((.iaload : Instr), 1)), (61, ((.if_icmp .le 6 : Instr), 3)), (64, ((.iload 4 : Instr), 2)), (66, ((.istore_n 3 : Instr), 1)), (67, ((.iinc 4 1 : Instr), 3)), (70, ((.goto (-32) : Instr), 3)), (73, ((.aload_n 0 : Instr), 1)), (74, ((.getfield 19 : Instr), 3)), (77, ((.iload_n 3 : Instr), 1)), (78, ((.i2l : Instr), 1)), (79, ((.invokevirtual 222 : Instr), 3))]),
  (110, [(82, ((.iconst 0 : Instr), 1)), (83, ((.istore 4 : Instr), 2)), (85, ((.iload_n 3 : Instr), 1)), (86, ((.istore 5 : Instr), 2)), (88, ((.iload 5 : Instr), 2)), (90, ((.iconst 1 : Instr), 1)), (91, ((.if_icmp .le 29 : Instr), 3)), (94, ((.aload_n 0 : Instr), 1)), (95, ((.iload 5 : Instr), 2)), (97, ((.iload 4 : Instr), 2)), (99, ((.invokevirtual 379 : Instr), 3)), (102, ((.istore 4 : Instr), 2)), (104, ((.aload_n 0 : Instr), 1)), (105, ((.getfield 19 : Instr), 3)), (108, ((.iload 4 : Instr), 2)), (110, ((.i2l : Instr), 1))]),
  (128, [(111, ((.invokevirtual 229 : Instr), 3)), (114, ((.iinc 5 (-1) : Instr), 3)), (117, ((.goto (-29) : Instr), 3)), (120, ((.aload_n 0 : Instr), 1)), (121, ((.getfield 86 : Instr), 3)), (124, ((.iload_n 3 : Instr), 1)), (125, ((.aaload : Instr), 1)), (126, ((.iconst 0 : Instr), 1)), (127, ((.iaload : Instr), 1)), (128, ((.ireturn : Instr), 1))])]
/-- ChaffInTheWind.marks(I)I -/
def z_meth_134 : z_Mr := (⟨"ChaffInTheWind", "marks", "(I)I"⟩, prog_1_method_46_code, (6, 2, 0, 0), some .int, none, 0, 0, z_code_134, (1, 896, 1, 894, 895))
def z_code_135 : z_bm (Instr × Nat) := [(25, [(0, ((.iconst 0 : Instr), 1)), (1, ((.istore_n 1 : Instr), 1)), (2, ((.iload_n 1 : Instr), 1)), (3, ((.aload_n 0 : Instr), 1)), (4, ((.getfield 26 : Instr), 3)), (7, ((.getfield 368 : Instr), 3)), (10, ((.if_icmp .ge 98 : Instr), 3)), (13, ((.aload_n 0 : Instr), 1)), (14, ((.getfield 77 : Instr), 3)), (17, ((.iconst 0 : Instr), 1)), (18, ((.invokestatic 190 : Instr), 3)), (21, ((.iload_n 1 : Instr), 1)), (22, ((.istore_n 2 : Instr), 1)), (23, ((.iload_n 2 : Instr), 1)), (24, ((.aload_n 0 : Instr), 1)), (25, ((.getfield 26 : Instr), 3))]),
  (55, [(28, ((.getfield 368 : Instr), 3)), (31, ((.if_icmp .ge 71 : Instr), 3)), (34, ((.iconst 0 : Instr), 1)), (35, ((.istore_n 3 : Instr), 1)), (36, ((.iload_n 3 : Instr), 1)), (37, ((.aload_n 0 : Instr), 1)), (38, ((.getfield 26 : Instr), 3)), (41, ((.getfield 128 : Instr), 3)), (44, ((.if_icmp .ge 29 : Instr), 3)), (47, ((.aload_n 0 : Instr), 1)), (48, ((.getfield 77 : Instr), 3)), (51, ((.iload_n 3 : Instr), 1)), (52, ((.dup2 : Instr), 1)), (53, ((.iaload : Instr), 1)), (54, ((.aload_n 0 : Instr), 1)), (55, ((.getfield 33 : Instr), 3))]),
  (81, [(58, ((.getfield 253 : Instr), 3)), (61, ((.iload_n 2 : Instr), 1)), (62, ((.aaload : Instr), 1)), (63, ((.iload_n 3 : Instr), 1)), (64, ((.iaload : Instr), 1)), (65, ((.iadd : Instr), 1)), (66, ((.iastore : Instr), 1)), (67, ((.iinc 3 1 : Instr), 3)), (70, ((.goto (-34) : Instr), 3)), (73, ((.aload_n 0 : Instr), 1)), (74, ((.getfield 83 : Instr), 3)), (77, ((.iload_n 1 : Instr), 1)), (78, ((.aaload : Instr), 1)), (79, ((.iload_n 2 : Instr), 1)), (80, ((.aload_n 0 : Instr), 1)), (81, ((.getfield 54 : Instr), 3))]),
  (108, [(84, ((.aload_n 0 : Instr), 1)), (85, ((.getfield 26 : Instr), 3)), (88, ((.aload_n 0 : Instr), 1)), (89, ((.getfield 77 : Instr), 3)), (92, ((.invokevirtual 361 : Instr), 3)), (95, ((.iastore : Instr), 1)), (96, ((.iinc 2 1 : Instr), 3)), (99, ((.goto (-76) : Instr), 3)), (102, ((.iinc 1 1 : Instr), 3)), (105, ((.goto (-103) : Instr), 3)), (108, ((.return_ : Instr), 1))])]
/-- ChaffInTheWind.weighYards()V -/
def z_meth_135 : z_Mr := (⟨"ChaffInTheWind", "weighYards", "()V"⟩, prog_1_method_52_code, (4, 1, 0, 0), none, none, 0, 0, z_code_135, (1, 900, 1, 899, 100076))
def z_code_136 : z_bm (Instr × Nat) := [(25, [(0, ((.iconst 0 : Instr), 1)), (1, ((.istore_n 2 : Instr), 1)), (2, ((.iload_n 2 : Instr), 1)), (3, ((.aload_n 0 : Instr), 1)), (4, ((.getfield 26 : Instr), 3)), (7, ((.getfield 368 : Instr), 3)), (10, ((.if_icmp .ge 33 : Instr), 3)), (13, ((.aload_n 0 : Instr), 1)), (14, ((.getfield 86 : Instr), 3)), (17, ((.iconst 1 : Instr), 1)), (18, ((.aaload : Instr), 1)), (19, ((.iload_n 2 : Instr), 1)), (20, ((.aload_n 0 : Instr), 1)), (21, ((.getfield 83 : Instr), 3)), (24, ((.iload_n 2 : Instr), 1)), (25, ((.aaload : Instr), 1))]),
  (51, [(26, ((.aload_n 0 : Instr), 1)), (27, ((.getfield 26 : Instr), 3)), (30, ((.getfield 368 : Instr), 3)), (33, ((.iconst 1 : Instr), 1)), (34, ((.isub : Instr), 1)), (35, ((.iaload : Instr), 1)), (36, ((.iastore : Instr), 1)), (37, ((.iinc 2 1 : Instr), 3)), (40, ((.goto (-38) : Instr), 3)), (43, ((.iconst 2 : Instr), 1)), (44, ((.istore_n 2 : Instr), 1)), (45, ((.iload_n 2 : Instr), 1)), (46, ((.iload_n 1 : Instr), 1)), (47, ((.if_icmp .gt 50 : Instr), 3)), (50, ((.iconst 0 : Instr), 1)), (51, ((.istore_n 3 : Instr), 1))]),
  (75, [(52, ((.iload_n 3 : Instr), 1)), (53, ((.iload_n 2 : Instr), 1)), (54, ((.iadd : Instr), 1)), (55, ((.aload_n 0 : Instr), 1)), (56, ((.getfield 26 : Instr), 3)), (59, ((.getfield 368 : Instr), 3)), (62, ((.if_icmp .gt 29 : Instr), 3)), (65, ((.aload_n 0 : Instr), 1)), (66, ((.getfield 86 : Instr), 3)), (69, ((.iload_n 2 : Instr), 1)), (70, ((.aaload : Instr), 1)), (71, ((.iload_n 3 : Instr), 1)), (72, ((.aload_n 0 : Instr), 1)), (73, ((.iload_n 2 : Instr), 1)), (74, ((.iload_n 3 : Instr), 1)), (75, ((.aload_n 0 : Instr), 1))]),
  (97, [(76, ((.iload_n 2 : Instr), 1)), (77, ((.iload_n 3 : Instr), 1)), (78, ((.invokevirtual 379 : Instr), 3)), (81, ((.invokevirtual 394 : Instr), 3)), (84, ((.iastore : Instr), 1)), (85, ((.iinc 3 1 : Instr), 3)), (88, ((.goto (-36) : Instr), 3)), (91, ((.iinc 2 1 : Instr), 3)), (94, ((.goto (-49) : Instr), 3)), (97, ((.return_ : Instr), 1))])]
/-- ChaffInTheWind.weighMarks(I)V -/
def z_meth_136 : z_Mr := (⟨"ChaffInTheWind", "weighMarks", "(I)V"⟩, prog_1_method_53_code, (4, 2, 0, 0), none, none, 0, 0, z_code_136, (1, 904, 1, 903, 100077))
def z_code_137 : z_bm (Instr × Nat) := [(19, [(0, ((.iload_n 2 : Instr), 1)), (1, ((.iconst 1 : Instr), 1)), (2, ((.iadd : Instr), 1)), (3, ((.istore_n 3 : Instr), 1)), (4, ((.iload_n 2 : Instr), 1)), (5, ((.iconst 2 : Instr), 1)), (6, ((.iadd : Instr), 1)), (7, ((.istore 4 : Instr), 2)), (9, ((.iload 4 : Instr), 2)), (11, ((.iload_n 1 : Instr), 1)), (12, ((.iadd : Instr), 1)), (13, ((.iconst 1 : Instr), 1)), (14, ((.isub : Instr), 1)), (15, ((.aload_n 0 : Instr), 1)), (16, ((.getfield 26 : Instr), 3)), (19, ((.getfield 368 : Instr), 3))]),
  (49, [(22, ((.if_icmp .gt 30 : Instr), 3)), (25, ((.aload_n 0 : Instr), 1)), (26, ((.iload_n 1 : Instr), 1)), (27, ((.iload_n 2 : Instr), 1)), (28, ((.iload 4 : Instr), 2)), (30, ((.invokevirtual 394 : Instr), 3)), (33, ((.aload_n 0 : Instr), 1)), (34, ((.iload_n 1 : Instr), 1)), (35, ((.iload_n 2 : Instr), 1)), (36, ((.iload_n 3 : Instr), 1)), (37, ((.invokevirtual 394 : Instr), 3)), (40, ((.if_icmp .le 6 : Instr), 3)), (43, ((.iload 4 : Instr), 2)), (45, ((.istore_n 3 : Instr), 1)), (46, ((.iinc 4 1 : Instr), 3)), (49, ((.goto (-40) : Instr), 3))]),
  (53, [(52, ((.iload_n 3 : Instr), 1)), (53, ((.ireturn : Instr), 1))])]
/-- ChaffInTheWind.firstMark(II)I -/
def z_meth_137 : z_Mr := (⟨"ChaffInTheWind", "firstMark", "(II)I"⟩, prog_1_method_54_code, (5, 3, 0, 0), some .int, none, 0, 0, z_code_137, (1, 908, 1, 907, 100078))
def z_code_138 : z_bm (Instr × Nat) := [(19, [(0, ((.aload_n 0 : Instr), 1)), (1, ((.getfield 83 : Instr), 3)), (4, ((.iload_n 2 : Instr), 1)), (5, ((.aaload : Instr), 1)), (6, ((.iload_n 3 : Instr), 1)), (7, ((.iconst 1 : Instr), 1)), (8, ((.isub : Instr), 1)), (9, ((.iaload : Instr), 1)), (10, ((.aload_n 0 : Instr), 1)), (11, ((.getfield 86 : Instr), 3)), (14, ((.iload_n 1 : Instr), 1)), (15, ((.iconst 1 : Instr), 1)), (16, ((.isub : Instr), 1)), (17, ((.aaload : Instr), 1)), (18, ((.iload_n 3 : Instr), 1)), (19, ((.iaload : Instr), 1))]),
  (21, [(20, ((.iadd : Instr), 1)), (21, ((.ireturn : Instr), 1))])]
/-- ChaffInTheWind.worthParted(III)I -/
def z_meth_138 : z_Mr := (⟨"ChaffInTheWind", "worthParted", "(III)I"⟩, prog_1_method_55_code, (4, 4, 0, 0), some .int, none, 0, 0, z_code_138, (1, 912, 1, 911, 100079))
def z_code_139 : z_bm (Instr × Nat) := [(27, [(0, ((.iload_n 1 : Instr), 1)), (1, ((.invokestatic 180 : Instr), 3)), (4, ((.ifCond .eq 11 : Instr), 3)), (7, ((.aload_n 0 : Instr), 1)), (8, ((.iload_n 2 : Instr), 1)), (9, ((.invokevirtual 162 : Instr), 3)), (12, ((.ifCond .ne 5 : Instr), 3)), (15, ((.iconst (-1) : Instr), 1)), (16, ((.ireturn : Instr), 1)), (17, ((.aload_n 0 : Instr), 1)), (18, ((.getfield 33 : Instr), 3)), (21, ((.getfield 134 : Instr), 3)), (24, ((.iload_n 1 : Instr), 1)), (25, ((.aaload : Instr), 1)), (26, ((.aload_n 0 : Instr), 1)), (27, ((.getfield 77 : Instr), 3))]),
  (58, [(30, ((.invokestatic 382 : Instr), 3)), (33, ((.iconst 0 : Instr), 1)), (34, ((.istore 4 : Instr), 2)), (36, ((.iconst 0 : Instr), 1)), (37, ((.istore 5 : Instr), 2)), (39, ((.iconst 0 : Instr), 1)), (40, ((.istore 6 : Instr), 2)), (42, ((.iconst 0 : Instr), 1)), (43, ((.istore 7 : Instr), 2)), (45, ((.iload 7 : Instr), 2)), (47, ((.sipush 999 : Instr), 3)), (50, ((.if_icmp .gt 57 : Instr), 3)), (53, ((.aload_n 0 : Instr), 1)), (54, ((.getfield 77 : Instr), 3)), (57, ((.iload_n 2 : Instr), 1)), (58, ((.iload 7 : Instr), 2))]),
  (92, [(60, ((.iastore : Instr), 1)), (61, ((.aload_n 0 : Instr), 1)), (62, ((.getfield 54 : Instr), 3)), (65, ((.aload_n 0 : Instr), 1)), (66, ((.getfield 26 : Instr), 3)), (69, ((.aload_n 0 : Instr), 1)), (70, ((.getfield 77 : Instr), 3)), (73, ((.invokevirtual 361 : Instr), 3)), (76, ((.iload_n 3 : Instr), 1)), (77, ((.if_icmp .lt 24 : Instr), 3)), (80, ((.iload 4 : Instr), 2)), (82, ((.ifCond .ne 8 : Instr), 3)), (85, ((.iload 7 : Instr), 2)), (87, ((.goto 5 : Instr), 3)), (90, ((.iload 5 : Instr), 2)), (92, ((.istore 5 : Instr), 2))]),
  (129, [(94, ((.iload 7 : Instr), 2)), (96, ((.istore 6 : Instr), 2)), (98, ((.iinc 4 1 : Instr), 3)), (101, ((.iinc 7 1 : Instr), 3)), (104, ((.goto (-59) : Instr), 3)), (107, ((.aload_n 0 : Instr), 1)), (108, ((.getfield 19 : Instr), 3)), (111, ((.invokevirtual 300 : Instr), 3)), (114, ((.iload 4 : Instr), 2)), (116, ((.ifCond .le 23 : Instr), 3)), (119, ((.aload_n 0 : Instr), 1)), (120, ((.getfield 19 : Instr), 3)), (123, ((.iload 5 : Instr), 2)), (125, ((.i2l : Instr), 1)), (126, ((.invokevirtual 229 : Instr), 3)), (129, ((.aload_n 0 : Instr), 1))]),
  (141, [(130, ((.getfield 19 : Instr), 3)), (133, ((.iload 6 : Instr), 2)), (135, ((.i2l : Instr), 1)), (136, ((.invokevirtual 229 : Instr), 3)), (139, ((.iload 4 : Instr), 2)), (141, ((.ireturn : Instr), 1))])]
/-- ChaffInTheWind.may(III)I -/
def z_meth_139 : z_Mr := (⟨"ChaffInTheWind", "may", "(III)I"⟩, prog_1_method_47_code, (8, 4, 0, 0), some .int, none, 0, 0, z_code_139, (1, 916, 1, 914, 915))
def z_code_140 : z_bm (Instr × Nat) := [(9, [(0, ((.aload_n 0 : Instr), 1)), (1, ((.iconst 0 : Instr), 1)), (2, ((.aload_n 1 : Instr), 1)), (3, ((.iconst 0 : Instr), 1)), (4, ((.bipush 10 : Instr), 2)), (6, ((.invokestatic 508 : Instr), 3)), (9, ((.return_ : Instr), 1))])]
/-- ChaffInTheWind.copy([I[I)V -/
def z_meth_140 : z_Mr := (⟨"ChaffInTheWind", "copy", "([I[I)V"⟩, prog_1_method_97_code, (2, 2, 0, 0), none, none, 0, 0, z_code_140, (0, 919, 1, 918, 0))
def z_code_141 : z_bm (Instr × Nat) := [(29, [(0, ((.iload_n 1 : Instr), 1)), (1, ((.invokestatic 180 : Instr), 3)), (4, ((.ifCond .eq 14 : Instr), 3)), (7, ((.iload_n 2 : Instr), 1)), (8, ((.ifCond .lt 10 : Instr), 3)), (11, ((.iload_n 2 : Instr), 1)), (12, ((.sipush 999 : Instr), 3)), (15, ((.if_icmp .le 5 : Instr), 3)), (18, ((.iconst (-1) : Instr), 1)), (19, ((.ireturn : Instr), 1)), (20, ((.aload_n 0 : Instr), 1)), (21, ((.getfield 33 : Instr), 3)), (24, ((.getfield 134 : Instr), 3)), (27, ((.iload_n 1 : Instr), 1)), (28, ((.aaload : Instr), 1)), (29, ((.astore_n 3 : Instr), 1))]),
  (56, [(30, ((.aload_n 3 : Instr), 1)), (31, ((.invokestatic 199 : Instr), 3)), (34, ((.iload_n 2 : Instr), 1)), (35, ((.if_icmp .ge 6 : Instr), 3)), (38, ((.bipush (-2) : Instr), 2)), (40, ((.ireturn : Instr), 1)), (41, ((.aload_n 0 : Instr), 1)), (42, ((.getfield 19 : Instr), 3)), (45, ((.aload_n 0 : Instr), 1)), (46, ((.aload_n 3 : Instr), 1)), (47, ((.iload_n 2 : Instr), 1)), (48, ((.iconst 0 : Instr), 1)), (49, ((.invokevirtual 386 : Instr), 3)), (52, ((.invokevirtual 222 : Instr), 3)), (55, ((.aload_n 0 : Instr), 1)), (56, ((.getfield 19 : Instr), 3))]),
  (70, [(59, ((.aload_n 0 : Instr), 1)), (60, ((.aload_n 3 : Instr), 1)), (61, ((.iload_n 2 : Instr), 1)), (62, ((.iconst 1 : Instr), 1)), (63, ((.invokevirtual 386 : Instr), 3)), (66, ((.invokevirtual 229 : Instr), 3)), (69, ((.iconst 0 : Instr), 1)), (70, ((.ireturn : Instr), 1))])]
/-- ChaffInTheWind.bushel(II)I -/
def z_meth_141 : z_Mr := (⟨"ChaffInTheWind", "bushel", "(II)I"⟩, prog_1_method_48_code, (4, 3, 0, 0), some .int, none, 0, 0, z_code_141, (1, 926, 1, 924, 925))
def z_code_142 : z_bm (Instr × Nat) := [(28, [(0, ((.aload_n 0 : Instr), 1)), (1, ((.iconst 0 : Instr), 1)), (2, ((.putfield 92 : Instr), 3)), (5, ((.lconst 0 : Instr), 1)), (6, ((.lstore 4 : Instr), 2)), (8, ((.iload_n 2 : Instr), 1)), (9, ((.istore 6 : Instr), 2)), (11, ((.iconst 0 : Instr), 1)), (12, ((.istore 7 : Instr), 2)), (14, ((.iload 7 : Instr), 2)), (16, ((.aload_n 0 : Instr), 1)), (17, ((.getfield 26 : Instr), 3)), (20, ((.getfield 128 : Instr), 3)), (23, ((.if_icmp .ge 82 : Instr), 3)), (26, ((.iload 6 : Instr), 2)), (28, ((.ifCond .le 77 : Instr), 3))]),
  (57, [(31, ((.aload_n 0 : Instr), 1)), (32, ((.aload_n 1 : Instr), 1)), (33, ((.iload_n 3 : Instr), 1)), (34, ((.invokevirtual 397 : Instr), 3)), (37, ((.istore 8 : Instr), 2)), (39, ((.iload 8 : Instr), 2)), (41, ((.iconst (-1) : Instr), 1)), (42, ((.if_icmp .ne 6 : Instr), 3)), (45, ((.lload 4 : Instr), 2)), (47, ((.lreturn : Instr), 1)), (48, ((.iload 6 : Instr), 2)), (50, ((.aload_n 1 : Instr), 1)), (51, ((.iload 8 : Instr), 2)), (53, ((.iaload : Instr), 1)), (54, ((.invokestatic 370 : Instr), 3)), (57, ((.istore 9 : Instr), 2))]),
  (84, [(59, ((.lload 4 : Instr), 2)), (61, ((.iload 9 : Instr), 2)), (63, ((.i2l : Instr), 1)), (64, ((.aload_n 0 : Instr), 1)), (65, ((.getfield 26 : Instr), 3)), (68, ((.getfield 171 : Instr), 3)), (71, ((.iload 8 : Instr), 2)), (73, ((.iaload : Instr), 1)), (74, ((.i2l : Instr), 1)), (75, ((.lmul : Instr), 1)), (76, ((.ladd : Instr), 1)), (77, ((.lstore 4 : Instr), 2)), (79, ((.iload 6 : Instr), 2)), (81, ((.iload 9 : Instr), 2)), (83, ((.isub : Instr), 1)), (84, ((.istore 6 : Instr), 2))]),
  (107, [(86, ((.aload_n 0 : Instr), 1)), (87, ((.dup : Instr), 1)), (88, ((.getfield 92 : Instr), 3)), (91, ((.iconst 1 : Instr), 1)), (92, ((.iload 8 : Instr), 2)), (94, ((.ishl : Instr), 1)), (95, ((.ior : Instr), 1)), (96, ((.putfield 92 : Instr), 3)), (99, ((.iinc 7 1 : Instr), 3)), (102, ((.goto (-88) : Instr), 3)), (105, ((.lload 4 : Instr), 2)), (107, ((.lreturn : Instr), 1))])]
/-- ChaffInTheWind.pick([IIZ)J -/
def z_meth_142 : z_Mr := (⟨"ChaffInTheWind", "pick", "([IIZ)J"⟩, prog_1_method_56_code, (10, 4, 0, 0), some .long, none, 0, 0, z_code_142, (1, 930, 1, 929, 100080))
def z_code_143 : z_bm (Instr × Nat) := [(28, [(0, ((.iconst (-1) : Instr), 1)), (1, ((.istore_n 3 : Instr), 1)), (2, ((.iconst 0 : Instr), 1)), (3, ((.istore 4 : Instr), 2)), (5, ((.iload 4 : Instr), 2)), (7, ((.aload_n 0 : Instr), 1)), (8, ((.getfield 26 : Instr), 3)), (11, ((.getfield 128 : Instr), 3)), (14, ((.if_icmp .ge 47 : Instr), 3)), (17, ((.aload_n 1 : Instr), 1)), (18, ((.iload 4 : Instr), 2)), (20, ((.iaload : Instr), 1)), (21, ((.ifCond .le 34 : Instr), 3)), (24, ((.aload_n 0 : Instr), 1)), (25, ((.getfield 92 : Instr), 3)), (28, ((.iload 4 : Instr), 2))]),
  (55, [(30, ((.ishr : Instr), 1)), (31, ((.iconst 1 : Instr), 1)), (32, ((.iand : Instr), 1)), (33, ((.ifCond .ne 22 : Instr), 3)), (36, ((.iload_n 3 : Instr), 1)), (37, ((.iconst (-1) : Instr), 1)), (38, ((.if_icmp .eq 14 : Instr), 3)), (41, ((.aload_n 0 : Instr), 1)), (42, ((.iload 4 : Instr), 2)), (44, ((.iload_n 3 : Instr), 1)), (45, ((.iload_n 2 : Instr), 1)), (46, ((.invokevirtual 401 : Instr), 3)), (49, ((.ifCond .eq 6 : Instr), 3)), (52, ((.iload 4 : Instr), 2)), (54, ((.istore_n 3 : Instr), 1)), (55, ((.iinc 4 1 : Instr), 3))]),
  (62, [(58, ((.goto (-53) : Instr), 3)), (61, ((.iload_n 3 : Instr), 1)), (62, ((.ireturn : Instr), 1))])]
/-- ChaffInTheWind.nextToPick([IZ)I -/
def z_meth_143 : z_Mr := (⟨"ChaffInTheWind", "nextToPick", "([IZ)I"⟩, prog_1_method_57_code, (5, 3, 0, 0), some .int, none, 0, 0, z_code_143, (1, 934, 1, 933, 100081))
def z_code_144 : z_bm (Instr × Nat) := [(29, [(0, ((.iload_n 3 : Instr), 1)), (1, ((.ifCond .eq 32 : Instr), 3)), (4, ((.aload_n 0 : Instr), 1)), (5, ((.getfield 26 : Instr), 3)), (8, ((.getfield 171 : Instr), 3)), (11, ((.iload_n 1 : Instr), 1)), (12, ((.iaload : Instr), 1)), (13, ((.aload_n 0 : Instr), 1)), (14, ((.getfield 26 : Instr), 3)), (17, ((.getfield 171 : Instr), 3)), (20, ((.iload_n 2 : Instr), 1)), (21, ((.iaload : Instr), 1)), (22, ((.if_icmp .le 7 : Instr), 3)), (25, ((.iconst 1 : Instr), 1)), (26, ((.goto 33 : Instr), 3)), (29, ((.iconst 0 : Instr), 1))]),
  (59, [(30, ((.goto 29 : Instr), 3)), (33, ((.aload_n 0 : Instr), 1)), (34, ((.getfield 26 : Instr), 3)), (37, ((.getfield 171 : Instr), 3)), (40, ((.iload_n 1 : Instr), 1)), (41, ((.iaload : Instr), 1)), (42, ((.aload_n 0 : Instr), 1)), (43, ((.getfield 26 : Instr), 3)), (46, ((.getfield 171 : Instr), 3)), (49, ((.iload_n 2 : Instr), 1)), (50, ((.iaload : Instr), 1)), (51, ((.if_icmp .ge 7 : Instr), 3)), (54, ((.iconst 1 : Instr), 1)), (55, ((.goto 4 : Instr), 3)), (58, ((.iconst 0 : Instr), 1)), (59, ((.ireturn : Instr), 1))])]
/-- ChaffInTheWind.isAhead(IIZ)Z -/
def z_meth_144 : z_Mr := (⟨"ChaffInTheWind", "isAhead", "(IIZ)Z"⟩, prog_1_method_58_code, (4, 4, 0, 0), some .boolean, none, 0, 0, z_code_144, (1, 938, 1, 937, 100082))
def z_code_145 : z_bm (Instr × Nat) := [(24, [(0, ((.iload_n 1 : Instr), 1)), (1, ((.invokestatic 180 : Instr), 3)), (4, ((.ifCond .ne 5 : Instr), 3)), (7, ((.iconst (-1) : Instr), 1)), (8, ((.ireturn : Instr), 1)), (9, ((.aload_n 0 : Instr), 1)), (10, ((.getfield 33 : Instr), 3)), (13, ((.getfield 134 : Instr), 3)), (16, ((.iload_n 1 : Instr), 1)), (17, ((.aaload : Instr), 1)), (18, ((.astore_n 2 : Instr), 1)), (19, ((.iconst (-1) : Instr), 1)), (20, ((.istore_n 3 : Instr), 1)), (21, ((.iconst 0 : Instr), 1)), (22, ((.istore 4 : Instr), 2)), (24, ((.iconst 0 : Instr), 1))]),
  (55, [(25, ((.istore 5 : Instr), 2)), (27, ((.iload 5 : Instr), 2)), (29, ((.aload_n 0 : Instr), 1)), (30, ((.getfield 26 : Instr), 3)), (33, ((.getfield 128 : Instr), 3)), (36, ((.if_icmp .ge 44 : Instr), 3)), (39, ((.aload_n 0 : Instr), 1)), (40, ((.aload_n 2 : Instr), 1)), (41, ((.iload 5 : Instr), 2)), (43, ((.invokevirtual 390 : Instr), 3)), (46, ((.istore 6 : Instr), 2)), (48, ((.aload_n 2 : Instr), 1)), (49, ((.iload 5 : Instr), 2)), (51, ((.iaload : Instr), 1)), (52, ((.ifCond .le 22 : Instr), 3)), (55, ((.iload_n 3 : Instr), 1))]),
  (87, [(56, ((.iconst (-1) : Instr), 1)), (57, ((.if_icmp .eq 10 : Instr), 3)), (60, ((.iload 6 : Instr), 2)), (62, ((.iload 4 : Instr), 2)), (64, ((.if_icmp .le 10 : Instr), 3)), (67, ((.iload 5 : Instr), 2)), (69, ((.istore_n 3 : Instr), 1)), (70, ((.iload 6 : Instr), 2)), (72, ((.istore 4 : Instr), 2)), (74, ((.iinc 5 1 : Instr), 3)), (77, ((.goto (-50) : Instr), 3)), (80, ((.iload_n 3 : Instr), 1)), (81, ((.iconst (-1) : Instr), 1)), (82, ((.if_icmp .ne 6 : Instr), 3)), (85, ((.bipush (-2) : Instr), 2)), (87, ((.ireturn : Instr), 1))]),
  (112, [(88, ((.aload_n 0 : Instr), 1)), (89, ((.getfield 19 : Instr), 3)), (92, ((.iload 4 : Instr), 2)), (94, ((.aload_n 0 : Instr), 1)), (95, ((.getfield 54 : Instr), 3)), (98, ((.aload_n 0 : Instr), 1)), (99, ((.getfield 26 : Instr), 3)), (102, ((.aload_n 2 : Instr), 1)), (103, ((.invokevirtual 361 : Instr), 3)), (106, ((.isub : Instr), 1)), (107, ((.i2l : Instr), 1)), (108, ((.invokevirtual 222 : Instr), 3)), (111, ((.iload_n 3 : Instr), 1)), (112, ((.ireturn : Instr), 1))])]
/-- ChaffInTheWind.away(I)I -/
def z_meth_145 : z_Mr := (⟨"ChaffInTheWind", "away", "(I)I"⟩, prog_1_method_49_code, (7, 2, 0, 0), some .int, none, 0, 0, z_code_145, (1, 942, 1, 940, 941))
def z_code_146 : z_bm (Instr × Nat) := [(27, [(0, ((.aload_n 1 : Instr), 1)), (1, ((.aload_n 0 : Instr), 1)), (2, ((.getfield 77 : Instr), 3)), (5, ((.invokestatic 382 : Instr), 3)), (8, ((.aload_n 0 : Instr), 1)), (9, ((.getfield 77 : Instr), 3)), (12, ((.iload_n 2 : Instr), 1)), (13, ((.iconst 0 : Instr), 1)), (14, ((.iastore : Instr), 1)), (15, ((.aload_n 0 : Instr), 1)), (16, ((.getfield 54 : Instr), 3)), (19, ((.aload_n 0 : Instr), 1)), (20, ((.getfield 26 : Instr), 3)), (23, ((.aload_n 0 : Instr), 1)), (24, ((.getfield 77 : Instr), 3)), (27, ((.invokevirtual 361 : Instr), 3))]),
  (30, [(30, ((.ireturn : Instr), 1))])]
/-- ChaffInTheWind.worthWithout([II)I -/
def z_meth_146 : z_Mr := (⟨"ChaffInTheWind", "worthWithout", "([II)I"⟩, prog_1_method_51_code, (3, 3, 0, 0), some .int, none, 0, 0, z_code_146, (1, 946, 1, 945, 100083))
def z_code_147 : z_bm (Instr × Nat) := [(27, [(0, ((.iload_n 1 : Instr), 1)), (1, ((.iload_n 2 : Instr), 1)), (2, ((.invokestatic 260 : Instr), 3)), (5, ((.ifCond .eq 11 : Instr), 3)), (8, ((.aload_n 0 : Instr), 1)), (9, ((.iload_n 3 : Instr), 1)), (10, ((.invokevirtual 162 : Instr), 3)), (13, ((.ifCond .ne 5 : Instr), 3)), (16, ((.iconst (-1) : Instr), 1)), (17, ((.ireturn : Instr), 1)), (18, ((.aload_n 0 : Instr), 1)), (19, ((.getfield 33 : Instr), 3)), (22, ((.getfield 134 : Instr), 3)), (25, ((.iload_n 1 : Instr), 1)), (26, ((.aaload : Instr), 1)), (27, ((.aload_n 0 : Instr), 1))]),
  (59, [(28, ((.getfield 77 : Instr), 3)), (31, ((.invokestatic 382 : Instr), 3)), (34, ((.aload_n 0 : Instr), 1)), (35, ((.getfield 33 : Instr), 3)), (38, ((.getfield 134 : Instr), 3)), (41, ((.iload_n 2 : Instr), 1)), (42, ((.aaload : Instr), 1)), (43, ((.aload_n 0 : Instr), 1)), (44, ((.getfield 80 : Instr), 3)), (47, ((.invokestatic 382 : Instr), 3)), (50, ((.aload_n 0 : Instr), 1)), (51, ((.getfield 77 : Instr), 3)), (54, ((.iload_n 3 : Instr), 1)), (55, ((.iaload : Instr), 1)), (56, ((.sipush 999 : Instr), 3)), (59, ((.invokestatic 370 : Instr), 3))]),
  (89, [(62, ((.istore 4 : Instr), 2)), (64, ((.iconst 0 : Instr), 1)), (65, ((.istore 5 : Instr), 2)), (67, ((.iconst (-1) : Instr), 1)), (68, ((.istore 6 : Instr), 2)), (70, ((.iconst 0 : Instr), 1)), (71, ((.istore 7 : Instr), 2)), (73, ((.iload 7 : Instr), 2)), (75, ((.iload 4 : Instr), 2)), (77, ((.if_icmp .gt 77 : Instr), 3)), (80, ((.aload_n 0 : Instr), 1)), (81, ((.getfield 54 : Instr), 3)), (84, ((.aload_n 0 : Instr), 1)), (85, ((.getfield 26 : Instr), 3)), (88, ((.aload_n 0 : Instr), 1)), (89, ((.getfield 77 : Instr), 3))]),
  (124, [(92, ((.invokevirtual 361 : Instr), 3)), (95, ((.aload_n 0 : Instr), 1)), (96, ((.getfield 54 : Instr), 3)), (99, ((.aload_n 0 : Instr), 1)), (100, ((.getfield 26 : Instr), 3)), (103, ((.aload_n 0 : Instr), 1)), (104, ((.getfield 80 : Instr), 3)), (107, ((.invokevirtual 361 : Instr), 3)), (110, ((.iadd : Instr), 1)), (111, ((.istore 8 : Instr), 2)), (113, ((.iload 8 : Instr), 2)), (115, ((.iload 6 : Instr), 2)), (117, ((.if_icmp .le 11 : Instr), 3)), (120, ((.iload 8 : Instr), 2)), (122, ((.istore 6 : Instr), 2)), (124, ((.iload 7 : Instr), 2))]),
  (146, [(126, ((.istore 5 : Instr), 2)), (128, ((.aload_n 0 : Instr), 1)), (129, ((.getfield 77 : Instr), 3)), (132, ((.iload_n 3 : Instr), 1)), (133, ((.dup2 : Instr), 1)), (134, ((.iaload : Instr), 1)), (135, ((.iconst 1 : Instr), 1)), (136, ((.isub : Instr), 1)), (137, ((.iastore : Instr), 1)), (138, ((.aload_n 0 : Instr), 1)), (139, ((.getfield 80 : Instr), 3)), (142, ((.iload_n 3 : Instr), 1)), (143, ((.dup2 : Instr), 1)), (144, ((.iaload : Instr), 1)), (145, ((.iconst 1 : Instr), 1)), (146, ((.iadd : Instr), 1))]),
  (166, [(147, ((.iastore : Instr), 1)), (148, ((.iinc 7 1 : Instr), 3)), (151, ((.goto (-78) : Instr), 3)), (154, ((.aload_n 0 : Instr), 1)), (155, ((.getfield 19 : Instr), 3)), (158, ((.iload 6 : Instr), 2)), (160, ((.i2l : Instr), 1)), (161, ((.invokevirtual 222 : Instr), 3)), (164, ((.iload 5 : Instr), 2)), (166, ((.ireturn : Instr), 1))])]
/-- ChaffInTheWind.shift(III)I -/
def z_meth_147 : z_Mr := (⟨"ChaffInTheWind", "shift", "(III)I"⟩, prog_1_method_50_code, (9, 4, 0, 0), some .int, none, 0, 0, z_code_147, (1, 950, 1, 948, 949))
def z_code_148 : z_bm (Instr × Nat) := [(28, [(0, ((.iload_n 1 : Instr), 1)), (1, ((.invokestatic 207 : Instr), 3)), (4, ((.ifCond .eq 21 : Instr), 3)), (7, ((.aload_n 0 : Instr), 1)), (8, ((.iload_n 2 : Instr), 1)), (9, ((.iload_n 3 : Instr), 1)), (10, ((.invokevirtual 249 : Instr), 3)), (13, ((.ifCond .eq 12 : Instr), 3)), (16, ((.aload_n 0 : Instr), 1)), (17, ((.getfield 64 : Instr), 3)), (20, ((.bipush 7 : Instr), 2)), (22, ((.if_icmp .lt 5 : Instr), 3)), (25, ((.iconst (-1) : Instr), 1)), (26, ((.ireturn : Instr), 1)), (27, ((.aload_n 0 : Instr), 1)), (28, ((.getfield 60 : Instr), 3))]),
  (54, [(31, ((.aload_n 0 : Instr), 1)), (32, ((.getfield 64 : Instr), 3)), (35, ((.new 58 : Instr), 3)), (38, ((.dup : Instr), 1)), (39, ((.iload_n 1 : Instr), 1)), (40, ((.iload_n 2 : Instr), 1)), (41, ((.iload_n 3 : Instr), 1)), (42, ((.invokespecial 405 : Instr), 3)), (45, ((.aastore : Instr), 1)), (46, ((.aload_n 0 : Instr), 1)), (47, ((.dup : Instr), 1)), (48, ((.getfield 64 : Instr), 3)), (51, ((.dup_x1 : Instr), 1)), (52, ((.iconst 1 : Instr), 1)), (53, ((.iadd : Instr), 1)), (54, ((.putfield 64 : Instr), 3))]),
  (57, [(57, ((.ireturn : Instr), 1))])]
/-- ChaffInTheWind.blow(III)I -/
def z_meth_148 : z_Mr := (⟨"ChaffInTheWind", "blow", "(III)I"⟩, prog_1_method_59_code, (4, 4, 1, 6), some .int, none, 0, 0, z_code_148, (1, 954, 1, 952, 953))
def z_code_149 : z_bm (Instr × Nat) := [(25, [(0, ((.aload_n 0 : Instr), 1)), (1, ((.invokespecial 1 : Instr), 3)), (4, ((.aload_n 0 : Instr), 1)), (5, ((.iconst 1 : Instr), 1)), (6, ((.putfield 7 : Instr), 3)), (9, ((.aload_n 0 : Instr), 1)), (10, ((.iload_n 1 : Instr), 1)), (11, ((.putfield 13 : Instr), 3)), (14, ((.aload_n 0 : Instr), 1)), (15, ((.iload_n 2 : Instr), 1)), (16, ((.putfield 17 : Instr), 3)), (19, ((.aload_n 0 : Instr), 1)), (20, ((.iload_n 3 : Instr), 1)), (21, ((.putfield 20 : Instr), 3)), (24, ((.aload_n 0 : Instr), 1)), (25, ((.iconst 0 : Instr), 1))]),
  (34, [(26, ((.putfield 23 : Instr), 3)), (29, ((.aload_n 0 : Instr), 1)), (30, ((.iconst 0 : Instr), 1)), (31, ((.putfield 26 : Instr), 3)), (34, ((.return_ : Instr), 1))])]
/-- ChaffInTheWind$Pass.<init>(III)V -/
def z_meth_149 : z_Mr := (⟨"ChaffInTheWind$Pass", "<init>", "(III)V"⟩, prog_7_method_1_code, (4, 4, 0, 0), none, some 9, 9, 13, z_code_149, (2, 958, 23, 957, 0))
def z_code_150 : z_bm (Instr × Nat) := [(30, [(0, ((.iload_n 1 : Instr), 1)), (1, ((.invokestatic 263 : Instr), 3)), (4, ((.ifCond .eq 12 : Instr), 3)), (7, ((.aload_n 0 : Instr), 1)), (8, ((.getfield 64 : Instr), 3)), (11, ((.bipush 7 : Instr), 2)), (13, ((.if_icmp .lt 5 : Instr), 3)), (16, ((.iconst (-1) : Instr), 1)), (17, ((.ireturn : Instr), 1)), (18, ((.aload_n 0 : Instr), 1)), (19, ((.getfield 60 : Instr), 3)), (22, ((.aload_n 0 : Instr), 1)), (23, ((.getfield 64 : Instr), 3)), (26, ((.new 58 : Instr), 3)), (29, ((.dup : Instr), 1)), (30, ((.iload_n 1 : Instr), 1))]),
  (47, [(31, ((.iload_n 2 : Instr), 1)), (32, ((.invokespecial 407 : Instr), 3)), (35, ((.aastore : Instr), 1)), (36, ((.aload_n 0 : Instr), 1)), (37, ((.dup : Instr), 1)), (38, ((.getfield 64 : Instr), 3)), (41, ((.dup_x1 : Instr), 1)), (42, ((.iconst 1 : Instr), 1)), (43, ((.iadd : Instr), 1)), (44, ((.putfield 64 : Instr), 3)), (47, ((.ireturn : Instr), 1))])]
/-- ChaffInTheWind.hole(IZ)I -/
def z_meth_150 : z_Mr := (⟨"ChaffInTheWind", "hole", "(IZ)I"⟩, prog_1_method_60_code, (3, 3, 1, 6), some .int, none, 0, 0, z_code_150, (1, 984, 1, 982, 983))
def z_code_151 : z_bm (Instr × Nat) := [(25, [(0, ((.aload_n 0 : Instr), 1)), (1, ((.invokespecial 1 : Instr), 3)), (4, ((.aload_n 0 : Instr), 1)), (5, ((.iconst 0 : Instr), 1)), (6, ((.putfield 7 : Instr), 3)), (9, ((.aload_n 0 : Instr), 1)), (10, ((.iconst 0 : Instr), 1)), (11, ((.putfield 13 : Instr), 3)), (14, ((.aload_n 0 : Instr), 1)), (15, ((.iconst 0 : Instr), 1)), (16, ((.putfield 17 : Instr), 3)), (19, ((.aload_n 0 : Instr), 1)), (20, ((.iconst 0 : Instr), 1)), (21, ((.putfield 20 : Instr), 3)), (24, ((.aload_n 0 : Instr), 1)), (25, ((.iload_n 1 : Instr), 1))]),
  (34, [(26, ((.putfield 23 : Instr), 3)), (29, ((.aload_n 0 : Instr), 1)), (30, ((.iload_n 2 : Instr), 1)), (31, ((.putfield 26 : Instr), 3)), (34, ((.return_ : Instr), 1))])]
/-- ChaffInTheWind$Pass.<init>(IZ)V -/
def z_meth_151 : z_Mr := (⟨"ChaffInTheWind$Pass", "<init>", "(IZ)V"⟩, prog_7_method_2_code, (3, 3, 0, 0), none, some 9, 9, 13, z_code_151, (2, 987, 23, 986, 0))
def z_code_152 : z_bm (Instr × Nat) := [(26, [(0, ((.iload_n 1 : Instr), 1)), (1, ((.ifCond .lt 24 : Instr), 3)), (4, ((.iload_n 1 : Instr), 1)), (5, ((.aload_n 0 : Instr), 1)), (6, ((.getfield 64 : Instr), 3)), (9, ((.if_icmp .ge 16 : Instr), 3)), (12, ((.aload_n 0 : Instr), 1)), (13, ((.aload_n 0 : Instr), 1)), (14, ((.getfield 60 : Instr), 3)), (17, ((.iload_n 1 : Instr), 1)), (18, ((.aaload : Instr), 1)), (19, ((.invokevirtual 410 : Instr), 3)), (22, ((.goto 4 : Instr), 3)), (25, ((.iconst (-1) : Instr), 1)), (26, ((.ireturn : Instr), 1))])]
/-- ChaffInTheWind.stays(I)I -/
def z_meth_152 : z_Mr := (⟨"ChaffInTheWind", "stays", "(I)I"⟩, prog_1_method_61_code, (2, 2, 0, 0), some .int, none, 0, 0, z_code_152, (1, 991, 1, 989, 990))
def z_code_153 : z_bm (Instr × Nat) := [(27, [(0, ((.iconst 0 : Instr), 1)), (1, ((.istore_n 2 : Instr), 1)), (2, ((.iconst 0 : Instr), 1)), (3, ((.istore_n 3 : Instr), 1)), (4, ((.iload_n 3 : Instr), 1)), (5, ((.aload_n 0 : Instr), 1)), (6, ((.getfield 26 : Instr), 3)), (9, ((.getfield 128 : Instr), 3)), (12, ((.if_icmp .ge 100 : Instr), 3)), (15, ((.aload_n 1 : Instr), 1)), (16, ((.ifnull 96 : Instr), 3)), (19, ((.aload_n 1 : Instr), 1)), (20, ((.getfield 434 : Instr), 3)), (23, ((.ifCond .eq 18 : Instr), 3)), (26, ((.aload_n 0 : Instr), 1)), (27, ((.getfield 26 : Instr), 3))]),
  (61, [(30, ((.iload_n 3 : Instr), 1)), (31, ((.aload_n 1 : Instr), 1)), (32, ((.getfield 438 : Instr), 3)), (35, ((.invokevirtual 280 : Instr), 3)), (38, ((.goto 4 : Instr), 3)), (41, ((.iconst 0 : Instr), 1)), (42, ((.istore 4 : Instr), 2)), (44, ((.aload_n 1 : Instr), 1)), (45, ((.getfield 434 : Instr), 3)), (48, ((.ifCond .eq 32 : Instr), 3)), (51, ((.aload_n 1 : Instr), 1)), (52, ((.iload 4 : Instr), 2)), (54, ((.invokevirtual 441 : Instr), 3)), (57, ((.ifCond .eq 19 : Instr), 3)), (60, ((.aload_n 0 : Instr), 1)), (61, ((.getfield 26 : Instr), 3))]),
  (95, [(64, ((.iload 4 : Instr), 2)), (66, ((.invokevirtual 283 : Instr), 3)), (69, ((.ifCond .ne 7 : Instr), 3)), (72, ((.iconst 1 : Instr), 1)), (73, ((.goto 20 : Instr), 3)), (76, ((.iconst 0 : Instr), 1)), (77, ((.goto 16 : Instr), 3)), (80, ((.aload_n 1 : Instr), 1)), (81, ((.aload_n 0 : Instr), 1)), (82, ((.getfield 26 : Instr), 3)), (85, ((.getfield 174 : Instr), 3)), (88, ((.iload_n 3 : Instr), 1)), (89, ((.iaload : Instr), 1)), (90, ((.invokevirtual 444 : Instr), 3)), (93, ((.istore 5 : Instr), 2)), (95, ((.iload 5 : Instr), 2))]),
  (113, [(97, ((.ifCond .eq 9 : Instr), 3)), (100, ((.iload_n 2 : Instr), 1)), (101, ((.iconst 1 : Instr), 1)), (102, ((.iload_n 3 : Instr), 1)), (103, ((.ishl : Instr), 1)), (104, ((.ior : Instr), 1)), (105, ((.istore_n 2 : Instr), 1)), (106, ((.iinc 3 1 : Instr), 3)), (109, ((.goto (-105) : Instr), 3)), (112, ((.iload_n 2 : Instr), 1)), (113, ((.ireturn : Instr), 1))])]
/-- ChaffInTheWind.stayingIn(LChaffInTheWind$Pass;)I -/
def z_meth_153 : z_Mr := (⟨"ChaffInTheWind", "stayingIn", "(LChaffInTheWind$Pass;)I"⟩, prog_1_method_66_code, (6, 2, 0, 0), some .int, none, 0, 0, z_code_153, (1, 995, 1, 994, 100084))
def z_code_154 : z_bm (Instr × Nat) := [(21, [(0, ((.iload_n 1 : Instr), 1)), (1, ((.aload_n 0 : Instr), 1)), (2, ((.getfield 17 : Instr), 3)), (5, ((.if_icmp .lt 15 : Instr), 3)), (8, ((.iload_n 1 : Instr), 1)), (9, ((.aload_n 0 : Instr), 1)), (10, ((.getfield 20 : Instr), 3)), (13, ((.if_icmp .gt 7 : Instr), 3)), (16, ((.iconst 1 : Instr), 1)), (17, ((.goto 4 : Instr), 3)), (20, ((.iconst 0 : Instr), 1)), (21, ((.ireturn : Instr), 1))])]
/-- ChaffInTheWind$Pass.catches(I)Z -/
def z_meth_154 : z_Mr := (⟨"ChaffInTheWind$Pass", "catches", "(I)Z"⟩, prog_7_method_3_code, (2, 2, 0, 0), some .boolean, none, 9, 13, z_code_154, (1, 999, 23, 998, 100085))
def z_code_155 : z_bm (Instr × Nat) := [(25, [(0, ((.iload_n 1 : Instr), 1)), (1, ((.aload_n 0 : Instr), 1)), (2, ((.getfield 23 : Instr), 3)), (5, ((.if_icmp .lt 7 : Instr), 3)), (8, ((.iconst 1 : Instr), 1)), (9, ((.goto 4 : Instr), 3)), (12, ((.iconst 0 : Instr), 1)), (13, ((.aload_n 0 : Instr), 1)), (14, ((.getfield 26 : Instr), 3)), (17, ((.if_icmp .ne 7 : Instr), 3)), (20, ((.iconst 1 : Instr), 1)), (21, ((.goto 4 : Instr), 3)), (24, ((.iconst 0 : Instr), 1)), (25, ((.ireturn : Instr), 1))])]
/-- ChaffInTheWind$Pass.holds(I)Z -/
def z_meth_155 : z_Mr := (⟨"ChaffInTheWind$Pass", "holds", "(I)Z"⟩, prog_7_method_4_code, (2, 2, 0, 0), some .boolean, none, 9, 13, z_code_155, (1, 1003, 23, 1002, 100086))
def z_code_156 : z_bm (Instr × Nat) := [(23, [(0, ((.aload_n 0 : Instr), 1)), (1, ((.iload_n 1 : Instr), 1)), (2, ((.iload_n 2 : Instr), 1)), (3, ((.iload_n 3 : Instr), 1)), (4, ((.invokevirtual 414 : Instr), 3)), (7, ((.ifCond .ne 5 : Instr), 3)), (10, ((.iconst (-1) : Instr), 1)), (11, ((.ireturn : Instr), 1)), (12, ((.aload_n 0 : Instr), 1)), (13, ((.aload_n 0 : Instr), 1)), (14, ((.getfield 33 : Instr), 3)), (17, ((.getfield 134 : Instr), 3)), (20, ((.iload_n 1 : Instr), 1)), (21, ((.aaload : Instr), 1)), (22, ((.iload_n 2 : Instr), 1)), (23, ((.iload_n 3 : Instr), 1))]),
  (53, [(24, ((.invokevirtual 418 : Instr), 3)), (27, ((.istore 4 : Instr), 2)), (29, ((.iload 4 : Instr), 2)), (31, ((.iconst (-1) : Instr), 1)), (32, ((.if_icmp .ne 6 : Instr), 3)), (35, ((.bipush (-2) : Instr), 2)), (37, ((.ireturn : Instr), 1)), (38, ((.aload_n 0 : Instr), 1)), (39, ((.getfield 19 : Instr), 3)), (42, ((.iload 4 : Instr), 2)), (44, ((.i2l : Instr), 1)), (45, ((.invokevirtual 222 : Instr), 3)), (48, ((.iload 4 : Instr), 2)), (50, ((.invokestatic 422 : Instr), 3)), (53, ((.ireturn : Instr), 1))])]
/-- ChaffInTheWind.order(III)I -/
def z_meth_156 : z_Mr := (⟨"ChaffInTheWind", "order", "(III)I"⟩, prog_1_method_62_code, (5, 4, 0, 0), some .int, none, 0, 0, z_code_156, (1, 1007, 1, 1005, 1006))
def z_code_157 : z_bm (Instr × Nat) := [(31, [(0, ((.iload_n 1 : Instr), 1)), (1, ((.invokestatic 180 : Instr), 3)), (4, ((.ifCond .eq 37 : Instr), 3)), (7, ((.iload_n 2 : Instr), 1)), (8, ((.invokestatic 447 : Instr), 3)), (11, ((.ifCond .eq 30 : Instr), 3)), (14, ((.iload_n 3 : Instr), 1)), (15, ((.invokestatic 447 : Instr), 3)), (18, ((.ifCond .eq 23 : Instr), 3)), (21, ((.aload_n 0 : Instr), 1)), (22, ((.aload_n 0 : Instr), 1)), (23, ((.getfield 33 : Instr), 3)), (26, ((.getfield 134 : Instr), 3)), (29, ((.iload_n 1 : Instr), 1)), (30, ((.aaload : Instr), 1)), (31, ((.invokevirtual 450 : Instr), 3))]),
  (42, [(34, ((.ifCond .eq 7 : Instr), 3)), (37, ((.iconst 1 : Instr), 1)), (38, ((.goto 4 : Instr), 3)), (41, ((.iconst 0 : Instr), 1)), (42, ((.ireturn : Instr), 1))])]
/-- ChaffInTheWind.canOrder(III)Z -/
def z_meth_157 : z_Mr := (⟨"ChaffInTheWind", "canOrder", "(III)Z"⟩, prog_1_method_67_code, (4, 4, 0, 0), some .boolean, none, 0, 0, z_code_157, (1, 1011, 1, 1010, 100087))
def z_code_158 : z_bm (Instr × Nat) := [(15, [(0, ((.iload_n 0 : Instr), 1)), (1, ((.ifCond .lt 13 : Instr), 3)), (4, ((.iload_n 0 : Instr), 1)), (5, ((.bipush 100 : Instr), 2)), (7, ((.if_icmp .gt 7 : Instr), 3)), (10, ((.iconst 1 : Instr), 1)), (11, ((.goto 4 : Instr), 3)), (14, ((.iconst 0 : Instr), 1)), (15, ((.ireturn : Instr), 1))])]
/-- ChaffInTheWind.isShare(I)Z -/
def z_meth_158 : z_Mr := (⟨"ChaffInTheWind", "isShare", "(I)Z"⟩, prog_1_method_90_code, (1, 1, 0, 0), some .boolean, none, 0, 0, z_code_158, (0, 1014, 1, 1013, 0))
def z_code_159 : z_bm (Instr × Nat) := [(27, [(0, ((.iconst 0 : Instr), 1)), (1, ((.istore_n 2 : Instr), 1)), (2, ((.iload_n 2 : Instr), 1)), (3, ((.aload_n 0 : Instr), 1)), (4, ((.getfield 26 : Instr), 3)), (7, ((.getfield 128 : Instr), 3)), (10, ((.if_icmp .ge 28 : Instr), 3)), (13, ((.aload_n 0 : Instr), 1)), (14, ((.getfield 26 : Instr), 3)), (17, ((.iload_n 2 : Instr), 1)), (18, ((.invokevirtual 301 : Instr), 3)), (21, ((.ifCond .eq 11 : Instr), 3)), (24, ((.aload_n 1 : Instr), 1)), (25, ((.iload_n 2 : Instr), 1)), (26, ((.iaload : Instr), 1)), (27, ((.ifCond .le 5 : Instr), 3))]),
  (39, [(30, ((.iconst 1 : Instr), 1)), (31, ((.ireturn : Instr), 1)), (32, ((.iinc 2 1 : Instr), 3)), (35, ((.goto (-33) : Instr), 3)), (38, ((.iconst 0 : Instr), 1)), (39, ((.ireturn : Instr), 1))])]
/-- ChaffInTheWind.hasCorn([I)Z -/
def z_meth_159 : z_Mr := (⟨"ChaffInTheWind", "hasCorn", "([I)Z"⟩, prog_1_method_68_code, (3, 2, 0, 0), some .boolean, none, 0, 0, z_code_159, (1, 1018, 1, 1017, 100088))
def z_code_160 : z_bm (Instr × Nat) := [(29, [(0, ((.iconst 0 : Instr), 1)), (1, ((.istore 4 : Instr), 2)), (3, ((.iload 4 : Instr), 2)), (5, ((.aload_n 0 : Instr), 1)), (6, ((.getfield 64 : Instr), 3)), (9, ((.if_icmp .ge 27 : Instr), 3)), (12, ((.aload_n 0 : Instr), 1)), (13, ((.getfield 89 : Instr), 3)), (16, ((.iload 4 : Instr), 2)), (18, ((.aload_n 0 : Instr), 1)), (19, ((.aload_n 0 : Instr), 1)), (20, ((.getfield 60 : Instr), 3)), (23, ((.iload 4 : Instr), 2)), (25, ((.aaload : Instr), 1)), (26, ((.invokevirtual 410 : Instr), 3)), (29, ((.iastore : Instr), 1))]),
  (57, [(30, ((.iinc 4 1 : Instr), 3)), (33, ((.goto (-30) : Instr), 3)), (36, ((.iconst (-1) : Instr), 1)), (37, ((.istore 4 : Instr), 2)), (39, ((.iconst 0 : Instr), 1)), (40, ((.istore 5 : Instr), 2)), (42, ((.iload 5 : Instr), 2)), (44, ((.iconst 1 : Instr), 1)), (45, ((.aload_n 0 : Instr), 1)), (46, ((.getfield 64 : Instr), 3)), (49, ((.ishl : Instr), 1)), (50, ((.if_icmp .ge 43 : Instr), 3)), (53, ((.aload_n 0 : Instr), 1)), (54, ((.aload_n 1 : Instr), 1)), (55, ((.iload 5 : Instr), 2)), (57, ((.iload_n 2 : Instr), 1))]),
  (90, [(58, ((.iload_n 3 : Instr), 1)), (59, ((.invokevirtual 427 : Instr), 3)), (62, ((.ifCond .eq 25 : Instr), 3)), (65, ((.iload 4 : Instr), 2)), (67, ((.iconst (-1) : Instr), 1)), (68, ((.if_icmp .eq 15 : Instr), 3)), (71, ((.aload_n 0 : Instr), 1)), (72, ((.aload_n 1 : Instr), 1)), (73, ((.iload 5 : Instr), 2)), (75, ((.iload 4 : Instr), 2)), (77, ((.invokevirtual 454 : Instr), 3)), (80, ((.ifCond .eq 7 : Instr), 3)), (83, ((.iload 5 : Instr), 2)), (85, ((.istore 4 : Instr), 2)), (87, ((.iinc 5 1 : Instr), 3)), (90, ((.goto (-48) : Instr), 3))]),
  (95, [(93, ((.iload 4 : Instr), 2)), (95, ((.ireturn : Instr), 1))])]
/-- ChaffInTheWind.fewestPasses([III)I -/
def z_meth_160 : z_Mr := (⟨"ChaffInTheWind", "fewestPasses", "([III)I"⟩, prog_1_method_69_code, (6, 4, 0, 0), some .int, none, 0, 0, z_code_160, (1, 1022, 1, 1021, 100089))
def z_code_161 : z_bm (Instr × Nat) := [(25, [(0, ((.aload_n 0 : Instr), 1)), (1, ((.iload_n 2 : Instr), 1)), (2, ((.invokevirtual 461 : Instr), 3)), (5, ((.istore 5 : Instr), 2)), (7, ((.lconst 0 : Instr), 1)), (8, ((.lstore 6 : Instr), 2)), (10, ((.lconst 0 : Instr), 1)), (11, ((.lstore 8 : Instr), 2)), (13, ((.lconst 0 : Instr), 1)), (14, ((.lstore 10 : Instr), 2)), (16, ((.iconst 0 : Instr), 1)), (17, ((.istore 12 : Instr), 2)), (19, ((.iload 12 : Instr), 2)), (21, ((.aload_n 0 : Instr), 1)), (22, ((.getfield 26 : Instr), 3)), (25, ((.getfield 128 : Instr), 3))]),
  (54, [(28, ((.if_icmp .ge 80 : Instr), 3)), (31, ((.aload_n 1 : Instr), 1)), (32, ((.iload 12 : Instr), 2)), (34, ((.iaload : Instr), 1)), (35, ((.i2l : Instr), 1)), (36, ((.aload_n 0 : Instr), 1)), (37, ((.getfield 26 : Instr), 3)), (40, ((.getfield 171 : Instr), 3)), (43, ((.iload 12 : Instr), 2)), (45, ((.iaload : Instr), 1)), (46, ((.i2l : Instr), 1)), (47, ((.lmul : Instr), 1)), (48, ((.lstore 13 : Instr), 2)), (50, ((.iload 5 : Instr), 2)), (52, ((.iload 12 : Instr), 2)), (54, ((.ishr : Instr), 1))]),
  (82, [(55, ((.iconst 1 : Instr), 1)), (56, ((.iand : Instr), 1)), (57, ((.iconst 1 : Instr), 1)), (58, ((.if_icmp .ne 8 : Instr), 3)), (61, ((.lload 13 : Instr), 2)), (63, ((.goto 4 : Instr), 3)), (66, ((.lconst 0 : Instr), 1)), (67, ((.lstore 15 : Instr), 2)), (69, ((.lload 10 : Instr), 2)), (71, ((.lload 15 : Instr), 2)), (73, ((.ladd : Instr), 1)), (74, ((.lstore 10 : Instr), 2)), (76, ((.aload_n 0 : Instr), 1)), (77, ((.getfield 26 : Instr), 3)), (80, ((.iload 12 : Instr), 2)), (82, ((.invokevirtual 301 : Instr), 3))]),
  (115, [(85, ((.ifCond .eq 17 : Instr), 3)), (88, ((.lload 6 : Instr), 2)), (90, ((.lload 13 : Instr), 2)), (92, ((.ladd : Instr), 1)), (93, ((.lstore 6 : Instr), 2)), (95, ((.lload 8 : Instr), 2)), (97, ((.lload 15 : Instr), 2)), (99, ((.ladd : Instr), 1)), (100, ((.lstore 8 : Instr), 2)), (102, ((.iinc 12 1 : Instr), 3)), (105, ((.goto (-86) : Instr), 3)), (108, ((.ldc2_w 464 : Instr), 3)), (111, ((.lload 8 : Instr), 2)), (113, ((.lmul : Instr), 1)), (114, ((.iload_n 3 : Instr), 1)), (115, ((.i2l : Instr), 1))]),
  (143, [(116, ((.lload 10 : Instr), 2)), (118, ((.lmul : Instr), 1)), (119, ((.lcmp : Instr), 1)), (120, ((.ifCond .lt 23 : Instr), 3)), (123, ((.ldc2_w 464 : Instr), 3)), (126, ((.lload 8 : Instr), 2)), (128, ((.lmul : Instr), 1)), (129, ((.iload 4 : Instr), 2)), (131, ((.i2l : Instr), 1)), (132, ((.lload 6 : Instr), 2)), (134, ((.lmul : Instr), 1)), (135, ((.lcmp : Instr), 1)), (136, ((.ifCond .lt 7 : Instr), 3)), (139, ((.iconst 1 : Instr), 1)), (140, ((.goto 4 : Instr), 3)), (143, ((.iconst 0 : Instr), 1))]),
  (144, [(144, ((.ireturn : Instr), 1))])]
/-- ChaffInTheWind.does([IIII)Z -/
def z_meth_161 : z_Mr := (⟨"ChaffInTheWind", "does", "([IIII)Z"⟩, prog_1_method_73_code, (17, 5, 0, 0), some .boolean, none, 0, 0, z_code_161, (1, 1026, 1, 1025, 100090))
def z_code_162 : z_bm (Instr × Nat) := [(23, [(0, ((.iconst 1 : Instr), 1)), (1, ((.aload_n 0 : Instr), 1)), (2, ((.getfield 26 : Instr), 3)), (5, ((.getfield 128 : Instr), 3)), (8, ((.ishl : Instr), 1)), (9, ((.iconst 1 : Instr), 1)), (10, ((.isub : Instr), 1)), (11, ((.istore_n 2 : Instr), 1)), (12, ((.iconst 0 : Instr), 1)), (13, ((.istore_n 3 : Instr), 1)), (14, ((.iload_n 3 : Instr), 1)), (15, ((.aload_n 0 : Instr), 1)), (16, ((.getfield 64 : Instr), 3)), (19, ((.if_icmp .ge 27 : Instr), 3)), (22, ((.iload_n 1 : Instr), 1)), (23, ((.iload_n 3 : Instr), 1))]),
  (47, [(24, ((.ishr : Instr), 1)), (25, ((.iconst 1 : Instr), 1)), (26, ((.iand : Instr), 1)), (27, ((.iconst 1 : Instr), 1)), (28, ((.if_icmp .ne 12 : Instr), 3)), (31, ((.iload_n 2 : Instr), 1)), (32, ((.aload_n 0 : Instr), 1)), (33, ((.getfield 89 : Instr), 3)), (36, ((.iload_n 3 : Instr), 1)), (37, ((.iaload : Instr), 1)), (38, ((.iand : Instr), 1)), (39, ((.istore_n 2 : Instr), 1)), (40, ((.iinc 3 1 : Instr), 3)), (43, ((.goto (-29) : Instr), 3)), (46, ((.iload_n 2 : Instr), 1)), (47, ((.ireturn : Instr), 1))])]
/-- ChaffInTheWind.sortsLeft(I)I -/
def z_meth_162 : z_Mr := (⟨"ChaffInTheWind", "sortsLeft", "(I)I"⟩, prog_1_method_71_code, (4, 2, 0, 0), some .int, none, 0, 0, z_code_162, (1, 1030, 1, 1029, 100091))
def z_code_163 : z_bm (Instr × Nat) := [(28, [(0, ((.iload_n 3 : Instr), 1)), (1, ((.invokestatic 422 : Instr), 3)), (4, ((.iload_n 2 : Instr), 1)), (5, ((.invokestatic 422 : Instr), 3)), (8, ((.isub : Instr), 1)), (9, ((.istore 4 : Instr), 2)), (11, ((.iload 4 : Instr), 2)), (13, ((.ifCond .gt 23 : Instr), 3)), (16, ((.iload 4 : Instr), 2)), (18, ((.ifCond .ne 22 : Instr), 3)), (21, ((.aload_n 0 : Instr), 1)), (22, ((.aload_n 1 : Instr), 1)), (23, ((.iload_n 2 : Instr), 1)), (24, ((.invokevirtual 458 : Instr), 3)), (27, ((.aload_n 0 : Instr), 1)), (28, ((.aload_n 1 : Instr), 1))]),
  (41, [(29, ((.iload_n 3 : Instr), 1)), (30, ((.invokevirtual 458 : Instr), 3)), (33, ((.if_icmp .le 7 : Instr), 3)), (36, ((.iconst 1 : Instr), 1)), (37, ((.goto 4 : Instr), 3)), (40, ((.iconst 0 : Instr), 1)), (41, ((.ireturn : Instr), 1))])]
/-- ChaffInTheWind.isBetter([III)Z -/
def z_meth_163 : z_Mr := (⟨"ChaffInTheWind", "isBetter", "([III)Z"⟩, prog_1_method_70_code, (5, 4, 0, 0), some .boolean, none, 0, 0, z_code_163, (1, 1035, 1, 1034, 100092))
def z_code_164 : z_bm (Instr × Nat) := [(21, [(0, ((.iload_n 0 : Instr), 1)), (1, ((.iload_n 0 : Instr), 1)), (2, ((.iconst 1 : Instr), 1)), (3, ((.iushr : Instr), 1)), (4, ((.ldc_w 265 : Instr), 3)), (7, ((.iand : Instr), 1)), (8, ((.isub : Instr), 1)), (9, ((.istore_n 0 : Instr), 1)), (10, ((.iload_n 0 : Instr), 1)), (11, ((.ldc_w 266 : Instr), 3)), (14, ((.iand : Instr), 1)), (15, ((.iload_n 0 : Instr), 1)), (16, ((.iconst 2 : Instr), 1)), (17, ((.iushr : Instr), 1)), (18, ((.ldc_w 266 : Instr), 3)), (21, ((.iand : Instr), 1))]),
  (40, [(22, ((.iadd : Instr), 1)), (23, ((.istore_n 0 : Instr), 1)), (24, ((.iload_n 0 : Instr), 1)), (25, ((.iload_n 0 : Instr), 1)), (26, ((.iconst 4 : Instr), 1)), (27, ((.iushr : Instr), 1)), (28, ((.iadd : Instr), 1)), (29, ((.ldc_w 267 : Instr), 3)), (32, ((.iand : Instr), 1)), (33, ((.istore_n 0 : Instr), 1)), (34, ((.iload_n 0 : Instr), 1)), (35, ((.iload_n 0 : Instr), 1)), (36, ((.bipush 8 : Instr), 2)), (38, ((.iushr : Instr), 1)), (39, ((.iadd : Instr), 1)), (40, ((.istore_n 0 : Instr), 1))]),
  (52, [(41, ((.iload_n 0 : Instr), 1)), (42, ((.iload_n 0 : Instr), 1)), (43, ((.bipush 16 : Instr), 2)), (45, ((.iushr : Instr), 1)), (46, ((.iadd : Instr), 1)), (47, ((.istore_n 0 : Instr), 1)), (48, ((.iload_n 0 : Instr), 1)), (49, ((.bipush 63 : Instr), 2)), (51, ((.iand : Instr), 1)), (52, ((.ireturn : Instr), 1))])]
/-- java/lang/Integer.bitCount(I)I -/
def z_meth_164 : z_Mr := (⟨"java/lang/Integer", "bitCount", "(I)I"⟩, prog_18_method_49_code, (1, 1, 0, 0), some .int, none, 0, 14, z_code_164, (0, 1038, 24, 1037, 0))
def z_code_165 : z_bm (Instr × Nat) := [(27, [(0, ((.aload_n 0 : Instr), 1)), (1, ((.iload_n 2 : Instr), 1)), (2, ((.invokevirtual 461 : Instr), 3)), (5, ((.istore_n 3 : Instr), 1)), (6, ((.iconst 0 : Instr), 1)), (7, ((.istore 4 : Instr), 2)), (9, ((.iconst 0 : Instr), 1)), (10, ((.istore 5 : Instr), 2)), (12, ((.iload 5 : Instr), 2)), (14, ((.aload_n 0 : Instr), 1)), (15, ((.getfield 26 : Instr), 3)), (18, ((.getfield 128 : Instr), 3)), (21, ((.if_icmp .ge 28 : Instr), 3)), (24, ((.iload_n 3 : Instr), 1)), (25, ((.iload 5 : Instr), 2)), (27, ((.ishr : Instr), 1))]),
  (51, [(28, ((.iconst 1 : Instr), 1)), (29, ((.iand : Instr), 1)), (30, ((.iconst 1 : Instr), 1)), (31, ((.if_icmp .ne 12 : Instr), 3)), (34, ((.iload 4 : Instr), 2)), (36, ((.aload_n 1 : Instr), 1)), (37, ((.iload 5 : Instr), 2)), (39, ((.iaload : Instr), 1)), (40, ((.iadd : Instr), 1)), (41, ((.istore 4 : Instr), 2)), (43, ((.iinc 5 1 : Instr), 3)), (46, ((.goto (-34) : Instr), 3)), (49, ((.iload 4 : Instr), 2)), (51, ((.ireturn : Instr), 1))])]
/-- ChaffInTheWind.grainsLeft([II)I -/
def z_meth_165 : z_Mr := (⟨"ChaffInTheWind", "grainsLeft", "([II)I"⟩, prog_1_method_72_code, (6, 3, 0, 0), some .int, none, 0, 0, z_code_165, (1, 1045, 1, 1044, 100093))
def z_code_166 : z_bm (Instr × Nat) := [(24, [(0, ((.aload_n 0 : Instr), 1)), (1, ((.iload_n 1 : Instr), 1)), (2, ((.iload_n 2 : Instr), 1)), (3, ((.iload_n 3 : Instr), 1)), (4, ((.invokevirtual 414 : Instr), 3)), (7, ((.ifCond .ne 5 : Instr), 3)), (10, ((.iconst (-1) : Instr), 1)), (11, ((.ireturn : Instr), 1)), (12, ((.aload_n 0 : Instr), 1)), (13, ((.getfield 33 : Instr), 3)), (16, ((.getfield 134 : Instr), 3)), (19, ((.iload_n 1 : Instr), 1)), (20, ((.aaload : Instr), 1)), (21, ((.astore 4 : Instr), 2)), (23, ((.aload_n 0 : Instr), 1)), (24, ((.aload 4 : Instr), 2))]),
  (51, [(26, ((.iload_n 2 : Instr), 1)), (27, ((.iload_n 3 : Instr), 1)), (28, ((.invokevirtual 418 : Instr), 3)), (31, ((.istore 5 : Instr), 2)), (33, ((.iload 5 : Instr), 2)), (35, ((.iconst (-1) : Instr), 1)), (36, ((.if_icmp .ne 6 : Instr), 3)), (39, ((.bipush (-2) : Instr), 2)), (41, ((.ireturn : Instr), 1)), (42, ((.iconst 0 : Instr), 1)), (43, ((.istore 6 : Instr), 2)), (45, ((.iconst 0 : Instr), 1)), (46, ((.istore 7 : Instr), 2)), (48, ((.iload 7 : Instr), 2)), (50, ((.aload_n 0 : Instr), 1)), (51, ((.getfield 64 : Instr), 3))]),
  (78, [(54, ((.if_icmp .ge 49 : Instr), 3)), (57, ((.iload 5 : Instr), 2)), (59, ((.iload 7 : Instr), 2)), (61, ((.ishr : Instr), 1)), (62, ((.iconst 1 : Instr), 1)), (63, ((.iand : Instr), 1)), (64, ((.iconst 1 : Instr), 1)), (65, ((.if_icmp .ne 32 : Instr), 3)), (68, ((.aload_n 0 : Instr), 1)), (69, ((.aload 4 : Instr), 2)), (71, ((.iload 5 : Instr), 2)), (73, ((.iconst 1 : Instr), 1)), (74, ((.iload 7 : Instr), 2)), (76, ((.ishl : Instr), 1)), (77, ((.iconst (-1) : Instr), 1)), (78, ((.ixor : Instr), 1))]),
  (105, [(79, ((.iand : Instr), 1)), (80, ((.iload_n 2 : Instr), 1)), (81, ((.iload_n 3 : Instr), 1)), (82, ((.invokevirtual 427 : Instr), 3)), (85, ((.ifCond .ne 12 : Instr), 3)), (88, ((.iload 6 : Instr), 2)), (90, ((.iconst 1 : Instr), 1)), (91, ((.iload 7 : Instr), 2)), (93, ((.ishl : Instr), 1)), (94, ((.ior : Instr), 1)), (95, ((.istore 6 : Instr), 2)), (97, ((.iinc 7 1 : Instr), 3)), (100, ((.goto (-52) : Instr), 3)), (103, ((.iload 6 : Instr), 2)), (105, ((.ireturn : Instr), 1))])]
/-- ChaffInTheWind.needed(III)I -/
def z_meth_166 : z_Mr := (⟨"ChaffInTheWind", "needed", "(III)I"⟩, prog_1_method_63_code, (8, 4, 0, 0), some .int, none, 0, 0, z_code_166, (1, 1049, 1, 1047, 1048))
def z_code_167 : z_bm (Instr × Nat) := [(22, [(0, ((.iload_n 1 : Instr), 1)), (1, ((.invokestatic 180 : Instr), 3)), (4, ((.ifCond .ne 5 : Instr), 3)), (7, ((.iconst (-1) : Instr), 1)), (8, ((.ireturn : Instr), 1)), (9, ((.iconst 0 : Instr), 1)), (10, ((.istore_n 2 : Instr), 1)), (11, ((.iconst 0 : Instr), 1)), (12, ((.istore_n 3 : Instr), 1)), (13, ((.iconst 0 : Instr), 1)), (14, ((.istore 4 : Instr), 2)), (16, ((.iconst 0 : Instr), 1)), (17, ((.istore 5 : Instr), 2)), (19, ((.iload 5 : Instr), 2)), (21, ((.aload_n 0 : Instr), 1)), (22, ((.getfield 26 : Instr), 3))]),
  (56, [(25, ((.getfield 128 : Instr), 3)), (28, ((.if_icmp .ge 109 : Instr), 3)), (31, ((.aload_n 0 : Instr), 1)), (32, ((.getfield 33 : Instr), 3)), (35, ((.getfield 134 : Instr), 3)), (38, ((.iload_n 1 : Instr), 1)), (39, ((.aaload : Instr), 1)), (40, ((.iload 5 : Instr), 2)), (42, ((.iaload : Instr), 1)), (43, ((.istore 6 : Instr), 2)), (45, ((.iload 6 : Instr), 2)), (47, ((.ifCond .le 12 : Instr), 3)), (50, ((.aload_n 0 : Instr), 1)), (51, ((.iload 5 : Instr), 2)), (53, ((.invokevirtual 431 : Instr), 3)), (56, ((.goto 4 : Instr), 3))]),
  (84, [(59, ((.iconst 0 : Instr), 1)), (60, ((.istore 7 : Instr), 2)), (62, ((.aload_n 0 : Instr), 1)), (63, ((.getfield 26 : Instr), 3)), (66, ((.iload 5 : Instr), 2)), (68, ((.invokevirtual 301 : Instr), 3)), (71, ((.ifCond .eq 12 : Instr), 3)), (74, ((.iload_n 3 : Instr), 1)), (75, ((.iload 7 : Instr), 2)), (77, ((.iload 7 : Instr), 2)), (79, ((.ineg : Instr), 1)), (80, ((.iand : Instr), 1)), (81, ((.ior : Instr), 1)), (82, ((.istore_n 3 : Instr), 1)), (83, ((.aload_n 0 : Instr), 1)), (84, ((.getfield 26 : Instr), 3))]),
  (115, [(87, ((.getfield 168 : Instr), 3)), (90, ((.iload 5 : Instr), 2)), (92, ((.iaload : Instr), 1)), (93, ((.iconst 3 : Instr), 1)), (94, ((.if_icmp .ne 37 : Instr), 3)), (97, ((.iload_n 2 : Instr), 1)), (98, ((.iload 7 : Instr), 2)), (100, ((.invokestatic 422 : Instr), 3)), (103, ((.iconst 1 : Instr), 1)), (104, ((.if_icmp .ne 8 : Instr), 3)), (107, ((.iload 7 : Instr), 2)), (109, ((.goto 4 : Instr), 3)), (112, ((.iconst 0 : Instr), 1)), (113, ((.ior : Instr), 1)), (114, ((.istore_n 2 : Instr), 1)), (115, ((.iload 4 : Instr), 2))]),
  (147, [(117, ((.iload 7 : Instr), 2)), (119, ((.ifCond .ne 8 : Instr), 3)), (122, ((.iload 6 : Instr), 2)), (124, ((.goto 4 : Instr), 3)), (127, ((.iconst 0 : Instr), 1)), (128, ((.iadd : Instr), 1)), (129, ((.istore 4 : Instr), 2)), (131, ((.iinc 5 1 : Instr), 3)), (134, ((.goto (-115) : Instr), 3)), (137, ((.aload_n 0 : Instr), 1)), (138, ((.getfield 19 : Instr), 3)), (141, ((.iload_n 3 : Instr), 1)), (142, ((.i2l : Instr), 1)), (143, ((.invokevirtual 222 : Instr), 3)), (146, ((.aload_n 0 : Instr), 1)), (147, ((.getfield 19 : Instr), 3))]),
  (157, [(150, ((.iload 4 : Instr), 2)), (152, ((.i2l : Instr), 1)), (153, ((.invokevirtual 229 : Instr), 3)), (156, ((.iload_n 2 : Instr), 1)), (157, ((.ireturn : Instr), 1))])]
/-- ChaffInTheWind.strokes(I)I -/
def z_meth_167 : z_Mr := (⟨"ChaffInTheWind", "strokes", "(I)I"⟩, prog_1_method_64_code, (8, 2, 0, 0), some .int, none, 0, 0, z_code_167, (1, 1053, 1, 1051, 1052))
def z_code_168 : z_bm (Instr × Nat) := [(26, [(0, ((.iconst 0 : Instr), 1)), (1, ((.istore_n 2 : Instr), 1)), (2, ((.iconst 1 : Instr), 1)), (3, ((.istore_n 3 : Instr), 1)), (4, ((.iload_n 3 : Instr), 1)), (5, ((.bipush 9 : Instr), 2)), (7, ((.if_icmp .gt 33 : Instr), 3)), (10, ((.aload_n 0 : Instr), 1)), (11, ((.getfield 54 : Instr), 3)), (14, ((.aload_n 0 : Instr), 1)), (15, ((.getfield 26 : Instr), 3)), (18, ((.iload_n 1 : Instr), 1)), (19, ((.iload_n 3 : Instr), 1)), (20, ((.invokevirtual 270 : Instr), 3)), (23, ((.ifCond .eq 11 : Instr), 3)), (26, ((.iload_n 2 : Instr), 1))]),
  (41, [(27, ((.iconst 1 : Instr), 1)), (28, ((.iload_n 3 : Instr), 1)), (29, ((.iconst 1 : Instr), 1)), (30, ((.isub : Instr), 1)), (31, ((.ishl : Instr), 1)), (32, ((.ior : Instr), 1)), (33, ((.istore_n 2 : Instr), 1)), (34, ((.iinc 3 1 : Instr), 3)), (37, ((.goto (-33) : Instr), 3)), (40, ((.iload_n 2 : Instr), 1)), (41, ((.ireturn : Instr), 1))])]
/-- ChaffInTheWind.strokesFlinging(I)I -/
def z_meth_168 : z_Mr := (⟨"ChaffInTheWind", "strokesFlinging", "(I)I"⟩, prog_1_method_74_code, (4, 2, 0, 0), some .int, none, 0, 0, z_code_168, (1, 1057, 1, 1056, 100094))
def z_code_169 : z_bm (Instr × Nat) := [(25, [(0, ((.iload_n 1 : Instr), 1)), (1, ((.iconst 1 : Instr), 1)), (2, ((.if_icmp .lt 16 : Instr), 3)), (5, ((.iload_n 1 : Instr), 1)), (6, ((.iconst 1 : Instr), 1)), (7, ((.aload_n 0 : Instr), 1)), (8, ((.getfield 26 : Instr), 3)), (11, ((.getfield 128 : Instr), 3)), (14, ((.ishl : Instr), 1)), (15, ((.if_icmp .lt 5 : Instr), 3)), (18, ((.iconst (-1) : Instr), 1)), (19, ((.ireturn : Instr), 1)), (20, ((.iconst 1 : Instr), 1)), (21, ((.aload_n 0 : Instr), 1)), (22, ((.getfield 26 : Instr), 3)), (25, ((.getfield 128 : Instr), 3))]),
  (50, [(28, ((.ishl : Instr), 1)), (29, ((.iconst 1 : Instr), 1)), (30, ((.isub : Instr), 1)), (31, ((.istore_n 2 : Instr), 1)), (32, ((.iconst (-1) : Instr), 1)), (33, ((.istore_n 3 : Instr), 1)), (34, ((.iconst 0 : Instr), 1)), (35, ((.istore 4 : Instr), 2)), (37, ((.iconst 0 : Instr), 1)), (38, ((.istore 5 : Instr), 2)), (40, ((.iload 5 : Instr), 2)), (42, ((.aload_n 0 : Instr), 1)), (43, ((.getfield 64 : Instr), 3)), (46, ((.if_icmp .ge 50 : Instr), 3)), (49, ((.iload_n 1 : Instr), 1)), (50, ((.iload_n 2 : Instr), 1))]),
  (76, [(51, ((.aload_n 0 : Instr), 1)), (52, ((.aload_n 0 : Instr), 1)), (53, ((.getfield 60 : Instr), 3)), (56, ((.iload 5 : Instr), 2)), (58, ((.aaload : Instr), 1)), (59, ((.invokevirtual 410 : Instr), 3)), (62, ((.iconst (-1) : Instr), 1)), (63, ((.ixor : Instr), 1)), (64, ((.iand : Instr), 1)), (65, ((.ixor : Instr), 1)), (66, ((.invokestatic 422 : Instr), 3)), (69, ((.istore 6 : Instr), 2)), (71, ((.iload_n 3 : Instr), 1)), (72, ((.iconst (-1) : Instr), 1)), (73, ((.if_icmp .eq 10 : Instr), 3)), (76, ((.iload 6 : Instr), 2))]),
  (108, [(78, ((.iload 4 : Instr), 2)), (80, ((.if_icmp .ge 10 : Instr), 3)), (83, ((.iload 5 : Instr), 2)), (85, ((.istore_n 3 : Instr), 1)), (86, ((.iload 6 : Instr), 2)), (88, ((.istore 4 : Instr), 2)), (90, ((.iinc 5 1 : Instr), 3)), (93, ((.goto (-53) : Instr), 3)), (96, ((.iload_n 3 : Instr), 1)), (97, ((.iconst (-1) : Instr), 1)), (98, ((.if_icmp .ne 6 : Instr), 3)), (101, ((.bipush (-2) : Instr), 2)), (103, ((.ireturn : Instr), 1)), (104, ((.aload_n 0 : Instr), 1)), (105, ((.getfield 19 : Instr), 3)), (108, ((.iload 4 : Instr), 2))]),
  (115, [(110, ((.i2l : Instr), 1)), (111, ((.invokevirtual 222 : Instr), 3)), (114, ((.iload_n 3 : Instr), 1)), (115, ((.ireturn : Instr), 1))])]
/-- ChaffInTheWind.find(I)I -/
def z_meth_169 : z_Mr := (⟨"ChaffInTheWind", "find", "(I)I"⟩, prog_1_method_65_code, (7, 2, 0, 0), some .int, none, 0, 0, z_code_169, (1, 1061, 1, 1059, 1060))
def z_code_170 : z_bm (Instr × Nat) := [(29, [(0, ((.iload_n 1 : Instr), 1)), (1, ((.iconst 1 : Instr), 1)), (2, ((.if_icmp .lt 34 : Instr), 3)), (5, ((.iload_n 1 : Instr), 1)), (6, ((.bipush 10 : Instr), 2)), (8, ((.if_icmp .gt 28 : Instr), 3)), (11, ((.iload_n 2 : Instr), 1)), (12, ((.ifCond .lt 24 : Instr), 3)), (15, ((.iload_n 2 : Instr), 1)), (16, ((.bipush 10 : Instr), 2)), (18, ((.if_icmp .gt 18 : Instr), 3)), (21, ((.iload_n 3 : Instr), 1)), (22, ((.ifCond .lt 14 : Instr), 3)), (25, ((.iload_n 3 : Instr), 1)), (26, ((.sipush 999 : Instr), 3)), (29, ((.if_icmp .gt 7 : Instr), 3))]),
  (64, [(32, ((.iconst 1 : Instr), 1)), (33, ((.goto 4 : Instr), 3)), (36, ((.iconst 0 : Instr), 1)), (37, ((.istore 6 : Instr), 2)), (39, ((.iload 6 : Instr), 2)), (41, ((.ifCond .eq 26 : Instr), 3)), (44, ((.iload 4 : Instr), 2)), (46, ((.ifCond .lt 21 : Instr), 3)), (49, ((.iload 4 : Instr), 2)), (51, ((.iload_n 3 : Instr), 1)), (52, ((.if_icmp .gt 15 : Instr), 3)), (55, ((.iload 5 : Instr), 2)), (57, ((.ifCond .lt 10 : Instr), 3)), (60, ((.iload 5 : Instr), 2)), (62, ((.bipush 99 : Instr), 2)), (64, ((.if_icmp .le 5 : Instr), 3))]),
  (85, [(67, ((.iconst (-1) : Instr), 1)), (68, ((.ireturn : Instr), 1)), (69, ((.iload_n 2 : Instr), 1)), (70, ((.i2l : Instr), 1)), (71, ((.iload_n 3 : Instr), 1)), (72, ((.i2l : Instr), 1)), (73, ((.lmul : Instr), 1)), (74, ((.bipush 10 : Instr), 2)), (76, ((.iload_n 2 : Instr), 1)), (77, ((.isub : Instr), 1)), (78, ((.iload 4 : Instr), 2)), (80, ((.imul : Instr), 1)), (81, ((.i2l : Instr), 1)), (82, ((.ladd : Instr), 1)), (83, ((.lstore 7 : Instr), 2)), (85, ((.ldc2_w 466 : Instr), 3))]),
  (113, [(88, ((.lstore 9 : Instr), 2)), (90, ((.iconst 0 : Instr), 1)), (91, ((.istore 11 : Instr), 2)), (93, ((.iconst 2 : Instr), 1)), (94, ((.istore 12 : Instr), 2)), (96, ((.iload 12 : Instr), 2)), (98, ((.iload_n 1 : Instr), 1)), (99, ((.if_icmp .gt 76 : Instr), 3)), (102, ((.lload 7 : Instr), 2)), (104, ((.iload 5 : Instr), 2)), (106, ((.i2l : Instr), 1)), (107, ((.lload 9 : Instr), 2)), (109, ((.lmul : Instr), 1)), (110, ((.lsub : Instr), 1)), (111, ((.lstore 13 : Instr), 2)), (113, ((.lload 13 : Instr), 2))]),
  (140, [(115, ((.iload 4 : Instr), 2)), (117, ((.i2l : Instr), 1)), (118, ((.lload 9 : Instr), 2)), (120, ((.lmul : Instr), 1)), (121, ((.lcmp : Instr), 1)), (122, ((.ifCond .le 6 : Instr), 3)), (125, ((.iinc 11 1 : Instr), 3)), (128, ((.iload_n 2 : Instr), 1)), (129, ((.i2l : Instr), 1)), (130, ((.iload_n 3 : Instr), 1)), (131, ((.i2l : Instr), 1)), (132, ((.lload 9 : Instr), 2)), (134, ((.lmul : Instr), 1)), (135, ((.lload 13 : Instr), 2)), (137, ((.invokestatic 468 : Instr), 3)), (140, ((.lmul : Instr), 1))]),
  (166, [(141, ((.bipush 10 : Instr), 2)), (143, ((.iload_n 2 : Instr), 1)), (144, ((.isub : Instr), 1)), (145, ((.i2l : Instr), 1)), (146, ((.iload 4 : Instr), 2)), (148, ((.i2l : Instr), 1)), (149, ((.lload 9 : Instr), 2)), (151, ((.lmul : Instr), 1)), (152, ((.lload 13 : Instr), 2)), (154, ((.invokestatic 468 : Instr), 3)), (157, ((.lmul : Instr), 1)), (158, ((.ladd : Instr), 1)), (159, ((.lstore 7 : Instr), 2)), (161, ((.lload 9 : Instr), 2)), (163, ((.ldc2_w 466 : Instr), 3)), (166, ((.lmul : Instr), 1))]),
  (195, [(167, ((.lstore 9 : Instr), 2)), (169, ((.iinc 12 1 : Instr), 3)), (172, ((.goto (-76) : Instr), 3)), (175, ((.aload_n 0 : Instr), 1)), (176, ((.getfield 19 : Instr), 3)), (179, ((.lload 7 : Instr), 2)), (181, ((.invokevirtual 222 : Instr), 3)), (184, ((.aload_n 0 : Instr), 1)), (185, ((.getfield 19 : Instr), 3)), (188, ((.iload 11 : Instr), 2)), (190, ((.i2l : Instr), 1)), (191, ((.invokevirtual 229 : Instr), 3)), (194, ((.iconst 0 : Instr), 1)), (195, ((.ireturn : Instr), 1))])]
/-- ChaffInTheWind.await(IIIII)I -/
def z_meth_170 : z_Mr := (⟨"ChaffInTheWind", "await", "(IIIII)I"⟩, prog_1_method_75_code, (15, 6, 0, 0), some .int, none, 0, 0, z_code_170, (1, 1065, 1, 1063, 1064))
def z_code_171 : z_bm (Instr × Nat) := [(11, [(0, ((.lload_n 0 : Instr), 1)), (1, ((.lload_n 2 : Instr), 1)), (2, ((.lcmp : Instr), 1)), (3, ((.ifCond .lt 7 : Instr), 3)), (6, ((.lload_n 0 : Instr), 1)), (7, ((.goto 4 : Instr), 3)), (10, ((.lload_n 2 : Instr), 1)), (11, ((.lreturn : Instr), 1))])]
/-- java/lang/Math.max(JJ)J -/
def z_meth_171 : z_Mr := (⟨"java/lang/Math", "max", "(JJ)J"⟩, prog_19_method_66_code, (4, 2, 0, 0), some .long, none, 0, 9, z_code_171, (0, 1069, 11, 1068, 0))
def z_code_172 : z_bm (Instr × Nat) := [(25, [(0, ((.iload_n 1 : Instr), 1)), (1, ((.invokestatic 180 : Instr), 3)), (4, ((.ifCond .ne 5 : Instr), 3)), (7, ((.iconst (-1) : Instr), 1)), (8, ((.ireturn : Instr), 1)), (9, ((.aload_n 0 : Instr), 1)), (10, ((.getfield 33 : Instr), 3)), (13, ((.getfield 134 : Instr), 3)), (16, ((.iload_n 1 : Instr), 1)), (17, ((.aaload : Instr), 1)), (18, ((.astore_n 2 : Instr), 1)), (19, ((.aload_n 2 : Instr), 1)), (20, ((.invokestatic 199 : Instr), 3)), (23, ((.istore_n 3 : Instr), 1)), (24, ((.iload_n 3 : Instr), 1)), (25, ((.bipush 10 : Instr), 2))]),
  (51, [(27, ((.idiv : Instr), 1)), (28, ((.iload_n 3 : Instr), 1)), (29, ((.bipush 10 : Instr), 2)), (31, ((.irem : Instr), 1)), (32, ((.ifCond .le 7 : Instr), 3)), (35, ((.iconst 1 : Instr), 1)), (36, ((.goto 4 : Instr), 3)), (39, ((.iconst 0 : Instr), 1)), (40, ((.iadd : Instr), 1)), (41, ((.istore 4 : Instr), 2)), (43, ((.aload_n 0 : Instr), 1)), (44, ((.aload_n 2 : Instr), 1)), (45, ((.iload 4 : Instr), 2)), (47, ((.iconst 1 : Instr), 1)), (48, ((.invokevirtual 386 : Instr), 3)), (51, ((.lstore 5 : Instr), 2))]),
  (83, [(53, ((.aload_n 0 : Instr), 1)), (54, ((.getfield 19 : Instr), 3)), (57, ((.invokevirtual 300 : Instr), 3)), (60, ((.aload_n 0 : Instr), 1)), (61, ((.lload 5 : Instr), 2)), (63, ((.iload 4 : Instr), 2)), (65, ((.i2l : Instr), 1)), (66, ((.invokevirtual 329 : Instr), 3)), (69, ((.aload_n 0 : Instr), 1)), (70, ((.getfield 19 : Instr), 3)), (73, ((.aload_n 0 : Instr), 1)), (74, ((.getfield 92 : Instr), 3)), (77, ((.i2l : Instr), 1)), (78, ((.invokevirtual 229 : Instr), 3)), (81, ((.iload 4 : Instr), 2)), (83, ((.ireturn : Instr), 1))])]
/-- ChaffInTheWind.heavy(I)I -/
def z_meth_172 : z_Mr := (⟨"ChaffInTheWind", "heavy", "(I)I"⟩, prog_1_method_76_code, (7, 2, 0, 0), some .int, none, 0, 0, z_code_172, (1, 1073, 1, 1071, 1072))
def z_code_173 : z_bm (Instr × Nat) := [(27, [(0, ((.iload_n 1 : Instr), 1)), (1, ((.invokestatic 180 : Instr), 3)), (4, ((.ifCond .eq 13 : Instr), 3)), (7, ((.iload_n 2 : Instr), 1)), (8, ((.iconst 1 : Instr), 1)), (9, ((.if_icmp .lt 8 : Instr), 3)), (12, ((.iload_n 2 : Instr), 1)), (13, ((.iconst 4 : Instr), 1)), (14, ((.if_icmp .le 5 : Instr), 3)), (17, ((.iconst (-1) : Instr), 1)), (18, ((.ireturn : Instr), 1)), (19, ((.aload_n 0 : Instr), 1)), (20, ((.getfield 33 : Instr), 3)), (23, ((.getfield 134 : Instr), 3)), (26, ((.iload_n 1 : Instr), 1)), (27, ((.aaload : Instr), 1))]),
  (57, [(28, ((.invokestatic 199 : Instr), 3)), (31, ((.istore_n 3 : Instr), 1)), (32, ((.iload_n 3 : Instr), 1)), (33, ((.sipush 2000 : Instr), 3)), (36, ((.if_icmp .le 6 : Instr), 3)), (39, ((.bipush (-3) : Instr), 2)), (41, ((.ireturn : Instr), 1)), (42, ((.iload_n 3 : Instr), 1)), (43, ((.iload_n 2 : Instr), 1)), (44, ((.if_icmp .ge 6 : Instr), 3)), (47, ((.bipush (-2) : Instr), 2)), (49, ((.ireturn : Instr), 1)), (50, ((.aload_n 0 : Instr), 1)), (51, ((.getfield 19 : Instr), 3)), (54, ((.invokevirtual 300 : Instr), 3)), (57, ((.aload_n 0 : Instr), 1))]),
  (84, [(58, ((.aload_n 0 : Instr), 1)), (59, ((.aload_n 0 : Instr), 1)), (60, ((.getfield 33 : Instr), 3)), (63, ((.getfield 134 : Instr), 3)), (66, ((.iload_n 1 : Instr), 1)), (67, ((.aaload : Instr), 1)), (68, ((.invokevirtual 472 : Instr), 3)), (71, ((.iload_n 2 : Instr), 1)), (72, ((.invokestatic 475 : Instr), 3)), (75, ((.iload_n 3 : Instr), 1)), (76, ((.iload_n 2 : Instr), 1)), (77, ((.invokestatic 475 : Instr), 3)), (80, ((.invokevirtual 329 : Instr), 3)), (83, ((.iconst 0 : Instr), 1)), (84, ((.ireturn : Instr), 1))])]
/-- ChaffInTheWind.sample(II)I -/
def z_meth_173 : z_Mr := (⟨"ChaffInTheWind", "sample", "(II)I"⟩, prog_1_method_77_code, (4, 3, 0, 0), some .int, none, 0, 0, z_code_173, (1, 1077, 1, 1075, 1076))
def z_code_174 : z_bm (Instr × Nat) := [(27, [(0, ((.iconst 0 : Instr), 1)), (1, ((.istore_n 2 : Instr), 1)), (2, ((.iconst 0 : Instr), 1)), (3, ((.istore_n 3 : Instr), 1)), (4, ((.iload_n 3 : Instr), 1)), (5, ((.aload_n 0 : Instr), 1)), (6, ((.getfield 26 : Instr), 3)), (9, ((.getfield 128 : Instr), 3)), (12, ((.if_icmp .ge 30 : Instr), 3)), (15, ((.iload_n 2 : Instr), 1)), (16, ((.aload_n 0 : Instr), 1)), (17, ((.getfield 26 : Instr), 3)), (20, ((.iload_n 3 : Instr), 1)), (21, ((.invokevirtual 301 : Instr), 3)), (24, ((.ifCond .eq 9 : Instr), 3)), (27, ((.aload_n 1 : Instr), 1))]),
  (43, [(28, ((.iload_n 3 : Instr), 1)), (29, ((.iaload : Instr), 1)), (30, ((.goto 4 : Instr), 3)), (33, ((.iconst 0 : Instr), 1)), (34, ((.iadd : Instr), 1)), (35, ((.istore_n 2 : Instr), 1)), (36, ((.iinc 3 1 : Instr), 3)), (39, ((.goto (-35) : Instr), 3)), (42, ((.iload_n 2 : Instr), 1)), (43, ((.ireturn : Instr), 1))])]
/-- ChaffInTheWind.cornOf([I)I -/
def z_meth_174 : z_Mr := (⟨"ChaffInTheWind", "cornOf", "([I)I"⟩, prog_1_method_79_code, (4, 2, 0, 0), some .int, none, 0, 0, z_code_174, (1, 1081, 1, 1080, 100095))
def z_code_175 : z_bm (Instr × Nat) := [(22, [(0, ((.lconst 1 : Instr), 1)), (1, ((.lstore_n 2 : Instr), 1)), (2, ((.iconst 0 : Instr), 1)), (3, ((.istore 4 : Instr), 2)), (5, ((.iload 4 : Instr), 2)), (7, ((.iload_n 1 : Instr), 1)), (8, ((.if_icmp .ge 21 : Instr), 3)), (11, ((.lload_n 2 : Instr), 1)), (12, ((.iconst 0 : Instr), 1)), (13, ((.iload_n 0 : Instr), 1)), (14, ((.iload 4 : Instr), 2)), (16, ((.isub : Instr), 1)), (17, ((.invokestatic 479 : Instr), 3)), (20, ((.i2l : Instr), 1)), (21, ((.lmul : Instr), 1)), (22, ((.lstore_n 2 : Instr), 1))]),
  (30, [(23, ((.iinc 4 1 : Instr), 3)), (26, ((.goto (-21) : Instr), 3)), (29, ((.lload_n 2 : Instr), 1)), (30, ((.lreturn : Instr), 1))])]
/-- ChaffInTheWind.waysToTake(II)J -/
def z_meth_175 : z_Mr := (⟨"ChaffInTheWind", "waysToTake", "(II)J"⟩, prog_1_method_80_code, (5, 2, 0, 0), some .long, none, 0, 0, z_code_175, (0, 1084, 1, 1083, 0))
def z_code_176 : z_bm (Instr × Nat) := [(28, [(0, ((.iload_n 1 : Instr), 1)), (1, ((.invokestatic 180 : Instr), 3)), (4, ((.ifCond .eq 14 : Instr), 3)), (7, ((.iload_n 2 : Instr), 1)), (8, ((.iconst 1 : Instr), 1)), (9, ((.if_icmp .lt 9 : Instr), 3)), (12, ((.iload_n 2 : Instr), 1)), (13, ((.bipush 100 : Instr), 2)), (15, ((.if_icmp .le 5 : Instr), 3)), (18, ((.iconst (-1) : Instr), 1)), (19, ((.ireturn : Instr), 1)), (20, ((.aload_n 0 : Instr), 1)), (21, ((.getfield 33 : Instr), 3)), (24, ((.getfield 134 : Instr), 3)), (27, ((.iload_n 1 : Instr), 1)), (28, ((.aaload : Instr), 1))]),
  (58, [(29, ((.invokestatic 199 : Instr), 3)), (32, ((.istore_n 3 : Instr), 1)), (33, ((.iload_n 3 : Instr), 1)), (34, ((.sipush 2000 : Instr), 3)), (37, ((.if_icmp .le 6 : Instr), 3)), (40, ((.bipush (-3) : Instr), 2)), (42, ((.ireturn : Instr), 1)), (43, ((.aload_n 0 : Instr), 1)), (44, ((.aload_n 0 : Instr), 1)), (45, ((.getfield 33 : Instr), 3)), (48, ((.getfield 134 : Instr), 3)), (51, ((.iload_n 1 : Instr), 1)), (52, ((.aaload : Instr), 1)), (53, ((.invokevirtual 472 : Instr), 3)), (56, ((.istore 4 : Instr), 2)), (58, ((.iconst 1 : Instr), 1))]),
  (90, [(59, ((.istore 5 : Instr), 2)), (61, ((.iload 5 : Instr), 2)), (63, ((.iconst 4 : Instr), 1)), (64, ((.if_icmp .gt 49 : Instr), 3)), (67, ((.iload 5 : Instr), 2)), (69, ((.iload_n 3 : Instr), 1)), (70, ((.if_icmp .gt 43 : Instr), 3)), (73, ((.iload_n 3 : Instr), 1)), (74, ((.iload 5 : Instr), 2)), (76, ((.invokestatic 475 : Instr), 3)), (79, ((.lstore 6 : Instr), 2)), (81, ((.ldc2_w 464 : Instr), 3)), (84, ((.lload 6 : Instr), 2)), (86, ((.iload 4 : Instr), 2)), (88, ((.iload 5 : Instr), 2)), (90, ((.invokestatic 475 : Instr), 3))]),
  (115, [(93, ((.lsub : Instr), 1)), (94, ((.lmul : Instr), 1)), (95, ((.iload_n 2 : Instr), 1)), (96, ((.i2l : Instr), 1)), (97, ((.lload 6 : Instr), 2)), (99, ((.lmul : Instr), 1)), (100, ((.lcmp : Instr), 1)), (101, ((.ifCond .lt 6 : Instr), 3)), (104, ((.iload 5 : Instr), 2)), (106, ((.ireturn : Instr), 1)), (107, ((.iinc 5 1 : Instr), 3)), (110, ((.goto (-49) : Instr), 3)), (113, ((.bipush (-2) : Instr), 2)), (115, ((.ireturn : Instr), 1))])]
/-- ChaffInTheWind.grains(II)I -/
def z_meth_176 : z_Mr := (⟨"ChaffInTheWind", "grains", "(II)I"⟩, prog_1_method_78_code, (8, 3, 0, 0), some .int, none, 0, 0, z_code_176, (1, 1088, 1, 1086, 1087))
def z_code_177 : z_bm (Instr × Nat) := [(17, [(0, ((.aload_n 0 : Instr), 1)), (1, ((.getfield 33 : Instr), 3)), (4, ((.getfield 481 : Instr), 3)), (7, ((.istore_n 2 : Instr), 1)), (8, ((.aload_n 0 : Instr), 1)), (9, ((.getfield 33 : Instr), 3)), (12, ((.iload_n 1 : Instr), 1)), (13, ((.putfield 481 : Instr), 3)), (16, ((.iload_n 2 : Instr), 1)), (17, ((.ireturn : Instr), 1))])]
/-- ChaffInTheWind.seed(I)I -/
def z_meth_177 : z_Mr := (⟨"ChaffInTheWind", "seed", "(I)I"⟩, prog_1_method_81_code, (3, 2, 0, 0), some .int, none, 0, 0, z_code_177, (1, 1092, 1, 1090, 1091))
def z_code_178 : z_bm (Instr × Nat) := [(25, [(0, ((.iload_n 1 : Instr), 1)), (1, ((.ifCond .lt 8 : Instr), 3)), (4, ((.iload_n 1 : Instr), 1)), (5, ((.iconst 3 : Instr), 1)), (6, ((.if_icmp .lt 5 : Instr), 3)), (9, ((.iconst 0 : Instr), 1)), (10, ((.ireturn : Instr), 1)), (11, ((.aload_n 0 : Instr), 1)), (12, ((.getfield 37 : Instr), 3)), (15, ((.iload_n 1 : Instr), 1)), (16, ((.aaload : Instr), 1)), (17, ((.aload_n 0 : Instr), 1)), (18, ((.getfield 33 : Instr), 3)), (21, ((.invokevirtual 484 : Instr), 3)), (24, ((.aload_n 0 : Instr), 1)), (25, ((.getfield 37 : Instr), 3))]),
  (41, [(28, ((.iload_n 1 : Instr), 1)), (29, ((.aaload : Instr), 1)), (30, ((.aload_n 0 : Instr), 1)), (31, ((.getfield 26 : Instr), 3)), (34, ((.getfield 368 : Instr), 3)), (37, ((.putfield 488 : Instr), 3)), (40, ((.iconst 1 : Instr), 1)), (41, ((.ireturn : Instr), 1))])]
/-- ChaffInTheWind.keep(I)Z -/
def z_meth_178 : z_Mr := (⟨"ChaffInTheWind", "keep", "(I)Z"⟩, prog_1_method_82_code, (2, 2, 0, 0), some .boolean, none, 0, 0, z_code_178, (1, 1096, 1, 1094, 1095))
def z_code_179 : z_bm (Instr × Nat) := [(26, [(0, ((.iconst 0 : Instr), 1)), (1, ((.istore_n 2 : Instr), 1)), (2, ((.iload_n 2 : Instr), 1)), (3, ((.bipush 6 : Instr), 2)), (5, ((.if_icmp .ge 24 : Instr), 3)), (8, ((.aload_n 1 : Instr), 1)), (9, ((.getfield 11 : Instr), 3)), (12, ((.iload_n 2 : Instr), 1)), (13, ((.aaload : Instr), 1)), (14, ((.aload_n 0 : Instr), 1)), (15, ((.getfield 11 : Instr), 3)), (18, ((.iload_n 2 : Instr), 1)), (19, ((.aaload : Instr), 1)), (20, ((.invokestatic 33 : Instr), 3)), (23, ((.iinc 2 1 : Instr), 3)), (26, ((.goto (-24) : Instr), 3))]),
  (55, [(29, ((.iconst 0 : Instr), 1)), (30, ((.istore_n 2 : Instr), 1)), (31, ((.iload_n 2 : Instr), 1)), (32, ((.bipush 24 : Instr), 2)), (34, ((.if_icmp .ge 24 : Instr), 3)), (37, ((.aload_n 1 : Instr), 1)), (38, ((.getfield 16 : Instr), 3)), (41, ((.iload_n 2 : Instr), 1)), (42, ((.aaload : Instr), 1)), (43, ((.aload_n 0 : Instr), 1)), (44, ((.getfield 16 : Instr), 3)), (47, ((.iload_n 2 : Instr), 1)), (48, ((.aaload : Instr), 1)), (49, ((.invokestatic 33 : Instr), 3)), (52, ((.iinc 2 1 : Instr), 3)), (55, ((.goto (-24) : Instr), 3))]),
  (85, [(58, ((.aload_n 1 : Instr), 1)), (59, ((.getfield 19 : Instr), 3)), (62, ((.aload_n 0 : Instr), 1)), (63, ((.getfield 19 : Instr), 3)), (66, ((.invokestatic 33 : Instr), 3)), (69, ((.aload_n 0 : Instr), 1)), (70, ((.aload_n 1 : Instr), 1)), (71, ((.getfield 23 : Instr), 3)), (74, ((.putfield 23 : Instr), 3)), (77, ((.aload_n 0 : Instr), 1)), (78, ((.aload_n 1 : Instr), 1)), (79, ((.getfield 27 : Instr), 3)), (82, ((.putfield 27 : Instr), 3)), (85, ((.return_ : Instr), 1))])]
/-- ChaffInTheWind$Store.copyOf(LChaffInTheWind$Store;)V -/
def z_meth_179 : z_Mr := (⟨"ChaffInTheWind$Store", "copyOf", "(LChaffInTheWind$Store;)V"⟩, prog_10_method_2_code, (3, 2, 0, 0), none, none, 5, 5, z_code_179, (1, 1100, 6, 1099, 100096))
def z_code_180 : z_bm (Instr × Nat) := [(29, [(0, ((.iload_n 1 : Instr), 1)), (1, ((.ifCond .lt 27 : Instr), 3)), (4, ((.iload_n 1 : Instr), 1)), (5, ((.iconst 3 : Instr), 1)), (6, ((.if_icmp .ge 22 : Instr), 3)), (9, ((.aload_n 0 : Instr), 1)), (10, ((.getfield 37 : Instr), 3)), (13, ((.iload_n 1 : Instr), 1)), (14, ((.aaload : Instr), 1)), (15, ((.getfield 488 : Instr), 3)), (18, ((.aload_n 0 : Instr), 1)), (19, ((.getfield 26 : Instr), 3)), (22, ((.getfield 368 : Instr), 3)), (25, ((.if_icmp .eq 5 : Instr), 3)), (28, ((.iconst 0 : Instr), 1)), (29, ((.ireturn : Instr), 1))]),
  (44, [(30, ((.aload_n 0 : Instr), 1)), (31, ((.getfield 33 : Instr), 3)), (34, ((.aload_n 0 : Instr), 1)), (35, ((.getfield 37 : Instr), 3)), (38, ((.iload_n 1 : Instr), 1)), (39, ((.aaload : Instr), 1)), (40, ((.invokevirtual 484 : Instr), 3)), (43, ((.iconst 1 : Instr), 1)), (44, ((.ireturn : Instr), 1))])]
/-- ChaffInTheWind.again(I)Z -/
def z_meth_180 : z_Mr := (⟨"ChaffInTheWind", "again", "(I)Z"⟩, prog_1_method_83_code, (2, 2, 0, 0), some .boolean, none, 0, 0, z_code_180, (1, 1105, 1, 1103, 1104))
def z_code_181 : z_bm (Instr × Nat) := [(81, [(0, ((.iload_n 1 : Instr), 1)), (1, ((.tableswitch 141 0 9 #[55, 63, 71, 79, 87, 92, 103, 114, 125, 133] : Instr), 55)), (56, ((.aload_n 0 : Instr), 1)), (57, ((.getfield 26 : Instr), 3)), (60, ((.getfield 128 : Instr), 3)), (63, ((.ireturn : Instr), 1)), (64, ((.aload_n 0 : Instr), 1)), (65, ((.getfield 26 : Instr), 3)), (68, ((.getfield 368 : Instr), 3)), (71, ((.ireturn : Instr), 1)), (72, ((.aload_n 0 : Instr), 1)), (73, ((.getfield 33 : Instr), 3)), (76, ((.getfield 144 : Instr), 3)), (79, ((.ireturn : Instr), 1)), (80, ((.aload_n 0 : Instr), 1)), (81, ((.getfield 54 : Instr), 3))]),
  (115, [(84, ((.invokevirtual 491 : Instr), 3)), (87, ((.ireturn : Instr), 1)), (88, ((.aload_n 0 : Instr), 1)), (89, ((.getfield 64 : Instr), 3)), (92, ((.ireturn : Instr), 1)), (93, ((.aload_n 0 : Instr), 1)), (94, ((.getfield 33 : Instr), 3)), (97, ((.getfield 134 : Instr), 3)), (100, ((.invokestatic 493 : Instr), 3)), (103, ((.ireturn : Instr), 1)), (104, ((.aload_n 0 : Instr), 1)), (105, ((.getfield 33 : Instr), 3)), (108, ((.getfield 253 : Instr), 3)), (111, ((.invokestatic 493 : Instr), 3)), (114, ((.ireturn : Instr), 1)), (115, ((.aload_n 0 : Instr), 1))]),
  (143, [(116, ((.getfield 33 : Instr), 3)), (119, ((.getfield 497 : Instr), 3)), (122, ((.invokestatic 199 : Instr), 3)), (125, ((.ireturn : Instr), 1)), (126, ((.aload_n 0 : Instr), 1)), (127, ((.getfield 19 : Instr), 3)), (130, ((.getfield 500 : Instr), 3)), (133, ((.ireturn : Instr), 1)), (134, ((.aload_n 0 : Instr), 1)), (135, ((.getfield 12 : Instr), 3)), (138, ((.getfield 503 : Instr), 3)), (141, ((.ireturn : Instr), 1)), (142, ((.iconst (-1) : Instr), 1)), (143, ((.ireturn : Instr), 1))])]
/-- ChaffInTheWind.count(I)I -/
def z_meth_181 : z_Mr := (⟨"ChaffInTheWind", "count", "(I)I"⟩, prog_1_method_84_code, (2, 2, 0, 0), some .int, none, 0, 0, z_code_181, (1, 1109, 1, 1107, 1108))
def z_code_182 : z_bm (Instr × Nat) := [(21, [(0, ((.iconst 0 : Instr), 1)), (1, ((.istore_n 1 : Instr), 1)), (2, ((.iconst 0 : Instr), 1)), (3, ((.istore_n 2 : Instr), 1)), (4, ((.iload_n 2 : Instr), 1)), (5, ((.iconst 3 : Instr), 1)), (6, ((.if_icmp .gt 27 : Instr), 3)), (9, ((.iload_n 1 : Instr), 1)), (10, ((.aload_n 0 : Instr), 1)), (11, ((.iload_n 2 : Instr), 1)), (12, ((.invokevirtual 41 : Instr), 3)), (15, ((.ifCond .eq 9 : Instr), 3)), (18, ((.iconst 1 : Instr), 1)), (19, ((.iload_n 2 : Instr), 1)), (20, ((.ishl : Instr), 1)), (21, ((.goto 4 : Instr), 3))]),
  (34, [(24, ((.iconst 0 : Instr), 1)), (25, ((.ior : Instr), 1)), (26, ((.istore_n 1 : Instr), 1)), (27, ((.iinc 2 1 : Instr), 3)), (30, ((.goto (-26) : Instr), 3)), (33, ((.iload_n 1 : Instr), 1)), (34, ((.ireturn : Instr), 1))])]
/-- ChaffInTheWind$Market.told()I -/
def z_meth_182 : z_Mr := (⟨"ChaffInTheWind$Market", "told", "()I"⟩, prog_6_method_5_code, (3, 1, 0, 0), some .int, none, 7, 7, z_code_182, (1, 1113, 8, 1112, 100097))
def z_code_183 : z_bm (Instr × Nat) := [(20, [(0, ((.iconst 0 : Instr), 1)), (1, ((.istore_n 1 : Instr), 1)), (2, ((.aload_n 0 : Instr), 1)), (3, ((.astore_n 2 : Instr), 1)), (4, ((.aload_n 2 : Instr), 1)), (5, ((.arraylength : Instr), 1)), (6, ((.istore_n 3 : Instr), 1)), (7, ((.iconst 0 : Instr), 1)), (8, ((.istore 4 : Instr), 2)), (10, ((.iload 4 : Instr), 2)), (12, ((.iload_n 3 : Instr), 1)), (13, ((.if_icmp .ge 23 : Instr), 3)), (16, ((.aload_n 2 : Instr), 1)), (17, ((.iload 4 : Instr), 2)), (19, ((.aaload : Instr), 1)), (20, ((.astore 5 : Instr), 2))]),
  (37, [(22, ((.iload_n 1 : Instr), 1)), (23, ((.aload 5 : Instr), 2)), (25, ((.invokestatic 199 : Instr), 3)), (28, ((.iadd : Instr), 1)), (29, ((.istore_n 1 : Instr), 1)), (30, ((.iinc 4 1 : Instr), 3)), (33, ((.goto (-23) : Instr), 3)), (36, ((.iload_n 1 : Instr), 1)), (37, ((.ireturn : Instr), 1))])]
/-- ChaffInTheWind.sumOfAll([[I)I -/
def z_meth_183 : z_Mr := (⟨"ChaffInTheWind", "sumOfAll", "([[I)I"⟩, prog_1_method_96_code, (6, 1, 0, 0), some .int, none, 0, 0, z_code_183, (0, 1116, 1, 1115, 0))
def z_code_184 : z_bm (Instr × Nat) := [(52, [(0, ((.aload_n 0 : Instr), 1)), (1, ((.iload_n 1 : Instr), 1)), (2, ((.invokevirtual 162 : Instr), 3)), (5, ((.ifCond .eq 12 : Instr), 3)), (8, ((.iload_n 2 : Instr), 1)), (9, ((.ifCond .lt 8 : Instr), 3)), (12, ((.iload_n 2 : Instr), 1)), (13, ((.iconst 3 : Instr), 1)), (14, ((.if_icmp .le 11 : Instr), 3)), (17, ((.new 165 : Instr), 3)), (20, ((.dup : Instr), 1)), (21, ((.invokespecial 167 : Instr), 3)), (24, ((.athrow : Instr), 1)), (25, ((.iload_n 2 : Instr), 1)), (26, ((.tableswitch 56 0 2 #[26, 36, 46] : Instr), 26)), (52, ((.aload_n 0 : Instr), 1))]),
  (80, [(53, ((.getfield 26 : Instr), 3)), (56, ((.getfield 168 : Instr), 3)), (59, ((.iload_n 1 : Instr), 1)), (60, ((.iaload : Instr), 1)), (61, ((.ireturn : Instr), 1)), (62, ((.aload_n 0 : Instr), 1)), (63, ((.getfield 26 : Instr), 3)), (66, ((.getfield 171 : Instr), 3)), (69, ((.iload_n 1 : Instr), 1)), (70, ((.iaload : Instr), 1)), (71, ((.ireturn : Instr), 1)), (72, ((.aload_n 0 : Instr), 1)), (73, ((.getfield 26 : Instr), 3)), (76, ((.getfield 174 : Instr), 3)), (79, ((.iload_n 1 : Instr), 1)), (80, ((.iaload : Instr), 1))]),
  (91, [(81, ((.ireturn : Instr), 1)), (82, ((.aload_n 0 : Instr), 1)), (83, ((.getfield 26 : Instr), 3)), (86, ((.getfield 177 : Instr), 3)), (89, ((.iload_n 1 : Instr), 1)), (90, ((.iaload : Instr), 1)), (91, ((.ireturn : Instr), 1))])]
/-- ChaffInTheWind.sort(II)I -/
def z_meth_184 : z_Mr := (⟨"ChaffInTheWind", "sort", "(II)I"⟩, prog_1_method_8_code, (3, 3, 1, 6), some .int, none, 0, 0, z_code_184, (1, 1124, 1, 1122, 1123))
def z_code_185 : z_bm (Instr × Nat) := [(31, [(0, ((.iload_n 1 : Instr), 1)), (1, ((.ifCond .lt 26 : Instr), 3)), (4, ((.iload_n 1 : Instr), 1)), (5, ((.iconst 3 : Instr), 1)), (6, ((.if_icmp .ge 21 : Instr), 3)), (9, ((.iload_n 2 : Instr), 1)), (10, ((.invokestatic 180 : Instr), 3)), (13, ((.ifCond .eq 14 : Instr), 3)), (16, ((.aload_n 0 : Instr), 1)), (17, ((.getfield 54 : Instr), 3)), (20, ((.iload_n 1 : Instr), 1)), (21, ((.invokevirtual 351 : Instr), 3)), (24, ((.ifCond .ne 11 : Instr), 3)), (27, ((.new 165 : Instr), 3)), (30, ((.dup : Instr), 1)), (31, ((.invokespecial 167 : Instr), 3))]),
  (63, [(34, ((.athrow : Instr), 1)), (35, ((.aload_n 0 : Instr), 1)), (36, ((.getfield 54 : Instr), 3)), (39, ((.aload_n 0 : Instr), 1)), (40, ((.getfield 26 : Instr), 3)), (43, ((.aload_n 0 : Instr), 1)), (44, ((.getfield 33 : Instr), 3)), (47, ((.getfield 134 : Instr), 3)), (50, ((.iload_n 2 : Instr), 1)), (51, ((.aaload : Instr), 1)), (52, ((.invokevirtual 354 : Instr), 3)), (55, ((.aload_n 0 : Instr), 1)), (56, ((.getfield 54 : Instr), 3)), (59, ((.iload_n 1 : Instr), 1)), (60, ((.invokevirtual 358 : Instr), 3)), (63, ((.ireturn : Instr), 1))])]
/-- ChaffInTheWind.price(II)I -/
def z_meth_185 : z_Mr := (⟨"ChaffInTheWind", "price", "(II)I"⟩, prog_1_method_44_code, (3, 3, 1, 6), some .int, none, 0, 0, z_code_185, (1, 1192, 1, 1190, 1191))
def z_code_186 : z_bm (Instr × Nat) := [(31, [(0, ((.iload_n 1 : Instr), 1)), (1, ((.ifCond .lt 14 : Instr), 3)), (4, ((.iload_n 1 : Instr), 1)), (5, ((.aload_n 0 : Instr), 1)), (6, ((.getfield 19 : Instr), 3)), (9, ((.getfield 500 : Instr), 3)), (12, ((.if_icmp .lt 11 : Instr), 3)), (15, ((.new 165 : Instr), 3)), (18, ((.dup : Instr), 1)), (19, ((.invokespecial 167 : Instr), 3)), (22, ((.athrow : Instr), 1)), (23, ((.aload_n 0 : Instr), 1)), (24, ((.getfield 19 : Instr), 3)), (27, ((.getfield 504 : Instr), 3)), (30, ((.iload_n 1 : Instr), 1)), (31, ((.laload : Instr), 1))]),
  (32, [(32, ((.lreturn : Instr), 1))])]
/-- ChaffInTheWind.row(I)J -/
def z_meth_186 : z_Mr := (⟨"ChaffInTheWind", "row", "(I)J"⟩, prog_1_method_85_code, (2, 2, 1, 6), some .long, none, 0, 0, z_code_186, (1, 1202, 1, 1200, 1201))
def z_code_187 : z_bm (Instr × Nat) := [(29, [(0, ((.aload_n 0 : Instr), 1)), (1, ((.invokespecial 3 : Instr), 3)), (4, ((.aload_n 0 : Instr), 1)), (5, ((.bipush 10 : Instr), 2)), (7, ((.newarray .int : Instr), 2)), (9, ((.putfield 9 : Instr), 3)), (12, ((.aload_n 0 : Instr), 1)), (13, ((.bipush 10 : Instr), 2)), (15, ((.newarray .int : Instr), 2)), (17, ((.putfield 13 : Instr), 3)), (20, ((.aload_n 0 : Instr), 1)), (21, ((.bipush 10 : Instr), 2)), (23, ((.newarray .int : Instr), 2)), (25, ((.putfield 16 : Instr), 3)), (28, ((.aload_n 0 : Instr), 1)), (29, ((.bipush 10 : Instr), 2))]),
  (59, [(31, ((.newarray .int : Instr), 2)), (33, ((.putfield 19 : Instr), 3)), (36, ((.aload_n 0 : Instr), 1)), (37, ((.bipush 12 : Instr), 2)), (39, ((.putfield 22 : Instr), 3)), (42, ((.aload_n 0 : Instr), 1)), (43, ((.sipush 310 : Instr), 3)), (46, ((.newarray .int : Instr), 2)), (48, ((.putfield 26 : Instr), 3)), (51, ((.aload_n 0 : Instr), 1)), (52, ((.iconst 5 : Instr), 1)), (53, ((.newarray .int : Instr), 2)), (55, ((.dup : Instr), 1)), (56, ((.iconst 0 : Instr), 1)), (57, ((.bipush 100 : Instr), 2)), (59, ((.iastore : Instr), 1))]),
  (76, [(60, ((.dup : Instr), 1)), (61, ((.iconst 1 : Instr), 1)), (62, ((.iconst 0 : Instr), 1)), (63, ((.iastore : Instr), 1)), (64, ((.dup : Instr), 1)), (65, ((.iconst 2 : Instr), 1)), (66, ((.iconst 0 : Instr), 1)), (67, ((.iastore : Instr), 1)), (68, ((.dup : Instr), 1)), (69, ((.iconst 3 : Instr), 1)), (70, ((.bipush 20 : Instr), 2)), (72, ((.iastore : Instr), 1)), (73, ((.dup : Instr), 1)), (74, ((.iconst 4 : Instr), 1)), (75, ((.iconst 0 : Instr), 1)), (76, ((.iastore : Instr), 1))]),
  (106, [(77, ((.putfield 29 : Instr), 3)), (80, ((.aload_n 0 : Instr), 1)), (81, ((.iconst 1 : Instr), 1)), (82, ((.putfield 32 : Instr), 3)), (85, ((.aload_n 0 : Instr), 1)), (86, ((.bipush 80 : Instr), 2)), (88, ((.newarray .byte : Instr), 2)), (90, ((.putfield 35 : Instr), 3)), (93, ((.aload_n 0 : Instr), 1)), (94, ((.bipush 12 : Instr), 2)), (96, ((.newarray .long : Instr), 2)), (98, ((.putfield 39 : Instr), 3)), (101, ((.aload_n 0 : Instr), 1)), (102, ((.bipush 10 : Instr), 2)), (104, ((.newarray .int : Instr), 2)), (106, ((.putfield 43 : Instr), 3))]),
  (138, [(109, ((.aload_n 0 : Instr), 1)), (110, ((.bipush 12 : Instr), 2)), (112, ((.newarray .int : Instr), 2)), (114, ((.putfield 46 : Instr), 3)), (117, ((.aload_n 0 : Instr), 1)), (118, ((.bipush 12 : Instr), 2)), (120, ((.newarray .int : Instr), 2)), (122, ((.putfield 49 : Instr), 3)), (125, ((.aload_n 0 : Instr), 1)), (126, ((.bipush 12 : Instr), 2)), (128, ((.newarray .int : Instr), 2)), (130, ((.putfield 52 : Instr), 3)), (133, ((.aload_n 0 : Instr), 1)), (134, ((.bipush 36 : Instr), 2)), (136, ((.newarray .int : Instr), 2)), (138, ((.putfield 55 : Instr), 3))]),
  (169, [(141, ((.aload_n 0 : Instr), 1)), (142, ((.iconst 4 : Instr), 1)), (143, ((.bipush 40 : Instr), 2)), (145, ((.multianewarray 58 2 : Instr), 4)), (149, ((.putfield 60 : Instr), 3)), (152, ((.aload_n 0 : Instr), 1)), (153, ((.iconst 4 : Instr), 1)), (154, ((.newarray .int : Instr), 2)), (156, ((.putfield 63 : Instr), 3)), (159, ((.aload_n 0 : Instr), 1)), (160, ((.iconst (-1) : Instr), 1)), (161, ((.putfield 66 : Instr), 3)), (164, ((.aload_n 0 : Instr), 1)), (165, ((.iconst (-1) : Instr), 1)), (166, ((.putfield 69 : Instr), 3)), (169, ((.aload_n 0 : Instr), 1))]),
  (202, [(170, ((.bipush 25 : Instr), 2)), (172, ((.newarray .int : Instr), 2)), (174, ((.putfield 72 : Instr), 3)), (177, ((.aload_n 0 : Instr), 1)), (178, ((.bipush 25 : Instr), 2)), (180, ((.newarray .int : Instr), 2)), (182, ((.putfield 75 : Instr), 3)), (185, ((.aload_n 0 : Instr), 1)), (186, ((.bipush 25 : Instr), 2)), (188, ((.newarray .int : Instr), 2)), (190, ((.putfield 78 : Instr), 3)), (193, ((.aload_n 0 : Instr), 1)), (194, ((.sipush 625 : Instr), 3)), (197, ((.newarray .int : Instr), 2)), (199, ((.putfield 81 : Instr), 3)), (202, ((.aload_n 0 : Instr), 1))]),
  (234, [(203, ((.bipush 10 : Instr), 2)), (205, ((.newarray .int : Instr), 2)), (207, ((.putfield 84 : Instr), 3)), (210, ((.aload_n 0 : Instr), 1)), (211, ((.bipush 125 : Instr), 2)), (213, ((.newarray .long : Instr), 2)), (215, ((.putfield 87 : Instr), 3)), (218, ((.aload_n 0 : Instr), 1)), (219, ((.bipush 7 : Instr), 2)), (221, ((.newarray .boolean : Instr), 2)), (223, ((.putfield 90 : Instr), 3)), (226, ((.aload_n 0 : Instr), 1)), (227, ((.bipush 7 : Instr), 2)), (229, ((.newarray .int : Instr), 2)), (231, ((.putfield 94 : Instr), 3)), (234, ((.aload_n 0 : Instr), 1))]),
  (267, [(235, ((.bipush 7 : Instr), 2)), (237, ((.newarray .int : Instr), 2)), (239, ((.putfield 97 : Instr), 3)), (242, ((.aload_n 0 : Instr), 1)), (243, ((.bipush 7 : Instr), 2)), (245, ((.newarray .int : Instr), 2)), (247, ((.putfield 100 : Instr), 3)), (250, ((.aload_n 0 : Instr), 1)), (251, ((.bipush 7 : Instr), 2)), (253, ((.newarray .boolean : Instr), 2)), (255, ((.putfield 103 : Instr), 3)), (258, ((.aload_n 0 : Instr), 1)), (259, ((.sipush 930 : Instr), 3)), (262, ((.newarray .int : Instr), 2)), (264, ((.putfield 106 : Instr), 3)), (267, ((.aload_n 0 : Instr), 1))]),
  (295, [(268, ((.iconst 3 : Instr), 1)), (269, ((.newarray .boolean : Instr), 2)), (271, ((.putfield 109 : Instr), 3)), (274, ((.aload_n 0 : Instr), 1)), (275, ((.iconst 3 : Instr), 1)), (276, ((.newarray .int : Instr), 2)), (278, ((.putfield 112 : Instr), 3)), (281, ((.aload_n 0 : Instr), 1)), (282, ((.iconst 3 : Instr), 1)), (283, ((.newarray .int : Instr), 2)), (285, ((.putfield 115 : Instr), 3)), (288, ((.aload_n 0 : Instr), 1)), (289, ((.iconst 3 : Instr), 1)), (290, ((.newarray .int : Instr), 2)), (292, ((.putfield 118 : Instr), 3)), (295, ((.aload_n 0 : Instr), 1))]),
  (302, [(296, ((.iconst 3 : Instr), 1)), (297, ((.newarray .int : Instr), 2)), (299, ((.putfield 121 : Instr), 3)), (302, ((.return_ : Instr), 1))])]
/-- ChaffInTheWindModel.<init>()V -/
def z_meth_187 : z_Mr := (⟨"ChaffInTheWindModel", "<init>", "()V"⟩, prog_12_method_1_code, (1, 1, 36, 2512), none, some 10, 10, 15, z_code_187, (2, 1207, 10, 1206, 0))
def z_code_188 : z_bm (Instr × Nat) := [(4, [(0, ((.aload_n 0 : Instr), 1)), (1, ((.getfield 124 : Instr), 3)), (4, ((.ireturn : Instr), 1))])]
/-- ChaffInTheWindModel.thrown()I -/
def z_meth_188 : z_Mr := (⟨"ChaffInTheWindModel", "thrown", "()I"⟩, prog_12_method_2_code, (1, 1, 0, 0), some .int, none, 10, 15, z_code_188, (1, 1384, 10, 1382, 1383))
def z_code_189 : z_bm (Instr × Nat) := [(24, [(0, ((.aload_n 0 : Instr), 1)), (1, ((.iconst 0 : Instr), 1)), (2, ((.putfield 124 : Instr), 3)), (5, ((.aload_n 0 : Instr), 1)), (6, ((.getfield 141 : Instr), 3)), (9, ((.iconst 4 : Instr), 1)), (10, ((.iadd : Instr), 1)), (11, ((.bipush 80 : Instr), 2)), (13, ((.if_icmp .le 5 : Instr), 3)), (16, ((.iconst (-1) : Instr), 1)), (17, ((.ireturn : Instr), 1)), (18, ((.iconst 3 : Instr), 1)), (19, ((.istore_n 2 : Instr), 1)), (20, ((.iload_n 2 : Instr), 1)), (21, ((.ifCond .lt 32 : Instr), 3)), (24, ((.aload_n 0 : Instr), 1))]),
  (47, [(25, ((.getfield 35 : Instr), 3)), (28, ((.aload_n 0 : Instr), 1)), (29, ((.dup : Instr), 1)), (30, ((.getfield 141 : Instr), 3)), (33, ((.dup_x1 : Instr), 1)), (34, ((.iconst 1 : Instr), 1)), (35, ((.iadd : Instr), 1)), (36, ((.putfield 141 : Instr), 3)), (39, ((.iload_n 1 : Instr), 1)), (40, ((.bipush 8 : Instr), 2)), (42, ((.iload_n 2 : Instr), 1)), (43, ((.imul : Instr), 1)), (44, ((.ishr : Instr), 1)), (45, ((.i2b : Instr), 1)), (46, ((.bastore : Instr), 1)), (47, ((.iinc 2 (-1) : Instr), 3))]),
  (57, [(50, ((.goto (-30) : Instr), 3)), (53, ((.aload_n 0 : Instr), 1)), (54, ((.getfield 141 : Instr), 3)), (57, ((.ireturn : Instr), 1))])]
/-- ChaffInTheWindModel.sign(I)I -/
def z_meth_189 : z_Mr := (⟨"ChaffInTheWindModel", "sign", "(I)I"⟩, prog_12_method_14_code, (3, 2, 0, 0), some .int, none, 10, 15, z_code_189, (1, 1388, 10, 1386, 1387))
def z_code_190 : z_bm (Instr × Nat) := [(25, [(0, ((.aload_n 0 : Instr), 1)), (1, ((.iconst 0 : Instr), 1)), (2, ((.putfield 124 : Instr), 3)), (5, ((.iload_n 1 : Instr), 1)), (6, ((.iconst 0 : Instr), 1)), (7, ((.aload_n 0 : Instr), 1)), (8, ((.getfield 141 : Instr), 3)), (11, ((.invokestatic 133 : Instr), 3)), (14, ((.ifCond .ne 5 : Instr), 3)), (17, ((.iconst 0 : Instr), 1)), (18, ((.ireturn : Instr), 1)), (19, ((.aload_n 0 : Instr), 1)), (20, ((.iload_n 1 : Instr), 1)), (21, ((.putfield 141 : Instr), 3)), (24, ((.iconst 1 : Instr), 1)), (25, ((.ireturn : Instr), 1))])]
/-- ChaffInTheWindModel.end(I)Z -/
def z_meth_190 : z_Mr := (⟨"ChaffInTheWindModel", "end", "(I)Z"⟩, prog_12_method_15_code, (2, 2, 0, 0), some .boolean, none, 10, 15, z_code_190, (1, 1392, 10, 1390, 1391))
def z_code_191 : z_bm (Instr × Nat) := [(15, [(0, ((.iload_n 0 : Instr), 1)), (1, ((.iload_n 1 : Instr), 1)), (2, ((.if_icmp .lt 12 : Instr), 3)), (5, ((.iload_n 0 : Instr), 1)), (6, ((.iload_n 2 : Instr), 1)), (7, ((.if_icmp .gt 7 : Instr), 3)), (10, ((.iconst 1 : Instr), 1)), (11, ((.goto 4 : Instr), 3)), (14, ((.iconst 0 : Instr), 1)), (15, ((.ireturn : Instr), 1))])]
/-- ChaffInTheWindModel.in(III)Z -/
def z_meth_191 : z_Mr := (⟨"ChaffInTheWindModel", "in", "(III)Z"⟩, prog_12_method_3_code, (3, 3, 0, 0), some .boolean, none, 10, 15, z_code_191, (0, 1395, 10, 1394, 0))
def z_code_192 : z_bm (Instr × Nat) := [(28, [(0, ((.aload_n 0 : Instr), 1)), (1, ((.iconst 0 : Instr), 1)), (2, ((.putfield 124 : Instr), 3)), (5, ((.aload_n 0 : Instr), 1)), (6, ((.aload_n 0 : Instr), 1)), (7, ((.getfield 35 : Instr), 3)), (10, ((.aload_n 0 : Instr), 1)), (11, ((.getfield 141 : Instr), 3)), (14, ((.bipush 76 : Instr), 2)), (16, ((.invokevirtual 175 : Instr), 3)), (19, ((.aload_n 0 : Instr), 1)), (20, ((.iconst 0 : Instr), 1)), (21, ((.putfield 141 : Instr), 3)), (24, ((.aload_n 0 : Instr), 1)), (25, ((.getfield 130 : Instr), 3)), (28, ((.istore_n 1 : Instr), 1))]),
  (56, [(29, ((.iconst (-1) : Instr), 1)), (30, ((.istore_n 2 : Instr), 1)), (31, ((.iconst 0 : Instr), 1)), (32, ((.istore_n 3 : Instr), 1)), (33, ((.aload_n 0 : Instr), 1)), (34, ((.getfield 147 : Instr), 3)), (37, ((.ifCond .le 7 : Instr), 3)), (40, ((.iconst 1 : Instr), 1)), (41, ((.goto 4 : Instr), 3)), (44, ((.iconst 0 : Instr), 1)), (45, ((.istore 4 : Instr), 2)), (47, ((.iload 4 : Instr), 2)), (49, ((.ifCond .eq 250 : Instr), 3)), (52, ((.aload_n 0 : Instr), 1)), (53, ((.invokevirtual 159 : Instr), 3)), (56, ((.ifCond .eq 243 : Instr), 3))]),
  (91, [(59, ((.aload_n 0 : Instr), 1)), (60, ((.invokevirtual 163 : Instr), 3)), (63, ((.istore 5 : Instr), 2)), (65, ((.iload 5 : Instr), 2)), (67, ((.bipush 99 : Instr), 2)), (69, ((.if_icmp .ne 7 : Instr), 3)), (72, ((.iconst 0 : Instr), 1)), (73, ((.goto 37 : Instr), 3)), (76, ((.iload 5 : Instr), 2)), (78, ((.bipush 104 : Instr), 2)), (80, ((.if_icmp .ne 7 : Instr), 3)), (83, ((.iconst 1 : Instr), 1)), (84, ((.goto 26 : Instr), 3)), (87, ((.iload 5 : Instr), 2)), (89, ((.bipush 119 : Instr), 2)), (91, ((.if_icmp .ne 7 : Instr), 3))]),
  (124, [(94, ((.iconst 2 : Instr), 1)), (95, ((.goto 15 : Instr), 3)), (98, ((.iload 5 : Instr), 2)), (100, ((.bipush 115 : Instr), 2)), (102, ((.if_icmp .ne 7 : Instr), 3)), (105, ((.iconst 3 : Instr), 1)), (106, ((.goto 4 : Instr), 3)), (109, ((.iconst (-1) : Instr), 1)), (110, ((.istore 6 : Instr), 2)), (112, ((.iload 5 : Instr), 2)), (114, ((.bipush 121 : Instr), 2)), (116, ((.if_icmp .ne 25 : Instr), 3)), (119, ((.aload_n 0 : Instr), 1)), (120, ((.dup : Instr), 1)), (121, ((.getfield 153 : Instr), 3)), (124, ((.iconst 1 : Instr), 1))]),
  (153, [(125, ((.iadd : Instr), 1)), (126, ((.putfield 153 : Instr), 3)), (129, ((.aload_n 0 : Instr), 1)), (130, ((.iconst 2 : Instr), 1)), (131, ((.iconst 2 : Instr), 1)), (132, ((.bipush 24 : Instr), 2)), (134, ((.invokevirtual 179 : Instr), 3)), (137, ((.istore_n 2 : Instr), 1)), (138, ((.goto 147 : Instr), 3)), (141, ((.iload 6 : Instr), 2)), (143, ((.iconst (-1) : Instr), 1)), (144, ((.if_icmp .eq 12 : Instr), 3)), (147, ((.aload_n 0 : Instr), 1)), (148, ((.getfield 130 : Instr), 3)), (151, ((.bipush 10 : Instr), 2)), (153, ((.if_icmp .ne 14 : Instr), 3))]),
  (185, [(156, ((.aload_n 0 : Instr), 1)), (157, ((.aload_n 0 : Instr), 1)), (158, ((.getfield 153 : Instr), 3)), (161, ((.invokevirtual 171 : Instr), 3)), (164, ((.goto 121 : Instr), 3)), (167, ((.aload_n 0 : Instr), 1)), (168, ((.dup : Instr), 1)), (169, ((.getfield 153 : Instr), 3)), (172, ((.iconst 1 : Instr), 1)), (173, ((.iadd : Instr), 1)), (174, ((.putfield 153 : Instr), 3)), (177, ((.aload_n 0 : Instr), 1)), (178, ((.getfield 9 : Instr), 3)), (181, ((.aload_n 0 : Instr), 1)), (182, ((.getfield 130 : Instr), 3)), (185, ((.iload 6 : Instr), 2))]),
  (212, [(187, ((.iastore : Instr), 1)), (188, ((.aload_n 0 : Instr), 1)), (189, ((.getfield 13 : Instr), 3)), (192, ((.aload_n 0 : Instr), 1)), (193, ((.getfield 130 : Instr), 3)), (196, ((.aload_n 0 : Instr), 1)), (197, ((.iconst 2 : Instr), 1)), (198, ((.iconst 1 : Instr), 1)), (199, ((.bipush 99 : Instr), 2)), (201, ((.invokevirtual 179 : Instr), 3)), (204, ((.iastore : Instr), 1)), (205, ((.aload_n 0 : Instr), 1)), (206, ((.bipush 44 : Instr), 2)), (208, ((.invokevirtual 183 : Instr), 3)), (211, ((.aload_n 0 : Instr), 1)), (212, ((.getfield 16 : Instr), 3))]),
  (242, [(215, ((.aload_n 0 : Instr), 1)), (216, ((.getfield 130 : Instr), 3)), (219, ((.aload_n 0 : Instr), 1)), (220, ((.iconst 2 : Instr), 1)), (221, ((.iconst 1 : Instr), 1)), (222, ((.bipush 60 : Instr), 2)), (224, ((.invokevirtual 179 : Instr), 3)), (227, ((.iastore : Instr), 1)), (228, ((.aload_n 0 : Instr), 1)), (229, ((.bipush 44 : Instr), 2)), (231, ((.invokevirtual 183 : Instr), 3)), (234, ((.aload_n 0 : Instr), 1)), (235, ((.getfield 19 : Instr), 3)), (238, ((.aload_n 0 : Instr), 1)), (239, ((.getfield 130 : Instr), 3)), (242, ((.aload_n 0 : Instr), 1))]),
  (268, [(243, ((.iconst 2 : Instr), 1)), (244, ((.iconst 0 : Instr), 1)), (245, ((.bipush 60 : Instr), 2)), (247, ((.invokevirtual 179 : Instr), 3)), (250, ((.iastore : Instr), 1)), (251, ((.aload_n 0 : Instr), 1)), (252, ((.bipush 42 : Instr), 2)), (254, ((.invokevirtual 183 : Instr), 3)), (257, ((.aload_n 0 : Instr), 1)), (258, ((.getfield 43 : Instr), 3)), (261, ((.aload_n 0 : Instr), 1)), (262, ((.getfield 130 : Instr), 3)), (265, ((.aload_n 0 : Instr), 1)), (266, ((.iconst 3 : Instr), 1)), (267, ((.iconst 0 : Instr), 1)), (268, ((.sipush 999 : Instr), 3))]),
  (300, [(271, ((.invokevirtual 179 : Instr), 3)), (274, ((.iastore : Instr), 1)), (275, ((.aload_n 0 : Instr), 1)), (276, ((.dup : Instr), 1)), (277, ((.getfield 130 : Instr), 3)), (280, ((.iconst 1 : Instr), 1)), (281, ((.iadd : Instr), 1)), (282, ((.putfield 130 : Instr), 3)), (285, ((.iinc 3 1 : Instr), 3)), (288, ((.aload_n 0 : Instr), 1)), (289, ((.bipush 59 : Instr), 2)), (291, ((.invokevirtual 167 : Instr), 3)), (294, ((.istore 4 : Instr), 2)), (296, ((.goto (-249) : Instr), 3)), (299, ((.aload_n 0 : Instr), 1)), (300, ((.getfield 153 : Instr), 3))]),
  (332, [(303, ((.aload_n 0 : Instr), 1)), (304, ((.getfield 147 : Instr), 3)), (307, ((.if_icmp .ge 11 : Instr), 3)), (310, ((.aload_n 0 : Instr), 1)), (311, ((.aload_n 0 : Instr), 1)), (312, ((.getfield 153 : Instr), 3)), (315, ((.invokevirtual 171 : Instr), 3)), (318, ((.aload_n 0 : Instr), 1)), (319, ((.invokevirtual 159 : Instr), 3)), (322, ((.ifCond .ne 15 : Instr), 3)), (325, ((.aload_n 0 : Instr), 1)), (326, ((.iload_n 1 : Instr), 1)), (327, ((.putfield 130 : Instr), 3)), (330, ((.iconst (-1) : Instr), 1)), (331, ((.aload_n 0 : Instr), 1)), (332, ((.getfield 156 : Instr), 3))]),
  (363, [(335, ((.isub : Instr), 1)), (336, ((.ireturn : Instr), 1)), (337, ((.iload_n 1 : Instr), 1)), (338, ((.istore 5 : Instr), 2)), (340, ((.iload 5 : Instr), 2)), (342, ((.aload_n 0 : Instr), 1)), (343, ((.getfield 130 : Instr), 3)), (346, ((.if_icmp .ge 53 : Instr), 3)), (349, ((.iconst 0 : Instr), 1)), (350, ((.istore 6 : Instr), 2)), (352, ((.iload 6 : Instr), 2)), (354, ((.bipush 30 : Instr), 2)), (356, ((.if_icmp .gt 37 : Instr), 3)), (359, ((.aload_n 0 : Instr), 1)), (360, ((.getfield 26 : Instr), 3)), (363, ((.iload 6 : Instr), 2))]),
  (399, [(365, ((.iload 5 : Instr), 2)), (367, ((.invokestatic 137 : Instr), 3)), (370, ((.iload 6 : Instr), 2)), (372, ((.ifCond .ne 13 : Instr), 3)), (375, ((.aload_n 0 : Instr), 1)), (376, ((.getfield 43 : Instr), 3)), (379, ((.iload 5 : Instr), 2)), (381, ((.iaload : Instr), 1)), (382, ((.goto 4 : Instr), 3)), (385, ((.iconst 0 : Instr), 1)), (386, ((.iastore : Instr), 1)), (387, ((.iinc 6 1 : Instr), 3)), (390, ((.goto (-38) : Instr), 3)), (393, ((.iinc 5 1 : Instr), 3)), (396, ((.goto (-56) : Instr), 3)), (399, ((.iload_n 2 : Instr), 1))]),
  (428, [(400, ((.iconst (-1) : Instr), 1)), (401, ((.if_icmp .eq 54 : Instr), 3)), (404, ((.aload_n 0 : Instr), 1)), (405, ((.iload_n 2 : Instr), 1)), (406, ((.putfield 22 : Instr), 3)), (409, ((.iconst 0 : Instr), 1)), (410, ((.istore 5 : Instr), 2)), (412, ((.iload 5 : Instr), 2)), (414, ((.bipush 24 : Instr), 2)), (416, ((.if_icmp .ge 18 : Instr), 3)), (419, ((.aload_n 0 : Instr), 1)), (420, ((.bipush 6 : Instr), 2)), (422, ((.iload 5 : Instr), 2)), (424, ((.iadd : Instr), 1)), (425, ((.invokevirtual 187 : Instr), 3)), (428, ((.iinc 5 1 : Instr), 3))]),
  (456, [(431, ((.goto (-19) : Instr), 3)), (434, ((.aload_n 0 : Instr), 1)), (435, ((.getfield 29 : Instr), 3)), (438, ((.iconst 2 : Instr), 1)), (439, ((.aload_n 0 : Instr), 1)), (440, ((.getfield 29 : Instr), 3)), (443, ((.iconst 2 : Instr), 1)), (444, ((.iaload : Instr), 1)), (445, ((.aload_n 0 : Instr), 1)), (446, ((.getfield 22 : Instr), 3)), (449, ((.iconst 1 : Instr), 1)), (450, ((.isub : Instr), 1)), (451, ((.invokestatic 190 : Instr), 3)), (454, ((.iastore : Instr), 1)), (455, ((.iload_n 3 : Instr), 1)), (456, ((.ireturn : Instr), 1))])]
/-- ChaffInTheWindModel.barn()I -/
def z_meth_192 : z_Mr := (⟨"ChaffInTheWindModel", "barn", "()I"⟩, prog_12_method_23_code, (7, 1, 0, 0), some .int, none, 10, 15, z_code_192, (1, 1399, 10, 1397, 1398))
def z_code_193 : z_bm (Instr × Nat) := [(25, [(0, ((.aload_n 0 : Instr), 1)), (1, ((.aload_n 1 : Instr), 1)), (2, ((.putfield 144 : Instr), 3)), (5, ((.aload_n 0 : Instr), 1)), (6, ((.iload_n 2 : Instr), 1)), (7, ((.putfield 147 : Instr), 3)), (10, ((.aload_n 0 : Instr), 1)), (11, ((.iload_n 3 : Instr), 1)), (12, ((.putfield 150 : Instr), 3)), (15, ((.aload_n 0 : Instr), 1)), (16, ((.iconst 0 : Instr), 1)), (17, ((.putfield 153 : Instr), 3)), (20, ((.aload_n 0 : Instr), 1)), (21, ((.iconst (-1) : Instr), 1)), (22, ((.putfield 156 : Instr), 3)), (25, ((.return_ : Instr), 1))])]
/-- ChaffInTheWindModel.begin([BII)V -/
def z_meth_193 : z_Mr := (⟨"ChaffInTheWindModel", "begin", "([BII)V"⟩, prog_12_method_16_code, (4, 4, 0, 0), none, none, 10, 15, z_code_193, (1, 1403, 10, 1402, 100099))
def z_code_194 : z_bm (Instr × Nat) := [(13, [(0, ((.aload_n 0 : Instr), 1)), (1, ((.getfield 156 : Instr), 3)), (4, ((.iconst (-1) : Instr), 1)), (5, ((.if_icmp .ne 7 : Instr), 3)), (8, ((.iconst 1 : Instr), 1)), (9, ((.goto 4 : Instr), 3)), (12, ((.iconst 0 : Instr), 1)), (13, ((.ireturn : Instr), 1))])]
/-- ChaffInTheWindModel.fine()Z -/
def z_meth_194 : z_Mr := (⟨"ChaffInTheWindModel", "fine", "()Z"⟩, prog_12_method_18_code, (1, 1, 0, 0), some .boolean, none, 10, 15, z_code_194, (1, 1407, 10, 1406, 100100))
def z_code_195 : z_bm (Instr × Nat) := [(31, [(0, ((.aload_n 0 : Instr), 1)), (1, ((.getfield 153 : Instr), 3)), (4, ((.aload_n 0 : Instr), 1)), (5, ((.getfield 147 : Instr), 3)), (8, ((.if_icmp .ge 26 : Instr), 3)), (11, ((.aload_n 0 : Instr), 1)), (12, ((.getfield 153 : Instr), 3)), (15, ((.aload_n 0 : Instr), 1)), (16, ((.getfield 150 : Instr), 3)), (19, ((.if_icmp .ge 15 : Instr), 3)), (22, ((.aload_n 0 : Instr), 1)), (23, ((.getfield 144 : Instr), 3)), (26, ((.aload_n 0 : Instr), 1)), (27, ((.getfield 153 : Instr), 3)), (30, ((.baload : Instr), 1)), (31, ((.goto 4 : Instr), 3))]),
  (35, [(34, ((.iconst (-1) : Instr), 1)), (35, ((.ireturn : Instr), 1))])]
/-- ChaffInTheWindModel.here()I -/
def z_meth_195 : z_Mr := (⟨"ChaffInTheWindModel", "here", "()I"⟩, prog_12_method_17_code, (1, 1, 0, 0), some .int, none, 10, 15, z_code_195, (1, 1411, 10, 1410, 100101))
def z_code_196 : z_bm (Instr × Nat) := [(26, [(0, ((.aload_n 0 : Instr), 1)), (1, ((.invokevirtual 159 : Instr), 3)), (4, ((.ifCond .ne 5 : Instr), 3)), (7, ((.iconst 0 : Instr), 1)), (8, ((.ireturn : Instr), 1)), (9, ((.aload_n 0 : Instr), 1)), (10, ((.getfield 153 : Instr), 3)), (13, ((.istore 4 : Instr), 2)), (15, ((.iconst 0 : Instr), 1)), (16, ((.istore 5 : Instr), 2)), (18, ((.aload_n 0 : Instr), 1)), (19, ((.getfield 153 : Instr), 3)), (22, ((.iload 4 : Instr), 2)), (24, ((.iload_n 1 : Instr), 1)), (25, ((.iadd : Instr), 1)), (26, ((.if_icmp .ge 45 : Instr), 3))]),
  (58, [(29, ((.aload_n 0 : Instr), 1)), (30, ((.invokevirtual 163 : Instr), 3)), (33, ((.bipush 48 : Instr), 2)), (35, ((.bipush 57 : Instr), 2)), (37, ((.invokestatic 133 : Instr), 3)), (40, ((.ifCond .eq 31 : Instr), 3)), (43, ((.bipush 10 : Instr), 2)), (45, ((.iload 5 : Instr), 2)), (47, ((.imul : Instr), 1)), (48, ((.aload_n 0 : Instr), 1)), (49, ((.invokevirtual 163 : Instr), 3)), (52, ((.iadd : Instr), 1)), (53, ((.bipush 48 : Instr), 2)), (55, ((.isub : Instr), 1)), (56, ((.istore 5 : Instr), 2)), (58, ((.aload_n 0 : Instr), 1))]),
  (91, [(59, ((.dup : Instr), 1)), (60, ((.getfield 153 : Instr), 3)), (63, ((.iconst 1 : Instr), 1)), (64, ((.iadd : Instr), 1)), (65, ((.putfield 153 : Instr), 3)), (68, ((.goto (-50) : Instr), 3)), (71, ((.aload_n 0 : Instr), 1)), (72, ((.getfield 153 : Instr), 3)), (75, ((.iload 4 : Instr), 2)), (77, ((.if_icmp .ne 14 : Instr), 3)), (80, ((.aload_n 0 : Instr), 1)), (81, ((.aload_n 0 : Instr), 1)), (82, ((.getfield 153 : Instr), 3)), (85, ((.invokevirtual 171 : Instr), 3)), (88, ((.goto 23 : Instr), 3)), (91, ((.iload 5 : Instr), 2))]),
  (123, [(93, ((.iload_n 2 : Instr), 1)), (94, ((.iload_n 3 : Instr), 1)), (95, ((.invokestatic 133 : Instr), 3)), (98, ((.ifCond .ne 13 : Instr), 3)), (101, ((.aload_n 0 : Instr), 1)), (102, ((.aload_n 0 : Instr), 1)), (103, ((.getfield 153 : Instr), 3)), (106, ((.iconst 1 : Instr), 1)), (107, ((.isub : Instr), 1)), (108, ((.invokevirtual 171 : Instr), 3)), (111, ((.aload_n 0 : Instr), 1)), (112, ((.invokevirtual 159 : Instr), 3)), (115, ((.ifCond .eq 8 : Instr), 3)), (118, ((.iload 5 : Instr), 2)), (120, ((.goto 4 : Instr), 3)), (123, ((.iconst 0 : Instr), 1))]),
  (124, [(124, ((.ireturn : Instr), 1))])]
/-- ChaffInTheWindModel.number(III)I -/
def z_meth_196 : z_Mr := (⟨"ChaffInTheWindModel", "number", "(III)I"⟩, prog_12_method_22_code, (6, 4, 0, 0), some .int, none, 10, 15, z_code_196, (1, 1415, 10, 1414, 100102))
def z_code_197 : z_bm (Instr × Nat) := [(12, [(0, ((.aload_n 0 : Instr), 1)), (1, ((.invokevirtual 159 : Instr), 3)), (4, ((.ifCond .eq 8 : Instr), 3)), (7, ((.aload_n 0 : Instr), 1)), (8, ((.iload_n 1 : Instr), 1)), (9, ((.putfield 156 : Instr), 3)), (12, ((.return_ : Instr), 1))])]
/-- ChaffInTheWindModel.fault(I)V -/
def z_meth_197 : z_Mr := (⟨"ChaffInTheWindModel", "fault", "(I)V"⟩, prog_12_method_19_code, (2, 2, 0, 0), none, none, 10, 15, z_code_197, (1, 1419, 10, 1418, 100103))
def z_code_198 : z_bm (Instr × Nat) := [(16, [(0, ((.aload_n 0 : Instr), 1)), (1, ((.iload_n 1 : Instr), 1)), (2, ((.invokevirtual 167 : Instr), 3)), (5, ((.ifCond .ne 11 : Instr), 3)), (8, ((.aload_n 0 : Instr), 1)), (9, ((.aload_n 0 : Instr), 1)), (10, ((.getfield 153 : Instr), 3)), (13, ((.invokevirtual 171 : Instr), 3)), (16, ((.return_ : Instr), 1))])]
/-- ChaffInTheWindModel.need(C)V -/
def z_meth_198 : z_Mr := (⟨"ChaffInTheWindModel", "need", "(C)V"⟩, prog_12_method_21_code, (2, 2, 0, 0), none, none, 10, 15, z_code_198, (1, 1423, 10, 1422, 100104))
def z_code_199 : z_bm (Instr × Nat) := [(27, [(0, ((.aload_n 0 : Instr), 1)), (1, ((.invokevirtual 159 : Instr), 3)), (4, ((.ifCond .eq 11 : Instr), 3)), (7, ((.aload_n 0 : Instr), 1)), (8, ((.invokevirtual 163 : Instr), 3)), (11, ((.iload_n 1 : Instr), 1)), (12, ((.if_icmp .eq 5 : Instr), 3)), (15, ((.iconst 0 : Instr), 1)), (16, ((.ireturn : Instr), 1)), (17, ((.aload_n 0 : Instr), 1)), (18, ((.dup : Instr), 1)), (19, ((.getfield 153 : Instr), 3)), (22, ((.iconst 1 : Instr), 1)), (23, ((.iadd : Instr), 1)), (24, ((.putfield 153 : Instr), 3)), (27, ((.iconst 1 : Instr), 1))]),
  (28, [(28, ((.ireturn : Instr), 1))])]
/-- ChaffInTheWindModel.passes(C)Z -/
def z_meth_199 : z_Mr := (⟨"ChaffInTheWindModel", "passes", "(C)Z"⟩, prog_12_method_20_code, (2, 2, 0, 0), some .boolean, none, 10, 15, z_code_199, (1, 1427, 10, 1426, 100105))
def z_code_200 : z_bm (Instr × Nat) := [(6, [(0, ((.bipush 10 : Instr), 2)), (2, ((.iload_n 0 : Instr), 1)), (3, ((.imul : Instr), 1)), (4, ((.iload_n 1 : Instr), 1)), (5, ((.iadd : Instr), 1)), (6, ((.ireturn : Instr), 1))])]
/-- ChaffInTheWindModel.at(II)I -/
def z_meth_200 : z_Mr := (⟨"ChaffInTheWindModel", "at", "(II)I"⟩, prog_12_method_11_code, (2, 2, 0, 0), some .int, none, 10, 15, z_code_200, (0, 1430, 10, 1429, 0))
def z_code_201 : z_bm (Instr × Nat) := [(25, [(0, ((.iconst 0 : Instr), 1)), (1, ((.istore_n 2 : Instr), 1)), (2, ((.iload_n 2 : Instr), 1)), (3, ((.bipush 10 : Instr), 2)), (5, ((.if_icmp .ge 20 : Instr), 3)), (8, ((.aload_n 0 : Instr), 1)), (9, ((.getfield 26 : Instr), 3)), (12, ((.iload_n 1 : Instr), 1)), (13, ((.iload_n 2 : Instr), 1)), (14, ((.invokestatic 137 : Instr), 3)), (17, ((.iconst 0 : Instr), 1)), (18, ((.iastore : Instr), 1)), (19, ((.iinc 2 1 : Instr), 3)), (22, ((.goto (-20) : Instr), 3)), (25, ((.return_ : Instr), 1))])]
/-- ChaffInTheWindModel.clear(I)V -/
def z_meth_201 : z_Mr := (⟨"ChaffInTheWindModel", "clear", "(I)V"⟩, prog_12_method_13_code, (3, 2, 0, 0), none, none, 10, 15, z_code_201, (1, 1434, 10, 1433, 100106))
def z_code_202 : z_bm (Instr × Nat) := [(26, [(0, ((.aload_n 0 : Instr), 1)), (1, ((.iconst 0 : Instr), 1)), (2, ((.putfield 124 : Instr), 3)), (5, ((.aload_n 0 : Instr), 1)), (6, ((.aload_n 0 : Instr), 1)), (7, ((.getfield 35 : Instr), 3)), (10, ((.aload_n 0 : Instr), 1)), (11, ((.getfield 141 : Instr), 3)), (14, ((.bipush 40 : Instr), 2)), (16, ((.invokevirtual 175 : Instr), 3)), (19, ((.aload_n 0 : Instr), 1)), (20, ((.iconst 0 : Instr), 1)), (21, ((.putfield 141 : Instr), 3)), (24, ((.iconst 0 : Instr), 1)), (25, ((.istore_n 1 : Instr), 1)), (26, ((.aload_n 0 : Instr), 1))]),
  (57, [(27, ((.getfield 147 : Instr), 3)), (30, ((.ifCond .le 7 : Instr), 3)), (33, ((.iconst 1 : Instr), 1)), (34, ((.goto 4 : Instr), 3)), (37, ((.iconst 0 : Instr), 1)), (38, ((.istore_n 2 : Instr), 1)), (39, ((.iload_n 2 : Instr), 1)), (40, ((.ifCond .eq 123 : Instr), 3)), (43, ((.aload_n 0 : Instr), 1)), (44, ((.invokevirtual 159 : Instr), 3)), (47, ((.ifCond .eq 116 : Instr), 3)), (50, ((.aload_n 0 : Instr), 1)), (51, ((.bipush 45 : Instr), 2)), (53, ((.invokevirtual 167 : Instr), 3)), (56, ((.istore_n 3 : Instr), 1)), (57, ((.aload_n 0 : Instr), 1))]),
  (84, [(58, ((.iconst 2 : Instr), 1)), (59, ((.iconst 0 : Instr), 1)), (60, ((.bipush 60 : Instr), 2)), (62, ((.invokevirtual 179 : Instr), 3)), (65, ((.istore 4 : Instr), 2)), (67, ((.aload_n 0 : Instr), 1)), (68, ((.bipush 42 : Instr), 2)), (70, ((.invokevirtual 183 : Instr), 3)), (73, ((.aload_n 0 : Instr), 1)), (74, ((.iconst 2 : Instr), 1)), (75, ((.iconst 1 : Instr), 1)), (76, ((.bipush 99 : Instr), 2)), (78, ((.invokevirtual 179 : Instr), 3)), (81, ((.istore 5 : Instr), 2)), (83, ((.aload_n 0 : Instr), 1)), (84, ((.bipush 126 : Instr), 2))]),
  (113, [(86, ((.invokevirtual 167 : Instr), 3)), (89, ((.ifCond .eq 14 : Instr), 3)), (92, ((.aload_n 0 : Instr), 1)), (93, ((.iconst 2 : Instr), 1)), (94, ((.iconst 1 : Instr), 1)), (95, ((.bipush 20 : Instr), 2)), (97, ((.invokevirtual 179 : Instr), 3)), (100, ((.goto 4 : Instr), 3)), (103, ((.iconst 0 : Instr), 1)), (104, ((.istore 6 : Instr), 2)), (106, ((.aload_n 0 : Instr), 1)), (107, ((.getfield 55 : Instr), 3)), (110, ((.iconst 3 : Instr), 1)), (111, ((.iload_n 1 : Instr), 1)), (112, ((.imul : Instr), 1)), (113, ((.iload_n 3 : Instr), 1))]),
  (138, [(114, ((.ifCond .eq 9 : Instr), 3)), (117, ((.iload 4 : Instr), 2)), (119, ((.ineg : Instr), 1)), (120, ((.goto 5 : Instr), 3)), (123, ((.iload 4 : Instr), 2)), (125, ((.iastore : Instr), 1)), (126, ((.aload_n 0 : Instr), 1)), (127, ((.getfield 55 : Instr), 3)), (130, ((.iconst 3 : Instr), 1)), (131, ((.iload_n 1 : Instr), 1)), (132, ((.imul : Instr), 1)), (133, ((.iconst 1 : Instr), 1)), (134, ((.iadd : Instr), 1)), (135, ((.iload 5 : Instr), 2)), (137, ((.iastore : Instr), 1)), (138, ((.aload_n 0 : Instr), 1))]),
  (164, [(139, ((.getfield 55 : Instr), 3)), (142, ((.iconst 3 : Instr), 1)), (143, ((.iload_n 1 : Instr), 1)), (144, ((.imul : Instr), 1)), (145, ((.iconst 2 : Instr), 1)), (146, ((.iadd : Instr), 1)), (147, ((.iload 6 : Instr), 2)), (149, ((.iastore : Instr), 1)), (150, ((.iinc 1 1 : Instr), 3)), (153, ((.aload_n 0 : Instr), 1)), (154, ((.bipush 59 : Instr), 2)), (156, ((.invokevirtual 167 : Instr), 3)), (159, ((.istore_n 2 : Instr), 1)), (160, ((.goto (-121) : Instr), 3)), (163, ((.aload_n 0 : Instr), 1)), (164, ((.getfield 153 : Instr), 3))]),
  (196, [(167, ((.aload_n 0 : Instr), 1)), (168, ((.getfield 147 : Instr), 3)), (171, ((.if_icmp .ge 11 : Instr), 3)), (174, ((.aload_n 0 : Instr), 1)), (175, ((.aload_n 0 : Instr), 1)), (176, ((.getfield 153 : Instr), 3)), (179, ((.invokevirtual 171 : Instr), 3)), (182, ((.aload_n 0 : Instr), 1)), (183, ((.invokevirtual 159 : Instr), 3)), (186, ((.ifCond .ne 10 : Instr), 3)), (189, ((.iconst (-1) : Instr), 1)), (190, ((.aload_n 0 : Instr), 1)), (191, ((.getfield 156 : Instr), 3)), (194, ((.isub : Instr), 1)), (195, ((.ireturn : Instr), 1)), (196, ((.iconst 0 : Instr), 1))]),
  (218, [(197, ((.istore_n 3 : Instr), 1)), (198, ((.iload_n 3 : Instr), 1)), (199, ((.iload_n 1 : Instr), 1)), (200, ((.if_icmp .ge 55 : Instr), 3)), (203, ((.aload_n 0 : Instr), 1)), (204, ((.getfield 46 : Instr), 3)), (207, ((.iload_n 3 : Instr), 1)), (208, ((.aload_n 0 : Instr), 1)), (209, ((.getfield 55 : Instr), 3)), (212, ((.iconst 3 : Instr), 1)), (213, ((.iload_n 3 : Instr), 1)), (214, ((.imul : Instr), 1)), (215, ((.iaload : Instr), 1)), (216, ((.iastore : Instr), 1)), (217, ((.aload_n 0 : Instr), 1)), (218, ((.getfield 49 : Instr), 3))]),
  (242, [(221, ((.iload_n 3 : Instr), 1)), (222, ((.aload_n 0 : Instr), 1)), (223, ((.getfield 55 : Instr), 3)), (226, ((.iconst 3 : Instr), 1)), (227, ((.iload_n 3 : Instr), 1)), (228, ((.imul : Instr), 1)), (229, ((.iconst 1 : Instr), 1)), (230, ((.iadd : Instr), 1)), (231, ((.iaload : Instr), 1)), (232, ((.iastore : Instr), 1)), (233, ((.aload_n 0 : Instr), 1)), (234, ((.getfield 52 : Instr), 3)), (237, ((.iload_n 3 : Instr), 1)), (238, ((.aload_n 0 : Instr), 1)), (239, ((.getfield 55 : Instr), 3)), (242, ((.iconst 3 : Instr), 1))]),
  (266, [(243, ((.iload_n 3 : Instr), 1)), (244, ((.imul : Instr), 1)), (245, ((.iconst 2 : Instr), 1)), (246, ((.iadd : Instr), 1)), (247, ((.iaload : Instr), 1)), (248, ((.iastore : Instr), 1)), (249, ((.iinc 3 1 : Instr), 3)), (252, ((.goto (-54) : Instr), 3)), (255, ((.aload_n 0 : Instr), 1)), (256, ((.iload_n 1 : Instr), 1)), (257, ((.putfield 195 : Instr), 3)), (260, ((.aload_n 0 : Instr), 1)), (261, ((.iconst 0 : Instr), 1)), (262, ((.putfield 198 : Instr), 3)), (265, ((.iload_n 1 : Instr), 1)), (266, ((.ireturn : Instr), 1))])]
/-- ChaffInTheWindModel.wind()I -/
def z_meth_202 : z_Mr := (⟨"ChaffInTheWindModel", "wind", "()I"⟩, prog_12_method_24_code, (7, 1, 0, 0), some .int, none, 10, 15, z_code_202, (1, 1439, 10, 1437, 1438))
def z_code_203 : z_bm (Instr × Nat) := [(26, [(0, ((.aload_n 0 : Instr), 1)), (1, ((.iconst 0 : Instr), 1)), (2, ((.putfield 124 : Instr), 3)), (5, ((.aload_n 0 : Instr), 1)), (6, ((.getfield 141 : Instr), 3)), (9, ((.istore_n 2 : Instr), 1)), (10, ((.aload_n 0 : Instr), 1)), (11, ((.aload_n 0 : Instr), 1)), (12, ((.getfield 35 : Instr), 3)), (15, ((.iload_n 2 : Instr), 1)), (16, ((.bipush 40 : Instr), 2)), (18, ((.invokevirtual 175 : Instr), 3)), (21, ((.aload_n 0 : Instr), 1)), (22, ((.iconst 0 : Instr), 1)), (23, ((.putfield 141 : Instr), 3)), (26, ((.iload_n 1 : Instr), 1))]),
  (53, [(27, ((.iconst 0 : Instr), 1)), (28, ((.iconst 3 : Instr), 1)), (29, ((.invokestatic 133 : Instr), 3)), (32, ((.ifCond .ne 6 : Instr), 3)), (35, ((.bipush (-100) : Instr), 2)), (37, ((.ireturn : Instr), 1)), (38, ((.aload_n 0 : Instr), 1)), (39, ((.iload_n 1 : Instr), 1)), (40, ((.iconst 3 : Instr), 1)), (41, ((.if_icmp .ne 7 : Instr), 3)), (44, ((.iconst 1 : Instr), 1)), (45, ((.goto 4 : Instr), 3)), (48, ((.iconst 0 : Instr), 1)), (49, ((.putfield 217 : Instr), 3)), (52, ((.aload_n 0 : Instr), 1)), (53, ((.iconst (-1) : Instr), 1))]),
  (81, [(54, ((.putfield 66 : Instr), 3)), (57, ((.aload_n 0 : Instr), 1)), (58, ((.iconst (-1) : Instr), 1)), (59, ((.putfield 69 : Instr), 3)), (62, ((.iload_n 2 : Instr), 1)), (63, ((.ifCond .le 39 : Instr), 3)), (66, ((.aload_n 0 : Instr), 1)), (67, ((.iconst 0 : Instr), 1)), (68, ((.invokevirtual 214 : Instr), 3)), (71, ((.pop : Instr), 1)), (72, ((.aload_n 0 : Instr), 1)), (73, ((.getfield 153 : Instr), 3)), (76, ((.iload_n 2 : Instr), 1)), (77, ((.if_icmp .ge 11 : Instr), 3)), (80, ((.aload_n 0 : Instr), 1)), (81, ((.aload_n 0 : Instr), 1))]),
  (109, [(82, ((.getfield 153 : Instr), 3)), (85, ((.invokevirtual 171 : Instr), 3)), (88, ((.aload_n 0 : Instr), 1)), (89, ((.invokevirtual 159 : Instr), 3)), (92, ((.ifCond .ne 10 : Instr), 3)), (95, ((.iconst (-1) : Instr), 1)), (96, ((.aload_n 0 : Instr), 1)), (97, ((.getfield 156 : Instr), 3)), (100, ((.isub : Instr), 1)), (101, ((.ireturn : Instr), 1)), (102, ((.iconst 0 : Instr), 1)), (103, ((.istore_n 3 : Instr), 1)), (104, ((.iload_n 3 : Instr), 1)), (105, ((.iload_n 2 : Instr), 1)), (106, ((.if_icmp .ge 23 : Instr), 3)), (109, ((.aload_n 0 : Instr), 1))]),
  (135, [(110, ((.getfield 60 : Instr), 3)), (113, ((.iload_n 1 : Instr), 1)), (114, ((.aaload : Instr), 1)), (115, ((.iload_n 3 : Instr), 1)), (116, ((.aload_n 0 : Instr), 1)), (117, ((.getfield 35 : Instr), 3)), (120, ((.iload_n 3 : Instr), 1)), (121, ((.baload : Instr), 1)), (122, ((.bastore : Instr), 1)), (123, ((.iinc 3 1 : Instr), 3)), (126, ((.goto (-22) : Instr), 3)), (129, ((.aload_n 0 : Instr), 1)), (130, ((.getfield 63 : Instr), 3)), (133, ((.iload_n 1 : Instr), 1)), (134, ((.iload_n 2 : Instr), 1)), (135, ((.iastore : Instr), 1))]),
  (137, [(136, ((.iconst 0 : Instr), 1)), (137, ((.ireturn : Instr), 1))])]
/-- ChaffInTheWindModel.says(I)I -/
def z_meth_203 : z_Mr := (⟨"ChaffInTheWindModel", "says", "(I)I"⟩, prog_12_method_33_code, (4, 2, 0, 0), some .int, none, 10, 15, z_code_203, (1, 1443, 10, 1441, 1442))
def z_code_204 : z_bm (Instr × Nat) := [(28, [(0, ((.aload_n 0 : Instr), 1)), (1, ((.iload_n 1 : Instr), 1)), (2, ((.invokevirtual 204 : Instr), 3)), (5, ((.istore_n 2 : Instr), 1)), (6, ((.aload_n 0 : Instr), 1)), (7, ((.bipush 60 : Instr), 2)), (9, ((.invokevirtual 167 : Instr), 3)), (12, ((.ifCond .eq 18 : Instr), 3)), (15, ((.iload_n 2 : Instr), 1)), (16, ((.aload_n 0 : Instr), 1)), (17, ((.iload_n 1 : Instr), 1)), (18, ((.invokevirtual 204 : Instr), 3)), (21, ((.if_icmp .ge 7 : Instr), 3)), (24, ((.iconst 1 : Instr), 1)), (25, ((.goto 4 : Instr), 3)), (28, ((.iconst 0 : Instr), 1))]),
  (55, [(29, ((.ireturn : Instr), 1)), (30, ((.aload_n 0 : Instr), 1)), (31, ((.bipush 62 : Instr), 2)), (33, ((.invokevirtual 167 : Instr), 3)), (36, ((.ifCond .eq 18 : Instr), 3)), (39, ((.iload_n 2 : Instr), 1)), (40, ((.aload_n 0 : Instr), 1)), (41, ((.iload_n 1 : Instr), 1)), (42, ((.invokevirtual 204 : Instr), 3)), (45, ((.if_icmp .le 7 : Instr), 3)), (48, ((.iconst 1 : Instr), 1)), (49, ((.goto 4 : Instr), 3)), (52, ((.iconst 0 : Instr), 1)), (53, ((.ireturn : Instr), 1)), (54, ((.aload_n 0 : Instr), 1)), (55, ((.bipush 61 : Instr), 2))]),
  (79, [(57, ((.invokevirtual 167 : Instr), 3)), (60, ((.ifCond .eq 18 : Instr), 3)), (63, ((.iload_n 2 : Instr), 1)), (64, ((.aload_n 0 : Instr), 1)), (65, ((.iload_n 1 : Instr), 1)), (66, ((.invokevirtual 204 : Instr), 3)), (69, ((.if_icmp .ne 7 : Instr), 3)), (72, ((.iconst 1 : Instr), 1)), (73, ((.goto 4 : Instr), 3)), (76, ((.iconst 0 : Instr), 1)), (77, ((.ireturn : Instr), 1)), (78, ((.iload_n 2 : Instr), 1)), (79, ((.ireturn : Instr), 1))])]
/-- ChaffInTheWindModel.held(I)I -/
def z_meth_204 : z_Mr := (⟨"ChaffInTheWindModel", "held", "(I)I"⟩, prog_12_method_26_code, (3, 2, 0, 0), some .int, none, 10, 15, z_code_204, (1, 1447, 10, 1446, 100107))
def z_code_205 : z_bm (Instr × Nat) := [(31, [(0, ((.aload_n 0 : Instr), 1)), (1, ((.iload_n 1 : Instr), 1)), (2, ((.invokevirtual 208 : Instr), 3)), (5, ((.istore_n 2 : Instr), 1)), (6, ((.aload_n 0 : Instr), 1)), (7, ((.invokevirtual 159 : Instr), 3)), (10, ((.ifCond .eq 72 : Instr), 3)), (13, ((.aload_n 0 : Instr), 1)), (14, ((.invokevirtual 163 : Instr), 3)), (17, ((.bipush 43 : Instr), 2)), (19, ((.if_icmp .eq 12 : Instr), 3)), (22, ((.aload_n 0 : Instr), 1)), (23, ((.invokevirtual 163 : Instr), 3)), (26, ((.bipush 45 : Instr), 2)), (28, ((.if_icmp .ne 54 : Instr), 3)), (31, ((.aload_n 0 : Instr), 1))]),
  (58, [(32, ((.invokevirtual 163 : Instr), 3)), (35, ((.bipush 43 : Instr), 2)), (37, ((.if_icmp .ne 7 : Instr), 3)), (40, ((.iconst 1 : Instr), 1)), (41, ((.goto 4 : Instr), 3)), (44, ((.iconst 0 : Instr), 1)), (45, ((.istore_n 3 : Instr), 1)), (46, ((.aload_n 0 : Instr), 1)), (47, ((.dup : Instr), 1)), (48, ((.getfield 153 : Instr), 3)), (51, ((.iconst 1 : Instr), 1)), (52, ((.iadd : Instr), 1)), (53, ((.putfield 153 : Instr), 3)), (56, ((.aload_n 0 : Instr), 1)), (57, ((.iload_n 1 : Instr), 1)), (58, ((.invokevirtual 208 : Instr), 3))]),
  (83, [(61, ((.istore 4 : Instr), 2)), (63, ((.iload_n 3 : Instr), 1)), (64, ((.ifCond .eq 10 : Instr), 3)), (67, ((.iload_n 2 : Instr), 1)), (68, ((.iload 4 : Instr), 2)), (70, ((.iadd : Instr), 1)), (71, ((.goto 7 : Instr), 3)), (74, ((.iload_n 2 : Instr), 1)), (75, ((.iload 4 : Instr), 2)), (77, ((.isub : Instr), 1)), (78, ((.istore_n 2 : Instr), 1)), (79, ((.goto (-73) : Instr), 3)), (82, ((.iload_n 2 : Instr), 1)), (83, ((.ireturn : Instr), 1))])]
/-- ChaffInTheWindModel.sum(I)I -/
def z_meth_205 : z_Mr := (⟨"ChaffInTheWindModel", "sum", "(I)I"⟩, prog_12_method_27_code, (5, 2, 0, 0), some .int, none, 10, 15, z_code_205, (1, 1451, 10, 1450, 100108))
def z_code_206 : z_bm (Instr × Nat) := [(31, [(0, ((.aload_n 0 : Instr), 1)), (1, ((.iload_n 1 : Instr), 1)), (2, ((.invokevirtual 211 : Instr), 3)), (5, ((.istore_n 2 : Instr), 1)), (6, ((.aload_n 0 : Instr), 1)), (7, ((.invokevirtual 159 : Instr), 3)), (10, ((.ifCond .eq 81 : Instr), 3)), (13, ((.aload_n 0 : Instr), 1)), (14, ((.invokevirtual 163 : Instr), 3)), (17, ((.bipush 42 : Instr), 2)), (19, ((.if_icmp .eq 12 : Instr), 3)), (22, ((.aload_n 0 : Instr), 1)), (23, ((.invokevirtual 163 : Instr), 3)), (26, ((.bipush 47 : Instr), 2)), (28, ((.if_icmp .ne 63 : Instr), 3)), (31, ((.aload_n 0 : Instr), 1))]),
  (58, [(32, ((.invokevirtual 163 : Instr), 3)), (35, ((.bipush 42 : Instr), 2)), (37, ((.if_icmp .ne 7 : Instr), 3)), (40, ((.iconst 1 : Instr), 1)), (41, ((.goto 4 : Instr), 3)), (44, ((.iconst 0 : Instr), 1)), (45, ((.istore_n 3 : Instr), 1)), (46, ((.aload_n 0 : Instr), 1)), (47, ((.dup : Instr), 1)), (48, ((.getfield 153 : Instr), 3)), (51, ((.iconst 1 : Instr), 1)), (52, ((.iadd : Instr), 1)), (53, ((.putfield 153 : Instr), 3)), (56, ((.aload_n 0 : Instr), 1)), (57, ((.iload_n 1 : Instr), 1)), (58, ((.invokevirtual 211 : Instr), 3))]),
  (88, [(61, ((.istore 4 : Instr), 2)), (63, ((.iload_n 3 : Instr), 1)), (64, ((.ifCond .eq 10 : Instr), 3)), (67, ((.iload_n 2 : Instr), 1)), (68, ((.iload 4 : Instr), 2)), (70, ((.imul : Instr), 1)), (71, ((.goto 16 : Instr), 3)), (74, ((.iload 4 : Instr), 2)), (76, ((.ifCond .ne 7 : Instr), 3)), (79, ((.iconst 0 : Instr), 1)), (80, ((.goto 7 : Instr), 3)), (83, ((.iload_n 2 : Instr), 1)), (84, ((.iload 4 : Instr), 2)), (86, ((.idiv : Instr), 1)), (87, ((.istore_n 2 : Instr), 1)), (88, ((.goto (-82) : Instr), 3))]),
  (92, [(91, ((.iload_n 2 : Instr), 1)), (92, ((.ireturn : Instr), 1))])]
/-- ChaffInTheWindModel.product(I)I -/
def z_meth_206 : z_Mr := (⟨"ChaffInTheWindModel", "product", "(I)I"⟩, prog_12_method_28_code, (5, 2, 0, 0), some .int, none, 10, 15, z_code_206, (1, 1455, 10, 1454, 100109))
def z_code_207 : z_bm (Instr × Nat) := [(26, [(0, ((.aload_n 0 : Instr), 1)), (1, ((.bipush 45 : Instr), 2)), (3, ((.invokevirtual 167 : Instr), 3)), (6, ((.ifCond .eq 10 : Instr), 3)), (9, ((.aload_n 0 : Instr), 1)), (10, ((.iload_n 1 : Instr), 1)), (11, ((.invokevirtual 211 : Instr), 3)), (14, ((.ineg : Instr), 1)), (15, ((.ireturn : Instr), 1)), (16, ((.aload_n 0 : Instr), 1)), (17, ((.invokevirtual 159 : Instr), 3)), (20, ((.ifCond .ne 5 : Instr), 3)), (23, ((.iconst 0 : Instr), 1)), (24, ((.ireturn : Instr), 1)), (25, ((.aload_n 0 : Instr), 1)), (26, ((.invokevirtual 163 : Instr), 3))]),
  (53, [(29, ((.istore_n 2 : Instr), 1)), (30, ((.iload_n 2 : Instr), 1)), (31, ((.bipush 40 : Instr), 2)), (33, ((.if_icmp .ne 34 : Instr), 3)), (36, ((.iload_n 1 : Instr), 1)), (37, ((.iconst 4 : Instr), 1)), (38, ((.if_icmp .ge 29 : Instr), 3)), (41, ((.aload_n 0 : Instr), 1)), (42, ((.dup : Instr), 1)), (43, ((.getfield 153 : Instr), 3)), (46, ((.iconst 1 : Instr), 1)), (47, ((.iadd : Instr), 1)), (48, ((.putfield 153 : Instr), 3)), (51, ((.aload_n 0 : Instr), 1)), (52, ((.iload_n 1 : Instr), 1)), (53, ((.iconst 1 : Instr), 1))]),
  (80, [(54, ((.iadd : Instr), 1)), (55, ((.invokevirtual 214 : Instr), 3)), (58, ((.istore_n 3 : Instr), 1)), (59, ((.aload_n 0 : Instr), 1)), (60, ((.bipush 41 : Instr), 2)), (62, ((.invokevirtual 183 : Instr), 3)), (65, ((.iload_n 3 : Instr), 1)), (66, ((.ireturn : Instr), 1)), (67, ((.iload_n 2 : Instr), 1)), (68, ((.bipush 48 : Instr), 2)), (70, ((.bipush 57 : Instr), 2)), (72, ((.invokestatic 133 : Instr), 3)), (75, ((.ifCond .eq 13 : Instr), 3)), (78, ((.aload_n 0 : Instr), 1)), (79, ((.iconst 3 : Instr), 1)), (80, ((.iconst 0 : Instr), 1))]),
  (113, [(81, ((.sipush 999 : Instr), 3)), (84, ((.invokevirtual 179 : Instr), 3)), (87, ((.ireturn : Instr), 1)), (88, ((.aload_n 0 : Instr), 1)), (89, ((.getfield 217 : Instr), 3)), (92, ((.ifCond .eq 41 : Instr), 3)), (95, ((.iload_n 2 : Instr), 1)), (96, ((.bipush 119 : Instr), 2)), (98, ((.if_icmp .eq 27 : Instr), 3)), (101, ((.iload_n 2 : Instr), 1)), (102, ((.bipush 122 : Instr), 2)), (104, ((.if_icmp .eq 21 : Instr), 3)), (107, ((.iload_n 2 : Instr), 1)), (108, ((.bipush 100 : Instr), 2)), (110, ((.if_icmp .eq 15 : Instr), 3)), (113, ((.iload_n 2 : Instr), 1))]),
  (145, [(114, ((.bipush 105 : Instr), 2)), (116, ((.if_icmp .eq 9 : Instr), 3)), (119, ((.iload_n 2 : Instr), 1)), (120, ((.bipush 107 : Instr), 2)), (122, ((.if_icmp .ne 7 : Instr), 3)), (125, ((.iconst 1 : Instr), 1)), (126, ((.goto 60 : Instr), 3)), (129, ((.iconst 0 : Instr), 1)), (130, ((.goto 56 : Instr), 3)), (133, ((.iload_n 2 : Instr), 1)), (134, ((.bipush 109 : Instr), 2)), (136, ((.if_icmp .eq 45 : Instr), 3)), (139, ((.iload_n 2 : Instr), 1)), (140, ((.bipush 99 : Instr), 2)), (142, ((.if_icmp .eq 39 : Instr), 3)), (145, ((.iload_n 2 : Instr), 1))]),
  (176, [(146, ((.bipush 104 : Instr), 2)), (148, ((.if_icmp .eq 33 : Instr), 3)), (151, ((.iload_n 2 : Instr), 1)), (152, ((.bipush 119 : Instr), 2)), (154, ((.if_icmp .eq 27 : Instr), 3)), (157, ((.iload_n 2 : Instr), 1)), (158, ((.bipush 115 : Instr), 2)), (160, ((.if_icmp .eq 21 : Instr), 3)), (163, ((.iload_n 2 : Instr), 1)), (164, ((.bipush 110 : Instr), 2)), (166, ((.if_icmp .eq 15 : Instr), 3)), (169, ((.iload_n 2 : Instr), 1)), (170, ((.bipush 107 : Instr), 2)), (172, ((.if_icmp .eq 9 : Instr), 3)), (175, ((.iload_n 2 : Instr), 1)), (176, ((.bipush 112 : Instr), 2))]),
  (203, [(178, ((.if_icmp .ne 7 : Instr), 3)), (181, ((.iconst 1 : Instr), 1)), (182, ((.goto 4 : Instr), 3)), (185, ((.iconst 0 : Instr), 1)), (186, ((.istore_n 3 : Instr), 1)), (187, ((.iload_n 3 : Instr), 1)), (188, ((.ifCond .ne 13 : Instr), 3)), (191, ((.aload_n 0 : Instr), 1)), (192, ((.aload_n 0 : Instr), 1)), (193, ((.getfield 153 : Instr), 3)), (196, ((.invokevirtual 171 : Instr), 3)), (199, ((.iconst 0 : Instr), 1)), (200, ((.ireturn : Instr), 1)), (201, ((.aload_n 0 : Instr), 1)), (202, ((.dup : Instr), 1)), (203, ((.getfield 153 : Instr), 3))]),
  (233, [(206, ((.iconst 1 : Instr), 1)), (207, ((.iadd : Instr), 1)), (208, ((.putfield 153 : Instr), 3)), (211, ((.aload_n 0 : Instr), 1)), (212, ((.getfield 217 : Instr), 3)), (215, ((.ifCond .eq 22 : Instr), 3)), (218, ((.aload_n 0 : Instr), 1)), (219, ((.getfield 69 : Instr), 3)), (222, ((.iconst (-1) : Instr), 1)), (223, ((.if_icmp .ne 7 : Instr), 3)), (226, ((.iconst 0 : Instr), 1)), (227, ((.goto 9 : Instr), 3)), (230, ((.aload_n 0 : Instr), 1)), (231, ((.iload_n 2 : Instr), 1)), (232, ((.i2c : Instr), 1)), (233, ((.invokevirtual 221 : Instr), 3))]),
  (255, [(236, ((.ireturn : Instr), 1)), (237, ((.aload_n 0 : Instr), 1)), (238, ((.getfield 66 : Instr), 3)), (241, ((.iconst (-1) : Instr), 1)), (242, ((.if_icmp .ne 7 : Instr), 3)), (245, ((.iconst 0 : Instr), 1)), (246, ((.goto 9 : Instr), 3)), (249, ((.aload_n 0 : Instr), 1)), (250, ((.iload_n 2 : Instr), 1)), (251, ((.i2c : Instr), 1)), (252, ((.invokevirtual 225 : Instr), 3)), (255, ((.ireturn : Instr), 1))])]
/-- ChaffInTheWindModel.thing(I)I -/
def z_meth_207 : z_Mr := (⟨"ChaffInTheWindModel", "thing", "(I)I"⟩, prog_12_method_29_code, (4, 2, 0, 0), some .int, none, 10, 15, z_code_207, (1, 1459, 10, 1458, 100110))
def z_code_208 : z_bm (Instr × Nat) := [(29, [(0, ((.iload_n 1 : Instr), 1)), (1, ((.bipush 119 : Instr), 2)), (3, ((.if_icmp .ne 15 : Instr), 3)), (6, ((.aload_n 0 : Instr), 1)), (7, ((.getfield 13 : Instr), 3)), (10, ((.aload_n 0 : Instr), 1)), (11, ((.getfield 69 : Instr), 3)), (14, ((.iaload : Instr), 1)), (15, ((.goto 61 : Instr), 3)), (18, ((.iload_n 1 : Instr), 1)), (19, ((.bipush 122 : Instr), 2)), (21, ((.if_icmp .ne 15 : Instr), 3)), (24, ((.aload_n 0 : Instr), 1)), (25, ((.getfield 16 : Instr), 3)), (28, ((.aload_n 0 : Instr), 1)), (29, ((.getfield 69 : Instr), 3))]),
  (61, [(32, ((.iaload : Instr), 1)), (33, ((.goto 43 : Instr), 3)), (36, ((.iload_n 1 : Instr), 1)), (37, ((.bipush 100 : Instr), 2)), (39, ((.if_icmp .ne 15 : Instr), 3)), (42, ((.aload_n 0 : Instr), 1)), (43, ((.getfield 19 : Instr), 3)), (46, ((.aload_n 0 : Instr), 1)), (47, ((.getfield 69 : Instr), 3)), (50, ((.iaload : Instr), 1)), (51, ((.goto 25 : Instr), 3)), (54, ((.iload_n 1 : Instr), 1)), (55, ((.bipush 105 : Instr), 2)), (57, ((.if_icmp .ne 15 : Instr), 3)), (60, ((.aload_n 0 : Instr), 1)), (61, ((.getfield 9 : Instr), 3))]),
  (76, [(64, ((.aload_n 0 : Instr), 1)), (65, ((.getfield 69 : Instr), 3)), (68, ((.iaload : Instr), 1)), (69, ((.goto 7 : Instr), 3)), (72, ((.aload_n 0 : Instr), 1)), (73, ((.getfield 228 : Instr), 3)), (76, ((.ireturn : Instr), 1))])]
/-- ChaffInTheWindModel.ofSort(C)I -/
def z_meth_208 : z_Mr := (⟨"ChaffInTheWindModel", "ofSort", "(C)I"⟩, prog_12_method_30_code, (2, 2, 0, 0), some .int, none, 10, 15, z_code_208, (1, 1463, 10, 1462, 100111))
def z_code_209 : z_bm (Instr × Nat) := [(117, [(0, ((.iconst 0 : Instr), 1)), (1, ((.istore_n 2 : Instr), 1)), (2, ((.iload_n 1 : Instr), 1)), (3, ((.tableswitch 208 99 119 #[103, 208, 208, 208, 208, 109, 208, 208, 159, 208, 97, 127, 208, 208, 208, 208, 121, 208, 208, 208, 115] : Instr), 97)), (100, ((.aload_n 0 : Instr), 1)), (101, ((.iconst (-1) : Instr), 1)), (102, ((.invokevirtual 234 : Instr), 3)), (105, ((.ireturn : Instr), 1)), (106, ((.aload_n 0 : Instr), 1)), (107, ((.iconst 0 : Instr), 1)), (108, ((.invokevirtual 234 : Instr), 3)), (111, ((.ireturn : Instr), 1)), (112, ((.aload_n 0 : Instr), 1)), (113, ((.iconst 1 : Instr), 1)), (114, ((.invokevirtual 234 : Instr), 3)), (117, ((.ireturn : Instr), 1))]),
  (141, [(118, ((.aload_n 0 : Instr), 1)), (119, ((.iconst 2 : Instr), 1)), (120, ((.invokevirtual 234 : Instr), 3)), (123, ((.ireturn : Instr), 1)), (124, ((.aload_n 0 : Instr), 1)), (125, ((.iconst 3 : Instr), 1)), (126, ((.invokevirtual 234 : Instr), 3)), (129, ((.ireturn : Instr), 1)), (130, ((.iconst 0 : Instr), 1)), (131, ((.istore_n 3 : Instr), 1)), (132, ((.iload_n 3 : Instr), 1)), (133, ((.aload_n 0 : Instr), 1)), (134, ((.getfield 130 : Instr), 3)), (137, ((.if_icmp .ge 23 : Instr), 3)), (140, ((.iload_n 2 : Instr), 1)), (141, ((.aload_n 0 : Instr), 1))]),
  (165, [(142, ((.getfield 231 : Instr), 3)), (145, ((.aload_n 0 : Instr), 1)), (146, ((.getfield 66 : Instr), 3)), (149, ((.iload_n 3 : Instr), 1)), (150, ((.iadd : Instr), 1)), (151, ((.iaload : Instr), 1)), (152, ((.iadd : Instr), 1)), (153, ((.istore_n 2 : Instr), 1)), (154, ((.iinc 3 1 : Instr), 3)), (157, ((.goto (-25) : Instr), 3)), (160, ((.iload_n 2 : Instr), 1)), (161, ((.ireturn : Instr), 1)), (162, ((.iconst 0 : Instr), 1)), (163, ((.istore_n 3 : Instr), 1)), (164, ((.iload_n 3 : Instr), 1)), (165, ((.aload_n 0 : Instr), 1))]),
  (193, [(166, ((.getfield 130 : Instr), 3)), (169, ((.if_icmp .ge 40 : Instr), 3)), (172, ((.iload_n 2 : Instr), 1)), (173, ((.aload_n 0 : Instr), 1)), (174, ((.getfield 9 : Instr), 3)), (177, ((.iload_n 3 : Instr), 1)), (178, ((.iaload : Instr), 1)), (179, ((.ifCond .ne 21 : Instr), 3)), (182, ((.aload_n 0 : Instr), 1)), (183, ((.getfield 231 : Instr), 3)), (186, ((.aload_n 0 : Instr), 1)), (187, ((.getfield 66 : Instr), 3)), (190, ((.iload_n 3 : Instr), 1)), (191, ((.iadd : Instr), 1)), (192, ((.iaload : Instr), 1)), (193, ((.ifCond .le 7 : Instr), 3))]),
  (223, [(196, ((.iconst 1 : Instr), 1)), (197, ((.goto 4 : Instr), 3)), (200, ((.iconst 0 : Instr), 1)), (201, ((.iadd : Instr), 1)), (202, ((.istore_n 2 : Instr), 1)), (203, ((.iinc 3 1 : Instr), 3)), (206, ((.goto (-42) : Instr), 3)), (209, ((.iload_n 2 : Instr), 1)), (210, ((.ireturn : Instr), 1)), (211, ((.aload_n 0 : Instr), 1)), (212, ((.iconst (-1) : Instr), 1)), (213, ((.invokevirtual 234 : Instr), 3)), (216, ((.ifCond .ne 7 : Instr), 3)), (219, ((.iconst 0 : Instr), 1)), (220, ((.goto 17 : Instr), 3)), (223, ((.aload_n 0 : Instr), 1))]),
  (237, [(224, ((.iconst 0 : Instr), 1)), (225, ((.invokevirtual 234 : Instr), 3)), (228, ((.bipush 100 : Instr), 2)), (230, ((.imul : Instr), 1)), (231, ((.aload_n 0 : Instr), 1)), (232, ((.iconst (-1) : Instr), 1)), (233, ((.invokevirtual 234 : Instr), 3)), (236, ((.idiv : Instr), 1)), (237, ((.ireturn : Instr), 1))])]
/-- ChaffInTheWindModel.ofHeap(C)I -/
def z_meth_209 : z_Mr := (⟨"ChaffInTheWindModel", "ofHeap", "(C)I"⟩, prog_12_method_32_code, (4, 2, 0, 0), some .int, none, 10, 15, z_code_209, (1, 1467, 10, 1466, 100112))
def z_code_210 : z_bm (Instr × Nat) := [(23, [(0, ((.iconst 0 : Instr), 1)), (1, ((.istore_n 2 : Instr), 1)), (2, ((.iconst 0 : Instr), 1)), (3, ((.istore_n 3 : Instr), 1)), (4, ((.iload_n 3 : Instr), 1)), (5, ((.aload_n 0 : Instr), 1)), (6, ((.getfield 130 : Instr), 3)), (9, ((.if_icmp .ge 49 : Instr), 3)), (12, ((.iload_n 2 : Instr), 1)), (13, ((.iload_n 1 : Instr), 1)), (14, ((.iconst (-1) : Instr), 1)), (15, ((.if_icmp .eq 13 : Instr), 3)), (18, ((.aload_n 0 : Instr), 1)), (19, ((.getfield 9 : Instr), 3)), (22, ((.iload_n 3 : Instr), 1)), (23, ((.iaload : Instr), 1))]),
  (49, [(24, ((.iload_n 1 : Instr), 1)), (25, ((.if_icmp .ne 24 : Instr), 3)), (28, ((.aload_n 0 : Instr), 1)), (29, ((.getfield 13 : Instr), 3)), (32, ((.iload_n 3 : Instr), 1)), (33, ((.iaload : Instr), 1)), (34, ((.aload_n 0 : Instr), 1)), (35, ((.getfield 231 : Instr), 3)), (38, ((.aload_n 0 : Instr), 1)), (39, ((.getfield 66 : Instr), 3)), (42, ((.iload_n 3 : Instr), 1)), (43, ((.iadd : Instr), 1)), (44, ((.iaload : Instr), 1)), (45, ((.imul : Instr), 1)), (46, ((.goto 4 : Instr), 3)), (49, ((.iconst 0 : Instr), 1))]),
  (59, [(50, ((.iadd : Instr), 1)), (51, ((.istore_n 2 : Instr), 1)), (52, ((.iinc 3 1 : Instr), 3)), (55, ((.goto (-51) : Instr), 3)), (58, ((.iload_n 2 : Instr), 1)), (59, ((.ireturn : Instr), 1))])]
/-- ChaffInTheWindModel.heavyOf(I)I -/
def z_meth_210 : z_Mr := (⟨"ChaffInTheWindModel", "heavyOf", "(I)I"⟩, prog_12_method_31_code, (4, 2, 0, 0), some .int, none, 10, 15, z_code_210, (1, 1471, 10, 1470, 100113))
def z_code_211 : z_bm (Instr × Nat) := [(26, [(0, ((.aload_n 0 : Instr), 1)), (1, ((.iconst 0 : Instr), 1)), (2, ((.putfield 124 : Instr), 3)), (5, ((.iload_n 1 : Instr), 1)), (6, ((.iconst 1 : Instr), 1)), (7, ((.if_icmp .ne 8 : Instr), 3)), (10, ((.bipush (-40) : Instr), 2)), (12, ((.goto 18 : Instr), 3)), (15, ((.iload_n 1 : Instr), 1)), (16, ((.iconst 2 : Instr), 1)), (17, ((.if_icmp .eq 8 : Instr), 3)), (20, ((.iload_n 1 : Instr), 1)), (21, ((.iconst 4 : Instr), 1)), (22, ((.if_icmp .ne 7 : Instr), 3)), (25, ((.iconst 0 : Instr), 1)), (26, ((.goto 4 : Instr), 3))]),
  (57, [(29, ((.iconst 1 : Instr), 1)), (30, ((.istore_n 3 : Instr), 1)), (31, ((.iload_n 1 : Instr), 1)), (32, ((.ifCond .ne 9 : Instr), 3)), (35, ((.sipush 400 : Instr), 3)), (38, ((.goto 39 : Instr), 3)), (41, ((.iload_n 1 : Instr), 1)), (42, ((.iconst 1 : Instr), 1)), (43, ((.if_icmp .ne 8 : Instr), 3)), (46, ((.bipush 40 : Instr), 2)), (48, ((.goto 29 : Instr), 3)), (51, ((.iload_n 1 : Instr), 1)), (52, ((.iconst 2 : Instr), 1)), (53, ((.if_icmp .ne 12 : Instr), 3)), (56, ((.aload_n 0 : Instr), 1)), (57, ((.getfield 22 : Instr), 3))]),
  (88, [(60, ((.iconst 1 : Instr), 1)), (61, ((.isub : Instr), 1)), (62, ((.goto 15 : Instr), 3)), (65, ((.iload_n 1 : Instr), 1)), (66, ((.iconst 3 : Instr), 1)), (67, ((.if_icmp .ne 8 : Instr), 3)), (70, ((.bipush 99 : Instr), 2)), (72, ((.goto 5 : Instr), 3)), (75, ((.bipush 50 : Instr), 2)), (77, ((.istore 4 : Instr), 2)), (79, ((.iload_n 1 : Instr), 1)), (80, ((.iconst 0 : Instr), 1)), (81, ((.iconst 4 : Instr), 1)), (82, ((.invokestatic 133 : Instr), 3)), (85, ((.ifCond .eq 13 : Instr), 3)), (88, ((.iload_n 2 : Instr), 1))]),
  (114, [(89, ((.iload_n 3 : Instr), 1)), (90, ((.iload 4 : Instr), 2)), (92, ((.invokestatic 133 : Instr), 3)), (95, ((.ifCond .ne 5 : Instr), 3)), (98, ((.iconst (-1) : Instr), 1)), (99, ((.ireturn : Instr), 1)), (100, ((.aload_n 0 : Instr), 1)), (101, ((.getfield 29 : Instr), 3)), (104, ((.iload_n 1 : Instr), 1)), (105, ((.iaload : Instr), 1)), (106, ((.istore 5 : Instr), 2)), (108, ((.aload_n 0 : Instr), 1)), (109, ((.getfield 29 : Instr), 3)), (112, ((.iload_n 1 : Instr), 1)), (113, ((.iload_n 2 : Instr), 1)), (114, ((.iastore : Instr), 1))]),
  (117, [(115, ((.iload 5 : Instr), 2)), (117, ((.ireturn : Instr), 1))])]
/-- ChaffInTheWindModel.set(II)I -/
def z_meth_211 : z_Mr := (⟨"ChaffInTheWindModel", "set", "(II)I"⟩, prog_12_method_37_code, (6, 3, 0, 0), some .int, none, 10, 15, z_code_211, (1, 1475, 10, 1473, 1474))
def z_code_212 : z_bm (Instr × Nat) := [(27, [(0, ((.aload_n 0 : Instr), 1)), (1, ((.iconst 0 : Instr), 1)), (2, ((.putfield 124 : Instr), 3)), (5, ((.aload_n 0 : Instr), 1)), (6, ((.iload_n 1 : Instr), 1)), (7, ((.invokevirtual 249 : Instr), 3)), (10, ((.ifCond .eq 12 : Instr), 3)), (13, ((.iload_n 2 : Instr), 1)), (14, ((.iconst 0 : Instr), 1)), (15, ((.iconst 3 : Instr), 1)), (16, ((.invokestatic 133 : Instr), 3)), (19, ((.ifCond .ne 8 : Instr), 3)), (22, ((.aload_n 0 : Instr), 1)), (23, ((.invokevirtual 253 : Instr), 3)), (26, ((.ireturn : Instr), 1)), (27, ((.iload_n 2 : Instr), 1))]),
  (55, [(28, ((.ifCond .ne 12 : Instr), 3)), (31, ((.aload_n 0 : Instr), 1)), (32, ((.getfield 9 : Instr), 3)), (35, ((.iload_n 1 : Instr), 1)), (36, ((.iaload : Instr), 1)), (37, ((.goto 37 : Instr), 3)), (40, ((.iload_n 2 : Instr), 1)), (41, ((.iconst 1 : Instr), 1)), (42, ((.if_icmp .ne 12 : Instr), 3)), (45, ((.aload_n 0 : Instr), 1)), (46, ((.getfield 13 : Instr), 3)), (49, ((.iload_n 1 : Instr), 1)), (50, ((.iaload : Instr), 1)), (51, ((.goto 23 : Instr), 3)), (54, ((.iload_n 2 : Instr), 1)), (55, ((.iconst 2 : Instr), 1))]),
  (74, [(56, ((.if_icmp .ne 12 : Instr), 3)), (59, ((.aload_n 0 : Instr), 1)), (60, ((.getfield 16 : Instr), 3)), (63, ((.iload_n 1 : Instr), 1)), (64, ((.iaload : Instr), 1)), (65, ((.goto 9 : Instr), 3)), (68, ((.aload_n 0 : Instr), 1)), (69, ((.getfield 19 : Instr), 3)), (72, ((.iload_n 1 : Instr), 1)), (73, ((.iaload : Instr), 1)), (74, ((.ireturn : Instr), 1))])]
/-- ChaffInTheWindModel.sort(II)I -/
def z_meth_212 : z_Mr := (⟨"ChaffInTheWindModel", "sort", "(II)I"⟩, prog_12_method_38_code, (3, 3, 0, 0), some .int, none, 10, 15, z_code_212, (1, 1479, 10, 1477, 1478))
def z_code_213 : z_bm (Instr × Nat) := [(11, [(0, ((.iload_n 1 : Instr), 1)), (1, ((.iconst 0 : Instr), 1)), (2, ((.aload_n 0 : Instr), 1)), (3, ((.getfield 130 : Instr), 3)), (6, ((.iconst 1 : Instr), 1)), (7, ((.isub : Instr), 1)), (8, ((.invokestatic 133 : Instr), 3)), (11, ((.ireturn : Instr), 1))])]
/-- ChaffInTheWindModel.isSort(I)Z -/
def z_meth_213 : z_Mr := (⟨"ChaffInTheWindModel", "isSort", "(I)Z"⟩, prog_12_method_7_code, (2, 2, 0, 0), some .boolean, none, 10, 15, z_code_213, (1, 1483, 10, 1482, 100114))
def z_code_214 : z_bm (Instr × Nat) := [(6, [(0, ((.aload_n 0 : Instr), 1)), (1, ((.iconst 1 : Instr), 1)), (2, ((.putfield 124 : Instr), 3)), (5, ((.iconst 0 : Instr), 1)), (6, ((.ireturn : Instr), 1))])]
/-- ChaffInTheWindModel.lost()I -/
def z_meth_214 : z_Mr := (⟨"ChaffInTheWindModel", "lost", "()I"⟩, prog_12_method_5_code, (1, 1, 0, 0), some .int, none, 10, 15, z_code_214, (1, 1487, 10, 1486, 100115))
def z_code_215 : z_bm (Instr × Nat) := [(29, [(0, ((.aload_n 0 : Instr), 1)), (1, ((.iconst 0 : Instr), 1)), (2, ((.putfield 124 : Instr), 3)), (5, ((.iload_n 1 : Instr), 1)), (6, ((.invokestatic 256 : Instr), 3)), (9, ((.ifCond .eq 24 : Instr), 3)), (12, ((.aload_n 0 : Instr), 1)), (13, ((.iload_n 2 : Instr), 1)), (14, ((.invokevirtual 249 : Instr), 3)), (17, ((.ifCond .eq 16 : Instr), 3)), (20, ((.aload_n 0 : Instr), 1)), (21, ((.getfield 26 : Instr), 3)), (24, ((.iload_n 1 : Instr), 1)), (25, ((.iload_n 2 : Instr), 1)), (26, ((.invokestatic 137 : Instr), 3)), (29, ((.iaload : Instr), 1))]),
  (34, [(30, ((.goto 4 : Instr), 3)), (33, ((.iconst (-1) : Instr), 1)), (34, ((.ireturn : Instr), 1))])]
/-- ChaffInTheWindModel.has(II)I -/
def z_meth_215 : z_Mr := (⟨"ChaffInTheWindModel", "has", "(II)I"⟩, prog_12_method_39_code, (3, 3, 0, 0), some .int, none, 10, 15, z_code_215, (1, 1491, 10, 1489, 1490))
def z_code_216 : z_bm (Instr × Nat) := [(6, [(0, ((.iload_n 0 : Instr), 1)), (1, ((.iconst 0 : Instr), 1)), (2, ((.iconst 5 : Instr), 1)), (3, ((.invokestatic 133 : Instr), 3)), (6, ((.ireturn : Instr), 1))])]
/-- ChaffInTheWindModel.isHeap(I)Z -/
def z_meth_216 : z_Mr := (⟨"ChaffInTheWindModel", "isHeap", "(I)Z"⟩, prog_12_method_8_code, (1, 1, 0, 0), some .boolean, none, 10, 15, z_code_216, (0, 1494, 10, 1493, 0))
def z_code_217 : z_bm (Instr × Nat) := [(27, [(0, ((.aload_n 0 : Instr), 1)), (1, ((.iconst 0 : Instr), 1)), (2, ((.putfield 124 : Instr), 3)), (5, ((.aload_n 0 : Instr), 1)), (6, ((.iload_n 2 : Instr), 1)), (7, ((.invokevirtual 249 : Instr), 3)), (10, ((.ifCond .eq 15 : Instr), 3)), (13, ((.iload_n 1 : Instr), 1)), (14, ((.iconst 0 : Instr), 1)), (15, ((.aload_n 0 : Instr), 1)), (16, ((.getfield 22 : Instr), 3)), (19, ((.invokestatic 133 : Instr), 3)), (22, ((.ifCond .ne 5 : Instr), 3)), (25, ((.iconst (-1) : Instr), 1)), (26, ((.ireturn : Instr), 1)), (27, ((.aload_n 0 : Instr), 1))]),
  (53, [(28, ((.getfield 26 : Instr), 3)), (31, ((.iload_n 1 : Instr), 1)), (32, ((.aload_n 0 : Instr), 1)), (33, ((.getfield 22 : Instr), 3)), (36, ((.if_icmp .ne 8 : Instr), 3)), (39, ((.bipush 30 : Instr), 2)), (41, ((.goto 7 : Instr), 3)), (44, ((.bipush 6 : Instr), 2)), (46, ((.iload_n 1 : Instr), 1)), (47, ((.iadd : Instr), 1)), (48, ((.iload_n 2 : Instr), 1)), (49, ((.invokestatic 137 : Instr), 3)), (52, ((.iaload : Instr), 1)), (53, ((.ireturn : Instr), 1))])]
/-- ChaffInTheWindModel.lies(II)I -/
def z_meth_217 : z_Mr := (⟨"ChaffInTheWindModel", "lies", "(II)I"⟩, prog_12_method_40_code, (3, 3, 0, 0), some .int, none, 10, 15, z_code_217, (1, 1498, 10, 1496, 1497))
def z_code_218 : z_bm (Instr × Nat) := [(28, [(0, ((.aload_n 0 : Instr), 1)), (1, ((.iconst 0 : Instr), 1)), (2, ((.putfield 124 : Instr), 3)), (5, ((.iload_n 1 : Instr), 1)), (6, ((.invokestatic 256 : Instr), 3)), (9, ((.ifCond .eq 18 : Instr), 3)), (12, ((.iload_n 2 : Instr), 1)), (13, ((.iconst 0 : Instr), 1)), (14, ((.iconst 3 : Instr), 1)), (15, ((.invokestatic 133 : Instr), 3)), (18, ((.ifCond .eq 9 : Instr), 3)), (21, ((.iload_n 3 : Instr), 1)), (22, ((.bipush 10 : Instr), 2)), (24, ((.if_icmp .le 5 : Instr), 3)), (27, ((.iconst (-1) : Instr), 1)), (28, ((.ireturn : Instr), 1))]),
  (54, [(29, ((.iload_n 2 : Instr), 1)), (30, ((.iconst 3 : Instr), 1)), (31, ((.if_icmp .ge 10 : Instr), 3)), (34, ((.iload_n 3 : Instr), 1)), (35, ((.ifCond .ge 6 : Instr), 3)), (38, ((.bipush (-2) : Instr), 2)), (40, ((.ireturn : Instr), 1)), (41, ((.iconst 0 : Instr), 1)), (42, ((.istore 6 : Instr), 2)), (44, ((.iload 4 : Instr), 2)), (46, ((.istore 7 : Instr), 2)), (48, ((.iconst 0 : Instr), 1)), (49, ((.istore 8 : Instr), 2)), (51, ((.iload 8 : Instr), 2)), (53, ((.aload_n 0 : Instr), 1)), (54, ((.getfield 130 : Instr), 3))]),
  (86, [(57, ((.if_icmp .ge 95 : Instr), 3)), (60, ((.iload_n 2 : Instr), 1)), (61, ((.ifCond .ne 9 : Instr), 3)), (64, ((.iload 7 : Instr), 2)), (66, ((.i2b : Instr), 1)), (67, ((.goto 16 : Instr), 3)), (70, ((.iload_n 2 : Instr), 1)), (71, ((.iconst 1 : Instr), 1)), (72, ((.if_icmp .ne 9 : Instr), 3)), (75, ((.iload 7 : Instr), 2)), (77, ((.i2s : Instr), 1)), (78, ((.goto 5 : Instr), 3)), (81, ((.iload 7 : Instr), 2)), (83, ((.istore 9 : Instr), 2)), (85, ((.aload_n 0 : Instr), 1)), (86, ((.getfield 26 : Instr), 3))]),
  (119, [(89, ((.iload_n 1 : Instr), 1)), (90, ((.iload 8 : Instr), 2)), (92, ((.invokestatic 137 : Instr), 3)), (95, ((.iload_n 2 : Instr), 1)), (96, ((.iconst 3 : Instr), 1)), (97, ((.if_icmp .eq 9 : Instr), 3)), (100, ((.iload 8 : Instr), 2)), (102, ((.iload_n 3 : Instr), 1)), (103, ((.if_icmp .lt 7 : Instr), 3)), (106, ((.iconst 0 : Instr), 1)), (107, ((.goto 15 : Instr), 3)), (110, ((.iconst 0 : Instr), 1)), (111, ((.sipush 999 : Instr), 3)), (114, ((.iload 9 : Instr), 2)), (116, ((.invokestatic 190 : Instr), 3)), (119, ((.invokestatic 239 : Instr), 3))]),
  (149, [(122, ((.iastore : Instr), 1)), (123, ((.iload 6 : Instr), 2)), (125, ((.aload_n 0 : Instr), 1)), (126, ((.getfield 26 : Instr), 3)), (129, ((.iload_n 1 : Instr), 1)), (130, ((.iload 8 : Instr), 2)), (132, ((.invokestatic 137 : Instr), 3)), (135, ((.iaload : Instr), 1)), (136, ((.iadd : Instr), 1)), (137, ((.istore 6 : Instr), 2)), (139, ((.iload 7 : Instr), 2)), (141, ((.iload 5 : Instr), 2)), (143, ((.iadd : Instr), 1)), (144, ((.istore 7 : Instr), 2)), (146, ((.iinc 8 1 : Instr), 3)), (149, ((.goto (-98) : Instr), 3))]),
  (164, [(152, ((.iload_n 2 : Instr), 1)), (153, ((.iconst 3 : Instr), 1)), (154, ((.if_icmp .ne 8 : Instr), 3)), (157, ((.bipush (-3) : Instr), 2)), (159, ((.goto 5 : Instr), 3)), (162, ((.iload 6 : Instr), 2)), (164, ((.ireturn : Instr), 1))])]
/-- ChaffInTheWindModel.sheet(IIIII)I -/
def z_meth_218 : z_Mr := (⟨"ChaffInTheWindModel", "sheet", "(IIIII)I"⟩, prog_12_method_41_code, (10, 6, 0, 0), some .int, none, 10, 15, z_code_218, (1, 1502, 10, 1500, 1501))
def z_code_219 : z_bm (Instr × Nat) := [(25, [(0, ((.aload_n 0 : Instr), 1)), (1, ((.iconst 0 : Instr), 1)), (2, ((.putfield 124 : Instr), 3)), (5, ((.aload_n 0 : Instr), 1)), (6, ((.iload_n 1 : Instr), 1)), (7, ((.invokevirtual 249 : Instr), 3)), (10, ((.ifCond .eq 10 : Instr), 3)), (13, ((.iload_n 2 : Instr), 1)), (14, ((.invokestatic 275 : Instr), 3)), (17, ((.ifCond .ne 5 : Instr), 3)), (20, ((.iconst (-1) : Instr), 1)), (21, ((.ireturn : Instr), 1)), (22, ((.aload_n 0 : Instr), 1)), (23, ((.iload_n 1 : Instr), 1)), (24, ((.iload_n 2 : Instr), 1)), (25, ((.invokevirtual 278 : Instr), 3))]),
  (53, [(28, ((.istore_n 3 : Instr), 1)), (29, ((.aload_n 0 : Instr), 1)), (30, ((.iconst 0 : Instr), 1)), (31, ((.putfield 127 : Instr), 3)), (34, ((.aload_n 0 : Instr), 1)), (35, ((.aload_n 0 : Instr), 1)), (36, ((.getfield 259 : Instr), 3)), (39, ((.i2l : Instr), 1)), (40, ((.invokevirtual 281 : Instr), 3)), (43, ((.aload_n 0 : Instr), 1)), (44, ((.aload_n 0 : Instr), 1)), (45, ((.getfield 262 : Instr), 3)), (48, ((.i2l : Instr), 1)), (49, ((.invokevirtual 281 : Instr), 3)), (52, ((.aload_n 0 : Instr), 1)), (53, ((.aload_n 0 : Instr), 1))]),
  (62, [(54, ((.getfield 265 : Instr), 3)), (57, ((.i2l : Instr), 1)), (58, ((.invokevirtual 281 : Instr), 3)), (61, ((.iload_n 3 : Instr), 1)), (62, ((.ireturn : Instr), 1))])]
/-- ChaffInTheWindModel.lands(II)I -/
def z_meth_219 : z_Mr := (⟨"ChaffInTheWindModel", "lands", "(II)I"⟩, prog_12_method_44_code, (4, 3, 0, 0), some .int, none, 10, 15, z_code_219, (1, 1507, 10, 1505, 1506))
def z_code_220 : z_bm (Instr × Nat) := [(8, [(0, ((.iload_n 0 : Instr), 1)), (1, ((.bipush (-60) : Instr), 2)), (3, ((.bipush 60 : Instr), 2)), (5, ((.invokestatic 133 : Instr), 3)), (8, ((.ireturn : Instr), 1))])]
/-- ChaffInTheWindModel.isWind(I)Z -/
def z_meth_220 : z_Mr := (⟨"ChaffInTheWindModel", "isWind", "(I)Z"⟩, prog_12_method_10_code, (1, 1, 0, 0), some .boolean, none, 10, 15, z_code_220, (0, 1510, 10, 1509, 0))
def z_code_221 : z_bm (Instr × Nat) := [(18, [(0, ((.aload_n 0 : Instr), 1)), (1, ((.iload_n 1 : Instr), 1)), (2, ((.iload_n 2 : Instr), 1)), (3, ((.aload_n 0 : Instr), 1)), (4, ((.getfield 29 : Instr), 3)), (7, ((.iconst 0 : Instr), 1)), (8, ((.iaload : Instr), 1)), (9, ((.aload_n 0 : Instr), 1)), (10, ((.getfield 29 : Instr), 3)), (13, ((.iconst 1 : Instr), 1)), (14, ((.iaload : Instr), 1)), (15, ((.invokevirtual 271 : Instr), 3)), (18, ((.ireturn : Instr), 1))])]
/-- ChaffInTheWindModel.landsNow(II)I -/
def z_meth_221 : z_Mr := (⟨"ChaffInTheWindModel", "landsNow", "(II)I"⟩, prog_12_method_43_code, (3, 3, 0, 0), some .int, none, 10, 15, z_code_221, (1, 1514, 10, 1513, 100116))
def z_code_222 : z_bm (Instr × Nat) := [(22, [(0, ((.iconst 4 : Instr), 1)), (1, ((.aload_n 0 : Instr), 1)), (2, ((.getfield 13 : Instr), 3)), (5, ((.iload_n 1 : Instr), 1)), (6, ((.iaload : Instr), 1)), (7, ((.aload_n 0 : Instr), 1)), (8, ((.getfield 29 : Instr), 3)), (11, ((.iconst 4 : Instr), 1)), (12, ((.iaload : Instr), 1)), (13, ((.iadd : Instr), 1)), (14, ((.imul : Instr), 1)), (15, ((.istore 5 : Instr), 2)), (17, ((.aload_n 0 : Instr), 1)), (18, ((.getfield 19 : Instr), 3)), (21, ((.iload_n 1 : Instr), 1)), (22, ((.iaload : Instr), 1))]),
  (50, [(23, ((.iload 5 : Instr), 2)), (25, ((.invokestatic 190 : Instr), 3)), (28, ((.istore 6 : Instr), 2)), (30, ((.iconst 0 : Instr), 1)), (31, ((.istore 7 : Instr), 2)), (33, ((.iload 4 : Instr), 2)), (35, ((.istore 8 : Instr), 2)), (37, ((.iload_n 3 : Instr), 1)), (38, ((.istore 9 : Instr), 2)), (40, ((.aload_n 0 : Instr), 1)), (41, ((.iconst 0 : Instr), 1)), (42, ((.putfield 259 : Instr), 3)), (45, ((.aload_n 0 : Instr), 1)), (46, ((.iconst 0 : Instr), 1)), (47, ((.putfield 262 : Instr), 3)), (50, ((.iload 9 : Instr), 2))]),
  (79, [(52, ((.ifCond .le 69 : Instr), 3)), (55, ((.iinc 7 2 : Instr), 3)), (58, ((.iload 7 : Instr), 2)), (60, ((.iload 6 : Instr), 2)), (62, ((.iload 7 : Instr), 2)), (64, ((.imul : Instr), 1)), (65, ((.iload 5 : Instr), 2)), (67, ((.idiv : Instr), 1)), (68, ((.isub : Instr), 1)), (69, ((.istore 7 : Instr), 2)), (71, ((.iload 8 : Instr), 2)), (73, ((.iload 6 : Instr), 2)), (75, ((.iload_n 2 : Instr), 1)), (76, ((.iload 8 : Instr), 2)), (78, ((.isub : Instr), 1)), (79, ((.imul : Instr), 1))]),
  (106, [(80, ((.iload 5 : Instr), 2)), (82, ((.idiv : Instr), 1)), (83, ((.iadd : Instr), 1)), (84, ((.istore 8 : Instr), 2)), (86, ((.aload_n 0 : Instr), 1)), (87, ((.dup : Instr), 1)), (88, ((.getfield 262 : Instr), 3)), (91, ((.iload 8 : Instr), 2)), (93, ((.iadd : Instr), 1)), (94, ((.putfield 262 : Instr), 3)), (97, ((.iload 9 : Instr), 2)), (99, ((.iconst 1 : Instr), 1)), (100, ((.iload 7 : Instr), 2)), (102, ((.invokestatic 239 : Instr), 3)), (105, ((.isub : Instr), 1)), (106, ((.istore 9 : Instr), 2))]),
  (134, [(108, ((.aload_n 0 : Instr), 1)), (109, ((.dup : Instr), 1)), (110, ((.getfield 259 : Instr), 3)), (113, ((.iconst 1 : Instr), 1)), (114, ((.iadd : Instr), 1)), (115, ((.putfield 259 : Instr), 3)), (118, ((.goto (-68) : Instr), 3)), (121, ((.aload_n 0 : Instr), 1)), (122, ((.iload 7 : Instr), 2)), (124, ((.putfield 265 : Instr), 3)), (127, ((.aload_n 0 : Instr), 1)), (128, ((.getfield 29 : Instr), 3)), (131, ((.iconst 2 : Instr), 1)), (132, ((.iaload : Instr), 1)), (133, ((.aload_n 0 : Instr), 1)), (134, ((.getfield 262 : Instr), 3))]),
  (163, [(137, ((.bipush 16 : Instr), 2)), (139, ((.invokestatic 268 : Instr), 3)), (142, ((.iadd : Instr), 1)), (143, ((.istore 10 : Instr), 2)), (145, ((.iload 10 : Instr), 2)), (147, ((.ifCond .ge 7 : Instr), 3)), (150, ((.iconst 0 : Instr), 1)), (151, ((.goto 12 : Instr), 3)), (154, ((.aload_n 0 : Instr), 1)), (155, ((.getfield 22 : Instr), 3)), (158, ((.iload 10 : Instr), 2)), (160, ((.invokestatic 190 : Instr), 3)), (163, ((.ireturn : Instr), 1))])]
/-- ChaffInTheWindModel.landsIn(IIII)I -/
def z_meth_222 : z_Mr := (⟨"ChaffInTheWindModel", "landsIn", "(IIII)I"⟩, prog_12_method_42_code, (11, 5, 0, 0), some .int, none, 10, 15, z_code_222, (1, 1518, 10, 1517, 100117))
def z_code_223 : z_bm (Instr × Nat) := [(20, [(0, ((.aload_n 0 : Instr), 1)), (1, ((.getfield 39 : Instr), 3)), (4, ((.aload_n 0 : Instr), 1)), (5, ((.getfield 127 : Instr), 3)), (8, ((.lload_n 1 : Instr), 1)), (9, ((.lastore : Instr), 1)), (10, ((.aload_n 0 : Instr), 1)), (11, ((.dup : Instr), 1)), (12, ((.getfield 127 : Instr), 3)), (15, ((.iconst 1 : Instr), 1)), (16, ((.iadd : Instr), 1)), (17, ((.putfield 127 : Instr), 3)), (20, ((.return_ : Instr), 1))])]
/-- ChaffInTheWindModel.tell(J)V -/
def z_meth_223 : z_Mr := (⟨"ChaffInTheWindModel", "tell", "(J)V"⟩, prog_12_method_6_code, (3, 2, 0, 0), none, none, 10, 15, z_code_223, (1, 1523, 10, 1522, 100118))
def z_code_224 : z_bm (Instr × Nat) := [(27, [(0, ((.aload_n 0 : Instr), 1)), (1, ((.iconst 0 : Instr), 1)), (2, ((.putfield 124 : Instr), 3)), (5, ((.iload_n 1 : Instr), 1)), (6, ((.invokestatic 256 : Instr), 3)), (9, ((.ifCond .eq 14 : Instr), 3)), (12, ((.iload_n 2 : Instr), 1)), (13, ((.iconst 0 : Instr), 1)), (14, ((.sipush 500 : Instr), 3)), (17, ((.invokestatic 133 : Instr), 3)), (20, ((.ifCond .ne 5 : Instr), 3)), (23, ((.iconst (-1) : Instr), 1)), (24, ((.ireturn : Instr), 1)), (25, ((.iconst 0 : Instr), 1)), (26, ((.istore_n 3 : Instr), 1)), (27, ((.iconst 0 : Instr), 1))]),
  (57, [(28, ((.istore 4 : Instr), 2)), (30, ((.iload 4 : Instr), 2)), (32, ((.iload_n 2 : Instr), 1)), (33, ((.if_icmp .ge 221 : Instr), 3)), (36, ((.aload_n 0 : Instr), 1)), (37, ((.iload_n 1 : Instr), 1)), (38, ((.invokevirtual 286 : Instr), 3)), (41, ((.ifCond .le 213 : Instr), 3)), (44, ((.aload_n 0 : Instr), 1)), (45, ((.invokevirtual 289 : Instr), 3)), (48, ((.istore 5 : Instr), 2)), (50, ((.iload 5 : Instr), 2)), (52, ((.iconst (-1) : Instr), 1)), (53, ((.if_icmp .ne 7 : Instr), 3)), (56, ((.iconst 0 : Instr), 1)), (57, ((.goto 10 : Instr), 3))]),
  (88, [(60, ((.aload_n 0 : Instr), 1)), (61, ((.getfield 46 : Instr), 3)), (64, ((.iload 5 : Instr), 2)), (66, ((.iaload : Instr), 1)), (67, ((.istore 6 : Instr), 2)), (69, ((.iload 5 : Instr), 2)), (71, ((.iconst (-1) : Instr), 1)), (72, ((.if_icmp .eq 41 : Instr), 3)), (75, ((.aload_n 0 : Instr), 1)), (76, ((.getfield 52 : Instr), 3)), (79, ((.iload 5 : Instr), 2)), (81, ((.iaload : Instr), 1)), (82, ((.ifCond .le 31 : Instr), 3)), (85, ((.iload 6 : Instr), 2)), (87, ((.aload_n 0 : Instr), 1)), (88, ((.iconst 2 : Instr), 1))]),
  (113, [(89, ((.aload_n 0 : Instr), 1)), (90, ((.getfield 52 : Instr), 3)), (93, ((.iload 5 : Instr), 2)), (95, ((.iaload : Instr), 1)), (96, ((.imul : Instr), 1)), (97, ((.iconst 1 : Instr), 1)), (98, ((.iadd : Instr), 1)), (99, ((.invokevirtual 292 : Instr), 3)), (102, ((.aload_n 0 : Instr), 1)), (103, ((.getfield 52 : Instr), 3)), (106, ((.iload 5 : Instr), 2)), (108, ((.iaload : Instr), 1)), (109, ((.isub : Instr), 1)), (110, ((.iadd : Instr), 1)), (111, ((.istore 6 : Instr), 2)), (113, ((.bipush (-60) : Instr), 2))]),
  (143, [(115, ((.bipush 60 : Instr), 2)), (117, ((.iload 6 : Instr), 2)), (119, ((.invokestatic 190 : Instr), 3)), (122, ((.invokestatic 239 : Instr), 3)), (125, ((.istore 6 : Instr), 2)), (127, ((.iconst 0 : Instr), 1)), (128, ((.istore 7 : Instr), 2)), (130, ((.iload 7 : Instr), 2)), (132, ((.aload_n 0 : Instr), 1)), (133, ((.getfield 29 : Instr), 3)), (136, ((.iconst 3 : Instr), 1)), (137, ((.iaload : Instr), 1)), (138, ((.if_icmp .ge 100 : Instr), 3)), (141, ((.aload_n 0 : Instr), 1)), (142, ((.iload_n 1 : Instr), 1)), (143, ((.invokevirtual 295 : Instr), 3))]),
  (172, [(146, ((.istore 8 : Instr), 2)), (148, ((.iload 8 : Instr), 2)), (150, ((.iconst (-1) : Instr), 1)), (151, ((.if_icmp .ne 6 : Instr), 3)), (154, ((.goto 84 : Instr), 3)), (157, ((.aload_n 0 : Instr), 1)), (158, ((.getfield 26 : Instr), 3)), (161, ((.iload_n 1 : Instr), 1)), (162, ((.iload 8 : Instr), 2)), (164, ((.invokestatic 137 : Instr), 3)), (167, ((.dup2 : Instr), 1)), (168, ((.iaload : Instr), 1)), (169, ((.iconst 1 : Instr), 1)), (170, ((.isub : Instr), 1)), (171, ((.iastore : Instr), 1)), (172, ((.aload_n 0 : Instr), 1))]),
  (205, [(173, ((.iload 8 : Instr), 2)), (175, ((.iload 6 : Instr), 2)), (177, ((.invokevirtual 278 : Instr), 3)), (180, ((.istore 9 : Instr), 2)), (182, ((.aload_n 0 : Instr), 1)), (183, ((.getfield 26 : Instr), 3)), (186, ((.iload 9 : Instr), 2)), (188, ((.aload_n 0 : Instr), 1)), (189, ((.getfield 22 : Instr), 3)), (192, ((.if_icmp .ne 8 : Instr), 3)), (195, ((.bipush 30 : Instr), 2)), (197, ((.goto 8 : Instr), 3)), (200, ((.bipush 6 : Instr), 2)), (202, ((.iload 9 : Instr), 2)), (204, ((.iadd : Instr), 1)), (205, ((.iload 8 : Instr), 2))]),
  (231, [(207, ((.invokestatic 137 : Instr), 3)), (210, ((.dup2 : Instr), 1)), (211, ((.iaload : Instr), 1)), (212, ((.iconst 1 : Instr), 1)), (213, ((.iadd : Instr), 1)), (214, ((.iastore : Instr), 1)), (215, ((.iload_n 3 : Instr), 1)), (216, ((.iload 9 : Instr), 2)), (218, ((.aload_n 0 : Instr), 1)), (219, ((.getfield 22 : Instr), 3)), (222, ((.if_icmp .ne 7 : Instr), 3)), (225, ((.iconst 1 : Instr), 1)), (226, ((.goto 4 : Instr), 3)), (229, ((.iconst 0 : Instr), 1)), (230, ((.iadd : Instr), 1)), (231, ((.istore_n 3 : Instr), 1))]),
  (261, [(232, ((.iinc 7 1 : Instr), 3)), (235, ((.goto (-105) : Instr), 3)), (238, ((.aload_n 0 : Instr), 1)), (239, ((.dup : Instr), 1)), (240, ((.getfield 198 : Instr), 3)), (243, ((.iconst 1 : Instr), 1)), (244, ((.iadd : Instr), 1)), (245, ((.putfield 198 : Instr), 3)), (248, ((.iinc 4 1 : Instr), 3)), (251, ((.goto (-221) : Instr), 3)), (254, ((.aload_n 0 : Instr), 1)), (255, ((.iconst 0 : Instr), 1)), (256, ((.putfield 127 : Instr), 3)), (259, ((.aload_n 0 : Instr), 1)), (260, ((.iload_n 3 : Instr), 1)), (261, ((.i2l : Instr), 1))]),
  (267, [(262, ((.invokevirtual 281 : Instr), 3)), (265, ((.iload 4 : Instr), 2)), (267, ((.ireturn : Instr), 1))])]
/-- ChaffInTheWindModel.go(II)I -/
def z_meth_224 : z_Mr := (⟨"ChaffInTheWindModel", "go", "(II)I"⟩, prog_12_method_47_code, (10, 3, 0, 0), some .int, none, 10, 15, z_code_224, (1, 1527, 10, 1525, 1526))
def z_code_225 : z_bm (Instr × Nat) := [(23, [(0, ((.iconst 0 : Instr), 1)), (1, ((.istore_n 2 : Instr), 1)), (2, ((.iconst 0 : Instr), 1)), (3, ((.istore_n 3 : Instr), 1)), (4, ((.iload_n 3 : Instr), 1)), (5, ((.aload_n 0 : Instr), 1)), (6, ((.getfield 130 : Instr), 3)), (9, ((.if_icmp .ge 22 : Instr), 3)), (12, ((.iload_n 2 : Instr), 1)), (13, ((.aload_n 0 : Instr), 1)), (14, ((.getfield 26 : Instr), 3)), (17, ((.iload_n 1 : Instr), 1)), (18, ((.iload_n 3 : Instr), 1)), (19, ((.invokestatic 137 : Instr), 3)), (22, ((.iaload : Instr), 1)), (23, ((.iadd : Instr), 1))]),
  (32, [(24, ((.istore_n 2 : Instr), 1)), (25, ((.iinc 3 1 : Instr), 3)), (28, ((.goto (-24) : Instr), 3)), (31, ((.iload_n 2 : Instr), 1)), (32, ((.ireturn : Instr), 1))])]
/-- ChaffInTheWindModel.grainsOf(I)I -/
def z_meth_225 : z_Mr := (⟨"ChaffInTheWindModel", "grainsOf", "(I)I"⟩, prog_12_method_12_code, (4, 2, 0, 0), some .int, none, 10, 15, z_code_225, (1, 1531, 10, 1530, 100119))
def z_code_226 : z_bm (Instr × Nat) := [(21, [(0, ((.iconst 0 : Instr), 1)), (1, ((.istore_n 1 : Instr), 1)), (2, ((.iconst 0 : Instr), 1)), (3, ((.istore_n 2 : Instr), 1)), (4, ((.iload_n 2 : Instr), 1)), (5, ((.aload_n 0 : Instr), 1)), (6, ((.getfield 195 : Instr), 3)), (9, ((.if_icmp .ge 18 : Instr), 3)), (12, ((.iload_n 1 : Instr), 1)), (13, ((.aload_n 0 : Instr), 1)), (14, ((.getfield 49 : Instr), 3)), (17, ((.iload_n 2 : Instr), 1)), (18, ((.iaload : Instr), 1)), (19, ((.iadd : Instr), 1)), (20, ((.istore_n 1 : Instr), 1)), (21, ((.iinc 2 1 : Instr), 3))]),
  (47, [(24, ((.goto (-20) : Instr), 3)), (27, ((.aload_n 0 : Instr), 1)), (28, ((.iconst 0 : Instr), 1)), (29, ((.putfield 201 : Instr), 3)), (32, ((.iload_n 1 : Instr), 1)), (33, ((.ifCond .ne 5 : Instr), 3)), (36, ((.iconst (-1) : Instr), 1)), (37, ((.ireturn : Instr), 1)), (38, ((.aload_n 0 : Instr), 1)), (39, ((.getfield 198 : Instr), 3)), (42, ((.iload_n 1 : Instr), 1)), (43, ((.irem : Instr), 1)), (44, ((.istore_n 2 : Instr), 1)), (45, ((.iconst 0 : Instr), 1)), (46, ((.istore_n 3 : Instr), 1)), (47, ((.iload_n 2 : Instr), 1))]),
  (73, [(48, ((.aload_n 0 : Instr), 1)), (49, ((.getfield 49 : Instr), 3)), (52, ((.iload_n 3 : Instr), 1)), (53, ((.iaload : Instr), 1)), (54, ((.if_icmp .lt 18 : Instr), 3)), (57, ((.iload_n 2 : Instr), 1)), (58, ((.aload_n 0 : Instr), 1)), (59, ((.getfield 49 : Instr), 3)), (62, ((.iload_n 3 : Instr), 1)), (63, ((.iaload : Instr), 1)), (64, ((.isub : Instr), 1)), (65, ((.istore_n 2 : Instr), 1)), (66, ((.iinc 3 1 : Instr), 3)), (69, ((.goto (-22) : Instr), 3)), (72, ((.aload_n 0 : Instr), 1)), (73, ((.aload_n 0 : Instr), 1))]),
  (85, [(74, ((.getfield 49 : Instr), 3)), (77, ((.iload_n 3 : Instr), 1)), (78, ((.iaload : Instr), 1)), (79, ((.iload_n 2 : Instr), 1)), (80, ((.isub : Instr), 1)), (81, ((.putfield 201 : Instr), 3)), (84, ((.iload_n 3 : Instr), 1)), (85, ((.ireturn : Instr), 1))])]
/-- ChaffInTheWindModel.lineNow()I -/
def z_meth_226 : z_Mr := (⟨"ChaffInTheWindModel", "lineNow", "()I"⟩, prog_12_method_25_code, (4, 1, 0, 0), some .int, none, 10, 15, z_code_226, (1, 1535, 10, 1534, 100120))
def z_code_227 : z_bm (Instr × Nat) := [(25, [(0, ((.aload_n 0 : Instr), 1)), (1, ((.aload_n 0 : Instr), 1)), (2, ((.getfield 32 : Instr), 3)), (5, ((.ldc_w 285 : Instr), 3)), (8, ((.imul : Instr), 1)), (9, ((.sipush 12345 : Instr), 3)), (12, ((.iadd : Instr), 1)), (13, ((.putfield 32 : Instr), 3)), (16, ((.aload_n 0 : Instr), 1)), (17, ((.getfield 32 : Instr), 3)), (20, ((.bipush 16 : Instr), 2)), (22, ((.iushr : Instr), 1)), (23, ((.iload_n 1 : Instr), 1)), (24, ((.irem : Instr), 1)), (25, ((.ireturn : Instr), 1))])]
/-- ChaffInTheWindModel.draw(I)I -/
def z_meth_227 : z_Mr := (⟨"ChaffInTheWindModel", "draw", "(I)I"⟩, prog_12_method_45_code, (2, 2, 0, 0), some .int, none, 10, 15, z_code_227, (1, 1539, 10, 1538, 100121))
def z_code_228 : z_bm (Instr × Nat) := [(25, [(0, ((.iconst (-1) : Instr), 1)), (1, ((.istore_n 2 : Instr), 1)), (2, ((.iconst 0 : Instr), 1)), (3, ((.istore_n 3 : Instr), 1)), (4, ((.iload_n 3 : Instr), 1)), (5, ((.aload_n 0 : Instr), 1)), (6, ((.getfield 130 : Instr), 3)), (9, ((.if_icmp .ge 52 : Instr), 3)), (12, ((.aload_n 0 : Instr), 1)), (13, ((.getfield 26 : Instr), 3)), (16, ((.iload_n 1 : Instr), 1)), (17, ((.iload_n 3 : Instr), 1)), (18, ((.invokestatic 137 : Instr), 3)), (21, ((.iaload : Instr), 1)), (22, ((.ifCond .le 33 : Instr), 3)), (25, ((.iload_n 2 : Instr), 1))]),
  (53, [(26, ((.iconst (-1) : Instr), 1)), (27, ((.if_icmp .eq 26 : Instr), 3)), (30, ((.aload_n 0 : Instr), 1)), (31, ((.getfield 26 : Instr), 3)), (34, ((.iload_n 1 : Instr), 1)), (35, ((.iload_n 3 : Instr), 1)), (36, ((.invokestatic 137 : Instr), 3)), (39, ((.iaload : Instr), 1)), (40, ((.aload_n 0 : Instr), 1)), (41, ((.getfield 26 : Instr), 3)), (44, ((.iload_n 1 : Instr), 1)), (45, ((.iload_n 2 : Instr), 1)), (46, ((.invokestatic 137 : Instr), 3)), (49, ((.iaload : Instr), 1)), (50, ((.if_icmp .le 5 : Instr), 3)), (53, ((.iload_n 3 : Instr), 1))]),
  (62, [(54, ((.istore_n 2 : Instr), 1)), (55, ((.iinc 3 1 : Instr), 3)), (58, ((.goto (-54) : Instr), 3)), (61, ((.iload_n 2 : Instr), 1)), (62, ((.ireturn : Instr), 1))])]
/-- ChaffInTheWindModel.mostSort(I)I -/
def z_meth_228 : z_Mr := (⟨"ChaffInTheWindModel", "mostSort", "(I)I"⟩, prog_12_method_46_code, (4, 2, 0, 0), some .int, none, 10, 15, z_code_228, (1, 1544, 10, 1543, 100122))
def z_code_229 : z_bm (Instr × Nat) := [(23, [(0, ((.aload_n 0 : Instr), 1)), (1, ((.iconst 0 : Instr), 1)), (2, ((.putfield 124 : Instr), 3)), (5, ((.aload_n 0 : Instr), 1)), (6, ((.invokevirtual 289 : Instr), 3)), (9, ((.istore_n 1 : Instr), 1)), (10, ((.aload_n 0 : Instr), 1)), (11, ((.iconst 0 : Instr), 1)), (12, ((.putfield 127 : Instr), 3)), (15, ((.aload_n 0 : Instr), 1)), (16, ((.iload_n 1 : Instr), 1)), (17, ((.i2l : Instr), 1)), (18, ((.invokevirtual 281 : Instr), 3)), (21, ((.aload_n 0 : Instr), 1)), (22, ((.aload_n 0 : Instr), 1)), (23, ((.getfield 201 : Instr), 3))]),
  (45, [(26, ((.i2l : Instr), 1)), (27, ((.invokevirtual 281 : Instr), 3)), (30, ((.iload_n 1 : Instr), 1)), (31, ((.iconst (-1) : Instr), 1)), (32, ((.if_icmp .ne 7 : Instr), 3)), (35, ((.iconst 0 : Instr), 1)), (36, ((.goto 9 : Instr), 3)), (39, ((.aload_n 0 : Instr), 1)), (40, ((.getfield 46 : Instr), 3)), (43, ((.iload_n 1 : Instr), 1)), (44, ((.iaload : Instr), 1)), (45, ((.ireturn : Instr), 1))])]
/-- ChaffInTheWindModel.blows()I -/
def z_meth_229 : z_Mr := (⟨"ChaffInTheWindModel", "blows", "()I"⟩, prog_12_method_48_code, (2, 1, 0, 0), some .int, none, 10, 15, z_code_229, (1, 1548, 10, 1546, 1547))
def z_code_230 : z_bm (Instr × Nat) := [(27, [(0, ((.aload_n 0 : Instr), 1)), (1, ((.iconst 0 : Instr), 1)), (2, ((.putfield 124 : Instr), 3)), (5, ((.aload_n 0 : Instr), 1)), (6, ((.iload_n 1 : Instr), 1)), (7, ((.invokevirtual 301 : Instr), 3)), (10, ((.ifCond .eq 23 : Instr), 3)), (13, ((.aload_n 0 : Instr), 1)), (14, ((.iload_n 2 : Instr), 1)), (15, ((.invokevirtual 301 : Instr), 3)), (18, ((.ifCond .eq 15 : Instr), 3)), (21, ((.iload_n 1 : Instr), 1)), (22, ((.iload_n 2 : Instr), 1)), (23, ((.if_icmp .gt 10 : Instr), 3)), (26, ((.iload_n 3 : Instr), 1)), (27, ((.invokestatic 256 : Instr), 3))]),
  (55, [(30, ((.ifCond .ne 5 : Instr), 3)), (33, ((.iconst (-1) : Instr), 1)), (34, ((.ireturn : Instr), 1)), (35, ((.iconst 0 : Instr), 1)), (36, ((.istore 4 : Instr), 2)), (38, ((.iload_n 1 : Instr), 1)), (39, ((.istore 5 : Instr), 2)), (41, ((.iload 5 : Instr), 2)), (43, ((.iload_n 2 : Instr), 1)), (44, ((.if_icmp .gt 24 : Instr), 3)), (47, ((.iload 4 : Instr), 2)), (49, ((.aload_n 0 : Instr), 1)), (50, ((.bipush 6 : Instr), 2)), (52, ((.iload 5 : Instr), 2)), (54, ((.iadd : Instr), 1)), (55, ((.iload_n 3 : Instr), 1))]),
  (70, [(56, ((.invokevirtual 304 : Instr), 3)), (59, ((.iadd : Instr), 1)), (60, ((.istore 4 : Instr), 2)), (62, ((.iinc 5 1 : Instr), 3)), (65, ((.goto (-24) : Instr), 3)), (68, ((.iload 4 : Instr), 2)), (70, ((.ireturn : Instr), 1))])]
/-- ChaffInTheWindModel.gather(III)I -/
def z_meth_230 : z_Mr := (⟨"ChaffInTheWindModel", "gather", "(III)I"⟩, prog_12_method_51_code, (6, 4, 0, 0), some .int, none, 10, 15, z_code_230, (1, 1552, 10, 1550, 1551))
def z_code_231 : z_bm (Instr × Nat) := [(11, [(0, ((.iload_n 1 : Instr), 1)), (1, ((.iconst 0 : Instr), 1)), (2, ((.aload_n 0 : Instr), 1)), (3, ((.getfield 22 : Instr), 3)), (6, ((.iconst 1 : Instr), 1)), (7, ((.isub : Instr), 1)), (8, ((.invokestatic 133 : Instr), 3)), (11, ((.ireturn : Instr), 1))])]
/-- ChaffInTheWindModel.isYard(I)Z -/
def z_meth_231 : z_Mr := (⟨"ChaffInTheWindModel", "isYard", "(I)Z"⟩, prog_12_method_9_code, (2, 2, 0, 0), some .boolean, none, 10, 15, z_code_231, (1, 1556, 10, 1555, 100123))
def z_code_232 : z_bm (Instr × Nat) := [(24, [(0, ((.iconst 0 : Instr), 1)), (1, ((.istore_n 3 : Instr), 1)), (2, ((.iconst 0 : Instr), 1)), (3, ((.istore 4 : Instr), 2)), (5, ((.iload 4 : Instr), 2)), (7, ((.aload_n 0 : Instr), 1)), (8, ((.getfield 130 : Instr), 3)), (11, ((.if_icmp .ge 20 : Instr), 3)), (14, ((.iload_n 3 : Instr), 1)), (15, ((.aload_n 0 : Instr), 1)), (16, ((.iload_n 1 : Instr), 1)), (17, ((.iload_n 2 : Instr), 1)), (18, ((.iload 4 : Instr), 2)), (20, ((.invokevirtual 298 : Instr), 3)), (23, ((.iadd : Instr), 1)), (24, ((.istore_n 3 : Instr), 1))]),
  (32, [(25, ((.iinc 4 1 : Instr), 3)), (28, ((.goto (-23) : Instr), 3)), (31, ((.iload_n 3 : Instr), 1)), (32, ((.ireturn : Instr), 1))])]
/-- ChaffInTheWindModel.move(II)I -/
def z_meth_232 : z_Mr := (⟨"ChaffInTheWindModel", "move", "(II)I"⟩, prog_12_method_49_code, (5, 3, 0, 0), some .int, none, 10, 15, z_code_232, (1, 1560, 10, 1559, 100124))
def z_code_233 : z_bm (Instr × Nat) := [(24, [(0, ((.aload_n 0 : Instr), 1)), (1, ((.getfield 26 : Instr), 3)), (4, ((.iload_n 1 : Instr), 1)), (5, ((.iload_n 3 : Instr), 1)), (6, ((.invokestatic 137 : Instr), 3)), (9, ((.iaload : Instr), 1)), (10, ((.istore 4 : Instr), 2)), (12, ((.aload_n 0 : Instr), 1)), (13, ((.getfield 26 : Instr), 3)), (16, ((.iload_n 1 : Instr), 1)), (17, ((.iload_n 3 : Instr), 1)), (18, ((.invokestatic 137 : Instr), 3)), (21, ((.iconst 0 : Instr), 1)), (22, ((.iastore : Instr), 1)), (23, ((.aload_n 0 : Instr), 1)), (24, ((.getfield 26 : Instr), 3))]),
  (40, [(27, ((.iload_n 2 : Instr), 1)), (28, ((.iload_n 3 : Instr), 1)), (29, ((.invokestatic 137 : Instr), 3)), (32, ((.dup2 : Instr), 1)), (33, ((.iaload : Instr), 1)), (34, ((.iload 4 : Instr), 2)), (36, ((.iadd : Instr), 1)), (37, ((.iastore : Instr), 1)), (38, ((.iload 4 : Instr), 2)), (40, ((.ireturn : Instr), 1))])]
/-- ChaffInTheWindModel.moveSort(III)I -/
def z_meth_233 : z_Mr := (⟨"ChaffInTheWindModel", "moveSort", "(III)I"⟩, prog_12_method_50_code, (5, 4, 0, 0), some .int, none, 10, 15, z_code_233, (1, 1564, 10, 1563, 100125))
def z_code_234 : z_bm (Instr × Nat) := [(27, [(0, ((.aload_n 0 : Instr), 1)), (1, ((.iconst 0 : Instr), 1)), (2, ((.putfield 124 : Instr), 3)), (5, ((.iload_n 1 : Instr), 1)), (6, ((.invokestatic 256 : Instr), 3)), (9, ((.ifCond .eq 24 : Instr), 3)), (12, ((.iload_n 2 : Instr), 1)), (13, ((.invokestatic 256 : Instr), 3)), (16, ((.ifCond .eq 17 : Instr), 3)), (19, ((.iload_n 1 : Instr), 1)), (20, ((.iload_n 2 : Instr), 1)), (21, ((.if_icmp .eq 12 : Instr), 3)), (24, ((.aload_n 0 : Instr), 1)), (25, ((.iload_n 1 : Instr), 1)), (26, ((.iload_n 2 : Instr), 1)), (27, ((.invokevirtual 304 : Instr), 3))]),
  (34, [(30, ((.goto 4 : Instr), 3)), (33, ((.iconst (-1) : Instr), 1)), (34, ((.ireturn : Instr), 1))])]
/-- ChaffInTheWindModel.mix(II)I -/
def z_meth_234 : z_Mr := (⟨"ChaffInTheWindModel", "mix", "(II)I"⟩, prog_12_method_52_code, (3, 3, 0, 0), some .int, none, 10, 15, z_code_234, (1, 1568, 10, 1566, 1567))
def z_code_235 : z_bm (Instr × Nat) := [(28, [(0, ((.aload_n 0 : Instr), 1)), (1, ((.iconst 0 : Instr), 1)), (2, ((.putfield 124 : Instr), 3)), (5, ((.iload_n 1 : Instr), 1)), (6, ((.invokestatic 256 : Instr), 3)), (9, ((.ifCond .eq 25 : Instr), 3)), (12, ((.iload_n 3 : Instr), 1)), (13, ((.invokestatic 256 : Instr), 3)), (16, ((.ifCond .eq 18 : Instr), 3)), (19, ((.iload_n 1 : Instr), 1)), (20, ((.iload_n 3 : Instr), 1)), (21, ((.if_icmp .eq 13 : Instr), 3)), (24, ((.iload_n 2 : Instr), 1)), (25, ((.iconst 1 : Instr), 1)), (26, ((.bipush 60 : Instr), 2)), (28, ((.invokestatic 133 : Instr), 3))]),
  (59, [(31, ((.ifCond .ne 5 : Instr), 3)), (34, ((.iconst (-1) : Instr), 1)), (35, ((.ireturn : Instr), 1)), (36, ((.iconst 0 : Instr), 1)), (37, ((.istore 4 : Instr), 2)), (39, ((.iconst 0 : Instr), 1)), (40, ((.istore 5 : Instr), 2)), (42, ((.iload 5 : Instr), 2)), (44, ((.aload_n 0 : Instr), 1)), (45, ((.getfield 130 : Instr), 3)), (48, ((.if_icmp .ge 37 : Instr), 3)), (51, ((.iload 4 : Instr), 2)), (53, ((.aload_n 0 : Instr), 1)), (54, ((.getfield 16 : Instr), 3)), (57, ((.iload 5 : Instr), 2)), (59, ((.iaload : Instr), 1))]),
  (87, [(60, ((.iload_n 2 : Instr), 1)), (61, ((.if_icmp .ge 14 : Instr), 3)), (64, ((.aload_n 0 : Instr), 1)), (65, ((.iload_n 1 : Instr), 1)), (66, ((.iload_n 3 : Instr), 1)), (67, ((.iload 5 : Instr), 2)), (69, ((.invokevirtual 298 : Instr), 3)), (72, ((.goto 4 : Instr), 3)), (75, ((.iconst 0 : Instr), 1)), (76, ((.iadd : Instr), 1)), (77, ((.istore 4 : Instr), 2)), (79, ((.iinc 5 1 : Instr), 3)), (82, ((.goto (-40) : Instr), 3)), (85, ((.iload 4 : Instr), 2)), (87, ((.ireturn : Instr), 1))])]
/-- ChaffInTheWindModel.sieve(III)I -/
def z_meth_235 : z_Mr := (⟨"ChaffInTheWindModel", "sieve", "(III)I"⟩, prog_12_method_53_code, (6, 4, 0, 0), some .int, none, 10, 15, z_code_235, (1, 1572, 10, 1570, 1571))
def z_code_236 : z_bm (Instr × Nat) := [(28, [(0, ((.aload_n 0 : Instr), 1)), (1, ((.iconst 0 : Instr), 1)), (2, ((.putfield 124 : Instr), 3)), (5, ((.iload_n 1 : Instr), 1)), (6, ((.invokestatic 256 : Instr), 3)), (9, ((.ifCond .eq 25 : Instr), 3)), (12, ((.iload_n 3 : Instr), 1)), (13, ((.invokestatic 256 : Instr), 3)), (16, ((.ifCond .eq 18 : Instr), 3)), (19, ((.iload_n 1 : Instr), 1)), (20, ((.iload_n 3 : Instr), 1)), (21, ((.if_icmp .eq 13 : Instr), 3)), (24, ((.iload_n 2 : Instr), 1)), (25, ((.iconst 1 : Instr), 1)), (26, ((.bipush 9 : Instr), 2)), (28, ((.invokestatic 133 : Instr), 3))]),
  (57, [(31, ((.ifCond .ne 5 : Instr), 3)), (34, ((.iconst (-1) : Instr), 1)), (35, ((.ireturn : Instr), 1)), (36, ((.iconst 0 : Instr), 1)), (37, ((.istore 4 : Instr), 2)), (39, ((.iconst 0 : Instr), 1)), (40, ((.istore 5 : Instr), 2)), (42, ((.iload 5 : Instr), 2)), (44, ((.aload_n 0 : Instr), 1)), (45, ((.getfield 130 : Instr), 3)), (48, ((.if_icmp .ge 36 : Instr), 3)), (51, ((.iload 4 : Instr), 2)), (53, ((.aload_n 0 : Instr), 1)), (54, ((.iload 5 : Instr), 2)), (56, ((.iload_n 2 : Instr), 1)), (57, ((.invokevirtual 307 : Instr), 3))]),
  (86, [(60, ((.ifCond .eq 14 : Instr), 3)), (63, ((.aload_n 0 : Instr), 1)), (64, ((.iload_n 1 : Instr), 1)), (65, ((.iload_n 3 : Instr), 1)), (66, ((.iload 5 : Instr), 2)), (68, ((.invokevirtual 298 : Instr), 3)), (71, ((.goto 4 : Instr), 3)), (74, ((.iconst 0 : Instr), 1)), (75, ((.iadd : Instr), 1)), (76, ((.istore 4 : Instr), 2)), (78, ((.iinc 5 1 : Instr), 3)), (81, ((.goto (-39) : Instr), 3)), (84, ((.iload 4 : Instr), 2)), (86, ((.ireturn : Instr), 1))])]
/-- ChaffInTheWindModel.stroke(III)I -/
def z_meth_236 : z_Mr := (⟨"ChaffInTheWindModel", "stroke", "(III)I"⟩, prog_12_method_54_code, (6, 4, 0, 0), some .int, none, 10, 15, z_code_236, (1, 1576, 10, 1574, 1575))
def z_code_237 : z_bm (Instr × Nat) := [(23, [(0, ((.aload_n 0 : Instr), 1)), (1, ((.getfield 63 : Instr), 3)), (4, ((.iconst 3 : Instr), 1)), (5, ((.iaload : Instr), 1)), (6, ((.ifCond .ne 5 : Instr), 3)), (9, ((.iconst 0 : Instr), 1)), (10, ((.ireturn : Instr), 1)), (11, ((.aload_n 0 : Instr), 1)), (12, ((.aload_n 0 : Instr), 1)), (13, ((.getfield 60 : Instr), 3)), (16, ((.iconst 3 : Instr), 1)), (17, ((.aaload : Instr), 1)), (18, ((.aload_n 0 : Instr), 1)), (19, ((.getfield 63 : Instr), 3)), (22, ((.iconst 3 : Instr), 1)), (23, ((.iaload : Instr), 1))]),
  (52, [(24, ((.bipush 40 : Instr), 2)), (26, ((.invokevirtual 175 : Instr), 3)), (29, ((.aload_n 0 : Instr), 1)), (30, ((.iconst 1 : Instr), 1)), (31, ((.putfield 217 : Instr), 3)), (34, ((.aload_n 0 : Instr), 1)), (35, ((.iload_n 1 : Instr), 1)), (36, ((.putfield 69 : Instr), 3)), (39, ((.aload_n 0 : Instr), 1)), (40, ((.iload_n 2 : Instr), 1)), (41, ((.putfield 228 : Instr), 3)), (44, ((.aload_n 0 : Instr), 1)), (45, ((.iconst 0 : Instr), 1)), (46, ((.invokevirtual 214 : Instr), 3)), (49, ((.ifCond .eq 7 : Instr), 3)), (52, ((.iconst 1 : Instr), 1))]),
  (57, [(53, ((.goto 4 : Instr), 3)), (56, ((.iconst 0 : Instr), 1)), (57, ((.ireturn : Instr), 1))])]
/-- ChaffInTheWindModel.isFlung(II)Z -/
def z_meth_237 : z_Mr := (⟨"ChaffInTheWindModel", "isFlung", "(II)Z"⟩, prog_12_method_36_code, (3, 3, 0, 0), some .boolean, none, 10, 15, z_code_237, (1, 1580, 10, 1579, 100126))
def z_code_238 : z_bm (Instr × Nat) := [(25, [(0, ((.aload_n 0 : Instr), 1)), (1, ((.iconst 0 : Instr), 1)), (2, ((.putfield 124 : Instr), 3)), (5, ((.aload_n 0 : Instr), 1)), (6, ((.iload_n 1 : Instr), 1)), (7, ((.invokevirtual 249 : Instr), 3)), (10, ((.ifCond .eq 11 : Instr), 3)), (13, ((.aload_n 0 : Instr), 1)), (14, ((.iload_n 2 : Instr), 1)), (15, ((.invokevirtual 249 : Instr), 3)), (18, ((.ifCond .ne 5 : Instr), 3)), (21, ((.iconst (-1) : Instr), 1)), (22, ((.ireturn : Instr), 1)), (23, ((.iconst 0 : Instr), 1)), (24, ((.istore_n 3 : Instr), 1)), (25, ((.iconst 0 : Instr), 1))]),
  (53, [(26, ((.istore 4 : Instr), 2)), (28, ((.iconst 0 : Instr), 1)), (29, ((.istore 5 : Instr), 2)), (31, ((.iconst 0 : Instr), 1)), (32, ((.istore 6 : Instr), 2)), (34, ((.iload 6 : Instr), 2)), (36, ((.bipush 120 : Instr), 2)), (38, ((.if_icmp .gt 69 : Instr), 3)), (41, ((.aload_n 0 : Instr), 1)), (42, ((.iload_n 1 : Instr), 1)), (43, ((.iload 6 : Instr), 2)), (45, ((.invokestatic 311 : Instr), 3)), (48, ((.invokevirtual 278 : Instr), 3)), (51, ((.aload_n 0 : Instr), 1)), (52, ((.iload_n 2 : Instr), 1)), (53, ((.iload 6 : Instr), 2))]),
  (84, [(55, ((.invokestatic 311 : Instr), 3)), (58, ((.invokevirtual 278 : Instr), 3)), (61, ((.isub : Instr), 1)), (62, ((.invokestatic 314 : Instr), 3)), (65, ((.istore 7 : Instr), 2)), (67, ((.iload_n 3 : Instr), 1)), (68, ((.iload 7 : Instr), 2)), (70, ((.ifCond .le 7 : Instr), 3)), (73, ((.iconst 1 : Instr), 1)), (74, ((.goto 4 : Instr), 3)), (77, ((.iconst 0 : Instr), 1)), (78, ((.iadd : Instr), 1)), (79, ((.istore_n 3 : Instr), 1)), (80, ((.iload 7 : Instr), 2)), (82, ((.iload 5 : Instr), 2)), (84, ((.if_icmp .gt 6 : Instr), 3))]),
  (119, [(87, ((.goto 14 : Instr), 3)), (90, ((.iload 7 : Instr), 2)), (92, ((.istore 5 : Instr), 2)), (94, ((.iload 6 : Instr), 2)), (96, ((.invokestatic 311 : Instr), 3)), (99, ((.istore 4 : Instr), 2)), (101, ((.iinc 6 1 : Instr), 3)), (104, ((.goto (-70) : Instr), 3)), (107, ((.aload_n 0 : Instr), 1)), (108, ((.iconst 0 : Instr), 1)), (109, ((.putfield 127 : Instr), 3)), (112, ((.iload_n 3 : Instr), 1)), (113, ((.ifCond .le 17 : Instr), 3)), (116, ((.aload_n 0 : Instr), 1)), (117, ((.iload 4 : Instr), 2)), (119, ((.i2l : Instr), 1))]),
  (131, [(120, ((.invokevirtual 281 : Instr), 3)), (123, ((.aload_n 0 : Instr), 1)), (124, ((.iload 5 : Instr), 2)), (126, ((.i2l : Instr), 1)), (127, ((.invokevirtual 281 : Instr), 3)), (130, ((.iload_n 3 : Instr), 1)), (131, ((.ireturn : Instr), 1))])]
/-- ChaffInTheWindModel.parts(II)I -/
def z_meth_238 : z_Mr := (⟨"ChaffInTheWindModel", "parts", "(II)I"⟩, prog_12_method_56_code, (8, 3, 0, 0), some .int, none, 10, 15, z_code_238, (1, 1584, 10, 1582, 1583))
def z_code_239 : z_bm (Instr × Nat) := [(19, [(0, ((.iload_n 0 : Instr), 1)), (1, ((.iconst 2 : Instr), 1)), (2, ((.irem : Instr), 1)), (3, ((.iconst 1 : Instr), 1)), (4, ((.if_icmp .ne 12 : Instr), 3)), (7, ((.iload_n 0 : Instr), 1)), (8, ((.iconst 1 : Instr), 1)), (9, ((.iadd : Instr), 1)), (10, ((.ineg : Instr), 1)), (11, ((.iconst 2 : Instr), 1)), (12, ((.idiv : Instr), 1)), (13, ((.goto 6 : Instr), 3)), (16, ((.iload_n 0 : Instr), 1)), (17, ((.iconst 2 : Instr), 1)), (18, ((.idiv : Instr), 1)), (19, ((.ireturn : Instr), 1))])]
/-- ChaffInTheWindModel.windAt(I)I -/
def z_meth_239 : z_Mr := (⟨"ChaffInTheWindModel", "windAt", "(I)I"⟩, prog_12_method_55_code, (1, 1, 0, 0), some .int, none, 10, 15, z_code_239, (0, 1587, 10, 1586, 0))
def z_code_240 : z_bm (Instr × Nat) := [(23, [(0, ((.aload_n 0 : Instr), 1)), (1, ((.iconst 0 : Instr), 1)), (2, ((.putfield 124 : Instr), 3)), (5, ((.iconst 0 : Instr), 1)), (6, ((.istore_n 1 : Instr), 1)), (7, ((.aload_n 0 : Instr), 1)), (8, ((.iconst 0 : Instr), 1)), (9, ((.putfield 127 : Instr), 3)), (12, ((.iconst 0 : Instr), 1)), (13, ((.istore_n 2 : Instr), 1)), (14, ((.iload_n 2 : Instr), 1)), (15, ((.aload_n 0 : Instr), 1)), (16, ((.getfield 130 : Instr), 3)), (19, ((.if_icmp .ge 74 : Instr), 3)), (22, ((.iconst 0 : Instr), 1)), (23, ((.istore_n 3 : Instr), 1))]),
  (51, [(24, ((.iload_n 3 : Instr), 1)), (25, ((.aload_n 0 : Instr), 1)), (26, ((.getfield 130 : Instr), 3)), (29, ((.if_icmp .ge 58 : Instr), 3)), (32, ((.aload_n 0 : Instr), 1)), (33, ((.getfield 9 : Instr), 3)), (36, ((.iload_n 2 : Instr), 1)), (37, ((.iaload : Instr), 1)), (38, ((.ifCond .ne 43 : Instr), 3)), (41, ((.aload_n 0 : Instr), 1)), (42, ((.getfield 9 : Instr), 3)), (45, ((.iload_n 3 : Instr), 1)), (46, ((.iaload : Instr), 1)), (47, ((.ifCond .eq 34 : Instr), 3)), (50, ((.aload_n 0 : Instr), 1)), (51, ((.iload_n 2 : Instr), 1))]),
  (81, [(52, ((.iload_n 3 : Instr), 1)), (53, ((.invokevirtual 317 : Instr), 3)), (56, ((.ifCond .eq 6 : Instr), 3)), (59, ((.goto 22 : Instr), 3)), (62, ((.iload_n 1 : Instr), 1)), (63, ((.ifCond .ne 15 : Instr), 3)), (66, ((.aload_n 0 : Instr), 1)), (67, ((.iload_n 2 : Instr), 1)), (68, ((.i2l : Instr), 1)), (69, ((.invokevirtual 281 : Instr), 3)), (72, ((.aload_n 0 : Instr), 1)), (73, ((.iload_n 3 : Instr), 1)), (74, ((.i2l : Instr), 1)), (75, ((.invokevirtual 281 : Instr), 3)), (78, ((.iinc 1 1 : Instr), 3)), (81, ((.iinc 3 1 : Instr), 3))]),
  (94, [(84, ((.goto (-60) : Instr), 3)), (87, ((.iinc 2 1 : Instr), 3)), (90, ((.goto (-76) : Instr), 3)), (93, ((.iload_n 1 : Instr), 1)), (94, ((.ireturn : Instr), 1))])]
/-- ChaffInTheWindModel.never()I -/
def z_meth_240 : z_Mr := (⟨"ChaffInTheWindModel", "never", "()I"⟩, prog_12_method_58_code, (4, 1, 0, 0), some .int, none, 10, 15, z_code_240, (1, 1592, 10, 1590, 1591))
def z_code_241 : z_bm (Instr × Nat) := [(25, [(0, ((.bipush (-60) : Instr), 2)), (2, ((.istore_n 3 : Instr), 1)), (3, ((.iload_n 3 : Instr), 1)), (4, ((.bipush 60 : Instr), 2)), (6, ((.if_icmp .gt 26 : Instr), 3)), (9, ((.aload_n 0 : Instr), 1)), (10, ((.iload_n 1 : Instr), 1)), (11, ((.iload_n 3 : Instr), 1)), (12, ((.invokevirtual 278 : Instr), 3)), (15, ((.aload_n 0 : Instr), 1)), (16, ((.iload_n 2 : Instr), 1)), (17, ((.iload_n 3 : Instr), 1)), (18, ((.invokevirtual 278 : Instr), 3)), (21, ((.if_icmp .eq 5 : Instr), 3)), (24, ((.iconst 1 : Instr), 1)), (25, ((.ireturn : Instr), 1))]),
  (33, [(26, ((.iinc 3 1 : Instr), 3)), (29, ((.goto (-26) : Instr), 3)), (32, ((.iconst 0 : Instr), 1)), (33, ((.ireturn : Instr), 1))])]
/-- ChaffInTheWindModel.isParted(II)Z -/
def z_meth_241 : z_Mr := (⟨"ChaffInTheWindModel", "isParted", "(II)Z"⟩, prog_12_method_57_code, (4, 3, 0, 0), some .boolean, none, 10, 15, z_code_241, (1, 1596, 10, 1595, 100127))
def z_code_242 : z_bm (Instr × Nat) := [(22, [(0, ((.aload_n 0 : Instr), 1)), (1, ((.iconst 0 : Instr), 1)), (2, ((.putfield 124 : Instr), 3)), (5, ((.iload_n 1 : Instr), 1)), (6, ((.invokestatic 256 : Instr), 3)), (9, ((.ifCond .ne 5 : Instr), 3)), (12, ((.iconst (-1) : Instr), 1)), (13, ((.ireturn : Instr), 1)), (14, ((.iconst (-1) : Instr), 1)), (15, ((.istore_n 2 : Instr), 1)), (16, ((.iconst 0 : Instr), 1)), (17, ((.istore_n 3 : Instr), 1)), (18, ((.iconst 0 : Instr), 1)), (19, ((.istore 4 : Instr), 2)), (21, ((.iconst 0 : Instr), 1)), (22, ((.istore 5 : Instr), 2))]),
  (50, [(24, ((.iload 5 : Instr), 2)), (26, ((.bipush 120 : Instr), 2)), (28, ((.if_icmp .gt 68 : Instr), 3)), (31, ((.aload_n 0 : Instr), 1)), (32, ((.iload_n 1 : Instr), 1)), (33, ((.iload 5 : Instr), 2)), (35, ((.invokestatic 311 : Instr), 3)), (38, ((.aload_n 0 : Instr), 1)), (39, ((.getfield 29 : Instr), 3)), (42, ((.iconst 0 : Instr), 1)), (43, ((.iaload : Instr), 1)), (44, ((.aload_n 0 : Instr), 1)), (45, ((.getfield 29 : Instr), 3)), (48, ((.iconst 1 : Instr), 1)), (49, ((.iaload : Instr), 1)), (50, ((.invokevirtual 320 : Instr), 3))]),
  (80, [(53, ((.aload_n 0 : Instr), 1)), (54, ((.invokevirtual 324 : Instr), 3)), (57, ((.istore 6 : Instr), 2)), (59, ((.iload_n 2 : Instr), 1)), (60, ((.iconst (-1) : Instr), 1)), (61, ((.if_icmp .eq 12 : Instr), 3)), (64, ((.iload 6 : Instr), 2)), (66, ((.iload_n 3 : Instr), 1)), (67, ((.if_icmp .gt 6 : Instr), 3)), (70, ((.goto 20 : Instr), 3)), (73, ((.iload 5 : Instr), 2)), (75, ((.istore_n 2 : Instr), 1)), (76, ((.iload 6 : Instr), 2)), (78, ((.istore_n 3 : Instr), 1)), (79, ((.aload_n 0 : Instr), 1)), (80, ((.getfield 72 : Instr), 3))]),
  (110, [(83, ((.aload_n 0 : Instr), 1)), (84, ((.getfield 22 : Instr), 3)), (87, ((.iaload : Instr), 1)), (88, ((.istore 4 : Instr), 2)), (90, ((.iinc 5 1 : Instr), 3)), (93, ((.goto (-69) : Instr), 3)), (96, ((.aload_n 0 : Instr), 1)), (97, ((.iconst 0 : Instr), 1)), (98, ((.putfield 127 : Instr), 3)), (101, ((.aload_n 0 : Instr), 1)), (102, ((.iload_n 3 : Instr), 1)), (103, ((.i2l : Instr), 1)), (104, ((.invokevirtual 281 : Instr), 3)), (107, ((.aload_n 0 : Instr), 1)), (108, ((.iload 4 : Instr), 2)), (110, ((.i2l : Instr), 1))]),
  (118, [(111, ((.invokevirtual 281 : Instr), 3)), (114, ((.iload_n 2 : Instr), 1)), (115, ((.invokestatic 311 : Instr), 3)), (118, ((.ireturn : Instr), 1))])]
/-- ChaffInTheWindModel.best(I)I -/
def z_meth_242 : z_Mr := (⟨"ChaffInTheWindModel", "best", "(I)I"⟩, prog_12_method_61_code, (7, 2, 0, 0), some .int, none, 10, 15, z_code_242, (1, 1600, 10, 1598, 1599))
def z_code_243 : z_bm (Instr × Nat) := [(26, [(0, ((.iconst 0 : Instr), 1)), (1, ((.istore 5 : Instr), 2)), (3, ((.iload 5 : Instr), 2)), (5, ((.bipush 24 : Instr), 2)), (7, ((.if_icmp .gt 33 : Instr), 3)), (10, ((.aload_n 0 : Instr), 1)), (11, ((.getfield 72 : Instr), 3)), (14, ((.iload 5 : Instr), 2)), (16, ((.iconst 0 : Instr), 1)), (17, ((.iastore : Instr), 1)), (18, ((.aload_n 0 : Instr), 1)), (19, ((.getfield 75 : Instr), 3)), (22, ((.iload 5 : Instr), 2)), (24, ((.iconst 0 : Instr), 1)), (25, ((.iastore : Instr), 1)), (26, ((.aload_n 0 : Instr), 1))]),
  (57, [(27, ((.getfield 78 : Instr), 3)), (30, ((.iload 5 : Instr), 2)), (32, ((.iconst 0 : Instr), 1)), (33, ((.iastore : Instr), 1)), (34, ((.iinc 5 1 : Instr), 3)), (37, ((.goto (-34) : Instr), 3)), (40, ((.iconst 0 : Instr), 1)), (41, ((.istore 5 : Instr), 2)), (43, ((.iload 5 : Instr), 2)), (45, ((.aload_n 0 : Instr), 1)), (46, ((.getfield 130 : Instr), 3)), (49, ((.if_icmp .ge 107 : Instr), 3)), (52, ((.aload_n 0 : Instr), 1)), (53, ((.getfield 26 : Instr), 3)), (56, ((.iload_n 1 : Instr), 1)), (57, ((.iload 5 : Instr), 2))]),
  (89, [(59, ((.invokestatic 137 : Instr), 3)), (62, ((.iaload : Instr), 1)), (63, ((.istore 6 : Instr), 2)), (65, ((.iload 6 : Instr), 2)), (67, ((.ifCond .ne 6 : Instr), 3)), (70, ((.goto 80 : Instr), 3)), (73, ((.aload_n 0 : Instr), 1)), (74, ((.iload 5 : Instr), 2)), (76, ((.iload_n 2 : Instr), 1)), (77, ((.iload_n 3 : Instr), 1)), (78, ((.iload 4 : Instr), 2)), (80, ((.invokevirtual 271 : Instr), 3)), (83, ((.istore 7 : Instr), 2)), (85, ((.aload_n 0 : Instr), 1)), (86, ((.getfield 75 : Instr), 3)), (89, ((.iload 7 : Instr), 2))]),
  (115, [(91, ((.dup2 : Instr), 1)), (92, ((.iaload : Instr), 1)), (93, ((.iload 6 : Instr), 2)), (95, ((.iadd : Instr), 1)), (96, ((.iastore : Instr), 1)), (97, ((.aload_n 0 : Instr), 1)), (98, ((.getfield 72 : Instr), 3)), (101, ((.iload 7 : Instr), 2)), (103, ((.dup2 : Instr), 1)), (104, ((.iaload : Instr), 1)), (105, ((.aload_n 0 : Instr), 1)), (106, ((.getfield 9 : Instr), 3)), (109, ((.iload 5 : Instr), 2)), (111, ((.iaload : Instr), 1)), (112, ((.ifCond .ne 8 : Instr), 3)), (115, ((.iload 6 : Instr), 2))]),
  (142, [(117, ((.goto 4 : Instr), 3)), (120, ((.iconst 0 : Instr), 1)), (121, ((.iadd : Instr), 1)), (122, ((.iastore : Instr), 1)), (123, ((.aload_n 0 : Instr), 1)), (124, ((.getfield 78 : Instr), 3)), (127, ((.iload 7 : Instr), 2)), (129, ((.dup2 : Instr), 1)), (130, ((.iaload : Instr), 1)), (131, ((.aload_n 0 : Instr), 1)), (132, ((.getfield 9 : Instr), 3)), (135, ((.iload 5 : Instr), 2)), (137, ((.iaload : Instr), 1)), (138, ((.iconst 1 : Instr), 1)), (139, ((.if_icmp .ne 8 : Instr), 3)), (142, ((.iload 6 : Instr), 2))]),
  (156, [(144, ((.goto 4 : Instr), 3)), (147, ((.iconst 0 : Instr), 1)), (148, ((.iadd : Instr), 1)), (149, ((.iastore : Instr), 1)), (150, ((.iinc 5 1 : Instr), 3)), (153, ((.goto (-110) : Instr), 3)), (156, ((.return_ : Instr), 1))])]
/-- ChaffInTheWindModel.throwAll(IIII)V -/
def z_meth_243 : z_Mr := (⟨"ChaffInTheWindModel", "throwAll", "(IIII)V"⟩, prog_12_method_59_code, (8, 5, 0, 0), none, none, 10, 15, z_code_243, (1, 1604, 10, 1603, 100128))
def z_code_244 : z_bm (Instr × Nat) := [(23, [(0, ((.iconst 0 : Instr), 1)), (1, ((.istore_n 1 : Instr), 1)), (2, ((.iconst 0 : Instr), 1)), (3, ((.istore_n 2 : Instr), 1)), (4, ((.iload_n 2 : Instr), 1)), (5, ((.aload_n 0 : Instr), 1)), (6, ((.getfield 22 : Instr), 3)), (9, ((.if_icmp .ge 37 : Instr), 3)), (12, ((.iload_n 1 : Instr), 1)), (13, ((.aload_n 0 : Instr), 1)), (14, ((.getfield 72 : Instr), 3)), (17, ((.iload_n 2 : Instr), 1)), (18, ((.iaload : Instr), 1)), (19, ((.aload_n 0 : Instr), 1)), (20, ((.getfield 75 : Instr), 3)), (23, ((.iload_n 2 : Instr), 1))]),
  (47, [(24, ((.iaload : Instr), 1)), (25, ((.if_icmp .ne 12 : Instr), 3)), (28, ((.aload_n 0 : Instr), 1)), (29, ((.getfield 72 : Instr), 3)), (32, ((.iload_n 2 : Instr), 1)), (33, ((.iaload : Instr), 1)), (34, ((.goto 4 : Instr), 3)), (37, ((.iconst 0 : Instr), 1)), (38, ((.iadd : Instr), 1)), (39, ((.istore_n 1 : Instr), 1)), (40, ((.iinc 2 1 : Instr), 3)), (43, ((.goto (-39) : Instr), 3)), (46, ((.iload_n 1 : Instr), 1)), (47, ((.ireturn : Instr), 1))])]
/-- ChaffInTheWindModel.cleanGrains()I -/
def z_meth_244 : z_Mr := (⟨"ChaffInTheWindModel", "cleanGrains", "()I"⟩, prog_12_method_60_code, (3, 1, 0, 0), some .int, none, 10, 15, z_code_244, (1, 1608, 10, 1607, 100129))
def z_code_245 : z_bm (Instr × Nat) := [(26, [(0, ((.aload_n 0 : Instr), 1)), (1, ((.iconst 0 : Instr), 1)), (2, ((.putfield 124 : Instr), 3)), (5, ((.iload_n 1 : Instr), 1)), (6, ((.invokestatic 256 : Instr), 3)), (9, ((.ifCond .eq 10 : Instr), 3)), (12, ((.iload_n 2 : Instr), 1)), (13, ((.invokestatic 275 : Instr), 3)), (16, ((.ifCond .ne 5 : Instr), 3)), (19, ((.iconst (-1) : Instr), 1)), (20, ((.ireturn : Instr), 1)), (21, ((.iconst (-1) : Instr), 1)), (22, ((.istore_n 3 : Instr), 1)), (23, ((.iconst 0 : Instr), 1)), (24, ((.istore 4 : Instr), 2)), (26, ((.iconst 0 : Instr), 1))]),
  (57, [(27, ((.istore 5 : Instr), 2)), (29, ((.bipush 20 : Instr), 2)), (31, ((.istore 6 : Instr), 2)), (33, ((.iload 6 : Instr), 2)), (35, ((.sipush 400 : Instr), 3)), (38, ((.if_icmp .gt 62 : Instr), 3)), (41, ((.bipush (-40) : Instr), 2)), (43, ((.istore 7 : Instr), 2)), (45, ((.iload 7 : Instr), 2)), (47, ((.bipush 40 : Instr), 2)), (49, ((.if_icmp .gt 45 : Instr), 3)), (52, ((.aload_n 0 : Instr), 1)), (53, ((.iload_n 1 : Instr), 1)), (54, ((.iload_n 2 : Instr), 1)), (55, ((.iload 6 : Instr), 2)), (57, ((.iload 7 : Instr), 2))]),
  (91, [(59, ((.invokevirtual 320 : Instr), 3)), (62, ((.aload_n 0 : Instr), 1)), (63, ((.invokevirtual 324 : Instr), 3)), (66, ((.istore 8 : Instr), 2)), (68, ((.iload 8 : Instr), 2)), (70, ((.iload_n 3 : Instr), 1)), (71, ((.if_icmp .gt 6 : Instr), 3)), (74, ((.goto 14 : Instr), 3)), (77, ((.iload 8 : Instr), 2)), (79, ((.istore_n 3 : Instr), 1)), (80, ((.iload 6 : Instr), 2)), (82, ((.istore 4 : Instr), 2)), (84, ((.iload 7 : Instr), 2)), (86, ((.istore 5 : Instr), 2)), (88, ((.iinc 7 10 : Instr), 3)), (91, ((.goto (-46) : Instr), 3))]),
  (120, [(94, ((.iinc 6 20 : Instr), 3)), (97, ((.goto (-64) : Instr), 3)), (100, ((.aload_n 0 : Instr), 1)), (101, ((.iconst 0 : Instr), 1)), (102, ((.putfield 127 : Instr), 3)), (105, ((.aload_n 0 : Instr), 1)), (106, ((.iload 4 : Instr), 2)), (108, ((.i2l : Instr), 1)), (109, ((.invokevirtual 281 : Instr), 3)), (112, ((.aload_n 0 : Instr), 1)), (113, ((.iload 5 : Instr), 2)), (115, ((.i2l : Instr), 1)), (116, ((.invokevirtual 281 : Instr), 3)), (119, ((.iload_n 3 : Instr), 1)), (120, ((.ireturn : Instr), 1))])]
/-- ChaffInTheWindModel.aim(II)I -/
def z_meth_245 : z_Mr := (⟨"ChaffInTheWindModel", "aim", "(II)I"⟩, prog_12_method_62_code, (9, 3, 0, 0), some .int, none, 10, 15, z_code_245, (1, 1612, 10, 1610, 1611))
def z_code_246 : z_bm (Instr × Nat) := [(26, [(0, ((.aload_n 0 : Instr), 1)), (1, ((.iconst 0 : Instr), 1)), (2, ((.putfield 124 : Instr), 3)), (5, ((.iload_n 1 : Instr), 1)), (6, ((.invokestatic 256 : Instr), 3)), (9, ((.ifCond .eq 7 : Instr), 3)), (12, ((.iload_n 2 : Instr), 1)), (13, ((.ifCond .ge 5 : Instr), 3)), (16, ((.iconst (-1) : Instr), 1)), (17, ((.ireturn : Instr), 1)), (18, ((.bipush 30 : Instr), 2)), (20, ((.istore_n 3 : Instr), 1)), (21, ((.iload_n 3 : Instr), 1)), (22, ((.ifCond .lt 106 : Instr), 3)), (25, ((.aload_n 0 : Instr), 1)), (26, ((.iload_n 1 : Instr), 1))]),
  (50, [(27, ((.iconst 2 : Instr), 1)), (28, ((.iload_n 3 : Instr), 1)), (29, ((.imul : Instr), 1)), (30, ((.aload_n 0 : Instr), 1)), (31, ((.getfield 29 : Instr), 3)), (34, ((.iconst 0 : Instr), 1)), (35, ((.iaload : Instr), 1)), (36, ((.aload_n 0 : Instr), 1)), (37, ((.getfield 29 : Instr), 3)), (40, ((.iconst 1 : Instr), 1)), (41, ((.iaload : Instr), 1)), (42, ((.invokevirtual 320 : Instr), 3)), (45, ((.aload_n 0 : Instr), 1)), (46, ((.getfield 72 : Instr), 3)), (49, ((.aload_n 0 : Instr), 1)), (50, ((.getfield 22 : Instr), 3))]),
  (82, [(53, ((.iaload : Instr), 1)), (54, ((.iload_n 2 : Instr), 1)), (55, ((.if_icmp .le 6 : Instr), 3)), (58, ((.goto 64 : Instr), 3)), (61, ((.iconst 0 : Instr), 1)), (62, ((.istore 4 : Instr), 2)), (64, ((.iconst 0 : Instr), 1)), (65, ((.istore 5 : Instr), 2)), (67, ((.iload 5 : Instr), 2)), (69, ((.aload_n 0 : Instr), 1)), (70, ((.getfield 22 : Instr), 3)), (73, ((.if_icmp .ge 35 : Instr), 3)), (76, ((.iload 4 : Instr), 2)), (78, ((.aload_n 0 : Instr), 1)), (79, ((.getfield 72 : Instr), 3)), (82, ((.iload 5 : Instr), 2))]),
  (113, [(84, ((.iaload : Instr), 1)), (85, ((.ifCond .le 13 : Instr), 3)), (88, ((.aload_n 0 : Instr), 1)), (89, ((.getfield 78 : Instr), 3)), (92, ((.iload 5 : Instr), 2)), (94, ((.iaload : Instr), 1)), (95, ((.goto 4 : Instr), 3)), (98, ((.iconst 0 : Instr), 1)), (99, ((.iadd : Instr), 1)), (100, ((.istore 4 : Instr), 2)), (102, ((.iinc 5 1 : Instr), 3)), (105, ((.goto (-38) : Instr), 3)), (108, ((.aload_n 0 : Instr), 1)), (109, ((.iconst 0 : Instr), 1)), (110, ((.putfield 127 : Instr), 3)), (113, ((.aload_n 0 : Instr), 1))]),
  (130, [(114, ((.iload 4 : Instr), 2)), (116, ((.i2l : Instr), 1)), (117, ((.invokevirtual 281 : Instr), 3)), (120, ((.iload_n 3 : Instr), 1)), (121, ((.ireturn : Instr), 1)), (122, ((.iinc 3 (-1) : Instr), 3)), (125, ((.goto (-104) : Instr), 3)), (128, ((.bipush (-2) : Instr), 2)), (130, ((.ireturn : Instr), 1))])]
/-- ChaffInTheWindModel.fan(II)I -/
def z_meth_246 : z_Mr := (⟨"ChaffInTheWindModel", "fan", "(II)I"⟩, prog_12_method_63_code, (6, 3, 0, 0), some .int, none, 10, 15, z_code_246, (1, 1616, 10, 1614, 1615))
def z_code_247 : z_bm (Instr × Nat) := [(25, [(0, ((.aload_n 0 : Instr), 1)), (1, ((.iconst 0 : Instr), 1)), (2, ((.putfield 124 : Instr), 3)), (5, ((.aload_n 0 : Instr), 1)), (6, ((.iload_n 1 : Instr), 1)), (7, ((.invokevirtual 249 : Instr), 3)), (10, ((.ifCond .eq 11 : Instr), 3)), (13, ((.aload_n 0 : Instr), 1)), (14, ((.iload_n 2 : Instr), 1)), (15, ((.invokevirtual 249 : Instr), 3)), (18, ((.ifCond .ne 5 : Instr), 3)), (21, ((.iconst (-1) : Instr), 1)), (22, ((.ireturn : Instr), 1)), (23, ((.iconst 0 : Instr), 1)), (24, ((.istore_n 3 : Instr), 1)), (25, ((.iconst 0 : Instr), 1))]),
  (52, [(26, ((.istore 4 : Instr), 2)), (28, ((.iload 4 : Instr), 2)), (30, ((.aload_n 0 : Instr), 1)), (31, ((.getfield 195 : Instr), 3)), (34, ((.if_icmp .ge 47 : Instr), 3)), (37, ((.iload_n 3 : Instr), 1)), (38, ((.aload_n 0 : Instr), 1)), (39, ((.iload_n 1 : Instr), 1)), (40, ((.aload_n 0 : Instr), 1)), (41, ((.getfield 46 : Instr), 3)), (44, ((.iload 4 : Instr), 2)), (46, ((.iaload : Instr), 1)), (47, ((.invokevirtual 278 : Instr), 3)), (50, ((.aload_n 0 : Instr), 1)), (51, ((.iload_n 2 : Instr), 1)), (52, ((.aload_n 0 : Instr), 1))]),
  (82, [(53, ((.getfield 46 : Instr), 3)), (56, ((.iload 4 : Instr), 2)), (58, ((.iaload : Instr), 1)), (59, ((.invokevirtual 278 : Instr), 3)), (62, ((.if_icmp .eq 10 : Instr), 3)), (65, ((.iconst 1 : Instr), 1)), (66, ((.iload 4 : Instr), 2)), (68, ((.ishl : Instr), 1)), (69, ((.goto 4 : Instr), 3)), (72, ((.iconst 0 : Instr), 1)), (73, ((.ior : Instr), 1)), (74, ((.istore_n 3 : Instr), 1)), (75, ((.iinc 4 1 : Instr), 3)), (78, ((.goto (-50) : Instr), 3)), (81, ((.iload_n 3 : Instr), 1)), (82, ((.ireturn : Instr), 1))])]
/-- ChaffInTheWindModel.serves(II)I -/
def z_meth_247 : z_Mr := (⟨"ChaffInTheWindModel", "serves", "(II)I"⟩, prog_12_method_64_code, (5, 3, 0, 0), some .int, none, 10, 15, z_code_247, (1, 1620, 10, 1618, 1619))
def z_code_248 : z_bm (Instr × Nat) := [(27, [(0, ((.aload_n 0 : Instr), 1)), (1, ((.iconst 0 : Instr), 1)), (2, ((.putfield 124 : Instr), 3)), (5, ((.aload_n 0 : Instr), 1)), (6, ((.iload_n 1 : Instr), 1)), (7, ((.invokevirtual 249 : Instr), 3)), (10, ((.ifCond .eq 40 : Instr), 3)), (13, ((.iload_n 2 : Instr), 1)), (14, ((.iconst 0 : Instr), 1)), (15, ((.aload_n 0 : Instr), 1)), (16, ((.getfield 195 : Instr), 3)), (19, ((.iconst 1 : Instr), 1)), (20, ((.isub : Instr), 1)), (21, ((.invokestatic 133 : Instr), 3)), (24, ((.ifCond .eq 26 : Instr), 3)), (27, ((.aload_n 0 : Instr), 1))]),
  (56, [(28, ((.iload_n 3 : Instr), 1)), (29, ((.invokevirtual 301 : Instr), 3)), (32, ((.ifCond .eq 18 : Instr), 3)), (35, ((.aload_n 0 : Instr), 1)), (36, ((.iload 4 : Instr), 2)), (38, ((.invokevirtual 301 : Instr), 3)), (41, ((.ifCond .eq 9 : Instr), 3)), (44, ((.iload_n 3 : Instr), 1)), (45, ((.iload 4 : Instr), 2)), (47, ((.if_icmp .le 5 : Instr), 3)), (50, ((.iconst (-1) : Instr), 1)), (51, ((.ireturn : Instr), 1)), (52, ((.iconst 0 : Instr), 1)), (53, ((.istore 5 : Instr), 2)), (55, ((.aload_n 0 : Instr), 1)), (56, ((.getfield 52 : Instr), 3))]),
  (83, [(59, ((.iload_n 2 : Instr), 1)), (60, ((.iaload : Instr), 1)), (61, ((.ineg : Instr), 1)), (62, ((.istore 6 : Instr), 2)), (64, ((.iload 6 : Instr), 2)), (66, ((.aload_n 0 : Instr), 1)), (67, ((.getfield 52 : Instr), 3)), (70, ((.iload_n 2 : Instr), 1)), (71, ((.iaload : Instr), 1)), (72, ((.if_icmp .gt 52 : Instr), 3)), (75, ((.iload 5 : Instr), 2)), (77, ((.aload_n 0 : Instr), 1)), (78, ((.iload_n 1 : Instr), 1)), (79, ((.bipush (-60) : Instr), 2)), (81, ((.bipush 60 : Instr), 2)), (83, ((.aload_n 0 : Instr), 1))]),
  (115, [(84, ((.getfield 46 : Instr), 3)), (87, ((.iload_n 2 : Instr), 1)), (88, ((.iaload : Instr), 1)), (89, ((.iload 6 : Instr), 2)), (91, ((.iadd : Instr), 1)), (92, ((.invokestatic 190 : Instr), 3)), (95, ((.invokestatic 239 : Instr), 3)), (98, ((.invokevirtual 278 : Instr), 3)), (101, ((.iload_n 3 : Instr), 1)), (102, ((.iload 4 : Instr), 2)), (104, ((.invokestatic 133 : Instr), 3)), (107, ((.ifCond .eq 7 : Instr), 3)), (110, ((.iconst 1 : Instr), 1)), (111, ((.goto 4 : Instr), 3)), (114, ((.iconst 0 : Instr), 1)), (115, ((.iadd : Instr), 1))]),
  (143, [(116, ((.istore 5 : Instr), 2)), (118, ((.iinc 6 1 : Instr), 3)), (121, ((.goto (-57) : Instr), 3)), (124, ((.aload_n 0 : Instr), 1)), (125, ((.iconst 0 : Instr), 1)), (126, ((.putfield 127 : Instr), 3)), (129, ((.aload_n 0 : Instr), 1)), (130, ((.iload 5 : Instr), 2)), (132, ((.i2l : Instr), 1)), (133, ((.ldc2_w 327 : Instr), 3)), (136, ((.aload_n 0 : Instr), 1)), (137, ((.getfield 52 : Instr), 3)), (140, ((.iload_n 2 : Instr), 1)), (141, ((.iaload : Instr), 1)), (142, ((.i2l : Instr), 1)), (143, ((.lmul : Instr), 1))]),
  (150, [(144, ((.lconst 1 : Instr), 1)), (145, ((.ladd : Instr), 1)), (146, ((.invokevirtual 329 : Instr), 3)), (149, ((.iconst 0 : Instr), 1)), (150, ((.ireturn : Instr), 1))])]
/-- ChaffInTheWindModel.odds(IIII)I -/
def z_meth_248 : z_Mr := (⟨"ChaffInTheWindModel", "odds", "(IIII)I"⟩, prog_12_method_65_code, (7, 5, 0, 0), some .int, none, 10, 15, z_code_248, (1, 1624, 10, 1622, 1623))
def z_code_249 : z_bm (Instr × Nat) := [(23, [(0, ((.lload_n 1 : Instr), 1)), (1, ((.lload_n 3 : Instr), 1)), (2, ((.invokestatic 390 : Instr), 3)), (5, ((.lstore 5 : Instr), 2)), (7, ((.aload_n 0 : Instr), 1)), (8, ((.lload_n 1 : Instr), 1)), (9, ((.lload 5 : Instr), 2)), (11, ((.ldiv : Instr), 1)), (12, ((.invokevirtual 281 : Instr), 3)), (15, ((.aload_n 0 : Instr), 1)), (16, ((.lload_n 3 : Instr), 1)), (17, ((.lload 5 : Instr), 2)), (19, ((.ldiv : Instr), 1)), (20, ((.invokevirtual 281 : Instr), 3)), (23, ((.return_ : Instr), 1))])]
/-- ChaffInTheWindModel.tellPart(JJ)V -/
def z_meth_249 : z_Mr := (⟨"ChaffInTheWindModel", "tellPart", "(JJ)V"⟩, prog_12_method_94_code, (7, 3, 0, 0), none, none, 10, 15, z_code_249, (1, 1629, 10, 1628, 100130))
def z_code_250 : z_bm (Instr × Nat) := [(17, [(0, ((.lload_n 2 : Instr), 1)), (1, ((.lconst 0 : Instr), 1)), (2, ((.lcmp : Instr), 1)), (3, ((.ifCond .ne 7 : Instr), 3)), (6, ((.lload_n 0 : Instr), 1)), (7, ((.goto 10 : Instr), 3)), (10, ((.lload_n 2 : Instr), 1)), (11, ((.lload_n 0 : Instr), 1)), (12, ((.lload_n 2 : Instr), 1)), (13, ((.lrem : Instr), 1)), (14, ((.invokestatic 390 : Instr), 3)), (17, ((.lreturn : Instr), 1))])]
/-- ChaffInTheWindModel.common(JJ)J -/
def z_meth_250 : z_Mr := (⟨"ChaffInTheWindModel", "common", "(JJ)J"⟩, prog_12_method_93_code, (4, 2, 0, 0), some .long, none, 10, 15, z_code_250, (0, 1632, 10, 1631, 0))
def z_code_251 : z_bm (Instr × Nat) := [(21, [(0, ((.aload_n 0 : Instr), 1)), (1, ((.iconst 0 : Instr), 1)), (2, ((.putfield 124 : Instr), 3)), (5, ((.aload_n 0 : Instr), 1)), (6, ((.iload_n 1 : Instr), 1)), (7, ((.invokevirtual 249 : Instr), 3)), (10, ((.ifCond .ne 5 : Instr), 3)), (13, ((.iconst (-1) : Instr), 1)), (14, ((.ireturn : Instr), 1)), (15, ((.iconst 0 : Instr), 1)), (16, ((.istore_n 2 : Instr), 1)), (17, ((.iconst 0 : Instr), 1)), (18, ((.istore_n 3 : Instr), 1)), (19, ((.iload_n 3 : Instr), 1)), (20, ((.aload_n 0 : Instr), 1)), (21, ((.getfield 130 : Instr), 3))]),
  (49, [(24, ((.if_icmp .ge 33 : Instr), 3)), (27, ((.iload_n 2 : Instr), 1)), (28, ((.iload_n 3 : Instr), 1)), (29, ((.iload_n 1 : Instr), 1)), (30, ((.if_icmp .eq 18 : Instr), 3)), (33, ((.aload_n 0 : Instr), 1)), (34, ((.iload_n 1 : Instr), 1)), (35, ((.iload_n 3 : Instr), 1)), (36, ((.invokevirtual 317 : Instr), 3)), (39, ((.ifCond .ne 9 : Instr), 3)), (42, ((.iconst 1 : Instr), 1)), (43, ((.iload_n 3 : Instr), 1)), (44, ((.ishl : Instr), 1)), (45, ((.goto 4 : Instr), 3)), (48, ((.iconst 0 : Instr), 1)), (49, ((.ior : Instr), 1))]),
  (58, [(50, ((.istore_n 2 : Instr), 1)), (51, ((.iinc 3 1 : Instr), 3)), (54, ((.goto (-35) : Instr), 3)), (57, ((.iload_n 2 : Instr), 1)), (58, ((.ireturn : Instr), 1))])]
/-- ChaffInTheWindModel.kin(I)I -/
def z_meth_251 : z_Mr := (⟨"ChaffInTheWindModel", "kin", "(I)I"⟩, prog_12_method_66_code, (4, 2, 0, 0), some .int, none, 10, 15, z_code_251, (1, 1636, 10, 1634, 1635))
def z_code_252 : z_bm (Instr × Nat) := [(27, [(0, ((.aload_n 0 : Instr), 1)), (1, ((.iconst 0 : Instr), 1)), (2, ((.putfield 124 : Instr), 3)), (5, ((.aload_n 0 : Instr), 1)), (6, ((.iload_n 1 : Instr), 1)), (7, ((.invokevirtual 249 : Instr), 3)), (10, ((.ifCond .eq 15 : Instr), 3)), (13, ((.iload_n 2 : Instr), 1)), (14, ((.iconst 0 : Instr), 1)), (15, ((.aload_n 0 : Instr), 1)), (16, ((.getfield 22 : Instr), 3)), (19, ((.invokestatic 133 : Instr), 3)), (22, ((.ifCond .ne 5 : Instr), 3)), (25, ((.iconst (-1) : Instr), 1)), (26, ((.ireturn : Instr), 1)), (27, ((.iconst 0 : Instr), 1))]),
  (57, [(28, ((.istore_n 3 : Instr), 1)), (29, ((.bipush (-99) : Instr), 2)), (31, ((.istore 4 : Instr), 2)), (33, ((.iconst 0 : Instr), 1)), (34, ((.istore 5 : Instr), 2)), (36, ((.iload 5 : Instr), 2)), (38, ((.bipush 120 : Instr), 2)), (40, ((.if_icmp .gt 45 : Instr), 3)), (43, ((.aload_n 0 : Instr), 1)), (44, ((.iload_n 1 : Instr), 1)), (45, ((.iload 5 : Instr), 2)), (47, ((.invokestatic 311 : Instr), 3)), (50, ((.invokevirtual 278 : Instr), 3)), (53, ((.iload_n 2 : Instr), 1)), (54, ((.if_icmp .eq 6 : Instr), 3)), (57, ((.goto 22 : Instr), 3))]),
  (93, [(60, ((.iload_n 3 : Instr), 1)), (61, ((.ifCond .ne 11 : Instr), 3)), (64, ((.iload 5 : Instr), 2)), (66, ((.invokestatic 311 : Instr), 3)), (69, ((.goto 5 : Instr), 3)), (72, ((.iload 4 : Instr), 2)), (74, ((.istore 4 : Instr), 2)), (76, ((.iinc 3 1 : Instr), 3)), (79, ((.iinc 5 1 : Instr), 3)), (82, ((.goto (-46) : Instr), 3)), (85, ((.iload_n 3 : Instr), 1)), (86, ((.ifCond .ne 6 : Instr), 3)), (89, ((.bipush (-99) : Instr), 2)), (91, ((.ireturn : Instr), 1)), (92, ((.aload_n 0 : Instr), 1)), (93, ((.iconst 0 : Instr), 1))]),
  (105, [(94, ((.putfield 127 : Instr), 3)), (97, ((.aload_n 0 : Instr), 1)), (98, ((.iload_n 3 : Instr), 1)), (99, ((.i2l : Instr), 1)), (100, ((.invokevirtual 281 : Instr), 3)), (103, ((.iload 4 : Instr), 2)), (105, ((.ireturn : Instr), 1))])]
/-- ChaffInTheWindModel.sends(II)I -/
def z_meth_252 : z_Mr := (⟨"ChaffInTheWindModel", "sends", "(II)I"⟩, prog_12_method_67_code, (6, 3, 0, 0), some .int, none, 10, 15, z_code_252, (1, 1640, 10, 1638, 1639))
def z_code_253 : z_bm (Instr × Nat) := [(27, [(0, ((.aload_n 0 : Instr), 1)), (1, ((.iconst 0 : Instr), 1)), (2, ((.putfield 124 : Instr), 3)), (5, ((.iload_n 1 : Instr), 1)), (6, ((.iconst 0 : Instr), 1)), (7, ((.iconst 2 : Instr), 1)), (8, ((.invokestatic 133 : Instr), 3)), (11, ((.ifCond .eq 36 : Instr), 3)), (14, ((.aload_n 0 : Instr), 1)), (15, ((.getfield 63 : Instr), 3)), (18, ((.iload_n 1 : Instr), 1)), (19, ((.iaload : Instr), 1)), (20, ((.ifCond .le 27 : Instr), 3)), (23, ((.iload_n 2 : Instr), 1)), (24, ((.invokestatic 256 : Instr), 3)), (27, ((.ifCond .eq 20 : Instr), 3))]),
  (51, [(30, ((.aload_n 0 : Instr), 1)), (31, ((.iload_n 1 : Instr), 1)), (32, ((.aload_n 0 : Instr), 1)), (33, ((.getfield 26 : Instr), 3)), (36, ((.iload_n 2 : Instr), 1)), (37, ((.iconst 0 : Instr), 1)), (38, ((.invokestatic 137 : Instr), 3)), (41, ((.invokevirtual 245 : Instr), 3)), (44, ((.goto 7 : Instr), 3)), (47, ((.aload_n 0 : Instr), 1)), (48, ((.invokevirtual 253 : Instr), 3)), (51, ((.ireturn : Instr), 1))])]
/-- ChaffInTheWindModel.price(II)I -/
def z_meth_253 : z_Mr := (⟨"ChaffInTheWindModel", "price", "(II)I"⟩, prog_12_method_68_code, (3, 3, 0, 0), some .int, none, 10, 15, z_code_253, (1, 1644, 10, 1642, 1643))
def z_code_254 : z_bm (Instr × Nat) := [(24, [(0, ((.aload_n 0 : Instr), 1)), (1, ((.aload_n 0 : Instr), 1)), (2, ((.getfield 60 : Instr), 3)), (5, ((.iload_n 1 : Instr), 1)), (6, ((.aaload : Instr), 1)), (7, ((.aload_n 0 : Instr), 1)), (8, ((.getfield 63 : Instr), 3)), (11, ((.iload_n 1 : Instr), 1)), (12, ((.iaload : Instr), 1)), (13, ((.bipush 40 : Instr), 2)), (15, ((.invokevirtual 175 : Instr), 3)), (18, ((.aload_n 0 : Instr), 1)), (19, ((.iconst 0 : Instr), 1)), (20, ((.putfield 217 : Instr), 3)), (23, ((.aload_n 0 : Instr), 1)), (24, ((.aload_n 2 : Instr), 1))]),
  (48, [(25, ((.putfield 231 : Instr), 3)), (28, ((.aload_n 0 : Instr), 1)), (29, ((.iload_n 3 : Instr), 1)), (30, ((.putfield 66 : Instr), 3)), (33, ((.ldc 237 : Instr), 2)), (35, ((.ldc 238 : Instr), 2)), (37, ((.aload_n 0 : Instr), 1)), (38, ((.iconst 0 : Instr), 1)), (39, ((.invokevirtual 214 : Instr), 3)), (42, ((.invokestatic 190 : Instr), 3)), (45, ((.invokestatic 239 : Instr), 3)), (48, ((.ireturn : Instr), 1))])]
/-- ChaffInTheWindModel.priceOf(I[II)I -/
def z_meth_254 : z_Mr := (⟨"ChaffInTheWindModel", "priceOf", "(I[II)I"⟩, prog_12_method_34_code, (4, 4, 0, 0), some .int, none, 10, 15, z_code_254, (1, 1648, 10, 1647, 100131))
def z_code_255 : z_bm (Instr × Nat) := [(27, [(0, ((.aload_n 0 : Instr), 1)), (1, ((.iconst 0 : Instr), 1)), (2, ((.putfield 124 : Instr), 3)), (5, ((.iload_n 1 : Instr), 1)), (6, ((.invokestatic 256 : Instr), 3)), (9, ((.ifCond .ne 5 : Instr), 3)), (12, ((.iconst (-1) : Instr), 1)), (13, ((.ireturn : Instr), 1)), (14, ((.aload_n 0 : Instr), 1)), (15, ((.aload_n 0 : Instr), 1)), (16, ((.getfield 26 : Instr), 3)), (19, ((.iload_n 1 : Instr), 1)), (20, ((.iconst 0 : Instr), 1)), (21, ((.invokestatic 137 : Instr), 3)), (24, ((.invokevirtual 333 : Instr), 3)), (27, ((.istore_n 2 : Instr), 1))]),
  (53, [(28, ((.aload_n 0 : Instr), 1)), (29, ((.iconst 0 : Instr), 1)), (30, ((.putfield 127 : Instr), 3)), (33, ((.aload_n 0 : Instr), 1)), (34, ((.aload_n 0 : Instr), 1)), (35, ((.getfield 242 : Instr), 3)), (38, ((.i2l : Instr), 1)), (39, ((.invokevirtual 281 : Instr), 3)), (42, ((.aload_n 0 : Instr), 1)), (43, ((.aload_n 0 : Instr), 1)), (44, ((.iload_n 1 : Instr), 1)), (45, ((.invokevirtual 286 : Instr), 3)), (48, ((.i2l : Instr), 1)), (49, ((.invokevirtual 281 : Instr), 3)), (52, ((.iload_n 2 : Instr), 1)), (53, ((.ireturn : Instr), 1))])]
/-- ChaffInTheWindModel.worth(I)I -/
def z_meth_255 : z_Mr := (⟨"ChaffInTheWindModel", "worth", "(I)I"⟩, prog_12_method_69_code, (3, 2, 0, 0), some .int, none, 10, 15, z_code_255, (1, 1654, 10, 1652, 1653))
def z_code_256 : z_bm (Instr × Nat) := [(22, [(0, ((.iconst 0 : Instr), 1)), (1, ((.istore_n 3 : Instr), 1)), (2, ((.iconst 0 : Instr), 1)), (3, ((.istore 4 : Instr), 2)), (5, ((.iload 4 : Instr), 2)), (7, ((.aload_n 0 : Instr), 1)), (8, ((.getfield 130 : Instr), 3)), (11, ((.if_icmp .ge 18 : Instr), 3)), (14, ((.iload_n 3 : Instr), 1)), (15, ((.aload_n 1 : Instr), 1)), (16, ((.iload_n 2 : Instr), 1)), (17, ((.iload 4 : Instr), 2)), (19, ((.iadd : Instr), 1)), (20, ((.iaload : Instr), 1)), (21, ((.iadd : Instr), 1)), (22, ((.istore_n 3 : Instr), 1))]),
  (51, [(23, ((.iinc 4 1 : Instr), 3)), (26, ((.goto (-21) : Instr), 3)), (29, ((.aload_n 0 : Instr), 1)), (30, ((.iconst (-1) : Instr), 1)), (31, ((.putfield 242 : Instr), 3)), (34, ((.iconst 0 : Instr), 1)), (35, ((.istore 4 : Instr), 2)), (37, ((.iconst 0 : Instr), 1)), (38, ((.istore 5 : Instr), 2)), (40, ((.iload 5 : Instr), 2)), (42, ((.iconst 3 : Instr), 1)), (43, ((.if_icmp .ge 69 : Instr), 3)), (46, ((.iload_n 3 : Instr), 1)), (47, ((.ifCond .le 65 : Instr), 3)), (50, ((.aload_n 0 : Instr), 1)), (51, ((.getfield 63 : Instr), 3))]),
  (83, [(54, ((.iload 5 : Instr), 2)), (56, ((.iaload : Instr), 1)), (57, ((.ifCond .ne 6 : Instr), 3)), (60, ((.goto 46 : Instr), 3)), (63, ((.aload_n 0 : Instr), 1)), (64, ((.iload 5 : Instr), 2)), (66, ((.aload_n 1 : Instr), 1)), (67, ((.iload_n 2 : Instr), 1)), (68, ((.invokevirtual 245 : Instr), 3)), (71, ((.istore 6 : Instr), 2)), (73, ((.iload 6 : Instr), 2)), (75, ((.ifCond .lt 31 : Instr), 3)), (78, ((.aload_n 0 : Instr), 1)), (79, ((.getfield 242 : Instr), 3)), (82, ((.iconst (-1) : Instr), 1)), (83, ((.if_icmp .eq 13 : Instr), 3))]),
  (114, [(86, ((.iload 6 : Instr), 2)), (88, ((.iload 4 : Instr), 2)), (90, ((.if_icmp .gt 6 : Instr), 3)), (93, ((.goto 13 : Instr), 3)), (96, ((.aload_n 0 : Instr), 1)), (97, ((.iload 5 : Instr), 2)), (99, ((.putfield 242 : Instr), 3)), (102, ((.iload 6 : Instr), 2)), (104, ((.istore 4 : Instr), 2)), (106, ((.iinc 5 1 : Instr), 3)), (109, ((.goto (-69) : Instr), 3)), (112, ((.iload 4 : Instr), 2)), (114, ((.ireturn : Instr), 1))])]
/-- ChaffInTheWindModel.worthOf([II)I -/
def z_meth_256 : z_Mr := (⟨"ChaffInTheWindModel", "worthOf", "([II)I"⟩, prog_12_method_35_code, (7, 3, 0, 0), some .int, none, 10, 15, z_code_256, (1, 1658, 10, 1657, 100132))
def z_code_257 : z_bm (Instr × Nat) := [(22, [(0, ((.aload_n 0 : Instr), 1)), (1, ((.iconst 0 : Instr), 1)), (2, ((.putfield 124 : Instr), 3)), (5, ((.iload_n 1 : Instr), 1)), (6, ((.iconst 1 : Instr), 1)), (7, ((.iconst 4 : Instr), 1)), (8, ((.invokestatic 133 : Instr), 3)), (11, ((.ifCond .ne 5 : Instr), 3)), (14, ((.iconst (-1) : Instr), 1)), (15, ((.ireturn : Instr), 1)), (16, ((.bipush 25 : Instr), 2)), (18, ((.istore_n 2 : Instr), 1)), (19, ((.iconst 0 : Instr), 1)), (20, ((.istore_n 3 : Instr), 1)), (21, ((.iload_n 3 : Instr), 1)), (22, ((.aload_n 0 : Instr), 1))]),
  (54, [(23, ((.getfield 22 : Instr), 3)), (26, ((.if_icmp .ge 116 : Instr), 3)), (29, ((.iconst 0 : Instr), 1)), (30, ((.istore 4 : Instr), 2)), (32, ((.iload 4 : Instr), 2)), (34, ((.bipush 10 : Instr), 2)), (36, ((.if_icmp .ge 17 : Instr), 3)), (39, ((.aload_n 0 : Instr), 1)), (40, ((.getfield 84 : Instr), 3)), (43, ((.iload 4 : Instr), 2)), (45, ((.iconst 0 : Instr), 1)), (46, ((.iastore : Instr), 1)), (47, ((.iinc 4 1 : Instr), 3)), (50, ((.goto (-18) : Instr), 3)), (53, ((.iload_n 3 : Instr), 1)), (54, ((.istore 4 : Instr), 2))]),
  (85, [(56, ((.iload 4 : Instr), 2)), (58, ((.aload_n 0 : Instr), 1)), (59, ((.getfield 22 : Instr), 3)), (62, ((.if_icmp .ge 74 : Instr), 3)), (65, ((.iconst 0 : Instr), 1)), (66, ((.istore 5 : Instr), 2)), (68, ((.iload 5 : Instr), 2)), (70, ((.aload_n 0 : Instr), 1)), (71, ((.getfield 130 : Instr), 3)), (74, ((.if_icmp .ge 34 : Instr), 3)), (77, ((.aload_n 0 : Instr), 1)), (78, ((.getfield 84 : Instr), 3)), (81, ((.iload 5 : Instr), 2)), (83, ((.dup2 : Instr), 1)), (84, ((.iaload : Instr), 1)), (85, ((.aload_n 0 : Instr), 1))]),
  (114, [(86, ((.getfield 26 : Instr), 3)), (89, ((.bipush 6 : Instr), 2)), (91, ((.iload 4 : Instr), 2)), (93, ((.iadd : Instr), 1)), (94, ((.iload 5 : Instr), 2)), (96, ((.invokestatic 137 : Instr), 3)), (99, ((.iaload : Instr), 1)), (100, ((.iadd : Instr), 1)), (101, ((.iastore : Instr), 1)), (102, ((.iinc 5 1 : Instr), 3)), (105, ((.goto (-37) : Instr), 3)), (108, ((.aload_n 0 : Instr), 1)), (109, ((.getfield 81 : Instr), 3)), (112, ((.iload_n 2 : Instr), 1)), (113, ((.iload_n 3 : Instr), 1)), (114, ((.imul : Instr), 1))]),
  (143, [(115, ((.iload 4 : Instr), 2)), (117, ((.iadd : Instr), 1)), (118, ((.iconst 1 : Instr), 1)), (119, ((.iadd : Instr), 1)), (120, ((.aload_n 0 : Instr), 1)), (121, ((.aload_n 0 : Instr), 1)), (122, ((.getfield 84 : Instr), 3)), (125, ((.iconst 0 : Instr), 1)), (126, ((.invokevirtual 333 : Instr), 3)), (129, ((.iastore : Instr), 1)), (130, ((.iinc 4 1 : Instr), 3)), (133, ((.goto (-77) : Instr), 3)), (136, ((.iinc 3 1 : Instr), 3)), (139, ((.goto (-118) : Instr), 3)), (142, ((.iconst 0 : Instr), 1)), (143, ((.istore_n 3 : Instr), 1))]),
  (174, [(144, ((.iload_n 3 : Instr), 1)), (145, ((.iload_n 1 : Instr), 1)), (146, ((.if_icmp .gt 133 : Instr), 3)), (149, ((.aload_n 0 : Instr), 1)), (150, ((.getfield 22 : Instr), 3)), (153, ((.istore 4 : Instr), 2)), (155, ((.iload 4 : Instr), 2)), (157, ((.ifCond .lt 116 : Instr), 3)), (160, ((.iload 4 : Instr), 2)), (162, ((.aload_n 0 : Instr), 1)), (163, ((.getfield 22 : Instr), 3)), (166, ((.if_icmp .ne 11 : Instr), 3)), (169, ((.iload_n 3 : Instr), 1)), (170, ((.ifCond .ne 7 : Instr), 3)), (173, ((.lconst 0 : Instr), 1)), (174, ((.goto 6 : Instr), 3))]),
  (206, [(177, ((.ldc2_w 337 : Instr), 3)), (180, ((.lstore 5 : Instr), 2)), (182, ((.iload 4 : Instr), 2)), (184, ((.iconst 1 : Instr), 1)), (185, ((.iadd : Instr), 1)), (186, ((.istore 7 : Instr), 2)), (188, ((.iload 7 : Instr), 2)), (190, ((.aload_n 0 : Instr), 1)), (191, ((.getfield 22 : Instr), 3)), (194, ((.if_icmp .gt 60 : Instr), 3)), (197, ((.iload_n 3 : Instr), 1)), (198, ((.ifCond .le 56 : Instr), 3)), (201, ((.aload_n 0 : Instr), 1)), (202, ((.getfield 87 : Instr), 3)), (205, ((.iload_n 2 : Instr), 1)), (206, ((.iload_n 3 : Instr), 1))]),
  (232, [(207, ((.iconst 1 : Instr), 1)), (208, ((.isub : Instr), 1)), (209, ((.imul : Instr), 1)), (210, ((.iload 7 : Instr), 2)), (212, ((.iadd : Instr), 1)), (213, ((.laload : Instr), 1)), (214, ((.lstore 8 : Instr), 2)), (216, ((.lload 8 : Instr), 2)), (218, ((.ldc2_w 337 : Instr), 3)), (221, ((.lcmp : Instr), 1)), (222, ((.ifCond .eq 26 : Instr), 3)), (225, ((.lload 5 : Instr), 2)), (227, ((.aload_n 0 : Instr), 1)), (228, ((.getfield 81 : Instr), 3)), (231, ((.iload_n 2 : Instr), 1)), (232, ((.iload 4 : Instr), 2))]),
  (260, [(234, ((.imul : Instr), 1)), (235, ((.iload 7 : Instr), 2)), (237, ((.iadd : Instr), 1)), (238, ((.iaload : Instr), 1)), (239, ((.i2l : Instr), 1)), (240, ((.lload 8 : Instr), 2)), (242, ((.ladd : Instr), 1)), (243, ((.invokestatic 339 : Instr), 3)), (246, ((.lstore 5 : Instr), 2)), (248, ((.iinc 7 1 : Instr), 3)), (251, ((.goto (-63) : Instr), 3)), (254, ((.aload_n 0 : Instr), 1)), (255, ((.getfield 87 : Instr), 3)), (258, ((.iload_n 2 : Instr), 1)), (259, ((.iload_n 3 : Instr), 1)), (260, ((.imul : Instr), 1))]),
  (290, [(261, ((.iload 4 : Instr), 2)), (263, ((.iadd : Instr), 1)), (264, ((.lload 5 : Instr), 2)), (266, ((.lastore : Instr), 1)), (267, ((.iinc 4 (-1) : Instr), 3)), (270, ((.goto (-115) : Instr), 3)), (273, ((.iinc 3 1 : Instr), 3)), (276, ((.goto (-132) : Instr), 3)), (279, ((.iconst 0 : Instr), 1)), (280, ((.istore_n 3 : Instr), 1)), (281, ((.iconst 1 : Instr), 1)), (282, ((.istore 4 : Instr), 2)), (284, ((.iload 4 : Instr), 2)), (286, ((.iload_n 1 : Instr), 1)), (287, ((.if_icmp .gt 37 : Instr), 3)), (290, ((.iload_n 3 : Instr), 1))]),
  (315, [(291, ((.ifCond .eq 24 : Instr), 3)), (294, ((.aload_n 0 : Instr), 1)), (295, ((.getfield 87 : Instr), 3)), (298, ((.iload_n 2 : Instr), 1)), (299, ((.iload 4 : Instr), 2)), (301, ((.imul : Instr), 1)), (302, ((.laload : Instr), 1)), (303, ((.aload_n 0 : Instr), 1)), (304, ((.getfield 87 : Instr), 3)), (307, ((.iload_n 2 : Instr), 1)), (308, ((.iload_n 3 : Instr), 1)), (309, ((.imul : Instr), 1)), (310, ((.laload : Instr), 1)), (311, ((.lcmp : Instr), 1)), (312, ((.ifCond .le 6 : Instr), 3)), (315, ((.iload 4 : Instr), 2))]),
  (343, [(317, ((.istore_n 3 : Instr), 1)), (318, ((.iinc 4 1 : Instr), 3)), (321, ((.goto (-37) : Instr), 3)), (324, ((.aload_n 0 : Instr), 1)), (325, ((.iconst 0 : Instr), 1)), (326, ((.putfield 127 : Instr), 3)), (329, ((.aload_n 0 : Instr), 1)), (330, ((.iload_n 3 : Instr), 1)), (331, ((.i2l : Instr), 1)), (332, ((.invokevirtual 281 : Instr), 3)), (335, ((.iconst 0 : Instr), 1)), (336, ((.istore 4 : Instr), 2)), (338, ((.iload_n 3 : Instr), 1)), (339, ((.istore 5 : Instr), 2)), (341, ((.iload 5 : Instr), 2)), (343, ((.iconst 1 : Instr), 1))]),
  (367, [(344, ((.if_icmp .le 97 : Instr), 3)), (347, ((.iload 4 : Instr), 2)), (349, ((.iconst 1 : Instr), 1)), (350, ((.iadd : Instr), 1)), (351, ((.istore 6 : Instr), 2)), (353, ((.aload_n 0 : Instr), 1)), (354, ((.getfield 87 : Instr), 3)), (357, ((.iload_n 2 : Instr), 1)), (358, ((.iload 5 : Instr), 2)), (360, ((.iconst 1 : Instr), 1)), (361, ((.isub : Instr), 1)), (362, ((.imul : Instr), 1)), (363, ((.iload 6 : Instr), 2)), (365, ((.iadd : Instr), 1)), (366, ((.laload : Instr), 1)), (367, ((.ldc2_w 337 : Instr), 3))]),
  (394, [(370, ((.lcmp : Instr), 1)), (371, ((.ifCond .eq 47 : Instr), 3)), (374, ((.aload_n 0 : Instr), 1)), (375, ((.getfield 81 : Instr), 3)), (378, ((.iload_n 2 : Instr), 1)), (379, ((.iload 4 : Instr), 2)), (381, ((.imul : Instr), 1)), (382, ((.iload 6 : Instr), 2)), (384, ((.iadd : Instr), 1)), (385, ((.iaload : Instr), 1)), (386, ((.i2l : Instr), 1)), (387, ((.aload_n 0 : Instr), 1)), (388, ((.getfield 87 : Instr), 3)), (391, ((.iload_n 2 : Instr), 1)), (392, ((.iload 5 : Instr), 2)), (394, ((.iconst 1 : Instr), 1))]),
  (415, [(395, ((.isub : Instr), 1)), (396, ((.imul : Instr), 1)), (397, ((.iload 6 : Instr), 2)), (399, ((.iadd : Instr), 1)), (400, ((.laload : Instr), 1)), (401, ((.ladd : Instr), 1)), (402, ((.aload_n 0 : Instr), 1)), (403, ((.getfield 87 : Instr), 3)), (406, ((.iload_n 2 : Instr), 1)), (407, ((.iload 5 : Instr), 2)), (409, ((.imul : Instr), 1)), (410, ((.iload 4 : Instr), 2)), (412, ((.iadd : Instr), 1)), (413, ((.laload : Instr), 1)), (414, ((.lcmp : Instr), 1)), (415, ((.ifCond .eq 9 : Instr), 3))]),
  (448, [(418, ((.iinc 6 1 : Instr), 3)), (421, ((.goto (-68) : Instr), 3)), (424, ((.aload_n 0 : Instr), 1)), (425, ((.iload 6 : Instr), 2)), (427, ((.i2l : Instr), 1)), (428, ((.invokevirtual 281 : Instr), 3)), (431, ((.iload 6 : Instr), 2)), (433, ((.istore 4 : Instr), 2)), (435, ((.iinc 5 (-1) : Instr), 3)), (438, ((.goto (-97) : Instr), 3)), (441, ((.aload_n 0 : Instr), 1)), (442, ((.getfield 87 : Instr), 3)), (445, ((.iload_n 2 : Instr), 1)), (446, ((.iload_n 3 : Instr), 1)), (447, ((.imul : Instr), 1)), (448, ((.laload : Instr), 1))]),
  (450, [(449, ((.l2i : Instr), 1)), (450, ((.ireturn : Instr), 1))])]
/-- ChaffInTheWindModel.marks(I)I -/
def z_meth_257 : z_Mr := (⟨"ChaffInTheWindModel", "marks", "(I)I"⟩, prog_12_method_70_code, (10, 2, 0, 0), some .int, none, 10, 15, z_code_257, (1, 1662, 10, 1660, 1661))
def z_code_258 : z_bm (Instr × Nat) := [(27, [(0, ((.aload_n 0 : Instr), 1)), (1, ((.iconst 0 : Instr), 1)), (2, ((.putfield 124 : Instr), 3)), (5, ((.iload_n 1 : Instr), 1)), (6, ((.invokestatic 256 : Instr), 3)), (9, ((.ifCond .eq 11 : Instr), 3)), (12, ((.aload_n 0 : Instr), 1)), (13, ((.iload_n 2 : Instr), 1)), (14, ((.invokevirtual 249 : Instr), 3)), (17, ((.ifCond .ne 5 : Instr), 3)), (20, ((.iconst (-1) : Instr), 1)), (21, ((.ireturn : Instr), 1)), (22, ((.aload_n 0 : Instr), 1)), (23, ((.getfield 26 : Instr), 3)), (26, ((.iload_n 1 : Instr), 1)), (27, ((.iload_n 2 : Instr), 1))]),
  (55, [(28, ((.invokestatic 137 : Instr), 3)), (31, ((.iaload : Instr), 1)), (32, ((.istore 4 : Instr), 2)), (34, ((.iconst 0 : Instr), 1)), (35, ((.istore 5 : Instr), 2)), (37, ((.iconst 0 : Instr), 1)), (38, ((.istore 6 : Instr), 2)), (40, ((.iconst 0 : Instr), 1)), (41, ((.istore 7 : Instr), 2)), (43, ((.iconst 0 : Instr), 1)), (44, ((.istore 8 : Instr), 2)), (46, ((.iload 8 : Instr), 2)), (48, ((.sipush 999 : Instr), 3)), (51, ((.if_icmp .gt 62 : Instr), 3)), (54, ((.aload_n 0 : Instr), 1)), (55, ((.getfield 26 : Instr), 3))]),
  (86, [(58, ((.iload_n 1 : Instr), 1)), (59, ((.iload_n 2 : Instr), 1)), (60, ((.invokestatic 137 : Instr), 3)), (63, ((.iload 8 : Instr), 2)), (65, ((.iastore : Instr), 1)), (66, ((.aload_n 0 : Instr), 1)), (67, ((.aload_n 0 : Instr), 1)), (68, ((.getfield 26 : Instr), 3)), (71, ((.iload_n 1 : Instr), 1)), (72, ((.iconst 0 : Instr), 1)), (73, ((.invokestatic 137 : Instr), 3)), (76, ((.invokevirtual 333 : Instr), 3)), (79, ((.iload_n 3 : Instr), 1)), (80, ((.if_icmp .ge 6 : Instr), 3)), (83, ((.goto 24 : Instr), 3)), (86, ((.iload 5 : Instr), 2))]),
  (122, [(88, ((.ifCond .ne 8 : Instr), 3)), (91, ((.iload 8 : Instr), 2)), (93, ((.goto 5 : Instr), 3)), (96, ((.iload 6 : Instr), 2)), (98, ((.istore 6 : Instr), 2)), (100, ((.iload 8 : Instr), 2)), (102, ((.istore 7 : Instr), 2)), (104, ((.iinc 5 1 : Instr), 3)), (107, ((.iinc 8 1 : Instr), 3)), (110, ((.goto (-64) : Instr), 3)), (113, ((.aload_n 0 : Instr), 1)), (114, ((.getfield 26 : Instr), 3)), (117, ((.iload_n 1 : Instr), 1)), (118, ((.iload_n 2 : Instr), 1)), (119, ((.invokestatic 137 : Instr), 3)), (122, ((.iload 4 : Instr), 2))]),
  (151, [(124, ((.iastore : Instr), 1)), (125, ((.aload_n 0 : Instr), 1)), (126, ((.iconst 0 : Instr), 1)), (127, ((.putfield 127 : Instr), 3)), (130, ((.iload 5 : Instr), 2)), (132, ((.ifCond .le 17 : Instr), 3)), (135, ((.aload_n 0 : Instr), 1)), (136, ((.iload 6 : Instr), 2)), (138, ((.i2l : Instr), 1)), (139, ((.invokevirtual 281 : Instr), 3)), (142, ((.aload_n 0 : Instr), 1)), (143, ((.iload 7 : Instr), 2)), (145, ((.i2l : Instr), 1)), (146, ((.invokevirtual 281 : Instr), 3)), (149, ((.iload 5 : Instr), 2)), (151, ((.ireturn : Instr), 1))])]
/-- ChaffInTheWindModel.may(III)I -/
def z_meth_258 : z_Mr := (⟨"ChaffInTheWindModel", "may", "(III)I"⟩, prog_12_method_71_code, (9, 4, 0, 0), some .int, none, 10, 15, z_code_258, (1, 1668, 10, 1666, 1667))
def z_code_259 : z_bm (Instr × Nat) := [(27, [(0, ((.aload_n 0 : Instr), 1)), (1, ((.iconst 0 : Instr), 1)), (2, ((.putfield 124 : Instr), 3)), (5, ((.iload_n 1 : Instr), 1)), (6, ((.invokestatic 256 : Instr), 3)), (9, ((.ifCond .eq 14 : Instr), 3)), (12, ((.iload_n 2 : Instr), 1)), (13, ((.iconst 0 : Instr), 1)), (14, ((.sipush 999 : Instr), 3)), (17, ((.invokestatic 133 : Instr), 3)), (20, ((.ifCond .ne 5 : Instr), 3)), (23, ((.iconst (-1) : Instr), 1)), (24, ((.ireturn : Instr), 1)), (25, ((.aload_n 0 : Instr), 1)), (26, ((.iload_n 1 : Instr), 1)), (27, ((.invokevirtual 286 : Instr), 3))]),
  (54, [(30, ((.iload_n 2 : Instr), 1)), (31, ((.if_icmp .ge 6 : Instr), 3)), (34, ((.bipush (-2) : Instr), 2)), (36, ((.ireturn : Instr), 1)), (37, ((.aload_n 0 : Instr), 1)), (38, ((.iconst 0 : Instr), 1)), (39, ((.putfield 127 : Instr), 3)), (42, ((.aload_n 0 : Instr), 1)), (43, ((.aload_n 0 : Instr), 1)), (44, ((.iload_n 1 : Instr), 1)), (45, ((.iload_n 2 : Instr), 1)), (46, ((.iconst 0 : Instr), 1)), (47, ((.invokevirtual 342 : Instr), 3)), (50, ((.invokevirtual 281 : Instr), 3)), (53, ((.aload_n 0 : Instr), 1)), (54, ((.aload_n 0 : Instr), 1))]),
  (65, [(55, ((.iload_n 1 : Instr), 1)), (56, ((.iload_n 2 : Instr), 1)), (57, ((.iconst 1 : Instr), 1)), (58, ((.invokevirtual 342 : Instr), 3)), (61, ((.invokevirtual 281 : Instr), 3)), (64, ((.iconst 0 : Instr), 1)), (65, ((.ireturn : Instr), 1))])]
/-- ChaffInTheWindModel.bushel(II)I -/
def z_meth_259 : z_Mr := (⟨"ChaffInTheWindModel", "bushel", "(II)I"⟩, prog_12_method_73_code, (3, 3, 0, 0), some .int, none, 10, 15, z_code_259, (1, 1672, 10, 1670, 1671))
def z_code_260 : z_bm (Instr × Nat) := [(28, [(0, ((.iload_n 2 : Instr), 1)), (1, ((.istore 4 : Instr), 2)), (3, ((.lconst 0 : Instr), 1)), (4, ((.lstore 5 : Instr), 2)), (6, ((.iconst 1 : Instr), 1)), (7, ((.istore 7 : Instr), 2)), (9, ((.iload 7 : Instr), 2)), (11, ((.bipush 99 : Instr), 2)), (13, ((.if_icmp .gt 96 : Instr), 3)), (16, ((.iload_n 3 : Instr), 1)), (17, ((.ifCond .eq 11 : Instr), 3)), (20, ((.bipush 100 : Instr), 2)), (22, ((.iload 7 : Instr), 2)), (24, ((.isub : Instr), 1)), (25, ((.goto 5 : Instr), 3)), (28, ((.iload 7 : Instr), 2))]),
  (59, [(30, ((.istore 8 : Instr), 2)), (32, ((.iconst 0 : Instr), 1)), (33, ((.istore 9 : Instr), 2)), (35, ((.iload 9 : Instr), 2)), (37, ((.aload_n 0 : Instr), 1)), (38, ((.getfield 130 : Instr), 3)), (41, ((.if_icmp .ge 62 : Instr), 3)), (44, ((.aload_n 0 : Instr), 1)), (45, ((.getfield 13 : Instr), 3)), (48, ((.iload 9 : Instr), 2)), (50, ((.iaload : Instr), 1)), (51, ((.iload 8 : Instr), 2)), (53, ((.if_icmp .ne 22 : Instr), 3)), (56, ((.iload 4 : Instr), 2)), (58, ((.aload_n 0 : Instr), 1)), (59, ((.getfield 26 : Instr), 3))]),
  (90, [(62, ((.iload_n 1 : Instr), 1)), (63, ((.iload 9 : Instr), 2)), (65, ((.invokestatic 137 : Instr), 3)), (68, ((.iaload : Instr), 1)), (69, ((.invokestatic 190 : Instr), 3)), (72, ((.goto 4 : Instr), 3)), (75, ((.iconst 0 : Instr), 1)), (76, ((.istore 10 : Instr), 2)), (78, ((.iload 4 : Instr), 2)), (80, ((.iload 10 : Instr), 2)), (82, ((.isub : Instr), 1)), (83, ((.istore 4 : Instr), 2)), (85, ((.lload 5 : Instr), 2)), (87, ((.iload 10 : Instr), 2)), (89, ((.i2l : Instr), 1)), (90, ((.iload 8 : Instr), 2))]),
  (111, [(92, ((.i2l : Instr), 1)), (93, ((.lmul : Instr), 1)), (94, ((.ladd : Instr), 1)), (95, ((.lstore 5 : Instr), 2)), (97, ((.iinc 9 1 : Instr), 3)), (100, ((.goto (-65) : Instr), 3)), (103, ((.iinc 7 1 : Instr), 3)), (106, ((.goto (-97) : Instr), 3)), (109, ((.lload 5 : Instr), 2)), (111, ((.lreturn : Instr), 1))])]
/-- ChaffInTheWindModel.weightOfSome(IIZ)J -/
def z_meth_260 : z_Mr := (⟨"ChaffInTheWindModel", "weightOfSome", "(IIZ)J"⟩, prog_12_method_72_code, (11, 4, 0, 0), some .long, none, 10, 15, z_code_260, (1, 1676, 10, 1675, 100133))
def z_code_261 : z_bm (Instr × Nat) := [(27, [(0, ((.aload_n 0 : Instr), 1)), (1, ((.iconst 0 : Instr), 1)), (2, ((.putfield 124 : Instr), 3)), (5, ((.iload_n 1 : Instr), 1)), (6, ((.invokestatic 256 : Instr), 3)), (9, ((.ifCond .ne 5 : Instr), 3)), (12, ((.iconst (-1) : Instr), 1)), (13, ((.ireturn : Instr), 1)), (14, ((.aload_n 0 : Instr), 1)), (15, ((.aload_n 0 : Instr), 1)), (16, ((.getfield 26 : Instr), 3)), (19, ((.iload_n 1 : Instr), 1)), (20, ((.iconst 0 : Instr), 1)), (21, ((.invokestatic 137 : Instr), 3)), (24, ((.invokevirtual 333 : Instr), 3)), (27, ((.istore_n 2 : Instr), 1))]),
  (56, [(28, ((.bipush (-2) : Instr), 2)), (30, ((.istore_n 3 : Instr), 1)), (31, ((.iconst 0 : Instr), 1)), (32, ((.istore 4 : Instr), 2)), (34, ((.iconst 0 : Instr), 1)), (35, ((.istore 5 : Instr), 2)), (37, ((.iload 5 : Instr), 2)), (39, ((.aload_n 0 : Instr), 1)), (40, ((.getfield 130 : Instr), 3)), (43, ((.if_icmp .ge 91 : Instr), 3)), (46, ((.aload_n 0 : Instr), 1)), (47, ((.getfield 26 : Instr), 3)), (50, ((.iload_n 1 : Instr), 1)), (51, ((.iload 5 : Instr), 2)), (53, ((.invokestatic 137 : Instr), 3)), (56, ((.iaload : Instr), 1))]),
  (85, [(57, ((.istore 6 : Instr), 2)), (59, ((.iload 6 : Instr), 2)), (61, ((.ifCond .ne 6 : Instr), 3)), (64, ((.goto 64 : Instr), 3)), (67, ((.aload_n 0 : Instr), 1)), (68, ((.getfield 26 : Instr), 3)), (71, ((.iload_n 1 : Instr), 1)), (72, ((.iload 5 : Instr), 2)), (74, ((.invokestatic 137 : Instr), 3)), (77, ((.iconst 0 : Instr), 1)), (78, ((.iastore : Instr), 1)), (79, ((.aload_n 0 : Instr), 1)), (80, ((.aload_n 0 : Instr), 1)), (81, ((.getfield 26 : Instr), 3)), (84, ((.iload_n 1 : Instr), 1)), (85, ((.iconst 0 : Instr), 1))]),
  (118, [(86, ((.invokestatic 137 : Instr), 3)), (89, ((.invokevirtual 333 : Instr), 3)), (92, ((.istore 7 : Instr), 2)), (94, ((.aload_n 0 : Instr), 1)), (95, ((.getfield 26 : Instr), 3)), (98, ((.iload_n 1 : Instr), 1)), (99, ((.iload 5 : Instr), 2)), (101, ((.invokestatic 137 : Instr), 3)), (104, ((.iload 6 : Instr), 2)), (106, ((.iastore : Instr), 1)), (107, ((.iload_n 3 : Instr), 1)), (108, ((.ifCond .lt 13 : Instr), 3)), (111, ((.iload 7 : Instr), 2)), (113, ((.iload 4 : Instr), 2)), (115, ((.if_icmp .gt 6 : Instr), 3)), (118, ((.goto 10 : Instr), 3))]),
  (149, [(121, ((.iload 5 : Instr), 2)), (123, ((.istore_n 3 : Instr), 1)), (124, ((.iload 7 : Instr), 2)), (126, ((.istore 4 : Instr), 2)), (128, ((.iinc 5 1 : Instr), 3)), (131, ((.goto (-94) : Instr), 3)), (134, ((.iload_n 3 : Instr), 1)), (135, ((.ifCond .ge 6 : Instr), 3)), (138, ((.bipush (-2) : Instr), 2)), (140, ((.ireturn : Instr), 1)), (141, ((.aload_n 0 : Instr), 1)), (142, ((.iconst 0 : Instr), 1)), (143, ((.putfield 127 : Instr), 3)), (146, ((.aload_n 0 : Instr), 1)), (147, ((.iload 4 : Instr), 2)), (149, ((.iload_n 2 : Instr), 1))]),
  (156, [(150, ((.isub : Instr), 1)), (151, ((.i2l : Instr), 1)), (152, ((.invokevirtual 281 : Instr), 3)), (155, ((.iload_n 3 : Instr), 1)), (156, ((.ireturn : Instr), 1))])]
/-- ChaffInTheWindModel.away(I)I -/
def z_meth_261 : z_Mr := (⟨"ChaffInTheWindModel", "away", "(I)I"⟩, prog_12_method_74_code, (8, 2, 0, 0), some .int, none, 10, 15, z_code_261, (1, 1680, 10, 1678, 1679))
def z_code_262 : z_bm (Instr × Nat) := [(29, [(0, ((.aload_n 0 : Instr), 1)), (1, ((.iconst 0 : Instr), 1)), (2, ((.putfield 124 : Instr), 3)), (5, ((.iload_n 1 : Instr), 1)), (6, ((.invokestatic 256 : Instr), 3)), (9, ((.ifCond .eq 23 : Instr), 3)), (12, ((.iload_n 2 : Instr), 1)), (13, ((.invokestatic 256 : Instr), 3)), (16, ((.ifCond .eq 16 : Instr), 3)), (19, ((.iload_n 1 : Instr), 1)), (20, ((.iload_n 2 : Instr), 1)), (21, ((.if_icmp .eq 11 : Instr), 3)), (24, ((.aload_n 0 : Instr), 1)), (25, ((.iload_n 3 : Instr), 1)), (26, ((.invokevirtual 249 : Instr), 3)), (29, ((.ifCond .ne 5 : Instr), 3))]),
  (56, [(32, ((.iconst (-1) : Instr), 1)), (33, ((.ireturn : Instr), 1)), (34, ((.aload_n 0 : Instr), 1)), (35, ((.getfield 26 : Instr), 3)), (38, ((.iload_n 1 : Instr), 1)), (39, ((.iload_n 3 : Instr), 1)), (40, ((.invokestatic 137 : Instr), 3)), (43, ((.iaload : Instr), 1)), (44, ((.istore 4 : Instr), 2)), (46, ((.aload_n 0 : Instr), 1)), (47, ((.getfield 26 : Instr), 3)), (50, ((.iload_n 2 : Instr), 1)), (51, ((.iload_n 3 : Instr), 1)), (52, ((.invokestatic 137 : Instr), 3)), (55, ((.iaload : Instr), 1)), (56, ((.istore 5 : Instr), 2))]),
  (86, [(58, ((.iconst 0 : Instr), 1)), (59, ((.istore 6 : Instr), 2)), (61, ((.iconst 0 : Instr), 1)), (62, ((.istore 7 : Instr), 2)), (64, ((.iconst 0 : Instr), 1)), (65, ((.istore 8 : Instr), 2)), (67, ((.iload 8 : Instr), 2)), (69, ((.sipush 999 : Instr), 3)), (72, ((.iload 4 : Instr), 2)), (74, ((.invokestatic 190 : Instr), 3)), (77, ((.if_icmp .gt 91 : Instr), 3)), (80, ((.aload_n 0 : Instr), 1)), (81, ((.getfield 26 : Instr), 3)), (84, ((.iload_n 1 : Instr), 1)), (85, ((.iload_n 3 : Instr), 1)), (86, ((.invokestatic 137 : Instr), 3))]),
  (112, [(89, ((.iload 4 : Instr), 2)), (91, ((.iload 8 : Instr), 2)), (93, ((.isub : Instr), 1)), (94, ((.iastore : Instr), 1)), (95, ((.aload_n 0 : Instr), 1)), (96, ((.getfield 26 : Instr), 3)), (99, ((.iload_n 2 : Instr), 1)), (100, ((.iload_n 3 : Instr), 1)), (101, ((.invokestatic 137 : Instr), 3)), (104, ((.iload 5 : Instr), 2)), (106, ((.iload 8 : Instr), 2)), (108, ((.iadd : Instr), 1)), (109, ((.iastore : Instr), 1)), (110, ((.aload_n 0 : Instr), 1)), (111, ((.aload_n 0 : Instr), 1)), (112, ((.getfield 26 : Instr), 3))]),
  (144, [(115, ((.iload_n 1 : Instr), 1)), (116, ((.iconst 0 : Instr), 1)), (117, ((.invokestatic 137 : Instr), 3)), (120, ((.invokevirtual 333 : Instr), 3)), (123, ((.aload_n 0 : Instr), 1)), (124, ((.aload_n 0 : Instr), 1)), (125, ((.getfield 26 : Instr), 3)), (128, ((.iload_n 2 : Instr), 1)), (129, ((.iconst 0 : Instr), 1)), (130, ((.invokestatic 137 : Instr), 3)), (133, ((.invokevirtual 333 : Instr), 3)), (136, ((.iadd : Instr), 1)), (137, ((.istore 9 : Instr), 2)), (139, ((.iload 8 : Instr), 2)), (141, ((.ifCond .le 13 : Instr), 3)), (144, ((.iload 9 : Instr), 2))]),
  (179, [(146, ((.iload 7 : Instr), 2)), (148, ((.if_icmp .gt 6 : Instr), 3)), (151, ((.goto 11 : Instr), 3)), (154, ((.iload 8 : Instr), 2)), (156, ((.istore 6 : Instr), 2)), (158, ((.iload 9 : Instr), 2)), (160, ((.istore 7 : Instr), 2)), (162, ((.iinc 8 1 : Instr), 3)), (165, ((.goto (-98) : Instr), 3)), (168, ((.aload_n 0 : Instr), 1)), (169, ((.getfield 26 : Instr), 3)), (172, ((.iload_n 1 : Instr), 1)), (173, ((.iload_n 3 : Instr), 1)), (174, ((.invokestatic 137 : Instr), 3)), (177, ((.iload 4 : Instr), 2)), (179, ((.iastore : Instr), 1))]),
  (206, [(180, ((.aload_n 0 : Instr), 1)), (181, ((.getfield 26 : Instr), 3)), (184, ((.iload_n 2 : Instr), 1)), (185, ((.iload_n 3 : Instr), 1)), (186, ((.invokestatic 137 : Instr), 3)), (189, ((.iload 5 : Instr), 2)), (191, ((.iastore : Instr), 1)), (192, ((.aload_n 0 : Instr), 1)), (193, ((.iconst 0 : Instr), 1)), (194, ((.putfield 127 : Instr), 3)), (197, ((.aload_n 0 : Instr), 1)), (198, ((.iload 7 : Instr), 2)), (200, ((.i2l : Instr), 1)), (201, ((.invokevirtual 281 : Instr), 3)), (204, ((.iload 6 : Instr), 2)), (206, ((.ireturn : Instr), 1))])]
/-- ChaffInTheWindModel.shift(III)I -/
def z_meth_262 : z_Mr := (⟨"ChaffInTheWindModel", "shift", "(III)I"⟩, prog_12_method_75_code, (10, 4, 0, 0), some .int, none, 10, 15, z_code_262, (1, 1684, 10, 1682, 1683))
def z_code_263 : z_bm (Instr × Nat) := [(29, [(0, ((.aload_n 0 : Instr), 1)), (1, ((.iconst 0 : Instr), 1)), (2, ((.putfield 124 : Instr), 3)), (5, ((.iload_n 1 : Instr), 1)), (6, ((.invokestatic 275 : Instr), 3)), (9, ((.ifCond .eq 33 : Instr), 3)), (12, ((.aload_n 0 : Instr), 1)), (13, ((.iload_n 2 : Instr), 1)), (14, ((.invokevirtual 301 : Instr), 3)), (17, ((.ifCond .eq 25 : Instr), 3)), (20, ((.aload_n 0 : Instr), 1)), (21, ((.iload_n 3 : Instr), 1)), (22, ((.invokevirtual 301 : Instr), 3)), (25, ((.ifCond .eq 17 : Instr), 3)), (28, ((.iload_n 2 : Instr), 1)), (29, ((.iload_n 3 : Instr), 1))]),
  (55, [(30, ((.if_icmp .gt 12 : Instr), 3)), (33, ((.aload_n 0 : Instr), 1)), (34, ((.getfield 346 : Instr), 3)), (37, ((.bipush 7 : Instr), 2)), (39, ((.if_icmp .ne 7 : Instr), 3)), (42, ((.iconst (-1) : Instr), 1)), (43, ((.goto 12 : Instr), 3)), (46, ((.aload_n 0 : Instr), 1)), (47, ((.iconst 1 : Instr), 1)), (48, ((.iload_n 1 : Instr), 1)), (49, ((.iload_n 2 : Instr), 1)), (50, ((.iload_n 3 : Instr), 1)), (51, ((.iconst 0 : Instr), 1)), (52, ((.invokevirtual 349 : Instr), 3)), (55, ((.ireturn : Instr), 1))])]
/-- ChaffInTheWindModel.blow(III)I -/
def z_meth_263 : z_Mr := (⟨"ChaffInTheWindModel", "blow", "(III)I"⟩, prog_12_method_77_code, (4, 4, 0, 0), some .int, none, 10, 15, z_code_263, (1, 1688, 10, 1686, 1687))
def z_code_264 : z_bm (Instr × Nat) := [(25, [(0, ((.aload_n 0 : Instr), 1)), (1, ((.getfield 90 : Instr), 3)), (4, ((.aload_n 0 : Instr), 1)), (5, ((.getfield 346 : Instr), 3)), (8, ((.iload_n 1 : Instr), 1)), (9, ((.bastore : Instr), 1)), (10, ((.aload_n 0 : Instr), 1)), (11, ((.getfield 94 : Instr), 3)), (14, ((.aload_n 0 : Instr), 1)), (15, ((.getfield 346 : Instr), 3)), (18, ((.iload_n 2 : Instr), 1)), (19, ((.iastore : Instr), 1)), (20, ((.aload_n 0 : Instr), 1)), (21, ((.getfield 97 : Instr), 3)), (24, ((.aload_n 0 : Instr), 1)), (25, ((.getfield 346 : Instr), 3))]),
  (53, [(28, ((.iload_n 3 : Instr), 1)), (29, ((.iastore : Instr), 1)), (30, ((.aload_n 0 : Instr), 1)), (31, ((.getfield 100 : Instr), 3)), (34, ((.aload_n 0 : Instr), 1)), (35, ((.getfield 346 : Instr), 3)), (38, ((.iload 4 : Instr), 2)), (40, ((.iastore : Instr), 1)), (41, ((.aload_n 0 : Instr), 1)), (42, ((.getfield 103 : Instr), 3)), (45, ((.aload_n 0 : Instr), 1)), (46, ((.getfield 346 : Instr), 3)), (49, ((.iload 5 : Instr), 2)), (51, ((.bastore : Instr), 1)), (52, ((.aload_n 0 : Instr), 1)), (53, ((.dup : Instr), 1))]),
  (68, [(54, ((.getfield 346 : Instr), 3)), (57, ((.iconst 1 : Instr), 1)), (58, ((.iadd : Instr), 1)), (59, ((.putfield 346 : Instr), 3)), (62, ((.aload_n 0 : Instr), 1)), (63, ((.getfield 346 : Instr), 3)), (66, ((.iconst 1 : Instr), 1)), (67, ((.isub : Instr), 1)), (68, ((.ireturn : Instr), 1))])]
/-- ChaffInTheWindModel.add(ZIIIZ)I -/
def z_meth_264 : z_Mr := (⟨"ChaffInTheWindModel", "add", "(ZIIIZ)I"⟩, prog_12_method_76_code, (6, 6, 0, 0), some .int, none, 10, 15, z_code_264, (1, 1692, 10, 1691, 100134))
def z_code_265 : z_bm (Instr × Nat) := [(29, [(0, ((.aload_n 0 : Instr), 1)), (1, ((.iconst 0 : Instr), 1)), (2, ((.putfield 124 : Instr), 3)), (5, ((.iload_n 1 : Instr), 1)), (6, ((.iconst 1 : Instr), 1)), (7, ((.bipush 60 : Instr), 2)), (9, ((.invokestatic 133 : Instr), 3)), (12, ((.ifCond .eq 12 : Instr), 3)), (15, ((.aload_n 0 : Instr), 1)), (16, ((.getfield 346 : Instr), 3)), (19, ((.bipush 7 : Instr), 2)), (21, ((.if_icmp .ne 7 : Instr), 3)), (24, ((.iconst (-1) : Instr), 1)), (25, ((.goto 12 : Instr), 3)), (28, ((.aload_n 0 : Instr), 1)), (29, ((.iconst 0 : Instr), 1))]),
  (37, [(30, ((.iload_n 1 : Instr), 1)), (31, ((.iconst 0 : Instr), 1)), (32, ((.iconst 0 : Instr), 1)), (33, ((.iload_n 2 : Instr), 1)), (34, ((.invokevirtual 349 : Instr), 3)), (37, ((.ireturn : Instr), 1))])]
/-- ChaffInTheWindModel.hole(IZ)I -/
def z_meth_265 : z_Mr := (⟨"ChaffInTheWindModel", "hole", "(IZ)I"⟩, prog_12_method_78_code, (3, 3, 0, 0), some .int, none, 10, 15, z_code_265, (1, 1696, 10, 1694, 1695))
def z_code_266 : z_bm (Instr × Nat) := [(27, [(0, ((.aload_n 0 : Instr), 1)), (1, ((.iconst 0 : Instr), 1)), (2, ((.putfield 124 : Instr), 3)), (5, ((.iload_n 1 : Instr), 1)), (6, ((.iconst 0 : Instr), 1)), (7, ((.aload_n 0 : Instr), 1)), (8, ((.getfield 346 : Instr), 3)), (11, ((.iconst 1 : Instr), 1)), (12, ((.isub : Instr), 1)), (13, ((.invokestatic 133 : Instr), 3)), (16, ((.ifCond .eq 11 : Instr), 3)), (19, ((.aload_n 0 : Instr), 1)), (20, ((.iload_n 1 : Instr), 1)), (21, ((.invokevirtual 353 : Instr), 3)), (24, ((.goto 4 : Instr), 3)), (27, ((.iconst (-1) : Instr), 1))]),
  (28, [(28, ((.ireturn : Instr), 1))])]
/-- ChaffInTheWindModel.stays(I)I -/
def z_meth_266 : z_Mr := (⟨"ChaffInTheWindModel", "stays", "(I)I"⟩, prog_12_method_80_code, (2, 2, 0, 0), some .int, none, 10, 15, z_code_266, (1, 1700, 10, 1698, 1699))
def z_code_267 : z_bm (Instr × Nat) := [(23, [(0, ((.iconst 0 : Instr), 1)), (1, ((.istore_n 2 : Instr), 1)), (2, ((.iconst 0 : Instr), 1)), (3, ((.istore_n 3 : Instr), 1)), (4, ((.iload_n 3 : Instr), 1)), (5, ((.aload_n 0 : Instr), 1)), (6, ((.getfield 130 : Instr), 3)), (9, ((.if_icmp .ge 107 : Instr), 3)), (12, ((.aload_n 0 : Instr), 1)), (13, ((.getfield 90 : Instr), 3)), (16, ((.iload_n 1 : Instr), 1)), (17, ((.baload : Instr), 1)), (18, ((.ifCond .eq 41 : Instr), 3)), (21, ((.aload_n 0 : Instr), 1)), (22, ((.iload_n 3 : Instr), 1)), (23, ((.aload_n 0 : Instr), 1))]),
  (49, [(24, ((.getfield 94 : Instr), 3)), (27, ((.iload_n 1 : Instr), 1)), (28, ((.iaload : Instr), 1)), (29, ((.invokevirtual 278 : Instr), 3)), (32, ((.aload_n 0 : Instr), 1)), (33, ((.getfield 97 : Instr), 3)), (36, ((.iload_n 1 : Instr), 1)), (37, ((.iaload : Instr), 1)), (38, ((.aload_n 0 : Instr), 1)), (39, ((.getfield 100 : Instr), 3)), (42, ((.iload_n 1 : Instr), 1)), (43, ((.iaload : Instr), 1)), (44, ((.aload_n 0 : Instr), 1)), (45, ((.getfield 22 : Instr), 3)), (48, ((.iconst 1 : Instr), 1)), (49, ((.isub : Instr), 1))]),
  (79, [(50, ((.invokestatic 190 : Instr), 3)), (53, ((.invokestatic 133 : Instr), 3)), (56, ((.goto 37 : Instr), 3)), (59, ((.aload_n 0 : Instr), 1)), (60, ((.getfield 16 : Instr), 3)), (63, ((.iload_n 3 : Instr), 1)), (64, ((.iaload : Instr), 1)), (65, ((.aload_n 0 : Instr), 1)), (66, ((.getfield 94 : Instr), 3)), (69, ((.iload_n 1 : Instr), 1)), (70, ((.iaload : Instr), 1)), (71, ((.if_icmp .lt 7 : Instr), 3)), (74, ((.iconst 1 : Instr), 1)), (75, ((.goto 4 : Instr), 3)), (78, ((.iconst 0 : Instr), 1)), (79, ((.aload_n 0 : Instr), 1))]),
  (107, [(80, ((.getfield 103 : Instr), 3)), (83, ((.iload_n 1 : Instr), 1)), (84, ((.baload : Instr), 1)), (85, ((.if_icmp .ne 7 : Instr), 3)), (88, ((.iconst 1 : Instr), 1)), (89, ((.goto 4 : Instr), 3)), (92, ((.iconst 0 : Instr), 1)), (93, ((.istore 4 : Instr), 2)), (95, ((.iload_n 2 : Instr), 1)), (96, ((.iload 4 : Instr), 2)), (98, ((.ifCond .eq 9 : Instr), 3)), (101, ((.iconst 1 : Instr), 1)), (102, ((.iload_n 3 : Instr), 1)), (103, ((.ishl : Instr), 1)), (104, ((.goto 4 : Instr), 3)), (107, ((.iconst 0 : Instr), 1))]),
  (117, [(108, ((.ior : Instr), 1)), (109, ((.istore_n 2 : Instr), 1)), (110, ((.iinc 3 1 : Instr), 3)), (113, ((.goto (-109) : Instr), 3)), (116, ((.iload_n 2 : Instr), 1)), (117, ((.ireturn : Instr), 1))])]
/-- ChaffInTheWindModel.staying(I)I -/
def z_meth_267 : z_Mr := (⟨"ChaffInTheWindModel", "staying", "(I)I"⟩, prog_12_method_79_code, (5, 2, 0, 0), some .int, none, 10, 15, z_code_267, (1, 1704, 10, 1703, 100135))
def z_code_268 : z_bm (Instr × Nat) := [(21, [(0, ((.aload_n 0 : Instr), 1)), (1, ((.iconst 0 : Instr), 1)), (2, ((.putfield 124 : Instr), 3)), (5, ((.aload_n 0 : Instr), 1)), (6, ((.iload_n 1 : Instr), 1)), (7, ((.iload_n 2 : Instr), 1)), (8, ((.iload_n 3 : Instr), 1)), (9, ((.invokevirtual 382 : Instr), 3)), (12, ((.ifCond .ne 5 : Instr), 3)), (15, ((.iconst (-1) : Instr), 1)), (16, ((.ireturn : Instr), 1)), (17, ((.aload_n 0 : Instr), 1)), (18, ((.iload_n 1 : Instr), 1)), (19, ((.iload_n 2 : Instr), 1)), (20, ((.iload_n 3 : Instr), 1)), (21, ((.invokevirtual 385 : Instr), 3))]),
  (51, [(24, ((.istore 4 : Instr), 2)), (26, ((.iload 4 : Instr), 2)), (28, ((.ifCond .ge 6 : Instr), 3)), (31, ((.bipush (-2) : Instr), 2)), (33, ((.ireturn : Instr), 1)), (34, ((.aload_n 0 : Instr), 1)), (35, ((.iconst 0 : Instr), 1)), (36, ((.putfield 127 : Instr), 3)), (39, ((.aload_n 0 : Instr), 1)), (40, ((.iload 4 : Instr), 2)), (42, ((.i2l : Instr), 1)), (43, ((.invokevirtual 281 : Instr), 3)), (46, ((.iload 4 : Instr), 2)), (48, ((.invokestatic 374 : Instr), 3)), (51, ((.ireturn : Instr), 1))])]
/-- ChaffInTheWindModel.order(III)I -/
def z_meth_268 : z_Mr := (⟨"ChaffInTheWindModel", "order", "(III)I"⟩, prog_12_method_88_code, (5, 4, 0, 0), some .int, none, 10, 15, z_code_268, (1, 1708, 10, 1706, 1707))
def z_code_269 : z_bm (Instr × Nat) := [(29, [(0, ((.iload_n 1 : Instr), 1)), (1, ((.invokestatic 256 : Instr), 3)), (4, ((.ifCond .eq 42 : Instr), 3)), (7, ((.iload_n 2 : Instr), 1)), (8, ((.iconst 0 : Instr), 1)), (9, ((.bipush 100 : Instr), 2)), (11, ((.invokestatic 133 : Instr), 3)), (14, ((.ifCond .eq 32 : Instr), 3)), (17, ((.iload_n 3 : Instr), 1)), (18, ((.iconst 0 : Instr), 1)), (19, ((.bipush 100 : Instr), 2)), (21, ((.invokestatic 133 : Instr), 3)), (24, ((.ifCond .eq 22 : Instr), 3)), (27, ((.aload_n 0 : Instr), 1)), (28, ((.iload_n 1 : Instr), 1)), (29, ((.aload_n 0 : Instr), 1))]),
  (47, [(30, ((.invokevirtual 359 : Instr), 3)), (33, ((.iconst 1 : Instr), 1)), (34, ((.invokevirtual 365 : Instr), 3)), (37, ((.lconst 0 : Instr), 1)), (38, ((.lcmp : Instr), 1)), (39, ((.ifCond .le 7 : Instr), 3)), (42, ((.iconst 1 : Instr), 1)), (43, ((.goto 4 : Instr), 3)), (46, ((.iconst 0 : Instr), 1)), (47, ((.ireturn : Instr), 1))])]
/-- ChaffInTheWindModel.isOrdered(III)Z -/
def z_meth_269 : z_Mr := (⟨"ChaffInTheWindModel", "isOrdered", "(III)Z"⟩, prog_12_method_86_code, (4, 4, 0, 0), some .boolean, none, 10, 15, z_code_269, (1, 1712, 10, 1711, 100136))
def z_code_270 : z_bm (Instr × Nat) := [(8, [(0, ((.iconst 1 : Instr), 1)), (1, ((.aload_n 0 : Instr), 1)), (2, ((.getfield 130 : Instr), 3)), (5, ((.ishl : Instr), 1)), (6, ((.iconst 1 : Instr), 1)), (7, ((.isub : Instr), 1)), (8, ((.ireturn : Instr), 1))])]
/-- ChaffInTheWindModel.all()I -/
def z_meth_270 : z_Mr := (⟨"ChaffInTheWindModel", "all", "()I"⟩, prog_12_method_81_code, (1, 1, 0, 0), some .int, none, 10, 15, z_code_270, (1, 1716, 10, 1715, 100137))
def z_code_271 : z_bm (Instr × Nat) := [(30, [(0, ((.lconst 0 : Instr), 1)), (1, ((.lstore 4 : Instr), 2)), (3, ((.iconst 0 : Instr), 1)), (4, ((.istore 6 : Instr), 2)), (6, ((.iload 6 : Instr), 2)), (8, ((.aload_n 0 : Instr), 1)), (9, ((.getfield 130 : Instr), 3)), (12, ((.if_icmp .ge 62 : Instr), 3)), (15, ((.lload 4 : Instr), 2)), (17, ((.iload_n 2 : Instr), 1)), (18, ((.iload 6 : Instr), 2)), (20, ((.invokestatic 356 : Instr), 3)), (23, ((.ifCond .eq 41 : Instr), 3)), (26, ((.iload_n 3 : Instr), 1)), (27, ((.ifCond .eq 13 : Instr), 3)), (30, ((.aload_n 0 : Instr), 1))]),
  (59, [(31, ((.getfield 9 : Instr), 3)), (34, ((.iload 6 : Instr), 2)), (36, ((.iaload : Instr), 1)), (37, ((.ifCond .ne 27 : Instr), 3)), (40, ((.aload_n 0 : Instr), 1)), (41, ((.getfield 13 : Instr), 3)), (44, ((.iload 6 : Instr), 2)), (46, ((.iaload : Instr), 1)), (47, ((.i2l : Instr), 1)), (48, ((.aload_n 0 : Instr), 1)), (49, ((.getfield 26 : Instr), 3)), (52, ((.iload_n 1 : Instr), 1)), (53, ((.iload 6 : Instr), 2)), (55, ((.invokestatic 137 : Instr), 3)), (58, ((.iaload : Instr), 1)), (59, ((.i2l : Instr), 1))]),
  (76, [(60, ((.lmul : Instr), 1)), (61, ((.goto 4 : Instr), 3)), (64, ((.lconst 0 : Instr), 1)), (65, ((.ladd : Instr), 1)), (66, ((.lstore 4 : Instr), 2)), (68, ((.iinc 6 1 : Instr), 3)), (71, ((.goto (-65) : Instr), 3)), (74, ((.lload 4 : Instr), 2)), (76, ((.lreturn : Instr), 1))])]
/-- ChaffInTheWindModel.weightOf(IIZ)J -/
def z_meth_271 : z_Mr := (⟨"ChaffInTheWindModel", "weightOf", "(IIZ)J"⟩, prog_12_method_82_code, (7, 4, 0, 0), some .long, none, 10, 15, z_code_271, (1, 1720, 10, 1719, 100138))
def z_code_272 : z_bm (Instr × Nat) := [(14, [(0, ((.iload_n 0 : Instr), 1)), (1, ((.iload_n 1 : Instr), 1)), (2, ((.ishr : Instr), 1)), (3, ((.iconst 1 : Instr), 1)), (4, ((.iand : Instr), 1)), (5, ((.iconst 1 : Instr), 1)), (6, ((.if_icmp .ne 7 : Instr), 3)), (9, ((.iconst 1 : Instr), 1)), (10, ((.goto 4 : Instr), 3)), (13, ((.iconst 0 : Instr), 1)), (14, ((.ireturn : Instr), 1))])]
/-- ChaffInTheWindModel.isIn(II)Z -/
def z_meth_272 : z_Mr := (⟨"ChaffInTheWindModel", "isIn", "(II)Z"⟩, prog_12_method_4_code, (2, 2, 0, 0), some .boolean, none, 10, 15, z_code_272, (0, 1723, 10, 1722, 0))
def z_code_273 : z_bm (Instr × Nat) := [(24, [(0, ((.bipush (-2) : Instr), 2)), (2, ((.istore 4 : Instr), 2)), (4, ((.iconst 0 : Instr), 1)), (5, ((.istore 5 : Instr), 2)), (7, ((.iload 5 : Instr), 2)), (9, ((.iconst 1 : Instr), 1)), (10, ((.aload_n 0 : Instr), 1)), (11, ((.getfield 346 : Instr), 3)), (14, ((.ishl : Instr), 1)), (15, ((.if_icmp .ge 85 : Instr), 3)), (18, ((.aload_n 0 : Instr), 1)), (19, ((.iload_n 1 : Instr), 1)), (20, ((.iload 5 : Instr), 2)), (22, ((.iload_n 2 : Instr), 1)), (23, ((.iload_n 3 : Instr), 1)), (24, ((.invokevirtual 370 : Instr), 3))]),
  (62, [(27, ((.ifCond .ne 6 : Instr), 3)), (30, ((.goto 64 : Instr), 3)), (33, ((.iload 4 : Instr), 2)), (35, ((.ifCond .ge 7 : Instr), 3)), (38, ((.iconst (-1) : Instr), 1)), (39, ((.goto 14 : Instr), 3)), (42, ((.iload 5 : Instr), 2)), (44, ((.invokestatic 374 : Instr), 3)), (47, ((.iload 4 : Instr), 2)), (49, ((.invokestatic 374 : Instr), 3)), (52, ((.isub : Instr), 1)), (53, ((.istore 6 : Instr), 2)), (55, ((.iload 6 : Instr), 2)), (57, ((.ifCond .lt 33 : Instr), 3)), (60, ((.iload 6 : Instr), 2)), (62, ((.ifCond .ne 32 : Instr), 3))]),
  (94, [(65, ((.aload_n 0 : Instr), 1)), (66, ((.iload_n 1 : Instr), 1)), (67, ((.aload_n 0 : Instr), 1)), (68, ((.iload 5 : Instr), 2)), (70, ((.invokevirtual 362 : Instr), 3)), (73, ((.invokevirtual 379 : Instr), 3)), (76, ((.aload_n 0 : Instr), 1)), (77, ((.iload_n 1 : Instr), 1)), (78, ((.aload_n 0 : Instr), 1)), (79, ((.iload 4 : Instr), 2)), (81, ((.invokevirtual 362 : Instr), 3)), (84, ((.invokevirtual 379 : Instr), 3)), (87, ((.if_icmp .le 7 : Instr), 3)), (90, ((.iload 5 : Instr), 2)), (92, ((.istore 4 : Instr), 2)), (94, ((.iinc 5 1 : Instr), 3))]),
  (102, [(97, ((.goto (-90) : Instr), 3)), (100, ((.iload 4 : Instr), 2)), (102, ((.ireturn : Instr), 1))])]
/-- ChaffInTheWindModel.findOrder(III)I -/
def z_meth_273 : z_Mr := (⟨"ChaffInTheWindModel", "findOrder", "(III)I"⟩, prog_12_method_87_code, (7, 4, 0, 0), some .int, none, 10, 15, z_code_273, (1, 1727, 10, 1726, 100139))
def z_code_274 : z_bm (Instr × Nat) := [(25, [(0, ((.aload_n 0 : Instr), 1)), (1, ((.iload_n 2 : Instr), 1)), (2, ((.invokevirtual 362 : Instr), 3)), (5, ((.istore 5 : Instr), 2)), (7, ((.aload_n 0 : Instr), 1)), (8, ((.iload_n 1 : Instr), 1)), (9, ((.iload 5 : Instr), 2)), (11, ((.iconst 1 : Instr), 1)), (12, ((.invokevirtual 365 : Instr), 3)), (15, ((.lstore 6 : Instr), 2)), (17, ((.lload 6 : Instr), 2)), (19, ((.ldc2_w 368 : Instr), 3)), (22, ((.lmul : Instr), 1)), (23, ((.iload_n 3 : Instr), 1)), (24, ((.i2l : Instr), 1)), (25, ((.aload_n 0 : Instr), 1))]),
  (50, [(26, ((.iload_n 1 : Instr), 1)), (27, ((.iload 5 : Instr), 2)), (29, ((.iconst 0 : Instr), 1)), (30, ((.invokevirtual 365 : Instr), 3)), (33, ((.lmul : Instr), 1)), (34, ((.lcmp : Instr), 1)), (35, ((.ifCond .lt 31 : Instr), 3)), (38, ((.lload 6 : Instr), 2)), (40, ((.ldc2_w 368 : Instr), 3)), (43, ((.lmul : Instr), 1)), (44, ((.iload 4 : Instr), 2)), (46, ((.i2l : Instr), 1)), (47, ((.aload_n 0 : Instr), 1)), (48, ((.iload_n 1 : Instr), 1)), (49, ((.aload_n 0 : Instr), 1)), (50, ((.invokevirtual 359 : Instr), 3))]),
  (67, [(53, ((.iconst 1 : Instr), 1)), (54, ((.invokevirtual 365 : Instr), 3)), (57, ((.lmul : Instr), 1)), (58, ((.lcmp : Instr), 1)), (59, ((.ifCond .lt 7 : Instr), 3)), (62, ((.iconst 1 : Instr), 1)), (63, ((.goto 4 : Instr), 3)), (66, ((.iconst 0 : Instr), 1)), (67, ((.ireturn : Instr), 1))])]
/-- ChaffInTheWindModel.does(IIII)Z -/
def z_meth_274 : z_Mr := (⟨"ChaffInTheWindModel", "does", "(IIII)Z"⟩, prog_12_method_84_code, (8, 5, 0, 0), some .boolean, none, 10, 15, z_code_274, (1, 1731, 10, 1730, 100140))
def z_code_275 : z_bm (Instr × Nat) := [(25, [(0, ((.aload_n 0 : Instr), 1)), (1, ((.invokevirtual 359 : Instr), 3)), (4, ((.istore_n 2 : Instr), 1)), (5, ((.iconst 0 : Instr), 1)), (6, ((.istore_n 3 : Instr), 1)), (7, ((.iload_n 3 : Instr), 1)), (8, ((.aload_n 0 : Instr), 1)), (9, ((.getfield 346 : Instr), 3)), (12, ((.if_icmp .ge 29 : Instr), 3)), (15, ((.iload_n 2 : Instr), 1)), (16, ((.iload_n 1 : Instr), 1)), (17, ((.iload_n 3 : Instr), 1)), (18, ((.invokestatic 356 : Instr), 3)), (21, ((.ifCond .eq 11 : Instr), 3)), (24, ((.aload_n 0 : Instr), 1)), (25, ((.iload_n 3 : Instr), 1))]),
  (42, [(26, ((.invokevirtual 353 : Instr), 3)), (29, ((.goto 4 : Instr), 3)), (32, ((.iconst (-1) : Instr), 1)), (33, ((.iand : Instr), 1)), (34, ((.istore_n 2 : Instr), 1)), (35, ((.iinc 3 1 : Instr), 3)), (38, ((.goto (-31) : Instr), 3)), (41, ((.iload_n 2 : Instr), 1)), (42, ((.ireturn : Instr), 1))])]
/-- ChaffInTheWindModel.stayingBy(I)I -/
def z_meth_275 : z_Mr := (⟨"ChaffInTheWindModel", "stayingBy", "(I)I"⟩, prog_12_method_83_code, (4, 2, 0, 0), some .int, none, 10, 15, z_code_275, (1, 1735, 10, 1734, 100141))
def z_code_276 : z_bm (Instr × Nat) := [(28, [(0, ((.iconst 0 : Instr), 1)), (1, ((.istore_n 3 : Instr), 1)), (2, ((.iconst 0 : Instr), 1)), (3, ((.istore 4 : Instr), 2)), (5, ((.iload 4 : Instr), 2)), (7, ((.aload_n 0 : Instr), 1)), (8, ((.getfield 130 : Instr), 3)), (11, ((.if_icmp .ge 36 : Instr), 3)), (14, ((.iload_n 3 : Instr), 1)), (15, ((.iload_n 2 : Instr), 1)), (16, ((.iload 4 : Instr), 2)), (18, ((.invokestatic 356 : Instr), 3)), (21, ((.ifCond .eq 17 : Instr), 3)), (24, ((.aload_n 0 : Instr), 1)), (25, ((.getfield 26 : Instr), 3)), (28, ((.iload_n 1 : Instr), 1))]),
  (48, [(29, ((.iload 4 : Instr), 2)), (31, ((.invokestatic 137 : Instr), 3)), (34, ((.iaload : Instr), 1)), (35, ((.goto 4 : Instr), 3)), (38, ((.iconst 0 : Instr), 1)), (39, ((.iadd : Instr), 1)), (40, ((.istore_n 3 : Instr), 1)), (41, ((.iinc 4 1 : Instr), 3)), (44, ((.goto (-39) : Instr), 3)), (47, ((.iload_n 3 : Instr), 1)), (48, ((.ireturn : Instr), 1))])]
/-- ChaffInTheWindModel.grainsIn(II)I -/
def z_meth_276 : z_Mr := (⟨"ChaffInTheWindModel", "grainsIn", "(II)I"⟩, prog_12_method_85_code, (5, 3, 0, 0), some .int, none, 10, 15, z_code_276, (1, 1741, 10, 1740, 100142))
def z_code_277 : z_bm (Instr × Nat) := [(21, [(0, ((.aload_n 0 : Instr), 1)), (1, ((.iconst 0 : Instr), 1)), (2, ((.putfield 124 : Instr), 3)), (5, ((.aload_n 0 : Instr), 1)), (6, ((.iload_n 1 : Instr), 1)), (7, ((.iload_n 2 : Instr), 1)), (8, ((.iload_n 3 : Instr), 1)), (9, ((.invokevirtual 382 : Instr), 3)), (12, ((.ifCond .ne 5 : Instr), 3)), (15, ((.iconst (-1) : Instr), 1)), (16, ((.ireturn : Instr), 1)), (17, ((.aload_n 0 : Instr), 1)), (18, ((.iload_n 1 : Instr), 1)), (19, ((.iload_n 2 : Instr), 1)), (20, ((.iload_n 3 : Instr), 1)), (21, ((.invokevirtual 385 : Instr), 3))]),
  (53, [(24, ((.istore 4 : Instr), 2)), (26, ((.iload 4 : Instr), 2)), (28, ((.ifCond .ge 6 : Instr), 3)), (31, ((.bipush (-2) : Instr), 2)), (33, ((.ireturn : Instr), 1)), (34, ((.iconst 0 : Instr), 1)), (35, ((.istore 5 : Instr), 2)), (37, ((.iconst 0 : Instr), 1)), (38, ((.istore 6 : Instr), 2)), (40, ((.iload 6 : Instr), 2)), (42, ((.aload_n 0 : Instr), 1)), (43, ((.getfield 346 : Instr), 3)), (46, ((.if_icmp .ge 51 : Instr), 3)), (49, ((.iload 5 : Instr), 2)), (51, ((.iload 4 : Instr), 2)), (53, ((.iload 6 : Instr), 2))]),
  (80, [(55, ((.invokestatic 356 : Instr), 3)), (58, ((.ifCond .eq 29 : Instr), 3)), (61, ((.aload_n 0 : Instr), 1)), (62, ((.iload_n 1 : Instr), 1)), (63, ((.iload 4 : Instr), 2)), (65, ((.iconst 1 : Instr), 1)), (66, ((.iload 6 : Instr), 2)), (68, ((.ishl : Instr), 1)), (69, ((.iconst (-1) : Instr), 1)), (70, ((.ixor : Instr), 1)), (71, ((.iand : Instr), 1)), (72, ((.iload_n 2 : Instr), 1)), (73, ((.iload_n 3 : Instr), 1)), (74, ((.invokevirtual 370 : Instr), 3)), (77, ((.ifCond .ne 10 : Instr), 3)), (80, ((.iconst 1 : Instr), 1))]),
  (99, [(81, ((.iload 6 : Instr), 2)), (83, ((.ishl : Instr), 1)), (84, ((.goto 4 : Instr), 3)), (87, ((.iconst 0 : Instr), 1)), (88, ((.ior : Instr), 1)), (89, ((.istore 5 : Instr), 2)), (91, ((.iinc 6 1 : Instr), 3)), (94, ((.goto (-54) : Instr), 3)), (97, ((.iload 5 : Instr), 2)), (99, ((.ireturn : Instr), 1))])]
/-- ChaffInTheWindModel.needed(III)I -/
def z_meth_277 : z_Mr := (⟨"ChaffInTheWindModel", "needed", "(III)I"⟩, prog_12_method_89_code, (7, 4, 0, 0), some .int, none, 10, 15, z_code_277, (1, 1745, 10, 1743, 1744))
def z_code_278 : z_bm (Instr × Nat) := [(22, [(0, ((.aload_n 0 : Instr), 1)), (1, ((.iconst 0 : Instr), 1)), (2, ((.putfield 124 : Instr), 3)), (5, ((.iload_n 1 : Instr), 1)), (6, ((.invokestatic 256 : Instr), 3)), (9, ((.ifCond .ne 5 : Instr), 3)), (12, ((.iconst (-1) : Instr), 1)), (13, ((.ireturn : Instr), 1)), (14, ((.iconst 0 : Instr), 1)), (15, ((.istore_n 2 : Instr), 1)), (16, ((.iconst 0 : Instr), 1)), (17, ((.istore_n 3 : Instr), 1)), (18, ((.iconst 0 : Instr), 1)), (19, ((.istore 4 : Instr), 2)), (21, ((.iconst 0 : Instr), 1)), (22, ((.istore 5 : Instr), 2))]),
  (54, [(24, ((.iload 5 : Instr), 2)), (26, ((.aload_n 0 : Instr), 1)), (27, ((.getfield 130 : Instr), 3)), (30, ((.if_icmp .ge 147 : Instr), 3)), (33, ((.aload_n 0 : Instr), 1)), (34, ((.getfield 26 : Instr), 3)), (37, ((.iload_n 1 : Instr), 1)), (38, ((.iload 5 : Instr), 2)), (40, ((.invokestatic 137 : Instr), 3)), (43, ((.iaload : Instr), 1)), (44, ((.ifCond .ne 6 : Instr), 3)), (47, ((.goto 124 : Instr), 3)), (50, ((.iconst 0 : Instr), 1)), (51, ((.istore 6 : Instr), 2)), (53, ((.iconst 1 : Instr), 1)), (54, ((.istore 7 : Instr), 2))]),
  (85, [(56, ((.iload 7 : Instr), 2)), (58, ((.bipush 9 : Instr), 2)), (60, ((.if_icmp .gt 35 : Instr), 3)), (63, ((.iload 6 : Instr), 2)), (65, ((.aload_n 0 : Instr), 1)), (66, ((.iload 5 : Instr), 2)), (68, ((.iload 7 : Instr), 2)), (70, ((.invokevirtual 307 : Instr), 3)), (73, ((.ifCond .eq 12 : Instr), 3)), (76, ((.iconst 1 : Instr), 1)), (77, ((.iload 7 : Instr), 2)), (79, ((.iconst 1 : Instr), 1)), (80, ((.isub : Instr), 1)), (81, ((.ishl : Instr), 1)), (82, ((.goto 4 : Instr), 3)), (85, ((.iconst 0 : Instr), 1))]),
  (113, [(86, ((.ior : Instr), 1)), (87, ((.istore 6 : Instr), 2)), (89, ((.iinc 7 1 : Instr), 3)), (92, ((.goto (-36) : Instr), 3)), (95, ((.aload_n 0 : Instr), 1)), (96, ((.getfield 9 : Instr), 3)), (99, ((.iload 5 : Instr), 2)), (101, ((.iaload : Instr), 1)), (102, ((.ifCond .ne 12 : Instr), 3)), (105, ((.iload_n 3 : Instr), 1)), (106, ((.iload 6 : Instr), 2)), (108, ((.iload 6 : Instr), 2)), (110, ((.ineg : Instr), 1)), (111, ((.iand : Instr), 1)), (112, ((.ior : Instr), 1)), (113, ((.istore_n 3 : Instr), 1))]),
  (144, [(114, ((.aload_n 0 : Instr), 1)), (115, ((.getfield 9 : Instr), 3)), (118, ((.iload 5 : Instr), 2)), (120, ((.iaload : Instr), 1)), (121, ((.iconst 3 : Instr), 1)), (122, ((.if_icmp .eq 6 : Instr), 3)), (125, ((.goto 46 : Instr), 3)), (128, ((.iload_n 2 : Instr), 1)), (129, ((.iload 6 : Instr), 2)), (131, ((.invokestatic 374 : Instr), 3)), (134, ((.iconst 1 : Instr), 1)), (135, ((.if_icmp .ne 8 : Instr), 3)), (138, ((.iload 6 : Instr), 2)), (140, ((.goto 4 : Instr), 3)), (143, ((.iconst 0 : Instr), 1)), (144, ((.ior : Instr), 1))]),
  (174, [(145, ((.istore_n 2 : Instr), 1)), (146, ((.iload 4 : Instr), 2)), (148, ((.iload 6 : Instr), 2)), (150, ((.ifCond .ne 17 : Instr), 3)), (153, ((.aload_n 0 : Instr), 1)), (154, ((.getfield 26 : Instr), 3)), (157, ((.iload_n 1 : Instr), 1)), (158, ((.iload 5 : Instr), 2)), (160, ((.invokestatic 137 : Instr), 3)), (163, ((.iaload : Instr), 1)), (164, ((.goto 4 : Instr), 3)), (167, ((.iconst 0 : Instr), 1)), (168, ((.iadd : Instr), 1)), (169, ((.istore 4 : Instr), 2)), (171, ((.iinc 5 1 : Instr), 3)), (174, ((.goto (-150) : Instr), 3))]),
  (196, [(177, ((.aload_n 0 : Instr), 1)), (178, ((.iconst 0 : Instr), 1)), (179, ((.putfield 127 : Instr), 3)), (182, ((.aload_n 0 : Instr), 1)), (183, ((.iload_n 3 : Instr), 1)), (184, ((.i2l : Instr), 1)), (185, ((.invokevirtual 281 : Instr), 3)), (188, ((.aload_n 0 : Instr), 1)), (189, ((.iload 4 : Instr), 2)), (191, ((.i2l : Instr), 1)), (192, ((.invokevirtual 281 : Instr), 3)), (195, ((.iload_n 2 : Instr), 1)), (196, ((.ireturn : Instr), 1))])]
/-- ChaffInTheWindModel.strokes(I)I -/
def z_meth_278 : z_Mr := (⟨"ChaffInTheWindModel", "strokes", "(I)I"⟩, prog_12_method_90_code, (8, 2, 0, 0), some .int, none, 10, 15, z_code_278, (1, 1749, 10, 1747, 1748))
def z_code_279 : z_bm (Instr × Nat) := [(24, [(0, ((.aload_n 0 : Instr), 1)), (1, ((.iconst 0 : Instr), 1)), (2, ((.putfield 124 : Instr), 3)), (5, ((.iload_n 1 : Instr), 1)), (6, ((.iconst 1 : Instr), 1)), (7, ((.aload_n 0 : Instr), 1)), (8, ((.invokevirtual 359 : Instr), 3)), (11, ((.invokestatic 133 : Instr), 3)), (14, ((.ifCond .ne 5 : Instr), 3)), (17, ((.iconst (-1) : Instr), 1)), (18, ((.ireturn : Instr), 1)), (19, ((.bipush (-2) : Instr), 2)), (21, ((.istore_n 2 : Instr), 1)), (22, ((.iconst 0 : Instr), 1)), (23, ((.istore_n 3 : Instr), 1)), (24, ((.iconst 0 : Instr), 1))]),
  (51, [(25, ((.istore 4 : Instr), 2)), (27, ((.iload 4 : Instr), 2)), (29, ((.aload_n 0 : Instr), 1)), (30, ((.getfield 346 : Instr), 3)), (33, ((.if_icmp .ge 48 : Instr), 3)), (36, ((.aload_n 0 : Instr), 1)), (37, ((.invokevirtual 359 : Instr), 3)), (40, ((.aload_n 0 : Instr), 1)), (41, ((.iload 4 : Instr), 2)), (43, ((.invokevirtual 353 : Instr), 3)), (46, ((.iconst (-1) : Instr), 1)), (47, ((.ixor : Instr), 1)), (48, ((.iand : Instr), 1)), (49, ((.iload_n 1 : Instr), 1)), (50, ((.ixor : Instr), 1)), (51, ((.invokestatic 374 : Instr), 3))]),
  (85, [(54, ((.istore 5 : Instr), 2)), (56, ((.iload_n 2 : Instr), 1)), (57, ((.ifCond .lt 12 : Instr), 3)), (60, ((.iload 5 : Instr), 2)), (62, ((.iload_n 3 : Instr), 1)), (63, ((.if_icmp .lt 6 : Instr), 3)), (66, ((.goto 9 : Instr), 3)), (69, ((.iload 4 : Instr), 2)), (71, ((.istore_n 2 : Instr), 1)), (72, ((.iload 5 : Instr), 2)), (74, ((.istore_n 3 : Instr), 1)), (75, ((.iinc 4 1 : Instr), 3)), (78, ((.goto (-51) : Instr), 3)), (81, ((.iload_n 2 : Instr), 1)), (82, ((.ifCond .ge 6 : Instr), 3)), (85, ((.bipush (-2) : Instr), 2))]),
  (100, [(87, ((.ireturn : Instr), 1)), (88, ((.aload_n 0 : Instr), 1)), (89, ((.iconst 0 : Instr), 1)), (90, ((.putfield 127 : Instr), 3)), (93, ((.aload_n 0 : Instr), 1)), (94, ((.iload_n 3 : Instr), 1)), (95, ((.i2l : Instr), 1)), (96, ((.invokevirtual 281 : Instr), 3)), (99, ((.iload_n 2 : Instr), 1)), (100, ((.ireturn : Instr), 1))])]
/-- ChaffInTheWindModel.find(I)I -/
def z_meth_279 : z_Mr := (⟨"ChaffInTheWindModel", "find", "(I)I"⟩, prog_12_method_91_code, (6, 2, 0, 0), some .int, none, 10, 15, z_code_279, (1, 1753, 10, 1751, 1752))
def z_code_280 : z_bm (Instr × Nat) := [(27, [(0, ((.aload_n 0 : Instr), 1)), (1, ((.iconst 0 : Instr), 1)), (2, ((.putfield 124 : Instr), 3)), (5, ((.iload_n 1 : Instr), 1)), (6, ((.iconst 1 : Instr), 1)), (7, ((.bipush 10 : Instr), 2)), (9, ((.invokestatic 133 : Instr), 3)), (12, ((.ifCond .eq 45 : Instr), 3)), (15, ((.iload_n 2 : Instr), 1)), (16, ((.iconst 0 : Instr), 1)), (17, ((.bipush 10 : Instr), 2)), (19, ((.invokestatic 133 : Instr), 3)), (22, ((.ifCond .eq 35 : Instr), 3)), (25, ((.iload_n 3 : Instr), 1)), (26, ((.iconst 0 : Instr), 1)), (27, ((.sipush 999 : Instr), 3))]),
  (60, [(30, ((.invokestatic 133 : Instr), 3)), (33, ((.ifCond .eq 24 : Instr), 3)), (36, ((.iload 4 : Instr), 2)), (38, ((.iconst 0 : Instr), 1)), (39, ((.iload_n 3 : Instr), 1)), (40, ((.invokestatic 133 : Instr), 3)), (43, ((.ifCond .eq 14 : Instr), 3)), (46, ((.iload 5 : Instr), 2)), (48, ((.iconst 0 : Instr), 1)), (49, ((.bipush 99 : Instr), 2)), (51, ((.invokestatic 133 : Instr), 3)), (54, ((.ifCond .ne 5 : Instr), 3)), (57, ((.iconst (-1) : Instr), 1)), (58, ((.ireturn : Instr), 1)), (59, ((.iload_n 2 : Instr), 1)), (60, ((.i2l : Instr), 1))]),
  (81, [(61, ((.iload_n 3 : Instr), 1)), (62, ((.i2l : Instr), 1)), (63, ((.lmul : Instr), 1)), (64, ((.ldc2_w 388 : Instr), 3)), (67, ((.iload_n 2 : Instr), 1)), (68, ((.i2l : Instr), 1)), (69, ((.lsub : Instr), 1)), (70, ((.iload 4 : Instr), 2)), (72, ((.i2l : Instr), 1)), (73, ((.lmul : Instr), 1)), (74, ((.ladd : Instr), 1)), (75, ((.lstore 6 : Instr), 2)), (77, ((.lconst 1 : Instr), 1)), (78, ((.lstore 8 : Instr), 2)), (80, ((.iconst 0 : Instr), 1)), (81, ((.istore 10 : Instr), 2))]),
  (109, [(83, ((.iconst 2 : Instr), 1)), (84, ((.istore 11 : Instr), 2)), (86, ((.iload 11 : Instr), 2)), (88, ((.iload_n 1 : Instr), 1)), (89, ((.if_icmp .gt 84 : Instr), 3)), (92, ((.lload 8 : Instr), 2)), (94, ((.ldc2_w 388 : Instr), 3)), (97, ((.lmul : Instr), 1)), (98, ((.lstore 8 : Instr), 2)), (100, ((.lload 6 : Instr), 2)), (102, ((.iload 5 : Instr), 2)), (104, ((.i2l : Instr), 1)), (105, ((.lload 8 : Instr), 2)), (107, ((.lmul : Instr), 1)), (108, ((.lsub : Instr), 1)), (109, ((.lstore 12 : Instr), 2))]),
  (135, [(111, ((.iload 10 : Instr), 2)), (113, ((.lload 12 : Instr), 2)), (115, ((.iload 4 : Instr), 2)), (117, ((.i2l : Instr), 1)), (118, ((.lload 8 : Instr), 2)), (120, ((.lmul : Instr), 1)), (121, ((.lcmp : Instr), 1)), (122, ((.ifCond .le 7 : Instr), 3)), (125, ((.iconst 1 : Instr), 1)), (126, ((.goto 4 : Instr), 3)), (129, ((.iconst 0 : Instr), 1)), (130, ((.iadd : Instr), 1)), (131, ((.istore 10 : Instr), 2)), (133, ((.iload_n 2 : Instr), 1)), (134, ((.i2l : Instr), 1)), (135, ((.iload_n 3 : Instr), 1))]),
  (160, [(136, ((.i2l : Instr), 1)), (137, ((.lload 8 : Instr), 2)), (139, ((.lmul : Instr), 1)), (140, ((.lload 12 : Instr), 2)), (142, ((.invokestatic 339 : Instr), 3)), (145, ((.lmul : Instr), 1)), (146, ((.ldc2_w 388 : Instr), 3)), (149, ((.iload_n 2 : Instr), 1)), (150, ((.i2l : Instr), 1)), (151, ((.lsub : Instr), 1)), (152, ((.iload 4 : Instr), 2)), (154, ((.i2l : Instr), 1)), (155, ((.lload 8 : Instr), 2)), (157, ((.lmul : Instr), 1)), (158, ((.lload 12 : Instr), 2)), (160, ((.invokestatic 339 : Instr), 3))]),
  (191, [(163, ((.lmul : Instr), 1)), (164, ((.ladd : Instr), 1)), (165, ((.lstore 6 : Instr), 2)), (167, ((.iinc 11 1 : Instr), 3)), (170, ((.goto (-84) : Instr), 3)), (173, ((.aload_n 0 : Instr), 1)), (174, ((.iconst 0 : Instr), 1)), (175, ((.putfield 127 : Instr), 3)), (178, ((.aload_n 0 : Instr), 1)), (179, ((.lload 6 : Instr), 2)), (181, ((.invokevirtual 281 : Instr), 3)), (184, ((.aload_n 0 : Instr), 1)), (185, ((.iload 10 : Instr), 2)), (187, ((.i2l : Instr), 1)), (188, ((.invokevirtual 281 : Instr), 3)), (191, ((.iconst 0 : Instr), 1))]),
  (192, [(192, ((.ireturn : Instr), 1))])]
/-- ChaffInTheWindModel.await(IIIII)I -/
def z_meth_280 : z_Mr := (⟨"ChaffInTheWindModel", "await", "(IIIII)I"⟩, prog_12_method_92_code, (14, 6, 0, 0), some .int, none, 10, 15, z_code_280, (1, 1757, 10, 1755, 1756))
def z_code_281 : z_bm (Instr × Nat) := [(25, [(0, ((.aload_n 0 : Instr), 1)), (1, ((.iconst 0 : Instr), 1)), (2, ((.putfield 124 : Instr), 3)), (5, ((.iload_n 1 : Instr), 1)), (6, ((.invokestatic 256 : Instr), 3)), (9, ((.ifCond .ne 5 : Instr), 3)), (12, ((.iconst (-1) : Instr), 1)), (13, ((.ireturn : Instr), 1)), (14, ((.aload_n 0 : Instr), 1)), (15, ((.iload_n 1 : Instr), 1)), (16, ((.invokevirtual 286 : Instr), 3)), (19, ((.bipush 9 : Instr), 2)), (21, ((.iadd : Instr), 1)), (22, ((.bipush 10 : Instr), 2)), (24, ((.idiv : Instr), 1)), (25, ((.istore_n 2 : Instr), 1))]),
  (52, [(26, ((.iload_n 2 : Instr), 1)), (27, ((.istore_n 3 : Instr), 1)), (28, ((.lconst 0 : Instr), 1)), (29, ((.lstore 4 : Instr), 2)), (31, ((.iconst 0 : Instr), 1)), (32, ((.istore 6 : Instr), 2)), (34, ((.bipush 99 : Instr), 2)), (36, ((.istore 7 : Instr), 2)), (38, ((.iload 7 : Instr), 2)), (40, ((.ifCond .le 98 : Instr), 3)), (43, ((.iconst 0 : Instr), 1)), (44, ((.istore 8 : Instr), 2)), (46, ((.iload 8 : Instr), 2)), (48, ((.aload_n 0 : Instr), 1)), (49, ((.getfield 130 : Instr), 3)), (52, ((.if_icmp .ge 80 : Instr), 3))]),
  (83, [(55, ((.iload_n 3 : Instr), 1)), (56, ((.ifCond .le 76 : Instr), 3)), (59, ((.aload_n 0 : Instr), 1)), (60, ((.getfield 13 : Instr), 3)), (63, ((.iload 8 : Instr), 2)), (65, ((.iaload : Instr), 1)), (66, ((.iload 7 : Instr), 2)), (68, ((.if_icmp .ne 21 : Instr), 3)), (71, ((.iload_n 3 : Instr), 1)), (72, ((.aload_n 0 : Instr), 1)), (73, ((.getfield 26 : Instr), 3)), (76, ((.iload_n 1 : Instr), 1)), (77, ((.iload 8 : Instr), 2)), (79, ((.invokestatic 137 : Instr), 3)), (82, ((.iaload : Instr), 1)), (83, ((.invokestatic 190 : Instr), 3))]),
  (113, [(86, ((.goto 4 : Instr), 3)), (89, ((.iconst 0 : Instr), 1)), (90, ((.istore 9 : Instr), 2)), (92, ((.iload 9 : Instr), 2)), (94, ((.ifCond .ne 6 : Instr), 3)), (97, ((.goto 29 : Instr), 3)), (100, ((.iload_n 3 : Instr), 1)), (101, ((.iload 9 : Instr), 2)), (103, ((.isub : Instr), 1)), (104, ((.istore_n 3 : Instr), 1)), (105, ((.lload 4 : Instr), 2)), (107, ((.iload 9 : Instr), 2)), (109, ((.i2l : Instr), 1)), (110, ((.iload 7 : Instr), 2)), (112, ((.i2l : Instr), 1)), (113, ((.lmul : Instr), 1))]),
  (143, [(114, ((.ladd : Instr), 1)), (115, ((.lstore 4 : Instr), 2)), (117, ((.iload 6 : Instr), 2)), (119, ((.iconst 1 : Instr), 1)), (120, ((.iload 8 : Instr), 2)), (122, ((.ishl : Instr), 1)), (123, ((.ior : Instr), 1)), (124, ((.istore 6 : Instr), 2)), (126, ((.iinc 8 1 : Instr), 3)), (129, ((.goto (-83) : Instr), 3)), (132, ((.iinc 7 (-1) : Instr), 3)), (135, ((.goto (-97) : Instr), 3)), (138, ((.aload_n 0 : Instr), 1)), (139, ((.iconst 0 : Instr), 1)), (140, ((.putfield 127 : Instr), 3)), (143, ((.aload_n 0 : Instr), 1))]),
  (163, [(144, ((.lload 4 : Instr), 2)), (146, ((.iconst 1 : Instr), 1)), (147, ((.iload_n 2 : Instr), 1)), (148, ((.invokestatic 239 : Instr), 3)), (151, ((.i2l : Instr), 1)), (152, ((.invokevirtual 329 : Instr), 3)), (155, ((.aload_n 0 : Instr), 1)), (156, ((.iload 6 : Instr), 2)), (158, ((.i2l : Instr), 1)), (159, ((.invokevirtual 281 : Instr), 3)), (162, ((.iload_n 2 : Instr), 1)), (163, ((.ireturn : Instr), 1))])]
/-- ChaffInTheWindModel.heavy(I)I -/
def z_meth_281 : z_Mr := (⟨"ChaffInTheWindModel", "heavy", "(I)I"⟩, prog_12_method_95_code, (10, 2, 0, 0), some .int, none, 10, 15, z_code_281, (1, 1762, 10, 1760, 1761))
def z_code_282 : z_bm (Instr × Nat) := [(25, [(0, ((.aload_n 0 : Instr), 1)), (1, ((.iconst 0 : Instr), 1)), (2, ((.putfield 124 : Instr), 3)), (5, ((.iload_n 1 : Instr), 1)), (6, ((.invokestatic 256 : Instr), 3)), (9, ((.ifCond .eq 12 : Instr), 3)), (12, ((.iload_n 2 : Instr), 1)), (13, ((.iconst 1 : Instr), 1)), (14, ((.iconst 4 : Instr), 1)), (15, ((.invokestatic 133 : Instr), 3)), (18, ((.ifCond .ne 5 : Instr), 3)), (21, ((.iconst (-1) : Instr), 1)), (22, ((.ireturn : Instr), 1)), (23, ((.aload_n 0 : Instr), 1)), (24, ((.iload_n 1 : Instr), 1)), (25, ((.invokevirtual 286 : Instr), 3))]),
  (53, [(28, ((.istore_n 3 : Instr), 1)), (29, ((.iload_n 3 : Instr), 1)), (30, ((.sipush 2000 : Instr), 3)), (33, ((.if_icmp .le 6 : Instr), 3)), (36, ((.bipush (-3) : Instr), 2)), (38, ((.ireturn : Instr), 1)), (39, ((.iload_n 3 : Instr), 1)), (40, ((.iload_n 2 : Instr), 1)), (41, ((.if_icmp .ge 6 : Instr), 3)), (44, ((.bipush (-2) : Instr), 2)), (46, ((.ireturn : Instr), 1)), (47, ((.aload_n 0 : Instr), 1)), (48, ((.iconst 0 : Instr), 1)), (49, ((.putfield 127 : Instr), 3)), (52, ((.aload_n 0 : Instr), 1)), (53, ((.aload_n 0 : Instr), 1))]),
  (71, [(54, ((.iload_n 1 : Instr), 1)), (55, ((.invokevirtual 393 : Instr), 3)), (58, ((.iload_n 2 : Instr), 1)), (59, ((.invokestatic 396 : Instr), 3)), (62, ((.iload_n 3 : Instr), 1)), (63, ((.iload_n 2 : Instr), 1)), (64, ((.invokestatic 396 : Instr), 3)), (67, ((.invokevirtual 329 : Instr), 3)), (70, ((.iconst 0 : Instr), 1)), (71, ((.ireturn : Instr), 1))])]
/-- ChaffInTheWindModel.sample(II)I -/
def z_meth_282 : z_Mr := (⟨"ChaffInTheWindModel", "sample", "(II)I"⟩, prog_12_method_98_code, (4, 3, 0, 0), some .int, none, 10, 15, z_code_282, (1, 1766, 10, 1764, 1765))
def z_code_283 : z_bm (Instr × Nat) := [(23, [(0, ((.iconst 0 : Instr), 1)), (1, ((.istore_n 2 : Instr), 1)), (2, ((.iconst 0 : Instr), 1)), (3, ((.istore_n 3 : Instr), 1)), (4, ((.iload_n 3 : Instr), 1)), (5, ((.aload_n 0 : Instr), 1)), (6, ((.getfield 130 : Instr), 3)), (9, ((.if_icmp .ge 35 : Instr), 3)), (12, ((.iload_n 2 : Instr), 1)), (13, ((.aload_n 0 : Instr), 1)), (14, ((.getfield 9 : Instr), 3)), (17, ((.iload_n 3 : Instr), 1)), (18, ((.iaload : Instr), 1)), (19, ((.ifCond .ne 16 : Instr), 3)), (22, ((.aload_n 0 : Instr), 1)), (23, ((.getfield 26 : Instr), 3))]),
  (45, [(26, ((.iload_n 1 : Instr), 1)), (27, ((.iload_n 3 : Instr), 1)), (28, ((.invokestatic 137 : Instr), 3)), (31, ((.iaload : Instr), 1)), (32, ((.goto 4 : Instr), 3)), (35, ((.iconst 0 : Instr), 1)), (36, ((.iadd : Instr), 1)), (37, ((.istore_n 2 : Instr), 1)), (38, ((.iinc 3 1 : Instr), 3)), (41, ((.goto (-37) : Instr), 3)), (44, ((.iload_n 2 : Instr), 1)), (45, ((.ireturn : Instr), 1))])]
/-- ChaffInTheWindModel.cornOf(I)I -/
def z_meth_283 : z_Mr := (⟨"ChaffInTheWindModel", "cornOf", "(I)I"⟩, prog_12_method_96_code, (4, 2, 0, 0), some .int, none, 10, 15, z_code_283, (1, 1770, 10, 1769, 100143))
def z_code_284 : z_bm (Instr × Nat) := [(22, [(0, ((.lconst 1 : Instr), 1)), (1, ((.lstore_n 2 : Instr), 1)), (2, ((.iconst 0 : Instr), 1)), (3, ((.istore 4 : Instr), 2)), (5, ((.iload 4 : Instr), 2)), (7, ((.iload_n 1 : Instr), 1)), (8, ((.if_icmp .ge 21 : Instr), 3)), (11, ((.lload_n 2 : Instr), 1)), (12, ((.iconst 0 : Instr), 1)), (13, ((.iload_n 0 : Instr), 1)), (14, ((.iload 4 : Instr), 2)), (16, ((.isub : Instr), 1)), (17, ((.invokestatic 239 : Instr), 3)), (20, ((.i2l : Instr), 1)), (21, ((.lmul : Instr), 1)), (22, ((.lstore_n 2 : Instr), 1))]),
  (30, [(23, ((.iinc 4 1 : Instr), 3)), (26, ((.goto (-21) : Instr), 3)), (29, ((.lload_n 2 : Instr), 1)), (30, ((.lreturn : Instr), 1))])]
/-- ChaffInTheWindModel.ways(II)J -/
def z_meth_284 : z_Mr := (⟨"ChaffInTheWindModel", "ways", "(II)J"⟩, prog_12_method_97_code, (5, 2, 0, 0), some .long, none, 10, 15, z_code_284, (0, 1773, 10, 1772, 0))
def z_code_285 : z_bm (Instr × Nat) := [(26, [(0, ((.aload_n 0 : Instr), 1)), (1, ((.iconst 0 : Instr), 1)), (2, ((.putfield 124 : Instr), 3)), (5, ((.iload_n 1 : Instr), 1)), (6, ((.invokestatic 256 : Instr), 3)), (9, ((.ifCond .eq 13 : Instr), 3)), (12, ((.iload_n 2 : Instr), 1)), (13, ((.iconst 1 : Instr), 1)), (14, ((.bipush 100 : Instr), 2)), (16, ((.invokestatic 133 : Instr), 3)), (19, ((.ifCond .ne 5 : Instr), 3)), (22, ((.iconst (-1) : Instr), 1)), (23, ((.ireturn : Instr), 1)), (24, ((.aload_n 0 : Instr), 1)), (25, ((.iload_n 1 : Instr), 1)), (26, ((.invokevirtual 286 : Instr), 3))]),
  (56, [(29, ((.istore_n 3 : Instr), 1)), (30, ((.iload_n 3 : Instr), 1)), (31, ((.sipush 2000 : Instr), 3)), (34, ((.if_icmp .le 6 : Instr), 3)), (37, ((.bipush (-3) : Instr), 2)), (39, ((.ireturn : Instr), 1)), (40, ((.iconst 1 : Instr), 1)), (41, ((.istore 4 : Instr), 2)), (43, ((.iload 4 : Instr), 2)), (45, ((.iconst 4 : Instr), 1)), (46, ((.if_icmp .gt 48 : Instr), 3)), (49, ((.iload 4 : Instr), 2)), (51, ((.iload_n 3 : Instr), 1)), (52, ((.if_icmp .gt 42 : Instr), 3)), (55, ((.aload_n 0 : Instr), 1)), (56, ((.iload_n 1 : Instr), 1))]),
  (85, [(57, ((.invokevirtual 393 : Instr), 3)), (60, ((.iload 4 : Instr), 2)), (62, ((.invokestatic 396 : Instr), 3)), (65, ((.ldc2_w 368 : Instr), 3)), (68, ((.lmul : Instr), 1)), (69, ((.iload_n 3 : Instr), 1)), (70, ((.iload 4 : Instr), 2)), (72, ((.invokestatic 396 : Instr), 3)), (75, ((.bipush 100 : Instr), 2)), (77, ((.iload_n 2 : Instr), 1)), (78, ((.isub : Instr), 1)), (79, ((.i2l : Instr), 1)), (80, ((.lmul : Instr), 1)), (81, ((.lcmp : Instr), 1)), (82, ((.ifCond .gt 6 : Instr), 3)), (85, ((.iload 4 : Instr), 2))]),
  (96, [(87, ((.ireturn : Instr), 1)), (88, ((.iinc 4 1 : Instr), 3)), (91, ((.goto (-48) : Instr), 3)), (94, ((.bipush (-2) : Instr), 2)), (96, ((.ireturn : Instr), 1))])]
/-- ChaffInTheWindModel.grains(II)I -/
def z_meth_285 : z_Mr := (⟨"ChaffInTheWindModel", "grains", "(II)I"⟩, prog_12_method_99_code, (5, 3, 0, 0), some .int, none, 10, 15, z_code_285, (1, 1777, 10, 1775, 1776))
def z_code_286 : z_bm (Instr × Nat) := [(16, [(0, ((.aload_n 0 : Instr), 1)), (1, ((.iconst 0 : Instr), 1)), (2, ((.putfield 124 : Instr), 3)), (5, ((.aload_n 0 : Instr), 1)), (6, ((.getfield 32 : Instr), 3)), (9, ((.istore_n 2 : Instr), 1)), (10, ((.aload_n 0 : Instr), 1)), (11, ((.iload_n 1 : Instr), 1)), (12, ((.putfield 32 : Instr), 3)), (15, ((.iload_n 2 : Instr), 1)), (16, ((.ireturn : Instr), 1))])]
/-- ChaffInTheWindModel.seed(I)I -/
def z_meth_286 : z_Mr := (⟨"ChaffInTheWindModel", "seed", "(I)I"⟩, prog_12_method_100_code, (3, 2, 0, 0), some .int, none, 10, 15, z_code_286, (1, 1781, 10, 1779, 1780))
def z_code_287 : z_bm (Instr × Nat) := [(23, [(0, ((.aload_n 0 : Instr), 1)), (1, ((.iconst 0 : Instr), 1)), (2, ((.putfield 124 : Instr), 3)), (5, ((.iload_n 1 : Instr), 1)), (6, ((.iconst 0 : Instr), 1)), (7, ((.iconst 2 : Instr), 1)), (8, ((.invokestatic 133 : Instr), 3)), (11, ((.ifCond .ne 5 : Instr), 3)), (14, ((.iconst 0 : Instr), 1)), (15, ((.ireturn : Instr), 1)), (16, ((.aload_n 0 : Instr), 1)), (17, ((.getfield 109 : Instr), 3)), (20, ((.iload_n 1 : Instr), 1)), (21, ((.iconst 1 : Instr), 1)), (22, ((.bastore : Instr), 1)), (23, ((.aload_n 0 : Instr), 1))]),
  (49, [(24, ((.getfield 112 : Instr), 3)), (27, ((.iload_n 1 : Instr), 1)), (28, ((.aload_n 0 : Instr), 1)), (29, ((.getfield 130 : Instr), 3)), (32, ((.iastore : Instr), 1)), (33, ((.aload_n 0 : Instr), 1)), (34, ((.getfield 115 : Instr), 3)), (37, ((.iload_n 1 : Instr), 1)), (38, ((.aload_n 0 : Instr), 1)), (39, ((.getfield 22 : Instr), 3)), (42, ((.iastore : Instr), 1)), (43, ((.aload_n 0 : Instr), 1)), (44, ((.getfield 118 : Instr), 3)), (47, ((.iload_n 1 : Instr), 1)), (48, ((.aload_n 0 : Instr), 1)), (49, ((.getfield 198 : Instr), 3))]),
  (79, [(52, ((.iastore : Instr), 1)), (53, ((.aload_n 0 : Instr), 1)), (54, ((.getfield 121 : Instr), 3)), (57, ((.iload_n 1 : Instr), 1)), (58, ((.aload_n 0 : Instr), 1)), (59, ((.getfield 32 : Instr), 3)), (62, ((.iastore : Instr), 1)), (63, ((.iconst 0 : Instr), 1)), (64, ((.istore_n 2 : Instr), 1)), (65, ((.iload_n 2 : Instr), 1)), (66, ((.sipush 310 : Instr), 3)), (69, ((.if_icmp .ge 27 : Instr), 3)), (72, ((.aload_n 0 : Instr), 1)), (73, ((.getfield 106 : Instr), 3)), (76, ((.sipush 310 : Instr), 3)), (79, ((.iload_n 1 : Instr), 1))]),
  (97, [(80, ((.imul : Instr), 1)), (81, ((.iload_n 2 : Instr), 1)), (82, ((.iadd : Instr), 1)), (83, ((.aload_n 0 : Instr), 1)), (84, ((.getfield 26 : Instr), 3)), (87, ((.iload_n 2 : Instr), 1)), (88, ((.iaload : Instr), 1)), (89, ((.iastore : Instr), 1)), (90, ((.iinc 2 1 : Instr), 3)), (93, ((.goto (-28) : Instr), 3)), (96, ((.iconst 1 : Instr), 1)), (97, ((.ireturn : Instr), 1))])]
/-- ChaffInTheWindModel.keep(I)Z -/
def z_meth_287 : z_Mr := (⟨"ChaffInTheWindModel", "keep", "(I)Z"⟩, prog_12_method_101_code, (3, 2, 0, 0), some .boolean, none, 10, 15, z_code_287, (1, 1785, 10, 1783, 1784))
def z_code_288 : z_bm (Instr × Nat) := [(27, [(0, ((.aload_n 0 : Instr), 1)), (1, ((.iconst 0 : Instr), 1)), (2, ((.putfield 124 : Instr), 3)), (5, ((.iload_n 1 : Instr), 1)), (6, ((.iconst 0 : Instr), 1)), (7, ((.iconst 2 : Instr), 1)), (8, ((.invokestatic 133 : Instr), 3)), (11, ((.ifCond .eq 25 : Instr), 3)), (14, ((.aload_n 0 : Instr), 1)), (15, ((.getfield 109 : Instr), 3)), (18, ((.iload_n 1 : Instr), 1)), (19, ((.baload : Instr), 1)), (20, ((.ifCond .eq 16 : Instr), 3)), (23, ((.aload_n 0 : Instr), 1)), (24, ((.getfield 115 : Instr), 3)), (27, ((.iload_n 1 : Instr), 1))]),
  (53, [(28, ((.iaload : Instr), 1)), (29, ((.aload_n 0 : Instr), 1)), (30, ((.getfield 22 : Instr), 3)), (33, ((.if_icmp .eq 5 : Instr), 3)), (36, ((.iconst 0 : Instr), 1)), (37, ((.ireturn : Instr), 1)), (38, ((.aload_n 0 : Instr), 1)), (39, ((.aload_n 0 : Instr), 1)), (40, ((.getfield 118 : Instr), 3)), (43, ((.iload_n 1 : Instr), 1)), (44, ((.iaload : Instr), 1)), (45, ((.putfield 198 : Instr), 3)), (48, ((.aload_n 0 : Instr), 1)), (49, ((.aload_n 0 : Instr), 1)), (50, ((.getfield 121 : Instr), 3)), (53, ((.iload_n 1 : Instr), 1))]),
  (80, [(54, ((.iaload : Instr), 1)), (55, ((.putfield 32 : Instr), 3)), (58, ((.iconst 0 : Instr), 1)), (59, ((.istore_n 2 : Instr), 1)), (60, ((.iload_n 2 : Instr), 1)), (61, ((.sipush 310 : Instr), 3)), (64, ((.if_icmp .ge 44 : Instr), 3)), (67, ((.aload_n 0 : Instr), 1)), (68, ((.getfield 26 : Instr), 3)), (71, ((.iload_n 2 : Instr), 1)), (72, ((.iload_n 2 : Instr), 1)), (73, ((.bipush 10 : Instr), 2)), (75, ((.irem : Instr), 1)), (76, ((.aload_n 0 : Instr), 1)), (77, ((.getfield 112 : Instr), 3)), (80, ((.iload_n 1 : Instr), 1))]),
  (108, [(81, ((.iaload : Instr), 1)), (82, ((.if_icmp .ge 18 : Instr), 3)), (85, ((.aload_n 0 : Instr), 1)), (86, ((.getfield 106 : Instr), 3)), (89, ((.sipush 310 : Instr), 3)), (92, ((.iload_n 1 : Instr), 1)), (93, ((.imul : Instr), 1)), (94, ((.iload_n 2 : Instr), 1)), (95, ((.iadd : Instr), 1)), (96, ((.iaload : Instr), 1)), (97, ((.goto 4 : Instr), 3)), (100, ((.iconst 0 : Instr), 1)), (101, ((.iastore : Instr), 1)), (102, ((.iinc 2 1 : Instr), 3)), (105, ((.goto (-45) : Instr), 3)), (108, ((.iconst 1 : Instr), 1))]),
  (109, [(109, ((.ireturn : Instr), 1))])]
/-- ChaffInTheWindModel.again(I)Z -/
def z_meth_288 : z_Mr := (⟨"ChaffInTheWindModel", "again", "(I)Z"⟩, prog_12_method_102_code, (3, 2, 0, 0), some .boolean, none, 10, 15, z_code_288, (1, 1789, 10, 1787, 1788))
def z_code_289 : z_bm (Instr × Nat) := [(78, [(0, ((.aload_n 0 : Instr), 1)), (1, ((.iconst 0 : Instr), 1)), (2, ((.putfield 124 : Instr), 3)), (5, ((.iconst 0 : Instr), 1)), (6, ((.istore_n 2 : Instr), 1)), (7, ((.iload_n 1 : Instr), 1)), (8, ((.tableswitch 180 0 9 #[56, 61, 66, 71, 105, 110, 134, 163, 170, 175] : Instr), 56)), (64, ((.aload_n 0 : Instr), 1)), (65, ((.getfield 130 : Instr), 3)), (68, ((.ireturn : Instr), 1)), (69, ((.aload_n 0 : Instr), 1)), (70, ((.getfield 22 : Instr), 3)), (73, ((.ireturn : Instr), 1)), (74, ((.aload_n 0 : Instr), 1)), (75, ((.getfield 198 : Instr), 3)), (78, ((.ireturn : Instr), 1))]),
  (102, [(79, ((.iconst 0 : Instr), 1)), (80, ((.istore_n 3 : Instr), 1)), (81, ((.iload_n 3 : Instr), 1)), (82, ((.iconst 3 : Instr), 1)), (83, ((.if_icmp .gt 28 : Instr), 3)), (86, ((.iload_n 2 : Instr), 1)), (87, ((.aload_n 0 : Instr), 1)), (88, ((.getfield 63 : Instr), 3)), (91, ((.iload_n 3 : Instr), 1)), (92, ((.iaload : Instr), 1)), (93, ((.ifCond .le 9 : Instr), 3)), (96, ((.iconst 1 : Instr), 1)), (97, ((.iload_n 3 : Instr), 1)), (98, ((.ishl : Instr), 1)), (99, ((.goto 4 : Instr), 3)), (102, ((.iconst 0 : Instr), 1))]),
  (127, [(103, ((.ior : Instr), 1)), (104, ((.istore_n 2 : Instr), 1)), (105, ((.iinc 3 1 : Instr), 3)), (108, ((.goto (-27) : Instr), 3)), (111, ((.iload_n 2 : Instr), 1)), (112, ((.ireturn : Instr), 1)), (113, ((.aload_n 0 : Instr), 1)), (114, ((.getfield 346 : Instr), 3)), (117, ((.ireturn : Instr), 1)), (118, ((.iconst 0 : Instr), 1)), (119, ((.istore_n 3 : Instr), 1)), (120, ((.iload_n 3 : Instr), 1)), (121, ((.bipush 6 : Instr), 2)), (123, ((.if_icmp .ge 17 : Instr), 3)), (126, ((.iload_n 2 : Instr), 1)), (127, ((.aload_n 0 : Instr), 1))]),
  (153, [(128, ((.iload_n 3 : Instr), 1)), (129, ((.invokevirtual 286 : Instr), 3)), (132, ((.iadd : Instr), 1)), (133, ((.istore_n 2 : Instr), 1)), (134, ((.iinc 3 1 : Instr), 3)), (137, ((.goto (-17) : Instr), 3)), (140, ((.iload_n 2 : Instr), 1)), (141, ((.ireturn : Instr), 1)), (142, ((.iconst 0 : Instr), 1)), (143, ((.istore_n 3 : Instr), 1)), (144, ((.iload_n 3 : Instr), 1)), (145, ((.aload_n 0 : Instr), 1)), (146, ((.getfield 22 : Instr), 3)), (149, ((.if_icmp .ge 20 : Instr), 3)), (152, ((.iload_n 2 : Instr), 1)), (153, ((.aload_n 0 : Instr), 1))]),
  (179, [(154, ((.bipush 6 : Instr), 2)), (156, ((.iload_n 3 : Instr), 1)), (157, ((.iadd : Instr), 1)), (158, ((.invokevirtual 286 : Instr), 3)), (161, ((.iadd : Instr), 1)), (162, ((.istore_n 2 : Instr), 1)), (163, ((.iinc 3 1 : Instr), 3)), (166, ((.goto (-22) : Instr), 3)), (169, ((.iload_n 2 : Instr), 1)), (170, ((.ireturn : Instr), 1)), (171, ((.aload_n 0 : Instr), 1)), (172, ((.bipush 30 : Instr), 2)), (174, ((.invokevirtual 286 : Instr), 3)), (177, ((.ireturn : Instr), 1)), (178, ((.aload_n 0 : Instr), 1)), (179, ((.getfield 127 : Instr), 3))]),
  (189, [(182, ((.ireturn : Instr), 1)), (183, ((.aload_n 0 : Instr), 1)), (184, ((.getfield 141 : Instr), 3)), (187, ((.ireturn : Instr), 1)), (188, ((.iconst (-1) : Instr), 1)), (189, ((.ireturn : Instr), 1))])]
/-- ChaffInTheWindModel.count(I)I -/
def z_meth_289 : z_Mr := (⟨"ChaffInTheWindModel", "count", "(I)I"⟩, prog_12_method_103_code, (4, 2, 0, 0), some .int, none, 10, 15, z_code_289, (1, 1793, 10, 1791, 1792))
def z_code_290 : z_bm (Instr × Nat) := [(25, [(0, ((.aload_n 0 : Instr), 1)), (1, ((.iconst 0 : Instr), 1)), (2, ((.putfield 124 : Instr), 3)), (5, ((.iload_n 1 : Instr), 1)), (6, ((.iconst 0 : Instr), 1)), (7, ((.aload_n 0 : Instr), 1)), (8, ((.getfield 127 : Instr), 3)), (11, ((.iconst 1 : Instr), 1)), (12, ((.isub : Instr), 1)), (13, ((.invokestatic 133 : Instr), 3)), (16, ((.ifCond .eq 12 : Instr), 3)), (19, ((.aload_n 0 : Instr), 1)), (20, ((.getfield 39 : Instr), 3)), (23, ((.iload_n 1 : Instr), 1)), (24, ((.laload : Instr), 1)), (25, ((.goto 8 : Instr), 3))]),
  (33, [(28, ((.aload_n 0 : Instr), 1)), (29, ((.invokevirtual 253 : Instr), 3)), (32, ((.i2l : Instr), 1)), (33, ((.lreturn : Instr), 1))])]
/-- ChaffInTheWindModel.row(I)J -/
def z_meth_290 : z_Mr := (⟨"ChaffInTheWindModel", "row", "(I)J"⟩, prog_12_method_104_code, (2, 2, 0, 0), some .long, none, 10, 15, z_code_290, (1, 1797, 10, 1795, 1796))
def z_row_0 : List z_Mr := [z_meth_0, z_meth_1, z_meth_2, z_meth_3, z_meth_4, z_meth_5, z_meth_6, z_meth_7, z_meth_8, z_meth_9, z_meth_10, z_meth_11, z_meth_12, z_meth_13, z_meth_14, z_meth_15]
def z_row_1 : List z_Mr := [z_meth_16, z_meth_17, z_meth_18, z_meth_19, z_meth_20, z_meth_21, z_meth_22, z_meth_23, z_meth_24, z_meth_25, z_meth_26, z_meth_27, z_meth_28, z_meth_29, z_meth_30, z_meth_31]
def z_row_2 : List z_Mr := [z_meth_32, z_meth_33, z_meth_34, z_meth_35, z_meth_36, z_meth_37, z_meth_38, z_meth_39, z_meth_40, z_meth_41, z_meth_42, z_meth_43, z_meth_44, z_meth_45, z_meth_46, z_meth_47]
def z_row_3 : List z_Mr := [z_meth_48, z_meth_49, z_meth_50, z_meth_51, z_meth_52, z_meth_53, z_meth_54, z_meth_55, z_meth_56, z_meth_57, z_meth_58, z_meth_59, z_meth_60, z_meth_61, z_meth_62, z_meth_63]
def z_row_4 : List z_Mr := [z_meth_64, z_meth_65, z_meth_66, z_meth_67, z_meth_68, z_meth_69, z_meth_70, z_meth_71, z_meth_72, z_meth_73, z_meth_74, z_meth_75, z_meth_76, z_meth_77, z_meth_78, z_meth_79]
def z_row_5 : List z_Mr := [z_meth_80, z_meth_81, z_meth_82, z_meth_83, z_meth_84, z_meth_85, z_meth_86, z_meth_87, z_meth_88, z_meth_89, z_meth_90, z_meth_91, z_meth_92, z_meth_93, z_meth_94, z_meth_95]
def z_row_6 : List z_Mr := [z_meth_96, z_meth_97, z_meth_98, z_meth_99, z_meth_100, z_meth_101, z_meth_102, z_meth_103, z_meth_104, z_meth_105, z_meth_106, z_meth_107, z_meth_108, z_meth_109, z_meth_110, z_meth_111]
def z_row_7 : List z_Mr := [z_meth_112, z_meth_113, z_meth_114, z_meth_115, z_meth_116, z_meth_117, z_meth_118, z_meth_119, z_meth_120, z_meth_121, z_meth_122, z_meth_123, z_meth_124, z_meth_125, z_meth_126, z_meth_127]
def z_row_8 : List z_Mr := [z_meth_128, z_meth_129, z_meth_130, z_meth_131, z_meth_132, z_meth_133, z_meth_134, z_meth_135, z_meth_136, z_meth_137, z_meth_138, z_meth_139, z_meth_140, z_meth_141, z_meth_142, z_meth_143]
def z_row_9 : List z_Mr := [z_meth_144, z_meth_145, z_meth_146, z_meth_147, z_meth_148, z_meth_149, z_meth_150, z_meth_151, z_meth_152, z_meth_153, z_meth_154, z_meth_155, z_meth_156, z_meth_157, z_meth_158, z_meth_159]
def z_row_10 : List z_Mr := [z_meth_160, z_meth_161, z_meth_162, z_meth_163, z_meth_164, z_meth_165, z_meth_166, z_meth_167, z_meth_168, z_meth_169, z_meth_170, z_meth_171, z_meth_172, z_meth_173, z_meth_174, z_meth_175]
def z_row_11 : List z_Mr := [z_meth_176, z_meth_177, z_meth_178, z_meth_179, z_meth_180, z_meth_181, z_meth_182, z_meth_183, z_meth_184, z_meth_185, z_meth_186, z_meth_187, z_meth_188, z_meth_189, z_meth_190, z_meth_191]
def z_row_12 : List z_Mr := [z_meth_192, z_meth_193, z_meth_194, z_meth_195, z_meth_196, z_meth_197, z_meth_198, z_meth_199, z_meth_200, z_meth_201, z_meth_202, z_meth_203, z_meth_204, z_meth_205, z_meth_206, z_meth_207]
def z_row_13 : List z_Mr := [z_meth_208, z_meth_209, z_meth_210, z_meth_211, z_meth_212, z_meth_213, z_meth_214, z_meth_215, z_meth_216, z_meth_217, z_meth_218, z_meth_219, z_meth_220, z_meth_221, z_meth_222, z_meth_223]
def z_row_14 : List z_Mr := [z_meth_224, z_meth_225, z_meth_226, z_meth_227, z_meth_228, z_meth_229, z_meth_230, z_meth_231, z_meth_232, z_meth_233, z_meth_234, z_meth_235, z_meth_236, z_meth_237, z_meth_238, z_meth_239]
def z_row_15 : List z_Mr := [z_meth_240, z_meth_241, z_meth_242, z_meth_243, z_meth_244, z_meth_245, z_meth_246, z_meth_247, z_meth_248, z_meth_249, z_meth_250, z_meth_251, z_meth_252, z_meth_253, z_meth_254, z_meth_255]
def z_row_16 : List z_Mr := [z_meth_256, z_meth_257, z_meth_258, z_meth_259, z_meth_260, z_meth_261, z_meth_262, z_meth_263, z_meth_264, z_meth_265, z_meth_266, z_meth_267, z_meth_268, z_meth_269, z_meth_270, z_meth_271]
def z_row_17 : List z_Mr := [z_meth_272, z_meth_273, z_meth_274, z_meth_275, z_meth_276, z_meth_277, z_meth_278, z_meth_279, z_meth_280, z_meth_281, z_meth_282, z_meth_283, z_meth_284, z_meth_285, z_meth_286, z_meth_287]
def z_row_18 : List z_Mr := [z_meth_288, z_meth_289, z_meth_290]
def z_M : List (List z_Mr) := [z_row_0, z_row_1, z_row_2, z_row_3, z_row_4, z_row_5, z_row_6, z_row_7, z_row_8, z_row_9, z_row_10, z_row_11, z_row_12, z_row_13, z_row_14, z_row_15, z_row_16, z_row_17, z_row_18]
/-- ChaffInTheWind -/
def z_pool_0 : z_Pl := ("ChaffInTheWind", [(86, [(12, (0, 0, 269)), (19, (0, 1, 270)), (26, (0, 2, 271)), (33, (0, 3, 272)), (37, (0, 4, 273)), (44, (0, 5, 274)), (48, (0, 6, 275)), (54, (0, 7, 276)), (60, (0, 8, 277)), (64, (0, 9, 278)), (68, (0, 10, 279)), (74, (0, 11, 280)), (77, (0, 12, 281)), (80, (0, 13, 282)), (83, (0, 14, 283)), (86, (0, 15, 284))]),
  (253, [(89, (0, 16, 285)), (92, (0, 17, 286)), (128, (3, 5, 132)), (131, (3, 7, 137)), (134, (5, 0, 180)), (137, (3, 4, 130)), (144, (5, 3, 186)), (168, (3, 0, 119)), (171, (3, 1, 122)), (174, (3, 2, 124)), (177, (3, 3, 127)), (213, (3, 11, 143)), (217, (4, 4, 90)), (226, (4, 5, 92)), (232, (4, 6, 95)), (253, (5, 1, 182))]),
  (504, [(277, (3, 10, 141)), (326, (6, 3, 215)), (365, (7, 3, 256)), (368, (3, 6, 135)), (434, (9, 0, 961)), (438, (9, 1, 963)), (481, (5, 4, 188)), (488, (5, 5, 190)), (497, (5, 2, 184)), (500, (2, 1, 66)), (503, (1, 1, 41)), (504, (2, 0, 64))])], [(466, [(464, (.long (100), 1031)), (466, (.long (10), 1066))])], [(58, [(9, (1, [.null, .int 0, .int 0, .int 0, .int 0], 33, 34, 2)), (16, (2, [.null, .int 0], 57, 58, 3)), (23, (3, [.null, .null, .null, .null, .null, .int 0, .int 0, .int 0, .int 0, .int 0, .null, .null, .null], 73, 74, 4)), (30, (5, [.null, .null, .null, .int 0, .int 0, .int 0], 172, 173, 6)), (41, (6, [.null, .null, .null, .int 0, .int 0], 205, 206, 7)), (51, (7, [.null, .null, .null, .int 0], 228, 229, 8)), (58, (9, [.int 0, .int 0, .int 0, .int 0, .int 0, .int 0], 266, 955, 23))])], [(58, [(30, (6, 172, 204)), (58, (8, 266, 267))])], [(72, [(72, (5, 3, 268, 116))])], [(125, [(3, (0, 3, 30)), (11, (1, 2, 35)), (18, (2, 2, 59)), (25, (3, 2, 75)), (32, (5, 2, 174)), (43, (6, 2, 207)), (53, (7, 2, 230)), (95, (10, 1, 328)), (99, (12, 1, 336)), (103, (14, 1, 344)), (107, (16, 1, 351)), (111, (35, 1, 477)), (115, (36, 1, 481)), (118, (37, 1, 485)), (122, (38, 1, 489)), (125, (39, 1, 493))]),
  (207, [(140, (41, 1, 500)), (143, (44, 1, 515)), (147, (47, 1, 530)), (150, (55, 1, 572)), (152, (57, 1, 580)), (155, (58, 1, 584)), (158, (59, 1, 588)), (162, (62, 1, 599)), (180, (61, 0, 596)), (183, (64, 1, 607)), (186, (65, 1, 611)), (190, (40, 0, 623)), (196, (68, 1, 624)), (199, (70, 0, 633)), (203, (69, 0, 628)), (207, (72, 0, 640))]),
  (280, [(210, (73, 1, 643)), (222, (80, 1, 673)), (229, (81, 1, 681)), (235, (83, 1, 686)), (237, (84, 1, 690)), (240, (86, 1, 698)), (243, (92, 1, 724)), (246, (89, 1, 711)), (249, (94, 1, 732)), (256, (95, 1, 736)), (260, (98, 0, 748)), (263, (100, 0, 755)), (266, (96, 1, 740)), (270, (102, 1, 762)), (274, (85, 1, 694)), (280, (90, 1, 715))]),
  (333, [(283, (66, 1, 615)), (286, (87, 1, 702)), (289, (88, 1, 706)), (292, (107, 0, 781)), (295, (108, 0, 784)), (300, (109, 1, 787)), (301, (111, 1, 795)), (304, (112, 1, 799)), (307, (114, 1, 807)), (310, (115, 1, 811)), (313, (117, 1, 819)), (316, (119, 1, 827)), (320, (120, 0, 832)), (323, (122, 1, 841)), (329, (126, 1, 857)), (333, (74, 1, 831))]),
  (394, [(337, (76, 1, 835)), (340, (78, 1, 836)), (343, (116, 1, 815)), (347, (123, 1, 845)), (351, (103, 1, 1193)), (354, (132, 1, 1194)), (358, (133, 1, 1195)), (361, (131, 1, 876)), (370, (15, 0, 631)), (373, (135, 1, 897)), (376, (136, 1, 901)), (379, (137, 1, 905)), (382, (140, 0, 917)), (386, (142, 1, 927)), (390, (146, 1, 943)), (394, (138, 1, 909))]),
  (458, [(397, (143, 1, 931)), (401, (144, 1, 935)), (405, (149, 2, 956)), (407, (151, 2, 985)), (410, (153, 1, 992)), (414, (157, 1, 1008)), (418, (160, 1, 1019)), (422, (164, 0, 1036)), (427, (161, 1, 1023)), (431, (168, 1, 1054)), (441, (154, 1, 996)), (444, (155, 1, 1000)), (447, (158, 0, 1012)), (450, (159, 1, 1015)), (454, (163, 1, 1032)), (458, (165, 1, 1042))]),
  (514, [(461, (162, 1, 1027)), (468, (171, 0, 1067)), (472, (174, 1, 1078)), (475, (175, 0, 1082)), (479, (33, 0, 632)), (484, (179, 1, 1097)), (491, (182, 1, 1110)), (493, (183, 0, 1114)), (508, (0, 5, 920)), (514, (127, 0, 861))])])
/-- ChaffInTheWind$Signs -/
def z_pool_1 : z_Pl := ("ChaffInTheWind$Signs", [(25, [(11, (1, 0, 39)), (15, (1, 1, 40)), (19, (1, 2, 42)), (22, (1, 3, 43)), (25, (1, 4, 44))])], [], [], [], [], [(45, [(3, (0, 3, 38)), (29, (15, 0, 348)), (35, (20, 1, 367)), (39, (26, 1, 393)), (45, (23, 1, 379))])])
/-- ChaffInTheWind$Row -/
def z_pool_2 : z_Pl := ("ChaffInTheWind$Row", [(15, [(9, (2, 0, 63)), (15, (2, 1, 65))])], [], [], [], [], [(19, [(3, (0, 3, 62)), (19, (81, 1, 677))])])
/-- ChaffInTheWind$Barn -/
def z_pool_3 : z_Pl := ("ChaffInTheWind$Barn", [(118, [(9, (3, 0, 117)), (15, (3, 1, 120)), (18, (3, 2, 123)), (21, (3, 3, 126)), (24, (3, 4, 129)), (27, (3, 5, 131)), (31, (3, 6, 134)), (34, (3, 7, 136)), (37, (3, 8, 138)), (40, (3, 9, 139)), (43, (3, 10, 140)), (49, (3, 11, 142)), (55, (3, 12, 144)), (118, (4, 5, 93))])], [(89, [(89, (.ref 1000000, 0))])], [(46, [(46, (4, [.int 0, .int 0, .int 0, .int 0, .int 0, .int 0, .int 0, .int 0], 79, 80, 5))])], [], [(53, [(53, (5, 3, 115, 116))])], [(114, [(3, (0, 3, 78)), (48, (4, 2, 81)), (58, (17, 1, 355)), (64, (18, 1, 359)), (68, (19, 1, 363)), (72, (21, 1, 371)), (75, (24, 1, 384)), (79, (22, 1, 375)), (83, (15, 0, 383)), (91, (25, 1, 389)), (95, (38, 1, 504)), (98, (42, 1, 505)), (101, (40, 0, 509)), (107, (73, 1, 719)), (110, (74, 1, 647)), (114, (76, 1, 657))]),
  (132, [(121, (78, 1, 665)), (125, (75, 1, 651)), (129, (79, 0, 669)), (132, (69, 0, 672))])])
/-- ChaffInTheWind$Flight -/
def z_pool_4 : z_Pl := ("ChaffInTheWind$Flight", [(31, [(7, (4, 0, 85)), (13, (4, 1, 86)), (16, (4, 2, 87)), (19, (4, 3, 88)), (22, (4, 4, 89)), (25, (4, 5, 91)), (28, (4, 6, 94)), (31, (4, 7, 96))])], [], [], [], [], [(43, [(1, (0, 3, 84)), (34, (33, 0, 655)), (40, (15, 0, 656)), (43, (77, 1, 661))])])
/-- ChaffInTheWind$Store -/
def z_pool_5 : z_Pl := ("ChaffInTheWind$Store", [(30, [(11, (5, 0, 179)), (16, (5, 1, 181)), (19, (5, 2, 183)), (23, (5, 3, 185)), (27, (5, 4, 187)), (30, (5, 5, 189))])], [(43, [(43, (.int (1103515245), 710))])], [], [], [(9, [(9, (5, 3, 178, 116))])], [(37, [(3, (0, 3, 177)), (33, (140, 0, 1101)), (37, (40, 0, 497))])])
/-- ChaffInTheWind$Gusts -/
def z_pool_6 : z_Pl := ("ChaffInTheWind$Gusts", [(25, [(11, (6, 0, 211)), (15, (6, 1, 212)), (18, (6, 2, 213)), (21, (6, 3, 214)), (25, (6, 4, 216))])], [], [], [], [], [(42, [(3, (0, 3, 210)), (28, (17, 1, 519)), (34, (45, 1, 520)), (38, (19, 1, 524)), (42, (22, 1, 525))])])
/-- ChaffInTheWind$Market -/
def z_pool_7 : z_Pl := ("ChaffInTheWind$Market", [(86, [(12, (7, 0, 252)), (18, (7, 1, 253)), (22, (7, 2, 254)), (26, (7, 3, 255)), (38, (8, 2, 244)), (51, (3, 5, 133)), (56, (3, 1, 121)), (59, (3, 0, 118)), (83, (3, 2, 125)), (86, (3, 3, 128))])], [(70, [(30, (.ref 1000002, 0)), (32, (.ref 1000004, 0)), (69, (.int (-99999), 890)), (70, (.int (99999), 891))])], [(9, [(9, (8, [.null, .null, .int 0], 234, 236, 9))])], [(9, [(9, (7, 234, 235))])], [], [(79, [(3, (0, 3, 233)), (11, (8, 2, 237)), (34, (48, 1, 536)), (41, (103, 1, 766)), (45, (40, 0, 884)), (62, (111, 1, 885)), (65, (104, 1, 770)), (71, (69, 0, 892)), (75, (132, 1, 880)), (79, (133, 1, 886))])])
/-- ChaffInTheWind$Formula -/
def z_pool_8 : z_Pl := ("ChaffInTheWind$Formula", [(18, [(9, (8, 0, 241)), (15, (8, 1, 242)), (18, (8, 2, 243))])], [(53, [(35, (.ref 1000010, 0)), (48, (.ref 1000008, 0)), (53, (.ref 1000006, 0))])], [], [], [], [(69, [(3, (0, 3, 240)), (22, (17, 1, 540)), (28, (49, 1, 541)), (32, (50, 1, 545)), (37, (25, 1, 563)), (41, (54, 1, 564)), (45, (51, 1, 549)), (50, (52, 1, 553)), (55, (19, 1, 557)), (59, (53, 1, 558)), (62, (20, 1, 562)), (65, (22, 1, 568)), (69, (105, 0, 774))])])
/-- java/lang/Math -/
def z_pool_9 : z_Pl := ("java/lang/Math", [], [], [], [], [], [])
/-- java/lang/String -/
def z_pool_10 : z_Pl := ("java/lang/String", [(15, [(9, (98, 0, 1814)), (15, (98, 1, 1813))])], [(100038, [(100038, (.int 1, 405))])], [], [], [], [(637, [(335, (30, 1, 411)), (492, (28, 1, 401)), (505, (29, 1, 407)), (633, (27, 1, 397)), (637, (31, 0, 415))])])
/-- java/lang/StringLatin1 -/
def z_pool_11 : z_Pl := ("java/lang/StringLatin1", [], [], [], [], [], [(95, [(38, (15, 0, 424)), (88, (32, 0, 418)), (92, (33, 0, 421)), (95, (34, 0, 425))])])
/-- java/util/Arrays -/
def z_pool_12 : z_Pl := ("java/util/Arrays", [], [], [], [], [], [])
/-- ChaffInTheWind$Pass -/
def z_pool_13 : z_Pl := ("ChaffInTheWind$Pass", [(26, [(7, (9, 0, 960)), (13, (9, 1, 962)), (17, (9, 2, 964)), (20, (9, 3, 965)), (23, (9, 4, 966)), (26, (9, 5, 967))])], [], [], [], [], [(1, [(1, (0, 3, 959))])])
/-- java/lang/Integer -/
def z_pool_14 : z_Pl := ("java/lang/Integer", [], [(267, [(265, (.int (1431655765), 1039)), (266, (.int (858993459), 1040)), (267, (.int (252645135), 1041))])], [], [], [], [])
/-- ChaffInTheWindModel -/
def z_pool_15 : z_Pl := ("ChaffInTheWindModel", [(60, [(9, (10, 1, 1212)), (13, (10, 2, 1213)), (16, (10, 3, 1214)), (19, (10, 4, 1215)), (22, (10, 5, 1216)), (26, (10, 6, 1217)), (29, (10, 7, 1218)), (32, (10, 9, 1220)), (35, (10, 10, 1221)), (39, (10, 12, 1223)), (43, (10, 20, 1231)), (46, (10, 22, 1233)), (49, (10, 23, 1234)), (52, (10, 24, 1235)), (55, (10, 25, 1236)), (60, (10, 27, 1238))]),
  (109, [(63, (10, 28, 1239)), (66, (10, 31, 1242)), (69, (10, 32, 1243)), (72, (10, 38, 1249)), (75, (10, 39, 1250)), (78, (10, 40, 1251)), (81, (10, 41, 1252)), (84, (10, 42, 1253)), (87, (10, 43, 1254)), (90, (10, 45, 1256)), (94, (10, 46, 1257)), (97, (10, 47, 1258)), (100, (10, 48, 1259)), (103, (10, 49, 1260)), (106, (10, 50, 1261)), (109, (10, 51, 1262))]),
  (201, [(112, (10, 52, 1263)), (115, (10, 53, 1264)), (118, (10, 54, 1265)), (121, (10, 55, 1266)), (124, (10, 14, 1225)), (127, (10, 13, 1224)), (130, (10, 0, 1211)), (141, (10, 11, 1222)), (144, (10, 15, 1226)), (147, (10, 16, 1227)), (150, (10, 17, 1228)), (153, (10, 18, 1229)), (156, (10, 19, 1230)), (195, (10, 21, 1232)), (198, (10, 8, 1219)), (201, (10, 26, 1237))]),
  (346, [(217, (10, 29, 1240)), (228, (10, 33, 1244)), (231, (10, 30, 1241)), (242, (10, 34, 1245)), (259, (10, 35, 1246)), (262, (10, 36, 1247)), (265, (10, 37, 1248)), (346, (10, 44, 1255))])], [(388, [(237, (.int (-99999), 1649)), (238, (.int (99999), 1650)), (285, (.int (1103515245), 1540)), (327, (.long (2), 1625)), (337, (.long (-1), 1663)), (368, (.long (100), 1736)), (388, (.long (10), 1758))])], [], [], [(58, [(58, (9, 1, 1209, 1210))])], [(214, [(3, (0, 3, 1208)), (133, (191, 0, 1393)), (137, (200, 0, 1428)), (159, (194, 1, 1404)), (163, (195, 1, 1408)), (167, (199, 1, 1424)), (171, (197, 1, 1416)), (175, (193, 1, 1400)), (179, (196, 1, 1412)), (183, (198, 1, 1420)), (187, (201, 1, 1431)), (190, (15, 0, 1435)), (204, (205, 1, 1448)), (208, (206, 1, 1452)), (211, (207, 1, 1456)), (214, (204, 1, 1444))]),
  (292, [(221, (208, 1, 1460)), (225, (209, 1, 1464)), (234, (210, 1, 1468)), (239, (33, 0, 1503)), (245, (254, 1, 1645)), (249, (213, 1, 1480)), (253, (214, 1, 1484)), (256, (216, 0, 1492)), (268, (79, 0, 1519)), (271, (222, 1, 1515)), (275, (220, 0, 1508)), (278, (221, 1, 1511)), (281, (223, 1, 1520)), (286, (225, 1, 1528)), (289, (226, 1, 1532)), (292, (227, 1, 1536))]),
  (353, [(295, (228, 1, 1541)), (298, (233, 1, 1561)), (301, (231, 1, 1553)), (304, (232, 1, 1557)), (307, (237, 1, 1577)), (311, (239, 0, 1585)), (314, (108, 0, 1588)), (317, (241, 1, 1593)), (320, (243, 1, 1601)), (324, (244, 1, 1605)), (329, (249, 1, 1626)), (333, (256, 1, 1655)), (339, (171, 0, 1664)), (342, (260, 1, 1673)), (349, (264, 1, 1689)), (353, (267, 1, 1701))]),
  (396, [(356, (272, 0, 1721)), (359, (270, 1, 1713)), (362, (275, 1, 1732)), (365, (271, 1, 1717)), (370, (274, 1, 1728)), (374, (164, 0, 1737)), (379, (276, 1, 1738)), (382, (269, 1, 1709)), (385, (273, 1, 1724)), (390, (250, 0, 1630)), (393, (283, 1, 1767)), (396, (284, 0, 1771))])])
def z_PL : List z_Pl := [z_pool_0, z_pool_1, z_pool_2, z_pool_3, z_pool_4, z_pool_5, z_pool_6, z_pool_7, z_pool_8, z_pool_9, z_pool_10, z_pool_11, z_pool_12, z_pool_13, z_pool_14, z_pool_15]
def z_CT : List z_Ct := [("ChaffInTheWind", [("ChaffInTheWind", "signs", "LChaffInTheWind$Signs;", true), ("ChaffInTheWind", "told", "LChaffInTheWind$Row;", true), ("ChaffInTheWind", "barn", "LChaffInTheWind$Barn;", true), ("ChaffInTheWind", "store", "LChaffInTheWind$Store;", true), ("ChaffInTheWind", "kept", "[LChaffInTheWind$Store;", true), ("ChaffInTheWind", "gusts", "LChaffInTheWind$Gusts;", false), ("ChaffInTheWind", "gustsToBe", "LChaffInTheWind$Gusts;", false), ("ChaffInTheWind", "market", "LChaffInTheWind$Market;", true), ("ChaffInTheWind", "passes", "[LChaffInTheWind$Pass;", true), ("ChaffInTheWind", "passCount", "I", false), ("ChaffInTheWind", "landed", "[I", true), ("ChaffInTheWind", "landedFrom", "[[I", true), ("ChaffInTheWind", "oneHeap", "[I", true), ("ChaffInTheWind", "otherHeap", "[I", true), ("ChaffInTheWind", "worthOfYards", "[[I", true), ("ChaffInTheWind", "worthFrom", "[[I", true), ("ChaffInTheWind", "staying", "[I", true), ("ChaffInTheWind", "picked", "I", false)]),
  ("ChaffInTheWind$Signs", [("ChaffInTheWind$Signs", "sign", "[C", true), ("ChaffInTheWind$Signs", "length", "I", false), ("ChaffInTheWind$Signs", "place", "I", false), ("ChaffInTheWind$Signs", "limit", "I", false), ("ChaffInTheWind$Signs", "more", "Z", false)]),
  ("ChaffInTheWind$Row", [("ChaffInTheWind$Row", "number", "[J", true), ("ChaffInTheWind$Row", "length", "I", false)]),
  ("ChaffInTheWind$Barn", [("ChaffInTheWind$Barn", "kind", "[I", true), ("ChaffInTheWind$Barn", "weight", "[I", true), ("ChaffInTheWind$Barn", "size", "[I", true), ("ChaffInTheWind$Barn", "drag", "[I", true), ("ChaffInTheWind$Barn", "many", "[I", true), ("ChaffInTheWind$Barn", "sorts", "I", false), ("ChaffInTheWind$Barn", "yards", "I", false), ("ChaffInTheWind$Barn", "sortsToBe", "I", false), ("ChaffInTheWind$Barn", "yardsToBe", "I", false), ("ChaffInTheWind$Barn", "standToBe", "I", false), ("ChaffInTheWind$Barn", "setting", "[I", true), ("ChaffInTheWind$Barn", "flight", "LChaffInTheWind$Flight;", true), ("ChaffInTheWind$Barn", "chart", "[[I", true)]),
  ("ChaffInTheWind$Flight", [("ChaffInTheWind$Flight", "pull", "I", false), ("ChaffInTheWind$Flight", "drag", "I", false), ("ChaffInTheWind$Flight", "wind", "I", false), ("ChaffInTheWind$Flight", "drift", "I", false), ("ChaffInTheWind$Flight", "ticks", "I", false), ("ChaffInTheWind$Flight", "x", "I", false), ("ChaffInTheWind$Flight", "speed", "I", false), ("ChaffInTheWind$Flight", "fallen", "I", false)]),
  ("ChaffInTheWind$Store", [("ChaffInTheWind$Store", "heaps", "[[I", true), ("ChaffInTheWind$Store", "yards", "[[I", true), ("ChaffInTheWind$Store", "out", "[I", true), ("ChaffInTheWind$Store", "thrown", "I", false), ("ChaffInTheWind$Store", "random", "I", false), ("ChaffInTheWind$Store", "keptYards", "I", false)]),
  ("ChaffInTheWind$Gusts", [("ChaffInTheWind$Gusts", "winds", "[I", true), ("ChaffInTheWind$Gusts", "times", "[I", true), ("ChaffInTheWind$Gusts", "spreads", "[I", true), ("ChaffInTheWind$Gusts", "lines", "I", false), ("ChaffInTheWind$Gusts", "round", "I", false)]),
  ("ChaffInTheWind$Market", [("ChaffInTheWind$Market", "formulas", "[LChaffInTheWind$Formula;", true), ("ChaffInTheWind$Market", "toBe", "LChaffInTheWind$Formula;", false), ("ChaffInTheWind$Market", "things", "[I", true), ("ChaffInTheWind$Market", "chosen", "I", false)]),
  ("ChaffInTheWind$Formula", [("ChaffInTheWind$Formula", "code", "[I", true), ("ChaffInTheWind$Formula", "stack", "[I", true), ("ChaffInTheWind$Formula", "length", "I", false)]),
  ("ChaffInTheWind$Pass", [("ChaffInTheWind$Pass", "isFan", "Z", true), ("ChaffInTheWind$Pass", "wind", "I", true), ("ChaffInTheWind$Pass", "from", "I", true), ("ChaffInTheWind$Pass", "to", "I", true), ("ChaffInTheWind$Pass", "hole", "I", true), ("ChaffInTheWind$Pass", "over", "Z", true)]),
  ("ChaffInTheWindModel", [("ChaffInTheWindModel", "sorts", "I", false), ("ChaffInTheWindModel", "kind", "[I", true), ("ChaffInTheWindModel", "weight", "[I", true), ("ChaffInTheWindModel", "size", "[I", true), ("ChaffInTheWindModel", "drag", "[I", true), ("ChaffInTheWindModel", "length", "I", false), ("ChaffInTheWindModel", "grains", "[I", true), ("ChaffInTheWindModel", "sets", "[I", true), ("ChaffInTheWindModel", "throwsGone", "I", false), ("ChaffInTheWindModel", "random", "I", false), ("ChaffInTheWindModel", "text", "[B", true), ("ChaffInTheWindModel", "typed", "I", false), ("ChaffInTheWindModel", "row", "[J", true), ("ChaffInTheWindModel", "rowMany", "I", false), ("ChaffInTheWindModel", "thrown", "I", false), ("ChaffInTheWindModel", "read", "[B", false), ("ChaffInTheWindModel", "readSize", "I", false), ("ChaffInTheWindModel", "top", "I", false), ("ChaffInTheWindModel", "here0", "I", false), ("ChaffInTheWindModel", "wrong", "I", false), ("ChaffInTheWindModel", "newMany", "[I", true), ("ChaffInTheWindModel", "lines", "I", false), ("ChaffInTheWindModel", "blowing", "[I", true), ("ChaffInTheWindModel", "times", "[I", true), ("ChaffInTheWindModel", "varies", "[I", true), ("ChaffInTheWindModel", "newLine", "[I", true), ("ChaffInTheWindModel", "lineLeft", "I", false), ("ChaffInTheWindModel", "said", "[[B", true), ("ChaffInTheWindModel", "saidSize", "[I", true), ("ChaffInTheWindModel", "isLaw", "Z", false), ("ChaffInTheWindModel", "askedRow", "[I", false), ("ChaffInTheWindModel", "askedAt", "I", false), ("ChaffInTheWindModel", "askedSort", "I", false), ("ChaffInTheWindModel", "askedStroke", "I", false), ("ChaffInTheWindModel", "worthBy", "I", false), ("ChaffInTheWindModel", "ticks", "I", false), ("ChaffInTheWindModel", "farX", "I", false), ("ChaffInTheWindModel", "fast", "I", false), ("ChaffInTheWindModel", "cornIn", "[I", true), ("ChaffInTheWindModel", "allIn", "[I", true), ("ChaffInTheWindModel", "chaffIn", "[I", true), ("ChaffInTheWindModel", "spanWorth", "[I", true), ("ChaffInTheWindModel", "span", "[I", true), ("ChaffInTheWindModel", "mostFrom", "[J", true), ("ChaffInTheWindModel", "passMany", "I", false), ("ChaffInTheWindModel", "isFan", "[Z", true), ("ChaffInTheWindModel", "passWind", "[I", true), ("ChaffInTheWindModel", "passFrom", "[I", true), ("ChaffInTheWindModel", "passTo", "[I", true), ("ChaffInTheWindModel", "isOver", "[Z", true), ("ChaffInTheWindModel", "kept", "[I", true), ("ChaffInTheWindModel", "isKept", "[Z", true), ("ChaffInTheWindModel", "keptSorts", "[I", true), ("ChaffInTheWindModel", "keptLength", "[I", true), ("ChaffInTheWindModel", "keptThrows", "[I", true), ("ChaffInTheWindModel", "keptRandom", "[I", true)])]
def z_FTs : List (List FieldType) := [[(.object "ChaffInTheWind$Signs"), (.object "ChaffInTheWind$Row"), (.object "ChaffInTheWind$Barn"), (.object "ChaffInTheWind$Store"), (.array (.object "ChaffInTheWind$Store")), (.object "ChaffInTheWind$Gusts"), (.object "ChaffInTheWind$Gusts"), (.object "ChaffInTheWind$Market"), (.array (.object "ChaffInTheWind$Pass")), .int, (.array .int), (.array (.array .int)), (.array .int), (.array .int), (.array (.array .int)), (.array (.array .int)), (.array .int), .int], [(.array .char), .int, .int, .int, .boolean], [(.array .long), .int], [(.array .int), (.array .int), (.array .int), (.array .int), (.array .int), .int, .int, .int, .int, .int, (.array .int), (.object "ChaffInTheWind$Flight"), (.array (.array .int))], [.int, .int, .int, .int, .int, .int, .int, .int], [(.array (.array .int)), (.array (.array .int)), (.array .int), .int, .int, .int], [(.array .int), (.array .int), (.array .int), .int, .int], [(.array (.object "ChaffInTheWind$Formula")), (.object "ChaffInTheWind$Formula"), (.array .int), .int], [(.array .int), (.array .int), .int], [.boolean, .int, .int, .int, .int, .boolean], [.int, (.array .int), (.array .int), (.array .int), (.array .int), .int, (.array .int), (.array .int), .int, .int, (.array .byte), .int, (.array .long), .int, .int, (.array .byte), .int, .int, .int, .int, (.array .int), .int, (.array .int), (.array .int), (.array .int), (.array .int), .int, (.array (.array .byte)), (.array .int), .boolean, (.array .int), .int, .int, .int, .int, .int, .int, .int, (.array .int), (.array .int), (.array .int), (.array .int), (.array .int), (.array .long), .int, (.array .boolean), (.array .int), (.array .int), (.array .int), (.array .boolean), (.array .int), (.array .boolean), (.array .int), (.array .int), (.array .int), (.array .int)]]
def z_LW : List (List Nat) := [[287, 289, 291, 293, 295, 297, 299, 301, 303, 305, 307, 309, 311, 313, 315, 317, 319, 321], [45, 47, 49, 51, 53], [67, 69], [145, 147, 149, 151, 153, 155, 157, 159, 161, 163, 165, 167, 169], [97, 99, 101, 103, 105, 107, 109, 111], [191, 193, 195, 197, 199, 201], [217, 219, 221, 223, 225], [257, 259, 261, 263], [245, 247, 249], [968, 970, 972, 974, 976, 978], [1267, 1269, 1271, 1273, 1275, 1277, 1279, 1281, 1283, 1285, 1287, 1289, 1291, 1293, 1295, 1297, 1299, 1301, 1303, 1305, 1307, 1309, 1311, 1313, 1315, 1317, 1319, 1321, 1323, 1325, 1327, 1329, 1331, 1333, 1335, 1337, 1339, 1341, 1343, 1345, 1347, 1349, 1351, 1353, 1355, 1357, 1359, 1361, 1363, 1365, 1367, 1369, 1371, 1373, 1375, 1377]]
def z_acl : List (Option Nat) := [none, none, none, none, none, none, some 5, some 8, some 9, none]
def z_atys : List FieldType := [.boolean, .byte, .char, .int, .long, .array .int, .object "ChaffInTheWind$Store", .object "ChaffInTheWind$Formula", .object "ChaffInTheWind$Pass", .array .byte]
def z_rsl : List (String × Nat × String × Nat) := [("ChaffInTheWind$Barn", 89, "chws", 0), ("ChaffInTheWind$Market", 30, "wzdik", 1), ("ChaffInTheWind$Market", 32, "mchwsnkp", 2), ("ChaffInTheWind$Formula", 53, "*/", 3), ("ChaffInTheWind$Formula", 48, "+-", 4), ("ChaffInTheWind$Formula", 35, "<>=", 5)]
def z_strl : List (List Int32) := [[99, 104, 119, 115], [119, 122, 100, 105, 107], [109, 99, 104, 119, 115, 110, 107, 112], [42, 47], [43, 45], [60, 62, 61]]
def z_gws : Nat × Nat × Nat × Nat × Nat := (31, 32, 922, 921, 22)
def z_aws : Nat × Nat × Nat × Nat × Nat := (1380, 510, 56, 114, 72)
def z_G : z_Pg := z_mkG z_M z_PL z_CT z_FTs z_acl z_strl
end ZPROG
end
section
section ZTRY
def z_nl : z_av := .inr (.inr (true, []))
def z_t0 : z_as_ := ((0, 0, [(0, .inr (.inr (false, [0])))], [], 0, 0), [], [(0, (true, true), none, [z_nl, z_nl, z_nl, z_nl, z_nl, z_nl, z_nl, z_nl, z_nl, .inl (z_tc 0), z_nl, z_nl, z_nl, z_nl, z_nl, z_nl, z_nl, .inl (z_tc 0)])], 1, [], 1)
def z_arg (n k : Nat) : List (Nat × z_av) := (0, .inr (.inr (false, [0]))) :: (List.range k).map fun j => (j + 1, .inl (n + j, 0, 0, -2147483648, 2147483647))
def z_tst (y k : Nat) : Bool := z_walk z_G (fun _ _ => false) 0 (fun S _ => z_walk z_G (fun _ _ => false) 0 (fun _ _ => true) 100000 [(20, ((y, 0, z_arg S.2.2.2.1 k, [], 0, 0), [], S.2.2.1, S.2.2.2.1 + k, [], S.2.2.2.2.2))]) 20000 [(20, z_t0)]
/-- set -/
theorem z_try_set : z_tst 56 2 = true := by decide +kernel
/-- best -/
theorem z_try_best : z_tst 113 1 = true := by decide +kernel
/-- count -/
theorem z_try_count : z_tst 181 1 = true := by decide +kernel
/-- never -/
theorem z_try_never : z_tst 110 0 = true := by decide +kernel
end ZTRY
end
