-- ===== PART A: goes FIRST, ahead of the names: the tables' words, and 'selects' of the private methods out of them =====
/-- a private method of a class that the tables say can be made, by its rows of tables_1 -/
def lw_okq (q : MethodName × Nat) : Prop := (q.1.cls ≠ "java/lang/invoke/MethodHandle" ∧ q.1.cls ≠ "java/lang/invoke/VarHandle") ∧ Cond.instantiable q.1.cls q.2 ∈ tables_1 ∧ Cond.privateMethod q.1 ∈ tables_1 ∧ Cond.instanceMethod q.1 ∈ tables_1
theorem lw_p0 : lw_okq (⟨"FieldKeeper", "isWeekToCome", "(I)Z"⟩, 16) := ⟨⟨by decide +kernel, by decide +kernel⟩, List.mem_of_getElem? (i := 21) (by decide +kernel), List.mem_of_getElem? (i := 237) (by decide +kernel), List.mem_of_getElem? (i := 238) (by decide +kernel)⟩
theorem lw_p1 : lw_okq (⟨"FieldKeeper", "showWeek", "(I)V"⟩, 16) := ⟨⟨by decide +kernel, by decide +kernel⟩, List.mem_of_getElem? (i := 21) (by decide +kernel), List.mem_of_getElem? (i := 291) (by decide +kernel), List.mem_of_getElem? (i := 292) (by decide +kernel)⟩
theorem lw_p2 : lw_okq (⟨"FieldKeeper", "layGame", "(LFieldKeeper$Game;)V"⟩, 16) := ⟨⟨by decide +kernel, by decide +kernel⟩, List.mem_of_getElem? (i := 21) (by decide +kernel), List.mem_of_getElem? (i := 306) (by decide +kernel), List.mem_of_getElem? (i := 307) (by decide +kernel)⟩
theorem lw_p3 : lw_okq (⟨"FieldKeeper", "firstWish", "(LFieldKeeper$Game;I)I"⟩, 16) := ⟨⟨by decide +kernel, by decide +kernel⟩, List.mem_of_getElem? (i := 21) (by decide +kernel), List.mem_of_getElem? (i := 310) (by decide +kernel), List.mem_of_getElem? (i := 311) (by decide +kernel)⟩
theorem lw_p4 : lw_okq (⟨"FieldKeeper", "layInPlaceOfAnother", "(LFieldKeeper$Game;)V"⟩, 16) := ⟨⟨by decide +kernel, by decide +kernel⟩, List.mem_of_getElem? (i := 21) (by decide +kernel), List.mem_of_getElem? (i := 327) (by decide +kernel), List.mem_of_getElem? (i := 328) (by decide +kernel)⟩
theorem lw_p5 : lw_okq (⟨"FieldKeeper", "givesWay", "(LFieldKeeper$Game;LFieldKeeper$Game;)Z"⟩, 16) := ⟨⟨by decide +kernel, by decide +kernel⟩, List.mem_of_getElem? (i := 21) (by decide +kernel), List.mem_of_getElem? (i := 331) (by decide +kernel), List.mem_of_getElem? (i := 332) (by decide +kernel)⟩
theorem lw_p6 : lw_okq (⟨"FieldKeeper", "newGamesOf", "(I)I"⟩, 16) := ⟨⟨by decide +kernel, by decide +kernel⟩, List.mem_of_getElem? (i := 21) (by decide +kernel), List.mem_of_getElem? (i := 339) (by decide +kernel), List.mem_of_getElem? (i := 340) (by decide +kernel)⟩
theorem lw_p7 : lw_okq (⟨"FieldKeeper$Tokens", "addToken", "(LFieldKeeper$Tape;III)V"⟩, 4) := ⟨⟨by decide +kernel, by decide +kernel⟩, List.mem_of_getElem? (i := 64) (by decide +kernel), List.mem_of_getElem? (i := 363) (by decide +kernel), List.mem_of_getElem? (i := 364) (by decide +kernel)⟩
theorem lw_p8 : lw_okq (⟨"FieldKeeper$Reader", "sees", "(I)Z"⟩, 4) := ⟨⟨by decide +kernel, by decide +kernel⟩, List.mem_of_getElem? (i := 87) (by decide +kernel), List.mem_of_getElem? (i := 453) (by decide +kernel), List.mem_of_getElem? (i := 454) (by decide +kernel)⟩
theorem lw_p9 : lw_okq (⟨"FieldKeeper$Reader", "readLine", "(I)V"⟩, 4) := ⟨⟨by decide +kernel, by decide +kernel⟩, List.mem_of_getElem? (i := 87) (by decide +kernel), List.mem_of_getElem? (i := 457) (by decide +kernel), List.mem_of_getElem? (i := 458) (by decide +kernel)⟩
theorem lw_p10 : lw_okq (⟨"FieldKeeper$Reader", "refuse", "(I)V"⟩, 4) := ⟨⟨by decide +kernel, by decide +kernel⟩, List.mem_of_getElem? (i := 87) (by decide +kernel), List.mem_of_getElem? (i := 461) (by decide +kernel), List.mem_of_getElem? (i := 462) (by decide +kernel)⟩
theorem lw_p11 : lw_okq (⟨"FieldKeeper$Reader", "take", "(I)V"⟩, 4) := ⟨⟨by decide +kernel, by decide +kernel⟩, List.mem_of_getElem? (i := 87) (by decide +kernel), List.mem_of_getElem? (i := 465) (by decide +kernel), List.mem_of_getElem? (i := 466) (by decide +kernel)⟩
theorem lw_p12 : lw_okq (⟨"FieldKeeper$Reader", "readWhich", "()I"⟩, 4) := ⟨⟨by decide +kernel, by decide +kernel⟩, List.mem_of_getElem? (i := 87) (by decide +kernel), List.mem_of_getElem? (i := 469) (by decide +kernel), List.mem_of_getElem? (i := 470) (by decide +kernel)⟩
theorem lw_p13 : lw_okq (⟨"FieldKeeper$Reader", "step", "()V"⟩, 4) := ⟨⟨by decide +kernel, by decide +kernel⟩, List.mem_of_getElem? (i := 87) (by decide +kernel), List.mem_of_getElem? (i := 473) (by decide +kernel), List.mem_of_getElem? (i := 474) (by decide +kernel)⟩
theorem lw_p14 : lw_okq (⟨"FieldKeeper$Reader", "readAnds", "(I)V"⟩, 4) := ⟨⟨by decide +kernel, by decide +kernel⟩, List.mem_of_getElem? (i := 87) (by decide +kernel), List.mem_of_getElem? (i := 477) (by decide +kernel), List.mem_of_getElem? (i := 478) (by decide +kernel)⟩
theorem lw_p15 : lw_okq (⟨"FieldKeeper$Reader", "readTest", "(I)V"⟩, 4) := ⟨⟨by decide +kernel, by decide +kernel⟩, List.mem_of_getElem? (i := 87) (by decide +kernel), List.mem_of_getElem? (i := 481) (by decide +kernel), List.mem_of_getElem? (i := 482) (by decide +kernel)⟩
def lw_privs_1 : List (MethodName × Nat) := [(⟨"FieldKeeper", "isWeekToCome", "(I)Z"⟩, 16), (⟨"FieldKeeper", "showWeek", "(I)V"⟩, 16), (⟨"FieldKeeper", "layGame", "(LFieldKeeper$Game;)V"⟩, 16), (⟨"FieldKeeper", "firstWish", "(LFieldKeeper$Game;I)I"⟩, 16), (⟨"FieldKeeper", "layInPlaceOfAnother", "(LFieldKeeper$Game;)V"⟩, 16), (⟨"FieldKeeper", "givesWay", "(LFieldKeeper$Game;LFieldKeeper$Game;)Z"⟩, 16), (⟨"FieldKeeper", "newGamesOf", "(I)I"⟩, 16), (⟨"FieldKeeper$Tokens", "addToken", "(LFieldKeeper$Tape;III)V"⟩, 4), (⟨"FieldKeeper$Reader", "sees", "(I)Z"⟩, 4), (⟨"FieldKeeper$Reader", "readLine", "(I)V"⟩, 4), (⟨"FieldKeeper$Reader", "refuse", "(I)V"⟩, 4), (⟨"FieldKeeper$Reader", "take", "(I)V"⟩, 4), (⟨"FieldKeeper$Reader", "readWhich", "()I"⟩, 4), (⟨"FieldKeeper$Reader", "step", "()V"⟩, 4), (⟨"FieldKeeper$Reader", "readAnds", "(I)V"⟩, 4), (⟨"FieldKeeper$Reader", "readTest", "(I)V"⟩, 4)]
theorem lw_r1 : ∀ q ∈ lw_privs_1, lw_okq q := List.forall_mem_cons.mpr ⟨lw_p0, List.forall_mem_cons.mpr ⟨lw_p1, List.forall_mem_cons.mpr ⟨lw_p2, List.forall_mem_cons.mpr ⟨lw_p3, List.forall_mem_cons.mpr ⟨lw_p4, List.forall_mem_cons.mpr ⟨lw_p5, List.forall_mem_cons.mpr ⟨lw_p6, List.forall_mem_cons.mpr ⟨lw_p7, List.forall_mem_cons.mpr ⟨lw_p8, List.forall_mem_cons.mpr ⟨lw_p9, List.forall_mem_cons.mpr ⟨lw_p10, List.forall_mem_cons.mpr ⟨lw_p11, List.forall_mem_cons.mpr ⟨lw_p12, List.forall_mem_cons.mpr ⟨lw_p13, List.forall_mem_cons.mpr ⟨lw_p14, List.forall_mem_cons.mpr ⟨lw_p15, fun _ h => absurd h List.not_mem_nil⟩⟩⟩⟩⟩⟩⟩⟩⟩⟩⟩⟩⟩⟩⟩⟩
theorem lw_p16 : lw_okq (⟨"FieldKeeper$Reader", "readSum", "(I)V"⟩, 4) := ⟨⟨by decide +kernel, by decide +kernel⟩, List.mem_of_getElem? (i := 87) (by decide +kernel), List.mem_of_getElem? (i := 485) (by decide +kernel), List.mem_of_getElem? (i := 486) (by decide +kernel)⟩
theorem lw_p17 : lw_okq (⟨"FieldKeeper$Reader", "readPart", "(I)V"⟩, 4) := ⟨⟨by decide +kernel, by decide +kernel⟩, List.mem_of_getElem? (i := 87) (by decide +kernel), List.mem_of_getElem? (i := 489) (by decide +kernel), List.mem_of_getElem? (i := 490) (by decide +kernel)⟩
theorem lw_p18 : lw_okq (⟨"FieldKeeper", "beginWeek", "()V"⟩, 16) := ⟨⟨by decide +kernel, by decide +kernel⟩, List.mem_of_getElem? (i := 21) (by decide +kernel), List.mem_of_getElem? (i := 506) (by decide +kernel), List.mem_of_getElem? (i := 507) (by decide +kernel)⟩
theorem lw_p19 : lw_okq (⟨"FieldKeeper", "passHour", "(III)V"⟩, 16) := ⟨⟨by decide +kernel, by decide +kernel⟩, List.mem_of_getElem? (i := 21) (by decide +kernel), List.mem_of_getElem? (i := 510) (by decide +kernel), List.mem_of_getElem? (i := 511) (by decide +kernel)⟩
theorem lw_p20 : lw_okq (⟨"FieldKeeper", "gameIn", "(II)I"⟩, 16) := ⟨⟨by decide +kernel, by decide +kernel⟩, List.mem_of_getElem? (i := 21) (by decide +kernel), List.mem_of_getElem? (i := 521) (by decide +kernel), List.mem_of_getElem? (i := 522) (by decide +kernel)⟩
theorem lw_p21 : lw_okq (⟨"FieldKeeper", "isShut", "(III)Z"⟩, 16) := ⟨⟨by decide +kernel, by decide +kernel⟩, List.mem_of_getElem? (i := 21) (by decide +kernel), List.mem_of_getElem? (i := 525) (by decide +kernel), List.mem_of_getElem? (i := 526) (by decide +kernel)⟩
theorem lw_p22 : lw_okq (⟨"FieldKeeper$Rules", "worth", "(II[I)I"⟩, 7) := ⟨⟨by decide +kernel, by decide +kernel⟩, List.mem_of_getElem? (i := 106) (by decide +kernel), List.mem_of_getElem? (i := 544) (by decide +kernel), List.mem_of_getElem? (i := 545) (by decide +kernel)⟩
theorem lw_p23 : lw_okq (⟨"FieldKeeper$Rules", "push", "(I)V"⟩, 7) := ⟨⟨by decide +kernel, by decide +kernel⟩, List.mem_of_getElem? (i := 106) (by decide +kernel), List.mem_of_getElem? (i := 548) (by decide +kernel), List.mem_of_getElem? (i := 549) (by decide +kernel)⟩
theorem lw_p24 : lw_okq (⟨"FieldKeeper$Rules", "pop", "()I"⟩, 7) := ⟨⟨by decide +kernel, by decide +kernel⟩, List.mem_of_getElem? (i := 106) (by decide +kernel), List.mem_of_getElem? (i := 552) (by decide +kernel), List.mem_of_getElem? (i := 553) (by decide +kernel)⟩
theorem lw_p25 : lw_okq (⟨"FieldKeeper", "sendAway", "(LFieldKeeper$Game;I)V"⟩, 16) := ⟨⟨by decide +kernel, by decide +kernel⟩, List.mem_of_getElem? (i := 21) (by decide +kernel), List.mem_of_getElem? (i := 559) (by decide +kernel), List.mem_of_getElem? (i := 560) (by decide +kernel)⟩
theorem lw_p26 : lw_okq (⟨"FieldKeeper", "playGame", "(LFieldKeeper$Game;LFieldKeeper$Pitch;)V"⟩, 16) := ⟨⟨by decide +kernel, by decide +kernel⟩, List.mem_of_getElem? (i := 21) (by decide +kernel), List.mem_of_getElem? (i := 563) (by decide +kernel), List.mem_of_getElem? (i := 564) (by decide +kernel)⟩
theorem lw_p27 : lw_okq (⟨"FieldKeeper", "isPitch", "(I)Z"⟩, 16) := ⟨⟨by decide +kernel, by decide +kernel⟩, List.mem_of_getElem? (i := 21) (by decide +kernel), List.mem_of_getElem? (i := 587) (by decide +kernel), List.mem_of_getElem? (i := 588) (by decide +kernel)⟩
theorem lw_p28 : lw_okq (⟨"FieldKeeper", "gamesThatAre", "(I)I"⟩, 16) := ⟨⟨by decide +kernel, by decide +kernel⟩, List.mem_of_getElem? (i := 21) (by decide +kernel), List.mem_of_getElem? (i := 615) (by decide +kernel), List.mem_of_getElem? (i := 616) (by decide +kernel)⟩
theorem lw_p29 : lw_okq (⟨"FieldKeeper", "allHoursShut", "()I"⟩, 16) := ⟨⟨by decide +kernel, by decide +kernel⟩, List.mem_of_getElem? (i := 21) (by decide +kernel), List.mem_of_getElem? (i := 619) (by decide +kernel), List.mem_of_getElem? (i := 620) (by decide +kernel)⟩
theorem lw_p30 : lw_okq (⟨"java/lang/Throwable", "fillInStackTrace", "(I)Ljava/lang/Throwable;"⟩, 6) := ⟨⟨by decide +kernel, by decide +kernel⟩, List.mem_of_getElem? (i := 667) (by decide +kernel), List.mem_of_getElem? (i := 665) (by decide +kernel), List.mem_of_getElem? (i := 666) (by decide +kernel)⟩
theorem lw_p31 : lw_okq (⟨"FieldKeeperModel", "lay", "(J)V"⟩, 46) := ⟨⟨by decide +kernel, by decide +kernel⟩, List.mem_of_getElem? (i := 696) (by decide +kernel), List.mem_of_getElem? (i := 862) (by decide +kernel), List.mem_of_getElem? (i := 863) (by decide +kernel)⟩
def lw_privs_2 : List (MethodName × Nat) := [(⟨"FieldKeeper$Reader", "readSum", "(I)V"⟩, 4), (⟨"FieldKeeper$Reader", "readPart", "(I)V"⟩, 4), (⟨"FieldKeeper", "beginWeek", "()V"⟩, 16), (⟨"FieldKeeper", "passHour", "(III)V"⟩, 16), (⟨"FieldKeeper", "gameIn", "(II)I"⟩, 16), (⟨"FieldKeeper", "isShut", "(III)Z"⟩, 16), (⟨"FieldKeeper$Rules", "worth", "(II[I)I"⟩, 7), (⟨"FieldKeeper$Rules", "push", "(I)V"⟩, 7), (⟨"FieldKeeper$Rules", "pop", "()I"⟩, 7), (⟨"FieldKeeper", "sendAway", "(LFieldKeeper$Game;I)V"⟩, 16), (⟨"FieldKeeper", "playGame", "(LFieldKeeper$Game;LFieldKeeper$Pitch;)V"⟩, 16), (⟨"FieldKeeper", "isPitch", "(I)Z"⟩, 16), (⟨"FieldKeeper", "gamesThatAre", "(I)I"⟩, 16), (⟨"FieldKeeper", "allHoursShut", "()I"⟩, 16), (⟨"java/lang/Throwable", "fillInStackTrace", "(I)Ljava/lang/Throwable;"⟩, 6), (⟨"FieldKeeperModel", "lay", "(J)V"⟩, 46)]
theorem lw_r2 : ∀ q ∈ lw_privs_2, lw_okq q := List.forall_mem_cons.mpr ⟨lw_p16, List.forall_mem_cons.mpr ⟨lw_p17, List.forall_mem_cons.mpr ⟨lw_p18, List.forall_mem_cons.mpr ⟨lw_p19, List.forall_mem_cons.mpr ⟨lw_p20, List.forall_mem_cons.mpr ⟨lw_p21, List.forall_mem_cons.mpr ⟨lw_p22, List.forall_mem_cons.mpr ⟨lw_p23, List.forall_mem_cons.mpr ⟨lw_p24, List.forall_mem_cons.mpr ⟨lw_p25, List.forall_mem_cons.mpr ⟨lw_p26, List.forall_mem_cons.mpr ⟨lw_p27, List.forall_mem_cons.mpr ⟨lw_p28, List.forall_mem_cons.mpr ⟨lw_p29, List.forall_mem_cons.mpr ⟨lw_p30, List.forall_mem_cons.mpr ⟨lw_p31, fun _ h => absurd h List.not_mem_nil⟩⟩⟩⟩⟩⟩⟩⟩⟩⟩⟩⟩⟩⟩⟩⟩
theorem lw_p32 : lw_okq (⟨"FieldKeeperModel", "cutAll", "()V"⟩, 46) := ⟨⟨by decide +kernel, by decide +kernel⟩, List.mem_of_getElem? (i := 696) (by decide +kernel), List.mem_of_getElem? (i := 870) (by decide +kernel), List.mem_of_getElem? (i := 871) (by decide +kernel)⟩
theorem lw_p33 : lw_okq (⟨"FieldKeeperModel", "line", "()V"⟩, 46) := ⟨⟨by decide +kernel, by decide +kernel⟩, List.mem_of_getElem? (i := 696) (by decide +kernel), List.mem_of_getElem? (i := 889) (by decide +kernel), List.mem_of_getElem? (i := 890) (by decide +kernel)⟩
theorem lw_p34 : lw_okq (⟨"FieldKeeperModel", "isWord", "(I)Z"⟩, 46) := ⟨⟨by decide +kernel, by decide +kernel⟩, List.mem_of_getElem? (i := 696) (by decide +kernel), List.mem_of_getElem? (i := 893) (by decide +kernel), List.mem_of_getElem? (i := 894) (by decide +kernel)⟩
theorem lw_p35 : lw_okq (⟨"FieldKeeperModel", "wrong", "(I)V"⟩, 46) := ⟨⟨by decide +kernel, by decide +kernel⟩, List.mem_of_getElem? (i := 696) (by decide +kernel), List.mem_of_getElem? (i := 897) (by decide +kernel), List.mem_of_getElem? (i := 898) (by decide +kernel)⟩
theorem lw_p36 : lw_okq (⟨"FieldKeeperModel", "hasWord", "(I)Z"⟩, 46) := ⟨⟨by decide +kernel, by decide +kernel⟩, List.mem_of_getElem? (i := 696) (by decide +kernel), List.mem_of_getElem? (i := 901) (by decide +kernel), List.mem_of_getElem? (i := 902) (by decide +kernel)⟩
theorem lw_p37 : lw_okq (⟨"FieldKeeperModel", "takeWord", "(I)V"⟩, 46) := ⟨⟨by decide +kernel, by decide +kernel⟩, List.mem_of_getElem? (i := 696) (by decide +kernel), List.mem_of_getElem? (i := 906) (by decide +kernel), List.mem_of_getElem? (i := 907) (by decide +kernel)⟩
theorem lw_p38 : lw_okq (⟨"FieldKeeperModel", "opens", "()V"⟩, 46) := ⟨⟨by decide +kernel, by decide +kernel⟩, List.mem_of_getElem? (i := 696) (by decide +kernel), List.mem_of_getElem? (i := 910) (by decide +kernel), List.mem_of_getElem? (i := 911) (by decide +kernel)⟩
theorem lw_p39 : lw_okq (⟨"FieldKeeperModel", "part", "()Z"⟩, 46) := ⟨⟨by decide +kernel, by decide +kernel⟩, List.mem_of_getElem? (i := 696) (by decide +kernel), List.mem_of_getElem? (i := 914) (by decide +kernel), List.mem_of_getElem? (i := 915) (by decide +kernel)⟩
theorem lw_p40 : lw_okq (⟨"FieldKeeperModel", "partWord", "()I"⟩, 46) := ⟨⟨by decide +kernel, by decide +kernel⟩, List.mem_of_getElem? (i := 696) (by decide +kernel), List.mem_of_getElem? (i := 918) (by decide +kernel), List.mem_of_getElem? (i := 919) (by decide +kernel)⟩
theorem lw_p41 : lw_okq (⟨"FieldKeeperModel", "isSign", "(I)Z"⟩, 46) := ⟨⟨by decide +kernel, by decide +kernel⟩, List.mem_of_getElem? (i := 696) (by decide +kernel), List.mem_of_getElem? (i := 922) (by decide +kernel), List.mem_of_getElem? (i := 923) (by decide +kernel)⟩
theorem lw_p42 : lw_okq (⟨"FieldKeeperModel", "hasSign", "(I)Z"⟩, 46) := ⟨⟨by decide +kernel, by decide +kernel⟩, List.mem_of_getElem? (i := 696) (by decide +kernel), List.mem_of_getElem? (i := 926) (by decide +kernel), List.mem_of_getElem? (i := 927) (by decide +kernel)⟩
theorem lw_p43 : lw_okq (⟨"FieldKeeperModel", "emit", "(II)V"⟩, 46) := ⟨⟨by decide +kernel, by decide +kernel⟩, List.mem_of_getElem? (i := 696) (by decide +kernel), List.mem_of_getElem? (i := 930) (by decide +kernel), List.mem_of_getElem? (i := 931) (by decide +kernel)⟩
theorem lw_p44 : lw_okq (⟨"FieldKeeperModel", "goesOnBehind", "()Z"⟩, 46) := ⟨⟨by decide +kernel, by decide +kernel⟩, List.mem_of_getElem? (i := 696) (by decide +kernel), List.mem_of_getElem? (i := 934) (by decide +kernel), List.mem_of_getElem? (i := 935) (by decide +kernel)⟩
theorem lw_p45 : lw_okq (⟨"FieldKeeperModel", "takeSign", "(I)V"⟩, 46) := ⟨⟨by decide +kernel, by decide +kernel⟩, List.mem_of_getElem? (i := 696) (by decide +kernel), List.mem_of_getElem? (i := 938) (by decide +kernel), List.mem_of_getElem? (i := 939) (by decide +kernel)⟩
theorem lw_p46 : lw_okq (⟨"FieldKeeperModel", "isPitch", "(I)Z"⟩, 46) := ⟨⟨by decide +kernel, by decide +kernel⟩, List.mem_of_getElem? (i := 696) (by decide +kernel), List.mem_of_getElem? (i := 950) (by decide +kernel), List.mem_of_getElem? (i := 951) (by decide +kernel)⟩
theorem lw_p47 : lw_okq (⟨"FieldKeeperModel", "isGone", "(I)Z"⟩, 46) := ⟨⟨by decide +kernel, by decide +kernel⟩, List.mem_of_getElem? (i := 696) (by decide +kernel), List.mem_of_getElem? (i := 958) (by decide +kernel), List.mem_of_getElem? (i := 959) (by decide +kernel)⟩
def lw_privs_3 : List (MethodName × Nat) := [(⟨"FieldKeeperModel", "cutAll", "()V"⟩, 46), (⟨"FieldKeeperModel", "line", "()V"⟩, 46), (⟨"FieldKeeperModel", "isWord", "(I)Z"⟩, 46), (⟨"FieldKeeperModel", "wrong", "(I)V"⟩, 46), (⟨"FieldKeeperModel", "hasWord", "(I)Z"⟩, 46), (⟨"FieldKeeperModel", "takeWord", "(I)V"⟩, 46), (⟨"FieldKeeperModel", "opens", "()V"⟩, 46), (⟨"FieldKeeperModel", "part", "()Z"⟩, 46), (⟨"FieldKeeperModel", "partWord", "()I"⟩, 46), (⟨"FieldKeeperModel", "isSign", "(I)Z"⟩, 46), (⟨"FieldKeeperModel", "hasSign", "(I)Z"⟩, 46), (⟨"FieldKeeperModel", "emit", "(II)V"⟩, 46), (⟨"FieldKeeperModel", "goesOnBehind", "()Z"⟩, 46), (⟨"FieldKeeperModel", "takeSign", "(I)V"⟩, 46), (⟨"FieldKeeperModel", "isPitch", "(I)Z"⟩, 46), (⟨"FieldKeeperModel", "isGone", "(I)Z"⟩, 46)]
theorem lw_r3 : ∀ q ∈ lw_privs_3, lw_okq q := List.forall_mem_cons.mpr ⟨lw_p32, List.forall_mem_cons.mpr ⟨lw_p33, List.forall_mem_cons.mpr ⟨lw_p34, List.forall_mem_cons.mpr ⟨lw_p35, List.forall_mem_cons.mpr ⟨lw_p36, List.forall_mem_cons.mpr ⟨lw_p37, List.forall_mem_cons.mpr ⟨lw_p38, List.forall_mem_cons.mpr ⟨lw_p39, List.forall_mem_cons.mpr ⟨lw_p40, List.forall_mem_cons.mpr ⟨lw_p41, List.forall_mem_cons.mpr ⟨lw_p42, List.forall_mem_cons.mpr ⟨lw_p43, List.forall_mem_cons.mpr ⟨lw_p44, List.forall_mem_cons.mpr ⟨lw_p45, List.forall_mem_cons.mpr ⟨lw_p46, List.forall_mem_cons.mpr ⟨lw_p47, fun _ h => absurd h List.not_mem_nil⟩⟩⟩⟩⟩⟩⟩⟩⟩⟩⟩⟩⟩⟩⟩⟩
theorem lw_p48 : lw_okq (⟨"FieldKeeperModel", "laysOne", "(I)Z"⟩, 46) := ⟨⟨by decide +kernel, by decide +kernel⟩, List.mem_of_getElem? (i := 696) (by decide +kernel), List.mem_of_getElem? (i := 967) (by decide +kernel), List.mem_of_getElem? (i := 968) (by decide +kernel)⟩
theorem lw_p49 : lw_okq (⟨"FieldKeeperModel", "firstSlot", "(IIZI)I"⟩, 46) := ⟨⟨by decide +kernel, by decide +kernel⟩, List.mem_of_getElem? (i := 696) (by decide +kernel), List.mem_of_getElem? (i := 971) (by decide +kernel), List.mem_of_getElem? (i := 972) (by decide +kernel)⟩
theorem lw_p50 : lw_okq (⟨"FieldKeeperModel", "suits", "(II)Z"⟩, 46) := ⟨⟨by decide +kernel, by decide +kernel⟩, List.mem_of_getElem? (i := 696) (by decide +kernel), List.mem_of_getElem? (i := 975) (by decide +kernel), List.mem_of_getElem? (i := 976) (by decide +kernel)⟩
theorem lw_p51 : lw_okq (⟨"FieldKeeperModel", "gameAt", "(I)I"⟩, 46) := ⟨⟨by decide +kernel, by decide +kernel⟩, List.mem_of_getElem? (i := 696) (by decide +kernel), List.mem_of_getElem? (i := 979) (by decide +kernel), List.mem_of_getElem? (i := 980) (by decide +kernel)⟩
theorem lw_p52 : lw_okq (⟨"FieldKeeperModel", "isThere", "(I)Z"⟩, 46) := ⟨⟨by decide +kernel, by decide +kernel⟩, List.mem_of_getElem? (i := 696) (by decide +kernel), List.mem_of_getElem? (i := 983) (by decide +kernel), List.mem_of_getElem? (i := 984) (by decide +kernel)⟩
theorem lw_p53 : lw_okq (⟨"FieldKeeperModel", "hasClub", "(II)Z"⟩, 46) := ⟨⟨by decide +kernel, by decide +kernel⟩, List.mem_of_getElem? (i := 696) (by decide +kernel), List.mem_of_getElem? (i := 987) (by decide +kernel), List.mem_of_getElem? (i := 988) (by decide +kernel)⟩
theorem lw_p54 : lw_okq (⟨"FieldKeeperModel", "lays", "(II)V"⟩, 46) := ⟨⟨by decide +kernel, by decide +kernel⟩, List.mem_of_getElem? (i := 696) (by decide +kernel), List.mem_of_getElem? (i := 991) (by decide +kernel), List.mem_of_getElem? (i := 992) (by decide +kernel)⟩
theorem lw_p55 : lw_okq (⟨"FieldKeeperModel", "givesWay", "(II)Z"⟩, 46) := ⟨⟨by decide +kernel, by decide +kernel⟩, List.mem_of_getElem? (i := 696) (by decide +kernel), List.mem_of_getElem? (i := 995) (by decide +kernel), List.mem_of_getElem? (i := 996) (by decide +kernel)⟩
theorem lw_p56 : lw_okq (⟨"FieldKeeperModel", "hour", "(IIII)V"⟩, 46) := ⟨⟨by decide +kernel, by decide +kernel⟩, List.mem_of_getElem? (i := 696) (by decide +kernel), List.mem_of_getElem? (i := 1003) (by decide +kernel), List.mem_of_getElem? (i := 1004) (by decide +kernel)⟩
theorem lw_p57 : lw_okq (⟨"FieldKeeperModel", "isShut", "(I)Z"⟩, 46) := ⟨⟨by decide +kernel, by decide +kernel⟩, List.mem_of_getElem? (i := 696) (by decide +kernel), List.mem_of_getElem? (i := 1013) (by decide +kernel), List.mem_of_getElem? (i := 1014) (by decide +kernel)⟩
theorem lw_p58 : lw_okq (⟨"FieldKeeperModel", "worth", "(I)I"⟩, 46) := ⟨⟨by decide +kernel, by decide +kernel⟩, List.mem_of_getElem? (i := 696) (by decide +kernel), List.mem_of_getElem? (i := 1017) (by decide +kernel), List.mem_of_getElem? (i := 1018) (by decide +kernel)⟩
theorem lw_p59 : lw_okq (⟨"FieldKeeperModel", "movesOn", "(I)V"⟩, 46) := ⟨⟨by decide +kernel, by decide +kernel⟩, List.mem_of_getElem? (i := 696) (by decide +kernel), List.mem_of_getElem? (i := 1021) (by decide +kernel), List.mem_of_getElem? (i := 1022) (by decide +kernel)⟩
theorem lw_p60 : lw_okq (⟨"FieldKeeperModel", "grows", "([III)V"⟩, 46) := ⟨⟨by decide +kernel, by decide +kernel⟩, List.mem_of_getElem? (i := 696) (by decide +kernel), List.mem_of_getElem? (i := 1031) (by decide +kernel), List.mem_of_getElem? (i := 1032) (by decide +kernel)⟩
theorem lw_p61 : lw_okq (⟨"FieldKeeperModel", "gamesOf", "(II)I"⟩, 46) := ⟨⟨by decide +kernel, by decide +kernel⟩, List.mem_of_getElem? (i := 696) (by decide +kernel), List.mem_of_getElem? (i := 1051) (by decide +kernel), List.mem_of_getElem? (i := 1052) (by decide +kernel)⟩
theorem lw_p62 : lw_okq (⟨"FieldKeeperModel", "gamesThat", "(I)I"⟩, 46) := ⟨⟨by decide +kernel, by decide +kernel⟩, List.mem_of_getElem? (i := 696) (by decide +kernel), List.mem_of_getElem? (i := 1067) (by decide +kernel), List.mem_of_getElem? (i := 1068) (by decide +kernel)⟩
def lw_privs_4 : List (MethodName × Nat) := [(⟨"FieldKeeperModel", "laysOne", "(I)Z"⟩, 46), (⟨"FieldKeeperModel", "firstSlot", "(IIZI)I"⟩, 46), (⟨"FieldKeeperModel", "suits", "(II)Z"⟩, 46), (⟨"FieldKeeperModel", "gameAt", "(I)I"⟩, 46), (⟨"FieldKeeperModel", "isThere", "(I)Z"⟩, 46), (⟨"FieldKeeperModel", "hasClub", "(II)Z"⟩, 46), (⟨"FieldKeeperModel", "lays", "(II)V"⟩, 46), (⟨"FieldKeeperModel", "givesWay", "(II)Z"⟩, 46), (⟨"FieldKeeperModel", "hour", "(IIII)V"⟩, 46), (⟨"FieldKeeperModel", "isShut", "(I)Z"⟩, 46), (⟨"FieldKeeperModel", "worth", "(I)I"⟩, 46), (⟨"FieldKeeperModel", "movesOn", "(I)V"⟩, 46), (⟨"FieldKeeperModel", "grows", "([III)V"⟩, 46), (⟨"FieldKeeperModel", "gamesOf", "(II)I"⟩, 46), (⟨"FieldKeeperModel", "gamesThat", "(I)I"⟩, 46)]
theorem lw_r4 : ∀ q ∈ lw_privs_4, lw_okq q := List.forall_mem_cons.mpr ⟨lw_p48, List.forall_mem_cons.mpr ⟨lw_p49, List.forall_mem_cons.mpr ⟨lw_p50, List.forall_mem_cons.mpr ⟨lw_p51, List.forall_mem_cons.mpr ⟨lw_p52, List.forall_mem_cons.mpr ⟨lw_p53, List.forall_mem_cons.mpr ⟨lw_p54, List.forall_mem_cons.mpr ⟨lw_p55, List.forall_mem_cons.mpr ⟨lw_p56, List.forall_mem_cons.mpr ⟨lw_p57, List.forall_mem_cons.mpr ⟨lw_p58, List.forall_mem_cons.mpr ⟨lw_p59, List.forall_mem_cons.mpr ⟨lw_p60, List.forall_mem_cons.mpr ⟨lw_p61, List.forall_mem_cons.mpr ⟨lw_p62, fun _ h => absurd h List.not_mem_nil⟩⟩⟩⟩⟩⟩⟩⟩⟩⟩⟩⟩⟩⟩⟩
def lw_privs : List (MethodName × Nat) := lw_privs_1 ++ (lw_privs_2 ++ (lw_privs_3 ++ (lw_privs_4)))
def lw_tbl : List Cond := k2_sels lw_privs ++ tables_1
theorem lw_privs_ok : ∀ q ∈ lw_privs, lw_okq q := by
  show ∀ q ∈ lw_privs_1 ++ (lw_privs_2 ++ (lw_privs_3 ++ (lw_privs_4))), lw_okq q
  exact List.forall_mem_append.mpr ⟨lw_r1, List.forall_mem_append.mpr ⟨lw_r2, List.forall_mem_append.mpr ⟨lw_r3, lw_r4⟩⟩⟩

def RX0 : String := "FieldKeeper$Board"
def TX0 : u_T := fun k => match k with
  | 0 => ("FieldKeeper$Board", "taken", "[I", true)
  | _ => ("FieldKeeper$Board", "busy", "[I", true)
def tyX0 : Nat → FieldType := fun k => match k with
  | 0 => .array .int
  | _ => .array .int
theorem nmX0 : ∀ a, a < 2 → ∀ b, b < 2 → a ≠ b → (TX0 a).2.1 ≠ (TX0 b).2.1 := by decide +kernel
theorem tyX0_ok : ∀ k, k < 2 → parseFieldDescriptor (TX0 k).2.2.1 = some (tyX0 k) := by decide +kernel
abbrev cX0_init : ByteArray := prog_2_method_1_code
def yX0_init : MethodName := ⟨RX0, "<init>", "()V"⟩
abbrev cX0_clear : ByteArray := prog_2_method_2_code
def yX0_clear : MethodName := ⟨RX0, "clear", "()V"⟩
abbrev cX0_put : ByteArray := prog_2_method_3_code
def yX0_put : MethodName := ⟨RX0, "put", "(II)V"⟩
abbrev cX0_drop : ByteArray := prog_2_method_4_code
def yX0_drop : MethodName := ⟨RX0, "drop", "(II)V"⟩
abbrev cX0_has : ByteArray := prog_2_method_5_code
def yX0_has : MethodName := ⟨RX0, "has", "(I)Z"⟩
abbrev cX0_firstSlot : ByteArray := prog_2_method_6_code
def yX0_firstSlot : MethodName := ⟨RX0, "firstSlot", "(IIIII)I"⟩
abbrev cX0_isSlot : ByteArray := prog_2_method_7_code
def yX0_isSlot : MethodName := ⟨RX0, "isSlot", "(I)Z"⟩
abbrev cX0_slotsOfDay : ByteArray := prog_2_method_8_code
def yX0_slotsOfDay : MethodName := ⟨RX0, "slotsOfDay", "(II)I"⟩
abbrev cX0_lowestBit : ByteArray := prog_2_method_9_code
def yX0_lowestBit : MethodName := ⟨RX0, "lowestBit", "(I)I"⟩
def RX1 : String := "FieldKeeper$Game"
def TX1 : u_T := fun k => match k with
  | 0 => ("FieldKeeper$Game", "a", "I", true)
  | 1 => ("FieldKeeper$Game", "b", "I", true)
  | 2 => ("FieldKeeper$Game", "clubs", "I", true)
  | 3 => ("FieldKeeper$Game", "age", "I", true)
  | 4 => ("FieldKeeper$Game", "rank", "I", true)
  | 5 => ("FieldKeeper$Game", "week", "I", true)
  | 6 => ("FieldKeeper$Game", "wishes", "I", true)
  | 7 => ("FieldKeeper$Game", "state", "I", false)
  | 8 => ("FieldKeeper$Game", "slot", "I", false)
  | _ => ("FieldKeeper$Game", "moves", "I", false)
def tyX1 : Nat → FieldType := fun k => match k with
  | 0 => .int
  | 1 => .int
  | 2 => .int
  | 3 => .int
  | 4 => .int
  | 5 => .int
  | 6 => .int
  | 7 => .int
  | 8 => .int
  | _ => .int
theorem nmX1 : ∀ a, a < 10 → ∀ b, b < 10 → a ≠ b → (TX1 a).2.1 ≠ (TX1 b).2.1 := by decide +kernel
theorem tyX1_ok : ∀ k, k < 10 → parseFieldDescriptor (TX1 k).2.2.1 = some (tyX1 k) := by decide +kernel
abbrev cX1_init : ByteArray := prog_3_method_1_code
def yX1_init : MethodName := ⟨RX1, "<init>", "(IIIIII)V"⟩
def RX2 : String := "FieldKeeper$Pitch"
def TX2 : u_T := fun k => match k with
  | 0 => ("FieldKeeper$Pitch", "now", "LFieldKeeper$Turf;", true)
  | 1 => ("FieldKeeper$Pitch", "other", "LFieldKeeper$Turf;", true)
  | 2 => ("FieldKeeper$Pitch", "played", "I", false)
  | 3 => ("FieldKeeper$Pitch", "playedThisWeek", "I", false)
  | _ => ("FieldKeeper$Pitch", "hoursShut", "I", false)
def tyX2 : Nat → FieldType := fun k => match k with
  | 0 => .object "FieldKeeper$Turf"
  | 1 => .object "FieldKeeper$Turf"
  | 2 => .int
  | 3 => .int
  | _ => .int
theorem nmX2 : ∀ a, a < 5 → ∀ b, b < 5 → a ≠ b → (TX2 a).2.1 ≠ (TX2 b).2.1 := by decide +kernel
theorem tyX2_ok : ∀ k, k < 5 → parseFieldDescriptor (TX2 k).2.2.1 = some (tyX2 k) := by decide +kernel
abbrev cX2_init : ByteArray := prog_4_method_1_code
def yX2_init : MethodName := ⟨RX2, "<init>", "(I)V"⟩
def RX3 : String := "FieldKeeper$Reader"
def TX3 : u_T := fun k => match k with
  | 0 => ("FieldKeeper$Reader", "tokens", "LFieldKeeper$Tokens;", true)
  | 1 => ("FieldKeeper$Reader", "target", "LFieldKeeper$Rules;", false)
  | 2 => ("FieldKeeper$Reader", "next", "I", false)
  | _ => ("FieldKeeper$Reader", "fault", "I", false)
def tyX3 : Nat → FieldType := fun k => match k with
  | 0 => .object "FieldKeeper$Tokens"
  | 1 => .object "FieldKeeper$Rules"
  | 2 => .int
  | _ => .int
theorem nmX3 : ∀ a, a < 4 → ∀ b, b < 4 → a ≠ b → (TX3 a).2.1 ≠ (TX3 b).2.1 := by decide +kernel
theorem tyX3_ok : ∀ k, k < 4 → parseFieldDescriptor (TX3 k).2.2.1 = some (tyX3 k) := by decide +kernel
abbrev cX3_init : ByteArray := prog_5_method_1_code
def yX3_init : MethodName := ⟨RX3, "<init>", "(LFieldKeeper$Tokens;)V"⟩
abbrev cX3_read : ByteArray := prog_5_method_2_code
def yX3_read : MethodName := ⟨RX3, "read", "(LFieldKeeper$Rules;)I"⟩
abbrev cX3_readLine : ByteArray := prog_5_method_3_code
def yX3_readLine : MethodName := ⟨RX3, "readLine", "(I)V"⟩
abbrev cX3_readWhich : ByteArray := prog_5_method_4_code
def yX3_readWhich : MethodName := ⟨RX3, "readWhich", "()I"⟩
abbrev cX3_readAnds : ByteArray := prog_5_method_5_code
def yX3_readAnds : MethodName := ⟨RX3, "readAnds", "(I)V"⟩
abbrev cX3_readTest : ByteArray := prog_5_method_6_code
def yX3_readTest : MethodName := ⟨RX3, "readTest", "(I)V"⟩
abbrev cX3_readSum : ByteArray := prog_5_method_7_code
def yX3_readSum : MethodName := ⟨RX3, "readSum", "(I)V"⟩
abbrev cX3_readPart : ByteArray := prog_5_method_8_code
def yX3_readPart : MethodName := ⟨RX3, "readPart", "(I)V"⟩
abbrev cX3_sees : ByteArray := prog_5_method_9_code
def yX3_sees : MethodName := ⟨RX3, "sees", "(I)Z"⟩
abbrev cX3_step : ByteArray := prog_5_method_10_code
def yX3_step : MethodName := ⟨RX3, "step", "()V"⟩
abbrev cX3_take : ByteArray := prog_5_method_11_code
def yX3_take : MethodName := ⟨RX3, "take", "(I)V"⟩
abbrev cX3_refuse : ByteArray := prog_5_method_12_code
def yX3_refuse : MethodName := ⟨RX3, "refuse", "(I)V"⟩
def RX4 : String := "FieldKeeper$Rules"
def TX4 : u_T := fun k => match k with
  | 0 => ("FieldKeeper$Rules", "code", "[I", true)
  | 1 => ("FieldKeeper$Rules", "lineEnd", "[I", true)
  | 2 => ("FieldKeeper$Rules", "linePitch", "[I", true)
  | 3 => ("FieldKeeper$Rules", "open", "[I", true)
  | 4 => ("FieldKeeper$Rules", "codeSize", "I", false)
  | 5 => ("FieldKeeper$Rules", "openSize", "I", false)
  | _ => ("FieldKeeper$Rules", "lineCount", "I", false)
def tyX4 : Nat → FieldType := fun k => match k with
  | 0 => .array .int
  | 1 => .array .int
  | 2 => .array .int
  | 3 => .array .int
  | 4 => .int
  | 5 => .int
  | _ => .int
theorem nmX4 : ∀ a, a < 7 → ∀ b, b < 7 → a ≠ b → (TX4 a).2.1 ≠ (TX4 b).2.1 := by decide +kernel
theorem tyX4_ok : ∀ k, k < 7 → parseFieldDescriptor (TX4 k).2.2.1 = some (tyX4 k) := by decide +kernel
abbrev cX4_init : ByteArray := prog_6_method_1_code
def yX4_init : MethodName := ⟨RX4, "<init>", "()V"⟩
abbrev cX4_clear : ByteArray := prog_6_method_2_code
def yX4_clear : MethodName := ⟨RX4, "clear", "()V"⟩
abbrev cX4_put : ByteArray := prog_6_method_3_code
def yX4_put : MethodName := ⟨RX4, "put", "(I)V"⟩
abbrev cX4_endLine : ByteArray := prog_6_method_4_code
def yX4_endLine : MethodName := ⟨RX4, "endLine", "(I)V"⟩
abbrev cX4_shut : ByteArray := prog_6_method_5_code
def yX4_shut : MethodName := ⟨RX4, "shut", "(I[I)Z"⟩
abbrev cX4_worth : ByteArray := prog_6_method_6_code
def yX4_worth : MethodName := ⟨RX4, "worth", "(II[I)I"⟩
abbrev cX4_push : ByteArray := prog_6_method_7_code
def yX4_push : MethodName := ⟨RX4, "push", "(I)V"⟩
abbrev cX4_pop : ByteArray := prog_6_method_8_code
def yX4_pop : MethodName := ⟨RX4, "pop", "()I"⟩
abbrev cX4_join : ByteArray := prog_6_method_9_code
def yX4_join : MethodName := ⟨RX4, "join", "(III)I"⟩
def RX5 : String := "FieldKeeper$Tape"
def TX5 : u_T := fun k => match k with
  | 0 => ("FieldKeeper$Tape", "signs", "[C", true)
  | _ => ("FieldKeeper$Tape", "size", "I", false)
def tyX5 : Nat → FieldType := fun k => match k with
  | 0 => .array .char
  | _ => .int
theorem nmX5 : ∀ a, a < 2 → ∀ b, b < 2 → a ≠ b → (TX5 a).2.1 ≠ (TX5 b).2.1 := by decide +kernel
theorem tyX5_ok : ∀ k, k < 2 → parseFieldDescriptor (TX5 k).2.2.1 = some (tyX5 k) := by decide +kernel
abbrev cX5_init : ByteArray := prog_7_method_1_code
def yX5_init : MethodName := ⟨RX5, "<init>", "()V"⟩
abbrev cX5_addBytes : ByteArray := prog_7_method_2_code
def yX5_addBytes : MethodName := ⟨RX5, "addBytes", "(J)V"⟩
def RX6 : String := "FieldKeeper$Tokens"
def TX6 : u_T := fun k => match k with
  | 0 => ("FieldKeeper$Tokens", "kind", "[I", true)
  | 1 => ("FieldKeeper$Tokens", "place", "[I", true)
  | 2 => ("FieldKeeper$Tokens", "value", "[I", true)
  | _ => ("FieldKeeper$Tokens", "size", "I", false)
def tyX6 : Nat → FieldType := fun k => match k with
  | 0 => .array .int
  | 1 => .array .int
  | 2 => .array .int
  | _ => .int
theorem nmX6 : ∀ a, a < 4 → ∀ b, b < 4 → a ≠ b → (TX6 a).2.1 ≠ (TX6 b).2.1 := by decide +kernel
theorem tyX6_ok : ∀ k, k < 4 → parseFieldDescriptor (TX6 k).2.2.1 = some (tyX6 k) := by decide +kernel
abbrev cX6_init : ByteArray := prog_8_method_1_code
def yX6_init : MethodName := ⟨RX6, "<init>", "()V"⟩
abbrev cX6_cut : ByteArray := prog_8_method_2_code
def yX6_cut : MethodName := ⟨RX6, "cut", "(LFieldKeeper$Tape;)V"⟩
abbrev cX6_sortOf : ByteArray := prog_8_method_3_code
def yX6_sortOf : MethodName := ⟨RX6, "sortOf", "(C)I"⟩
abbrev cX6_addToken : ByteArray := prog_8_method_4_code
def yX6_addToken : MethodName := ⟨RX6, "addToken", "(LFieldKeeper$Tape;III)V"⟩
abbrev cX6_markKind : ByteArray := prog_8_method_5_code
def yX6_markKind : MethodName := ⟨RX6, "markKind", "(I)I"⟩
abbrev cX6_numberValue : ByteArray := prog_8_method_6_code
def yX6_numberValue : MethodName := ⟨RX6, "numberValue", "([CII)I"⟩
abbrev cX6_wordKind : ByteArray := prog_8_method_7_code
def yX6_wordKind : MethodName := ⟨RX6, "wordKind", "([CII)I"⟩
abbrev cX6_shortWordKind : ByteArray := prog_8_method_8_code
def yX6_shortWordKind : MethodName := ⟨RX6, "shortWordKind", "([CI)I"⟩
abbrev cX6_fourLetterKind : ByteArray := prog_8_method_9_code
def yX6_fourLetterKind : MethodName := ⟨RX6, "fourLetterKind", "([CI)I"⟩
abbrev cX6_spells : ByteArray := prog_8_method_10_code
def yX6_spells : MethodName := ⟨RX6, "spells", "([CILjava/lang/String;)Z"⟩
def RX7 : String := "FieldKeeper$Turf"
def TX7 : u_T := fun k => match k with
  | 0 => ("FieldKeeper$Turf", "cells", "[I", true)
  | 1 => ("FieldKeeper$Turf", "stand", "I", false)
  | _ => ("FieldKeeper$Turf", "worn", "I", false)
def tyX7 : Nat → FieldType := fun k => match k with
  | 0 => .array .int
  | 1 => .int
  | _ => .int
theorem nmX7 : ∀ a, a < 3 → ∀ b, b < 3 → a ≠ b → (TX7 a).2.1 ≠ (TX7 b).2.1 := by decide +kernel
theorem tyX7_ok : ∀ k, k < 3 → parseFieldDescriptor (TX7 k).2.2.1 = some (tyX7 k) := by decide +kernel
abbrev cX7_init : ByteArray := prog_9_method_1_code
def yX7_init : MethodName := ⟨RX7, "<init>", "(I)V"⟩
abbrev cX7_wear : ByteArray := prog_9_method_2_code
def yX7_wear : MethodName := ⟨RX7, "wear", "(II)V"⟩
abbrev cX7_grow : ByteArray := prog_9_method_3_code
def yX7_grow : MethodName := ⟨RX7, "grow", "(II)V"⟩
abbrev cX7_least : ByteArray := prog_9_method_4_code
def yX7_least : MethodName := ⟨RX7, "least", "()I"⟩
abbrev cX7_mean : ByteArray := prog_9_method_5_code
def yX7_mean : MethodName := ⟨RX7, "mean", "()I"⟩
def RX8 : String := "FieldKeeper"
def TX8 : u_T := fun k => match k with
  | 0 => ("FieldKeeper", "pitches", "[LFieldKeeper$Pitch;", true)
  | 1 => ("FieldKeeper", "games", "[LFieldKeeper$Game;", true)
  | 2 => ("FieldKeeper", "takers", "[I", true)
  | 3 => ("FieldKeeper", "clubPlayed", "[I", true)
  | 4 => ("FieldKeeper", "clubLost", "[I", true)
  | 5 => ("FieldKeeper", "clubOff", "[I", true)
  | 6 => ("FieldKeeper", "told", "[I", true)
  | 7 => ("FieldKeeper", "board", "LFieldKeeper$Board;", true)
  | 8 => ("FieldKeeper", "tape", "LFieldKeeper$Tape;", true)
  | 9 => ("FieldKeeper", "tokens", "LFieldKeeper$Tokens;", true)
  | 10 => ("FieldKeeper", "reader", "LFieldKeeper$Reader;", true)
  | 11 => ("FieldKeeper", "rules", "LFieldKeeper$Rules;", false)
  | 12 => ("FieldKeeper", "spareRules", "LFieldKeeper$Rules;", false)
  | 13 => ("FieldKeeper", "pitchCount", "I", false)
  | 14 => ("FieldKeeper", "gameCount", "I", false)
  | _ => ("FieldKeeper", "daysOver", "I", false)
def tyX8 : Nat → FieldType := fun k => match k with
  | 0 => .array (.object "FieldKeeper$Pitch")
  | 1 => .array (.object "FieldKeeper$Game")
  | 2 => .array .int
  | 3 => .array .int
  | 4 => .array .int
  | 5 => .array .int
  | 6 => .array .int
  | 7 => .object "FieldKeeper$Board"
  | 8 => .object "FieldKeeper$Tape"
  | 9 => .object "FieldKeeper$Tokens"
  | 10 => .object "FieldKeeper$Reader"
  | 11 => .object "FieldKeeper$Rules"
  | 12 => .object "FieldKeeper$Rules"
  | 13 => .int
  | 14 => .int
  | _ => .int
theorem nmX8 : ∀ a, a < 16 → ∀ b, b < 16 → a ≠ b → (TX8 a).2.1 ≠ (TX8 b).2.1 := by decide +kernel
theorem tyX8_ok : ∀ k, k < 16 → parseFieldDescriptor (TX8 k).2.2.1 = some (tyX8 k) := by decide +kernel
abbrev cX8_init : ByteArray := prog_1_method_1_code
def yX8_init : MethodName := ⟨RX8, "<init>", "()V"⟩
abbrev cX8_pitch : ByteArray := prog_1_method_2_code
def yX8_pitch : MethodName := ⟨RX8, "pitch", "(II)I"⟩
abbrev cX8_game : ByteArray := prog_1_method_3_code
def yX8_game : MethodName := ⟨RX8, "game", "(IIIIII)I"⟩
abbrev cX8_lay : ByteArray := prog_1_method_4_code
def yX8_lay : MethodName := ⟨RX8, "lay", "(I)I"⟩
abbrev cX8_feed : ByteArray := prog_1_method_5_code
def yX8_feed : MethodName := ⟨RX8, "feed", "(JJJ)I"⟩
abbrev cX8_text : ByteArray := prog_1_method_6_code
def yX8_text : MethodName := ⟨RX8, "text", "()I"⟩
abbrev cX8_day : ByteArray := prog_1_method_7_code
def yX8_day : MethodName := ⟨RX8, "day", "(II)I"⟩
abbrev cX8_turn : ByteArray := prog_1_method_8_code
def yX8_turn : MethodName := ⟨RX8, "turn", "(I)I"⟩
abbrev cX8_grass : ByteArray := prog_1_method_9_code
def yX8_grass : MethodName := ⟨RX8, "grass", "(III)I"⟩
abbrev cX8_look : ByteArray := prog_1_method_10_code
def yX8_look : MethodName := ⟨RX8, "look", "(II)I"⟩
abbrev cX8_at : ByteArray := prog_1_method_11_code
def yX8_at : MethodName := ⟨RX8, "at", "(III)I"⟩
abbrev cX8_club : ByteArray := prog_1_method_12_code
def yX8_club : MethodName := ⟨RX8, "club", "(II)I"⟩
abbrev cX8_field : ByteArray := prog_1_method_13_code
def yX8_field : MethodName := ⟨RX8, "field", "(II)I"⟩
abbrev cX8_would : ByteArray := prog_1_method_14_code
def yX8_would : MethodName := ⟨RX8, "would", "(II)I"⟩
abbrev cX8_count : ByteArray := prog_1_method_15_code
def yX8_count : MethodName := ⟨RX8, "count", "(I)I"⟩
abbrev cX8_isClub : ByteArray := prog_1_method_16_code
def yX8_isClub : MethodName := ⟨RX8, "isClub", "(I)Z"⟩
abbrev cX8_isPitch : ByteArray := prog_1_method_17_code
def yX8_isPitch : MethodName := ⟨RX8, "isPitch", "(I)Z"⟩
abbrev cX8_isWeekToCome : ByteArray := prog_1_method_18_code
def yX8_isWeekToCome : MethodName := ⟨RX8, "isWeekToCome", "(I)Z"⟩
abbrev cX8_slotOf : ByteArray := prog_1_method_19_code
def yX8_slotOf : MethodName := ⟨RX8, "slotOf", "(III)I"⟩
abbrev cX8_gameIn : ByteArray := prog_1_method_20_code
def yX8_gameIn : MethodName := ⟨RX8, "gameIn", "(II)I"⟩
abbrev cX8_gamesThatAre : ByteArray := prog_1_method_21_code
def yX8_gamesThatAre : MethodName := ⟨RX8, "gamesThatAre", "(I)I"⟩
abbrev cX8_newGamesOf : ByteArray := prog_1_method_22_code
def yX8_newGamesOf : MethodName := ⟨RX8, "newGamesOf", "(I)I"⟩
abbrev cX8_allHoursShut : ByteArray := prog_1_method_23_code
def yX8_allHoursShut : MethodName := ⟨RX8, "allHoursShut", "()I"⟩
abbrev cX8_showWeek : ByteArray := prog_1_method_24_code
def yX8_showWeek : MethodName := ⟨RX8, "showWeek", "(I)V"⟩
abbrev cX8_layGame : ByteArray := prog_1_method_25_code
def yX8_layGame : MethodName := ⟨RX8, "layGame", "(LFieldKeeper$Game;)V"⟩
abbrev cX8_firstWish : ByteArray := prog_1_method_26_code
def yX8_firstWish : MethodName := ⟨RX8, "firstWish", "(LFieldKeeper$Game;I)I"⟩
abbrev cX8_layInPlaceOfAnother : ByteArray := prog_1_method_27_code
def yX8_layInPlaceOfAnother : MethodName := ⟨RX8, "layInPlaceOfAnother", "(LFieldKeeper$Game;)V"⟩
abbrev cX8_givesWay : ByteArray := prog_1_method_28_code
def yX8_givesWay : MethodName := ⟨RX8, "givesWay", "(LFieldKeeper$Game;LFieldKeeper$Game;)Z"⟩
abbrev cX8_beginWeek : ByteArray := prog_1_method_29_code
def yX8_beginWeek : MethodName := ⟨RX8, "beginWeek", "()V"⟩
abbrev cX8_passHour : ByteArray := prog_1_method_30_code
def yX8_passHour : MethodName := ⟨RX8, "passHour", "(III)V"⟩
abbrev cX8_isShut : ByteArray := prog_1_method_31_code
def yX8_isShut : MethodName := ⟨RX8, "isShut", "(III)Z"⟩
abbrev cX8_sendAway : ByteArray := prog_1_method_32_code
def yX8_sendAway : MethodName := ⟨RX8, "sendAway", "(LFieldKeeper$Game;I)V"⟩
abbrev cX8_playGame : ByteArray := prog_1_method_33_code
def yX8_playGame : MethodName := ⟨RX8, "playGame", "(LFieldKeeper$Game;LFieldKeeper$Pitch;)V"⟩
def RX9 : String := "FieldKeeperModel"
def TX9 : u_T := fun k => match k with
  | 0 => ("FieldKeeperModel", "thrown", "I", false)
  | 1 => ("FieldKeeperModel", "tape", "[I", true)
  | 2 => ("FieldKeeperModel", "taped", "I", false)
  | 3 => ("FieldKeeperModel", "size", "I", false)
  | 4 => ("FieldKeeperModel", "sort", "[I", true)
  | 5 => ("FieldKeeperModel", "place", "[I", true)
  | 6 => ("FieldKeeperModel", "value", "[J", true)
  | 7 => ("FieldKeeperModel", "at", "I", false)
  | 8 => ("FieldKeeperModel", "fault", "I", false)
  | 9 => ("FieldKeeperModel", "words", "[J", true)
  | 10 => ("FieldKeeperModel", "lines", "[I", true)
  | 11 => ("FieldKeeperModel", "linePitch", "[I", true)
  | 12 => ("FieldKeeperModel", "lineAt", "[I", true)
  | 13 => ("FieldKeeperModel", "op", "[I", true)
  | 14 => ("FieldKeeperModel", "one", "[I", true)
  | 15 => ("FieldKeeperModel", "holds", "I", false)
  | 16 => ("FieldKeeperModel", "next", "I", false)
  | 17 => ("FieldKeeperModel", "codes", "I", false)
  | 18 => ("FieldKeeperModel", "deep", "I", false)
  | 19 => ("FieldKeeperModel", "sumWaits", "[I", true)
  | 20 => ("FieldKeeperModel", "signWaits", "[I", true)
  | 21 => ("FieldKeeperModel", "andWaits", "[I", true)
  | 22 => ("FieldKeeperModel", "known", "[I", true)
  | 23 => ("FieldKeeperModel", "pile", "[I", true)
  | 24 => ("FieldKeeperModel", "pitches", "I", false)
  | 25 => ("FieldKeeperModel", "ages", "[I", true)
  | 26 => ("FieldKeeperModel", "stand", "[I", true)
  | 27 => ("FieldKeeperModel", "grass", "[I", true)
  | 28 => ("FieldKeeperModel", "shadow", "[I", true)
  | 29 => ("FieldKeeperModel", "wear", "[I", true)
  | 30 => ("FieldKeeperModel", "shadowWear", "[I", true)
  | 31 => ("FieldKeeperModel", "played", "[I", true)
  | 32 => ("FieldKeeperModel", "playedNow", "[I", true)
  | 33 => ("FieldKeeperModel", "shut", "[I", true)
  | 34 => ("FieldKeeperModel", "over", "I", false)
  | 35 => ("FieldKeeperModel", "games", "I", false)
  | 36 => ("FieldKeeperModel", "clubA", "[I", true)
  | 37 => ("FieldKeeperModel", "clubB", "[I", true)
  | 38 => ("FieldKeeperModel", "age", "[I", true)
  | 39 => ("FieldKeeperModel", "rank", "[I", true)
  | 40 => ("FieldKeeperModel", "week", "[I", true)
  | 41 => ("FieldKeeperModel", "wishes", "[I", true)
  | 42 => ("FieldKeeperModel", "state", "[I", true)
  | 43 => ("FieldKeeperModel", "slot", "[I", true)
  | 44 => ("FieldKeeperModel", "moves", "[I", true)
  | _ => ("FieldKeeperModel", "lost", "[I", true)
def tyX9 : Nat → FieldType := fun k => match k with
  | 0 => .int
  | 1 => .array .int
  | 2 => .int
  | 3 => .int
  | 4 => .array .int
  | 5 => .array .int
  | 6 => .array .long
  | 7 => .int
  | 8 => .int
  | 9 => .array .long
  | 10 => .array .int
  | 11 => .array .int
  | 12 => .array .int
  | 13 => .array .int
  | 14 => .array .int
  | 15 => .int
  | 16 => .int
  | 17 => .int
  | 18 => .int
  | 19 => .array .int
  | 20 => .array .int
  | 21 => .array .int
  | 22 => .array .int
  | 23 => .array .int
  | 24 => .int
  | 25 => .array .int
  | 26 => .array .int
  | 27 => .array .int
  | 28 => .array .int
  | 29 => .array .int
  | 30 => .array .int
  | 31 => .array .int
  | 32 => .array .int
  | 33 => .array .int
  | 34 => .int
  | 35 => .int
  | 36 => .array .int
  | 37 => .array .int
  | 38 => .array .int
  | 39 => .array .int
  | 40 => .array .int
  | 41 => .array .int
  | 42 => .array .int
  | 43 => .array .int
  | 44 => .array .int
  | _ => .array .int
theorem nmX9 : ∀ a, a < 46 → ∀ b, b < 46 → a ≠ b → (TX9 a).2.1 ≠ (TX9 b).2.1 := by decide +kernel
theorem tyX9_ok : ∀ k, k < 46 → parseFieldDescriptor (TX9 k).2.2.1 = some (tyX9 k) := by decide +kernel
abbrev cX9_init : ByteArray := prog_11_method_1_code
def yX9_init : MethodName := ⟨RX9, "<init>", "()V"⟩
abbrev cX9_thrown : ByteArray := prog_11_method_2_code
def yX9_thrown : MethodName := ⟨RX9, "thrown", "()I"⟩
abbrev cX9_feed : ByteArray := prog_11_method_3_code
def yX9_feed : MethodName := ⟨RX9, "feed", "(JJJ)I"⟩
abbrev cX9_lay : ByteArray := prog_11_method_4_code
def yX9_lay : MethodName := ⟨RX9, "lay", "(J)V"⟩
abbrev cX9_isLetter : ByteArray := prog_11_method_5_code
def yX9_isLetter : MethodName := ⟨RX9, "isLetter", "(I)Z"⟩
abbrev cX9_isDigit : ByteArray := prog_11_method_6_code
def yX9_isDigit : MethodName := ⟨RX9, "isDigit", "(I)Z"⟩
abbrev cX9_rank : ByteArray := prog_11_method_7_code
def yX9_rank : MethodName := ⟨RX9, "rank", "(I)I"⟩
abbrev cX9_isSignOf : ByteArray := prog_11_method_8_code
def yX9_isSignOf : MethodName := ⟨RX9, "isSignOf", "(I)Z"⟩
abbrev cX9_cutAll : ByteArray := prog_11_method_9_code
def yX9_cutAll : MethodName := ⟨RX9, "cutAll", "()V"⟩
abbrev cX9_wrong : ByteArray := prog_11_method_10_code
def yX9_wrong : MethodName := ⟨RX9, "wrong", "(I)V"⟩
abbrev cX9_isSign : ByteArray := prog_11_method_11_code
def yX9_isSign : MethodName := ⟨RX9, "isSign", "(I)Z"⟩
abbrev cX9_isWord : ByteArray := prog_11_method_12_code
def yX9_isWord : MethodName := ⟨RX9, "isWord", "(I)Z"⟩
abbrev cX9_takeSign : ByteArray := prog_11_method_13_code
def yX9_takeSign : MethodName := ⟨RX9, "takeSign", "(I)V"⟩
abbrev cX9_hasSign : ByteArray := prog_11_method_14_code
def yX9_hasSign : MethodName := ⟨RX9, "hasSign", "(I)Z"⟩
abbrev cX9_hasWord : ByteArray := prog_11_method_15_code
def yX9_hasWord : MethodName := ⟨RX9, "hasWord", "(I)Z"⟩
abbrev cX9_takeWord : ByteArray := prog_11_method_16_code
def yX9_takeWord : MethodName := ⟨RX9, "takeWord", "(I)V"⟩
abbrev cX9_emit : ByteArray := prog_11_method_17_code
def yX9_emit : MethodName := ⟨RX9, "emit", "(II)V"⟩
abbrev cX9_text : ByteArray := prog_11_method_18_code
def yX9_text : MethodName := ⟨RX9, "text", "()I"⟩
abbrev cX9_line : ByteArray := prog_11_method_19_code
def yX9_line : MethodName := ⟨RX9, "line", "()V"⟩
abbrev cX9_opens : ByteArray := prog_11_method_20_code
def yX9_opens : MethodName := ⟨RX9, "opens", "()V"⟩
abbrev cX9_partWord : ByteArray := prog_11_method_21_code
def yX9_partWord : MethodName := ⟨RX9, "partWord", "()I"⟩
abbrev cX9_part : ByteArray := prog_11_method_22_code
def yX9_part : MethodName := ⟨RX9, "part", "()Z"⟩
abbrev cX9_goesOnBehind : ByteArray := prog_11_method_23_code
def yX9_goesOnBehind : MethodName := ⟨RX9, "goesOnBehind", "()Z"⟩
abbrev cX9_worth : ByteArray := prog_11_method_24_code
def yX9_worth : MethodName := ⟨RX9, "worth", "(I)I"⟩
abbrev cX9_pitch : ByteArray := prog_11_method_25_code
def yX9_pitch : MethodName := ⟨RX9, "pitch", "(II)I"⟩
abbrev cX9_isPitch : ByteArray := prog_11_method_26_code
def yX9_isPitch : MethodName := ⟨RX9, "isPitch", "(I)Z"⟩
abbrev cX9_turn : ByteArray := prog_11_method_27_code
def yX9_turn : MethodName := ⟨RX9, "turn", "(I)I"⟩
abbrev cX9_leastOf : ByteArray := prog_11_method_28_code
def yX9_leastOf : MethodName := ⟨RX9, "leastOf", "([II)I"⟩
abbrev cX9_meanOf : ByteArray := prog_11_method_29_code
def yX9_meanOf : MethodName := ⟨RX9, "meanOf", "([II)I"⟩
abbrev cX9_share : ByteArray := prog_11_method_30_code
def yX9_share : MethodName := ⟨RX9, "share", "(III)I"⟩
abbrev cX9_wears : ByteArray := prog_11_method_31_code
def yX9_wears : MethodName := ⟨RX9, "wears", "([IIIII)I"⟩
abbrev cX9_grows : ByteArray := prog_11_method_32_code
def yX9_grows : MethodName := ⟨RX9, "grows", "([III)V"⟩
abbrev cX9_game : ByteArray := prog_11_method_33_code
def yX9_game : MethodName := ⟨RX9, "game", "(IIIIII)I"⟩
abbrev cX9_isGone : ByteArray := prog_11_method_34_code
def yX9_isGone : MethodName := ⟨RX9, "isGone", "(I)Z"⟩
abbrev cX9_isThere : ByteArray := prog_11_method_35_code
def yX9_isThere : MethodName := ⟨RX9, "isThere", "(I)Z"⟩
abbrev cX9_gameAt : ByteArray := prog_11_method_36_code
def yX9_gameAt : MethodName := ⟨RX9, "gameAt", "(I)I"⟩
abbrev cX9_hasClub : ByteArray := prog_11_method_37_code
def yX9_hasClub : MethodName := ⟨RX9, "hasClub", "(II)Z"⟩
abbrev cX9_suits : ByteArray := prog_11_method_38_code
def yX9_suits : MethodName := ⟨RX9, "suits", "(II)Z"⟩
abbrev cX9_firstSlot : ByteArray := prog_11_method_39_code
def yX9_firstSlot : MethodName := ⟨RX9, "firstSlot", "(IIZI)I"⟩
abbrev cX9_lays : ByteArray := prog_11_method_40_code
def yX9_lays : MethodName := ⟨RX9, "lays", "(II)V"⟩
abbrev cX9_laysOne : ByteArray := prog_11_method_41_code
def yX9_laysOne : MethodName := ⟨RX9, "laysOne", "(I)Z"⟩
abbrev cX9_givesWay : ByteArray := prog_11_method_42_code
def yX9_givesWay : MethodName := ⟨RX9, "givesWay", "(II)Z"⟩
abbrev cX9_lay_ : ByteArray := prog_11_method_43_code
def yX9_lay_ : MethodName := ⟨RX9, "lay", "(I)I"⟩
abbrev cX9_isShut : ByteArray := prog_11_method_44_code
def yX9_isShut : MethodName := ⟨RX9, "isShut", "(I)Z"⟩
abbrev cX9_hour : ByteArray := prog_11_method_45_code
def yX9_hour : MethodName := ⟨RX9, "hour", "(IIII)V"⟩
abbrev cX9_movesOn : ByteArray := prog_11_method_46_code
def yX9_movesOn : MethodName := ⟨RX9, "movesOn", "(I)V"⟩
abbrev cX9_day : ByteArray := prog_11_method_47_code
def yX9_day : MethodName := ⟨RX9, "day", "(II)I"⟩
abbrev cX9_grass : ByteArray := prog_11_method_48_code
def yX9_grass : MethodName := ⟨RX9, "grass", "(III)I"⟩
abbrev cX9_look : ByteArray := prog_11_method_49_code
def yX9_look : MethodName := ⟨RX9, "look", "(II)I"⟩
abbrev cX9_at : ByteArray := prog_11_method_50_code
def yX9_at : MethodName := ⟨RX9, "at", "(III)I"⟩
abbrev cX9_gamesOf : ByteArray := prog_11_method_51_code
def yX9_gamesOf : MethodName := ⟨RX9, "gamesOf", "(II)I"⟩
abbrev cX9_club : ByteArray := prog_11_method_52_code
def yX9_club : MethodName := ⟨RX9, "club", "(II)I"⟩
abbrev cX9_field : ByteArray := prog_11_method_53_code
def yX9_field : MethodName := ⟨RX9, "field", "(II)I"⟩
abbrev cX9_would : ByteArray := prog_11_method_54_code
def yX9_would : MethodName := ⟨RX9, "would", "(II)I"⟩
abbrev cX9_gamesThat : ByteArray := prog_11_method_55_code
def yX9_gamesThat : MethodName := ⟨RX9, "gamesThat", "(I)I"⟩
abbrev cX9_count : ByteArray := prog_11_method_56_code
def yX9_count : MethodName := ⟨RX9, "count", "(I)I"⟩
def RJ9 : String := "java/lang/Math"
abbrev cJ9_abs_0f7a4 : ByteArray := prog_13_method_59_code
def yJ9_abs_0f7a4 : MethodName := ⟨RJ9, "abs", "(I)I"⟩
abbrev cJ9_max_7cf53 : ByteArray := prog_13_method_65_code
def yJ9_max_7cf53 : MethodName := ⟨RJ9, "max", "(II)I"⟩
abbrev cJ9_min_7cf53 : ByteArray := prog_13_method_69_code
def yJ9_min_7cf53 : MethodName := ⟨RJ9, "min", "(II)I"⟩
def RJ0 : String := "java/lang/String"
abbrev cJ0_length_8abf5 : ByteArray := prog_15_method_54_code
def yJ0_length_8abf5 : MethodName := ⟨RJ0, "length", "()I"⟩
abbrev cJ0_charAt_5068e : ByteArray := prog_15_method_56_code
def yJ0_charAt_5068e : MethodName := ⟨RJ0, "charAt", "(I)C"⟩
abbrev cJ0_coder_7d493 : ByteArray := prog_15_method_152_code
def yJ0_coder_7d493 : MethodName := ⟨RJ0, "coder", "()B"⟩
abbrev cJ0_isLatin1_aae02 : ByteArray := prog_15_method_154_code
def yJ0_isLatin1_aae02 : MethodName := ⟨RJ0, "isLatin1", "()Z"⟩
abbrev cJ0_checkIndex_df160 : ByteArray := prog_15_method_155_code
def yJ0_checkIndex_df160 : MethodName := ⟨RJ0, "checkIndex", "(II)V"⟩
def RJ1 : String := "java/lang/StringLatin1"
abbrev cJ1_charAt_3b067 : ByteArray := prog_16_method_2_code
def yJ1_charAt_3b067 : MethodName := ⟨RJ1, "charAt", "([BI)C"⟩
def RJ2 : String := "java/lang/StringUTF16"
abbrev cJ2_getChar_3b067 : ByteArray := prog_17_method_5_code
def yJ2_getChar_3b067 : MethodName := ⟨RJ2, "getChar", "([BI)C"⟩
abbrev cJ2_length_9d52b : ByteArray := prog_17_method_6_code
def yJ2_length_9d52b : MethodName := ⟨RJ2, "length", "([B)I"⟩
abbrev cJ2_charAt_3b067 : ByteArray := prog_17_method_83_code
def yJ2_charAt_3b067 : MethodName := ⟨RJ2, "charAt", "([BI)C"⟩
abbrev cJ2_checkIndex_2214a : ByteArray := prog_17_method_91_code
def yJ2_checkIndex_2214a : MethodName := ⟨RJ2, "checkIndex", "(I[B)V"⟩
def RJ3 : String := "jdk/internal/util/Preconditions"
abbrev cJ3_checkIndex_8e157 : ByteArray := prog_20_method_11_code
def yJ3_checkIndex_8e157 : MethodName := ⟨RJ3, "checkIndex", "(IILjava/util/function/BiFunction;)I"⟩
def RL : String := "FieldKeeperLaw"
abbrev cL_look : ByteArray := method_3_code
def yL_look : MethodName := ⟨RL, "look", "(LFieldKeeper;II[J)I"⟩
abbrev cL_law : ByteArray := code
def yL_law : MethodName := ⟨RL, "law", "([I)Z"⟩
abbrev vwCl : List vw_C := [(RX0, TX0, 2), (RX1, TX1, 10), (RX2, TX2, 5), (RX3, TX3, 4), (RX4, TX4, 7), (RX5, TX5, 2), (RX6, TX6, 4), (RX7, TX7, 3), (RX8, TX8, 16), (RX9, TX9, 46)]