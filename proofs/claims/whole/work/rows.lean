section
-- ===== PART A: goes FIRST, ahead of the names: the tables' words, and 'selects' of the private methods out of them =====
/-- a private method of a class that the tables say can be made, by its rows of tables_1 -/
def lw_okq (q : MethodName × Nat) : Prop := (q.1.cls ≠ "java/lang/invoke/MethodHandle" ∧ q.1.cls ≠ "java/lang/invoke/VarHandle") ∧ Cond.instantiable q.1.cls q.2 ∈ tables_1 ∧ Cond.privateMethod q.1 ∈ tables_1 ∧ Cond.instanceMethod q.1 ∈ tables_1
theorem lw_p0 : lw_okq (⟨"FieldKeeper", "isWeekToCome", "(I)Z"⟩, 16) := ⟨⟨by decide +kernel, by decide +kernel⟩, List.mem_of_getElem? (i := 21) (by decide +kernel), List.mem_of_getElem? (i := 237) (by decide +kernel), List.mem_of_getElem? (i := 238) (by decide +kernel)⟩
theorem lw_p1 : lw_okq (⟨"FieldKeeper", "showWeek", "(I)V"⟩, 16) := ⟨⟨by decide +kernel, by decide +kernel⟩, List.mem_of_getElem? (i := 21) (by decide +kernel), List.mem_of_getElem? (i := 291) (by decide +kernel), List.mem_of_getElem? (i := 292) (by decide +kernel)⟩
theorem lw_p2 : lw_okq (⟨"FieldKeeper", "layGame", "(LFieldKeeper$Game;)V"⟩, 16) := ⟨⟨by decide +kernel, by decide +kernel⟩, List.mem_of_getElem? (i := 21) (by decide +kernel), List.mem_of_getElem? (i := 306) (by decide +kernel), List.mem_of_getElem? (i := 307) (by decide +kernel)⟩
theorem lw_p3 : lw_okq (⟨"FieldKeeper", "firstWish", "(LFieldKeeper$Game;I)I"⟩, 16) := ⟨⟨by decide +kernel, by decide +kernel⟩, List.mem_of_getElem? (i := 21) (by decide +kernel), List.mem_of_getElem? (i := 310) (by decide +kernel), List.mem_of_getElem? (i := 311) (by decide +kernel)⟩
theorem lw_p4 : lw_okq (⟨"FieldKeeper", "layInPlaceOfAnother", "(LFieldKeeper$Game;)V"⟩, 16) := ⟨⟨by decide +kernel, by decide +kernel⟩, List.mem_of_getElem? (i := 21) (by decide +kernel), List.mem_of_getElem? (i := 327) (by decide +kernel), List.mem_of_getElem? (i := 328) (by decide +kernel)⟩
theorem lw_p5 : lw_okq (⟨"FieldKeeper", "givesWay", "(LFieldKeeper$Game;LFieldKeeper$Game;)Z"⟩, 16) := ⟨⟨by decide +kernel, by decide +kernel⟩, List.mem_of_getElem? (i := 21) (by decide +kernel), List.mem_of_getElem? (i := 331) (by decide +kernel), List.mem_of_getElem? (i := 332) (by decide +kernel)⟩
theorem lw_p6 : lw_okq (⟨"FieldKeeper", "newGamesOf", "(I)I"⟩, 16) := ⟨⟨by decide +kernel, by decide +kernel⟩, List.mem_of_getElem? (i := 21) (by decide +kernel), List.mem_of_getElem? (i := 339) (by decide +kernel), List.mem_of_getElem? (i := 340) (by decide +kernel)⟩
theorem lw_p7 : lw_okq (⟨"FieldKeeper$Tokens", "addToken", "(LFieldKeeper$Tape;III)V"⟩, 4) := ⟨⟨by decide +kernel, by decide +kernel⟩, List.mem_of_getElem? (i := 64) (by decide +kernel), List.mem_of_getElem? (i := 363) (by decide +kernel), List.mem_of_getElem? (i := 364) (by decide +kernel)⟩
theorem lw_p8 : lw_okq (⟨"FieldKeeper$Reader", "sees", "(I)Z"⟩, 4) := ⟨⟨by decide +kernel, by decide +kernel⟩, List.mem_of_getElem? (i := 87) (by decide +kernel), List.mem_of_getElem? (i := 453) (by decide +kernel), List.mem_of_getElem? (i := 454) (by decide +kernel)⟩
theorem lw_p9 : lw_okq (⟨"FieldKeeper$Reader", "readLine", "(I)V"⟩, 4) := ⟨⟨by decide +kernel, by decide +kernel⟩, List.mem_of_getElem? (i := 87) (by decide +kernel), List.mem_of_getElem? (i := 457) (by decide +kernel), List.mem_of_getElem? (i := 458) (by decide +kernel)⟩
theorem lw_p10 : lw_okq (⟨"FieldKeeper$Reader", "refuse", "(I)V"⟩, 4) := ⟨⟨by decide +kernel, by decide +kernel⟩, List.mem_of_getElem? (i := 87) (by decide +kernel), List.mem_of_getElem? (i := 461) (by decide +kernel), List.mem_of_getElem? (i := 462) (by decide +kernel)⟩
theorem lw_p11 : lw_okq (⟨"FieldKeeper$Reader", "take", "(I)V"⟩, 4) := ⟨⟨by decide +kernel, by decide +kernel⟩, List.mem_of_getElem? (i := 87) (by decide +kernel), List.mem_of_getElem? (i := 465) (by decide +kernel), List.mem_of_getElem? (i := 466) (by decide +kernel)⟩
theorem lw_p12 : lw_okq (⟨"FieldKeeper$Reader", "readWhich", "()I"⟩, 4) := ⟨⟨by decide +kernel, by decide +kernel⟩, List.mem_of_getElem? (i := 87) (by decide +kernel), List.mem_of_getElem? (i := 469) (by decide +kernel), List.mem_of_getElem? (i := 470) (by decide +kernel)⟩
theorem lw_p13 : lw_okq (⟨"FieldKeeper$Reader", "step", "()V"⟩, 4) := ⟨⟨by decide +kernel, by decide +kernel⟩, List.mem_of_getElem? (i := 87) (by decide +kernel), List.mem_of_getElem? (i := 473) (by decide +kernel), List.mem_of_getElem? (i := 474) (by decide +kernel)⟩
theorem lw_p14 : lw_okq (⟨"FieldKeeper$Reader", "readAnds", "(I)V"⟩, 4) := ⟨⟨by decide +kernel, by decide +kernel⟩, List.mem_of_getElem? (i := 87) (by decide +kernel), List.mem_of_getElem? (i := 477) (by decide +kernel), List.mem_of_getElem? (i := 478) (by decide +kernel)⟩
theorem lw_p15 : lw_okq (⟨"FieldKeeper$Reader", "readTest", "(I)V"⟩, 4) := ⟨⟨by decide +kernel, by decide +kernel⟩, List.mem_of_getElem? (i := 87) (by decide +kernel), List.mem_of_getElem? (i := 481) (by decide +kernel), List.mem_of_getElem? (i := 482) (by decide +kernel)⟩
def lw_privs_1 : List (MethodName × Nat) := [(⟨"FieldKeeper", "isWeekToCome", "(I)Z"⟩, 16), (⟨"FieldKeeper", "showWeek", "(I)V"⟩, 16), (⟨"FieldKeeper", "layGame", "(LFieldKeeper$Game;)V"⟩, 16), (⟨"FieldKeeper", "firstWish", "(LFieldKeeper$Game;I)I"⟩, 16), (⟨"FieldKeeper", "layInPlaceOfAnother", "(LFieldKeeper$Game;)V"⟩, 16), (⟨"FieldKeeper", "givesWay", "(LFieldKeeper$Game;LFieldKeeper$Game;)Z"⟩, 16), (⟨"FieldKeeper", "newGamesOf", "(I)I"⟩, 16), (⟨"FieldKeeper$Tokens", "addToken", "(LFieldKeeper$Tape;III)V"⟩, 4), (⟨"FieldKeeper$Reader", "sees", "(I)Z"⟩, 4), (⟨"FieldKeeper$Reader", "readLine", "(I)V"⟩, 4), (⟨"FieldKeeper$Reader", "refuse", "(I)V"⟩, 4), (⟨"FieldKeeper$Reader", "take", "(I)V"⟩, 4), (⟨"FieldKeeper$Reader", "readWhich", "()I"⟩, 4), (⟨"FieldKeeper$Reader", "step", "()V"⟩, 4), (⟨"FieldKeeper$Reader", "readAnds", "(I)V"⟩, 4), (⟨"FieldKeeper$Reader", "readTest", "(I)V"⟩, 4)]
theorem lw_r1 : ∀ q ∈ lw_privs_1, lw_okq q := List.forall_mem_cons.mpr ⟨lw_p0, List.forall_mem_cons.mpr ⟨lw_p1, List.forall_mem_cons.mpr ⟨lw_p2, List.forall_mem_cons.mpr ⟨lw_p3, List.forall_mem_cons.mpr ⟨lw_p4, List.forall_mem_cons.mpr ⟨lw_p5, List.forall_mem_cons.mpr ⟨lw_p6, List.forall_mem_cons.mpr ⟨lw_p7, List.forall_mem_cons.mpr ⟨lw_p8, List.forall_mem_cons.mpr ⟨lw_p9, List.forall_mem_cons.mpr ⟨lw_p10, List.forall_mem_cons.mpr ⟨lw_p11, List.forall_mem_cons.mpr ⟨lw_p12, List.forall_mem_cons.mpr ⟨lw_p13, List.forall_mem_cons.mpr ⟨lw_p14, List.forall_mem_cons.mpr ⟨lw_p15, fun _ h => absurd h List.not_mem_nil⟩⟩⟩⟩⟩⟩⟩⟩⟩⟩⟩⟩⟩⟩⟩⟩
theorem lw_p16 : lw_okq (⟨"FieldKeeper$Reader", "readSum", "(I)V"⟩, 4) := ⟨⟨by decide +kernel, by decide +kernel⟩, List.mem_of_getElem? (i := 87) (by decide +kernel), List.mem_of_getElem? (i := 485) (by decide +kernel), List.mem_of_getElem? (i := 486) (by decide +kernel)⟩
theorem lw_p17 : lw_okq (⟨"FieldKeeper$Reader", "readPart", "(I)V"⟩, 4) := ⟨⟨by decide +kernel, by decide +kernel⟩, List.mem_of_getElem? (i := 87) (by decide +kernel), List.mem_of_getElem? (i := 489) (by decide +kernel), List.mem_of_getElem? (i := 490) (by decide +kernel)⟩
theorem lw_p18 : lw_okq (⟨"FieldKeeper", "beginWeek", "()V"⟩, 16) := ⟨⟨by decide +kernel, by decide +kernel⟩, List.mem_of_getElem? (i := 21) (by decide +kernel), List.mem_of_getElem? (i := 506) (by decide +kernel), List.mem_of_getElem? (i := 507) (by decide +kernel)⟩
theorem lw_p19 : lw_okq (⟨"FieldKeeper", "passHour", "(III)V"⟩, 16) := ⟨⟨by decide +kernel, by decide +kernel⟩, List.mem_of_getElem? (i := 21) (by decide +kernel), List.mem_of_getElem? (i := 510) (by decide +kernel), List.mem_of_getElem? (i := 511) (by decide +kernel)⟩
theorem lw_p20 : lw_okq (⟨"FieldKeeper", "gameIn", "(II)I"⟩, 16) := ⟨⟨by decide +kernel, by decide +kernel⟩, List.mem_of_getElem? (i := 21) (by decide +kernel), List.mem_of_getElem? (i := 521) (by decide +kernel), List.mem_of_getElem? (i := 522) (by decide +kernel)⟩
theorem lw_p21 : lw_okq (⟨"FieldKeeper", "isShut", "(III)Z"⟩, 16) := ⟨⟨by decide +kernel, by decide +kernel⟩, List.mem_of_getElem? (i := 21) (by decide +kernel), List.mem_of_getElem? (i := 525) (by decide +kernel), List.mem_of_getElem? (i := 526) (by decide +kernel)⟩
theorem lw_p22 : lw_okq (⟨"FieldKeeper$Rules", "worth", "(II[I)I"⟩, 7) := ⟨⟨by decide +kernel, by decide +kernel⟩, List.mem_of_getElem? (i := 106) (by decide +kernel), List.mem_of_getElem? (i := 544) (by decide +kernel), List.mem_of_getElem? (i := 545) (by decide +kernel)⟩
theorem lw_p23 : lw_okq (⟨"FieldKeeper$Rules", "push", "(I)V"⟩, 7) := ⟨⟨by decide +kernel, by decide +kernel⟩, List.mem_of_getElem? (i := 106) (by decide +kernel), List.mem_of_getElem? (i := 548) (by decide +kernel), List.mem_of_getElem? (i := 549) (by decide +kernel)⟩
theorem lw_p24 : lw_okq (⟨"FieldKeeper$Rules", "pop", "()I"⟩, 7) := ⟨⟨by decide +kernel, by decide +kernel⟩, List.mem_of_getElem? (i := 106) (by decide +kernel), List.mem_of_getElem? (i := 552) (by decide +kernel), List.mem_of_getElem? (i := 553) (by decide +kernel)⟩
theorem lw_p25 : lw_okq (⟨"FieldKeeper", "sendAway", "(LFieldKeeper$Game;I)V"⟩, 16) := ⟨⟨by decide +kernel, by decide +kernel⟩, List.mem_of_getElem? (i := 21) (by decide +kernel), List.mem_of_getElem? (i := 559) (by decide +kernel), List.mem_of_getElem? (i := 560) (by decide +kernel)⟩
theorem lw_p26 : lw_okq (⟨"FieldKeeper", "playGame", "(LFieldKeeper$Game;LFieldKeeper$Pitch;)V"⟩, 16) := ⟨⟨by decide +kernel, by decide +kernel⟩, List.mem_of_getElem? (i := 21) (by decide +kernel), List.mem_of_getElem? (i := 563) (by decide +kernel), List.mem_of_getElem? (i := 564) (by decide +kernel)⟩
theorem lw_p27 : lw_okq (⟨"FieldKeeper", "isPitch", "(I)Z"⟩, 16) := ⟨⟨by decide +kernel, by decide +kernel⟩, List.mem_of_getElem? (i := 21) (by decide +kernel), List.mem_of_getElem? (i := 587) (by decide +kernel), List.mem_of_getElem? (i := 588) (by decide +kernel)⟩
theorem lw_p28 : lw_okq (⟨"FieldKeeper", "gamesThatAre", "(I)I"⟩, 16) := ⟨⟨by decide +kernel, by decide +kernel⟩, List.mem_of_getElem? (i := 21) (by decide +kernel), List.mem_of_getElem? (i := 615) (by decide +kernel), List.mem_of_getElem? (i := 616) (by decide +kernel)⟩
theorem lw_p29 : lw_okq (⟨"FieldKeeper", "allHoursShut", "()I"⟩, 16) := ⟨⟨by decide +kernel, by decide +kernel⟩, List.mem_of_getElem? (i := 21) (by decide +kernel), List.mem_of_getElem? (i := 619) (by decide +kernel), List.mem_of_getElem? (i := 620) (by decide +kernel)⟩
theorem lw_p30 : lw_okq (⟨"java/lang/Throwable", "fillInStackTrace", "(I)Ljava/lang/Throwable;"⟩, 6) := ⟨⟨by decide +kernel, by decide +kernel⟩, List.mem_of_getElem? (i := 667) (by decide +kernel), List.mem_of_getElem? (i := 665) (by decide +kernel), List.mem_of_getElem? (i := 666) (by decide +kernel)⟩
theorem lw_p31 : lw_okq (⟨"FieldKeeperModel", "lay", "(J)V"⟩, 46) := ⟨⟨by decide +kernel, by decide +kernel⟩, List.mem_of_getElem? (i := 696) (by decide +kernel), List.mem_of_getElem? (i := 862) (by decide +kernel), List.mem_of_getElem? (i := 863) (by decide +kernel)⟩
def lw_privs_2 : List (MethodName × Nat) := [(⟨"FieldKeeper$Reader", "readSum", "(I)V"⟩, 4), (⟨"FieldKeeper$Reader", "readPart", "(I)V"⟩, 4), (⟨"FieldKeeper", "beginWeek", "()V"⟩, 16), (⟨"FieldKeeper", "passHour", "(III)V"⟩, 16), (⟨"FieldKeeper", "gameIn", "(II)I"⟩, 16), (⟨"FieldKeeper", "isShut", "(III)Z"⟩, 16), (⟨"FieldKeeper$Rules", "worth", "(II[I)I"⟩, 7), (⟨"FieldKeeper$Rules", "push", "(I)V"⟩, 7), (⟨"FieldKeeper$Rules", "pop", "()I"⟩, 7), (⟨"FieldKeeper", "sendAway", "(LFieldKeeper$Game;I)V"⟩, 16), (⟨"FieldKeeper", "playGame", "(LFieldKeeper$Game;LFieldKeeper$Pitch;)V"⟩, 16), (⟨"FieldKeeper", "isPitch", "(I)Z"⟩, 16), (⟨"FieldKeeper", "gamesThatAre", "(I)I"⟩, 16), (⟨"FieldKeeper", "allHoursShut", "()I"⟩, 16), (⟨"java/lang/Throwable", "fillInStackTrace", "(I)Ljava/lang/Throwable;"⟩, 6), (⟨"FieldKeeperModel", "lay", "(J)V"⟩, 46)]
theorem lw_r2 : ∀ q ∈ lw_privs_2, lw_okq q := List.forall_mem_cons.mpr ⟨lw_p16, List.forall_mem_cons.mpr ⟨lw_p17, List.forall_mem_cons.mpr ⟨lw_p18, List.forall_mem_cons.mpr ⟨lw_p19, List.forall_mem_cons.mpr ⟨lw_p20, List.forall_mem_cons.mpr ⟨lw_p21, List.forall_mem_cons.mpr ⟨lw_p22, List.forall_mem_cons.mpr ⟨lw_p23, List.forall_mem_cons.mpr ⟨lw_p24, List.forall_mem_cons.mpr ⟨lw_p25, List.forall_mem_cons.mpr ⟨lw_p26, List.forall_mem_cons.mpr ⟨lw_p27, List.forall_mem_cons.mpr ⟨lw_p28, List.forall_mem_cons.mpr ⟨lw_p29, List.forall_mem_cons.mpr ⟨lw_p30, List.forall_mem_cons.mpr ⟨lw_p31, fun _ h => absurd h List.not_mem_nil⟩⟩⟩⟩⟩⟩⟩⟩⟩⟩⟩⟩⟩⟩⟩⟩
theorem lw_p32 : lw_okq (⟨"FieldKeeperModel", "cutAll", "()V"⟩, 46) := ⟨⟨by decide +kernel, by decide +kernel⟩, List.mem_of_getElem? (i := 696) (by decide +kernel), List.mem_of_getElem? (i := 870) (by decide +kernel), List.mem_of_getElem? (i := 871) (by decide +kernel)⟩
theorem lw_p33 : lw_okq (⟨"FieldKeeperModel", "line", "()V"⟩, 46) := ⟨⟨by decide +kernel, by decide +kernel⟩, List.mem_of_getElem? (i := 696) (by decide +kernel), List.mem_of_getElem? (i := 889) (by decide +kernel), List.mem_of_getElem? (i := 890) (by decide +kernel)⟩
theorem lw_p34 : lw_okq (⟨"FieldKeeperModel", "isWord", "(I)Z"⟩, 46) := ⟨⟨by decide +kernel, by decide +kernel⟩, List.mem_of_getElem? (i := 696) (by decide +kernel), List.mem_of_getElem? (i := 893) (by decide +kernel), List.mem_of_getElem? (i := 894) (by decide +kernel)⟩
theorem lw_p35 : lw_okq (⟨"FieldKeeperModel", "wrong", "(I)V"⟩, 46) := ⟨⟨by decide +kernel, by decide +kernel⟩, List.mem_of_getElem? (i := 696) (by decide +kernel), List.mem_of_getElem? (i := 897) (by decide +kernel), List.mem_of_getElem? (i := 898) (by decide +kernel)⟩
theorem lw_p36 : lw_okq (⟨"FieldKeeperModel", "hasWord", "(I)Z"⟩, 46) := ⟨⟨by decide +kernel, by decide +kernel⟩, List.mem_of_getElem? (i := 696) (by decide +kernel), List.mem_of_getElem? (i := 901) (by decide +kernel), List.mem_of_getElem? (i := 902) (by decide +kernel)⟩
theorem lw_p37 : lw_okq (⟨"FieldKeeperModel", "takeWord", "(I)V"⟩, 46) := ⟨⟨by decide +kernel, by decide +kernel⟩, List.mem_of_getElem? (i := 696) (by decide +kernel), List.mem_of_getElem? (i := 906) (by decide +kernel), List.mem_of_getElem? (i := 907) (by decide +kernel)⟩
theorem lw_p38 : lw_okq (⟨"FieldKeeperModel", "opens", "()V"⟩, 46) := ⟨⟨by decide +kernel, by decide +kernel⟩, List.mem_of_getElem? (i := 696) (by decide +kernel), List.mem_of_getElem? (i := 910) (by decide +kernel), List.mem_of_getElem? (i := 911) (by decide +kernel)⟩
theorem lw_p39 : lw_okq (⟨"FieldKeeperModel", "part", "()Z"⟩, 46) := ⟨⟨by decide +kernel, by decide +kernel⟩, List.mem_of_getElem? (i := 696) (by decide +kernel), List.mem_of_getElem? (i := 914) (by decide +kernel), List.mem_of_getElem? (i := 915) (by decide +kernel)⟩
theorem lw_p40 : lw_okq (⟨"FieldKeeperModel", "partWord", "()I"⟩, 46) := ⟨⟨by decide +kernel, by decide +kernel⟩, List.mem_of_getElem? (i := 696) (by decide +kernel), List.mem_of_getElem? (i := 918) (by decide +kernel), List.mem_of_getElem? (i := 919) (by decide +kernel)⟩
theorem lw_p41 : lw_okq (⟨"FieldKeeperModel", "isSign", "(I)Z"⟩, 46) := ⟨⟨by decide +kernel, by decide +kernel⟩, List.mem_of_getElem? (i := 696) (by decide +kernel), List.mem_of_getElem? (i := 922) (by decide +kernel), List.mem_of_getElem? (i := 923) (by decide +kernel)⟩
theorem lw_p42 : lw_okq (⟨"FieldKeeperModel", "hasSign", "(I)Z"⟩, 46) := ⟨⟨by decide +kernel, by decide +kernel⟩, List.mem_of_getElem? (i := 696) (by decide +kernel), List.mem_of_getElem? (i := 926) (by decide +kernel), List.mem_of_getElem? (i := 927) (by decide +kernel)⟩
theorem lw_p43 : lw_okq (⟨"FieldKeeperModel", "emit", "(II)V"⟩, 46) := ⟨⟨by decide +kernel, by decide +kernel⟩, List.mem_of_getElem? (i := 696) (by decide +kernel), List.mem_of_getElem? (i := 930) (by decide +kernel), List.mem_of_getElem? (i := 931) (by decide +kernel)⟩
theorem lw_p44 : lw_okq (⟨"FieldKeeperModel", "goesOnBehind", "()Z"⟩, 46) := ⟨⟨by decide +kernel, by decide +kernel⟩, List.mem_of_getElem? (i := 696) (by decide +kernel), List.mem_of_getElem? (i := 934) (by decide +kernel), List.mem_of_getElem? (i := 935) (by decide +kernel)⟩
theorem lw_p45 : lw_okq (⟨"FieldKeeperModel", "takeSign", "(I)V"⟩, 46) := ⟨⟨by decide +kernel, by decide +kernel⟩, List.mem_of_getElem? (i := 696) (by decide +kernel), List.mem_of_getElem? (i := 938) (by decide +kernel), List.mem_of_getElem? (i := 939) (by decide +kernel)⟩
theorem lw_p46 : lw_okq (⟨"FieldKeeperModel", "isPitch", "(I)Z"⟩, 46) := ⟨⟨by decide +kernel, by decide +kernel⟩, List.mem_of_getElem? (i := 696) (by decide +kernel), List.mem_of_getElem? (i := 950) (by decide +kernel), List.mem_of_getElem? (i := 951) (by decide +kernel)⟩
theorem lw_p47 : lw_okq (⟨"FieldKeeperModel", "isGone", "(I)Z"⟩, 46) := ⟨⟨by decide +kernel, by decide +kernel⟩, List.mem_of_getElem? (i := 696) (by decide +kernel), List.mem_of_getElem? (i := 958) (by decide +kernel), List.mem_of_getElem? (i := 959) (by decide +kernel)⟩
def lw_privs_3 : List (MethodName × Nat) := [(⟨"FieldKeeperModel", "cutAll", "()V"⟩, 46), (⟨"FieldKeeperModel", "line", "()V"⟩, 46), (⟨"FieldKeeperModel", "isWord", "(I)Z"⟩, 46), (⟨"FieldKeeperModel", "wrong", "(I)V"⟩, 46), (⟨"FieldKeeperModel", "hasWord", "(I)Z"⟩, 46), (⟨"FieldKeeperModel", "takeWord", "(I)V"⟩, 46), (⟨"FieldKeeperModel", "opens", "()V"⟩, 46), (⟨"FieldKeeperModel", "part", "()Z"⟩, 46), (⟨"FieldKeeperModel", "partWord", "()I"⟩, 46), (⟨"FieldKeeperModel", "isSign", "(I)Z"⟩, 46), (⟨"FieldKeeperModel", "hasSign", "(I)Z"⟩, 46), (⟨"FieldKeeperModel", "emit", "(II)V"⟩, 46), (⟨"FieldKeeperModel", "goesOnBehind", "()Z"⟩, 46), (⟨"FieldKeeperModel", "takeSign", "(I)V"⟩, 46), (⟨"FieldKeeperModel", "isPitch", "(I)Z"⟩, 46), (⟨"FieldKeeperModel", "isGone", "(I)Z"⟩, 46)]
theorem lw_r3 : ∀ q ∈ lw_privs_3, lw_okq q := List.forall_mem_cons.mpr ⟨lw_p32, List.forall_mem_cons.mpr ⟨lw_p33, List.forall_mem_cons.mpr ⟨lw_p34, List.forall_mem_cons.mpr ⟨lw_p35, List.forall_mem_cons.mpr ⟨lw_p36, List.forall_mem_cons.mpr ⟨lw_p37, List.forall_mem_cons.mpr ⟨lw_p38, List.forall_mem_cons.mpr ⟨lw_p39, List.forall_mem_cons.mpr ⟨lw_p40, List.forall_mem_cons.mpr ⟨lw_p41, List.forall_mem_cons.mpr ⟨lw_p42, List.forall_mem_cons.mpr ⟨lw_p43, List.forall_mem_cons.mpr ⟨lw_p44, List.forall_mem_cons.mpr ⟨lw_p45, List.forall_mem_cons.mpr ⟨lw_p46, List.forall_mem_cons.mpr ⟨lw_p47, fun _ h => absurd h List.not_mem_nil⟩⟩⟩⟩⟩⟩⟩⟩⟩⟩⟩⟩⟩⟩⟩⟩
theorem lw_p48 : lw_okq (⟨"FieldKeeperModel", "laysOne", "(I)Z"⟩, 46) := ⟨⟨by decide +kernel, by decide +kernel⟩, List.mem_of_getElem? (i := 696) (by decide +kernel), List.mem_of_getElem? (i := 967) (by decide +kernel), List.mem_of_getElem? (i := 968) (by decide +kernel)⟩
theorem lw_p49 : lw_okq (⟨"FieldKeeperModel", "firstSlot", "(IIZI)I"⟩, 46) := ⟨⟨by decide +kernel, by decide +kernel⟩, List.mem_of_getElem? (i := 696) (by decide +kernel), List.mem_of_getElem? (i := 971) (by decide +kernel), List.mem_of_getElem? (i := 972) (by decide +kernel)⟩
theorem lw_p50 : lw_okq (⟨"FieldKeeperModel", "suits", "(II)Z"⟩, 46) := ⟨⟨by decide +kernel, by decide +kernel⟩, List.mem_of_getElem? (i := 696) (by decide +kernel), List.mem_of_getElem? (i := 975) (by decide +kernel), List.mem_of_getElem? (i := 976) (by decide +kernel)⟩
theorem lw_p51 : lw_okq (⟨"FieldKeeperModel", "gameAt", "(I)I"⟩, 46) := ⟨⟨by decide +kernel, by decide +kernel⟩, List.mem_of_getElem? (i := 696) (by decide +kernel), List.mem_of_getElem? (i := 979) (by decide +kernel), List.mem_of_getElem? (i := 980) (by decide +kernel)⟩
theorem lw_p52 : lw_okq (⟨"FieldKeeperModel", "isThere", "(I)Z"⟩, 46) := ⟨⟨by decide +kernel, by decide +kernel⟩, List.mem_of_getElem? (i := 696) (by decide +kernel), List.mem_of_getElem? (i := 983) (by decide +kernel), List.mem_of_getElem? (i := 984) (by decide +kernel)⟩
theorem lw_p53 : lw_okq (⟨"FieldKeeperModel", "hasClub", "(II)Z"⟩, 46) := ⟨⟨by decide +kernel, by decide +kernel⟩, List.mem_of_getElem? (i := 696) (by decide +kernel), List.mem_of_getElem? (i := 987) (by decide +kernel), List.mem_of_getElem? (i := 988) (by decide +kernel)⟩
theorem lw_p54 : lw_okq (⟨"FieldKeeperModel", "lays", "(II)V"⟩, 46) := ⟨⟨by decide +kernel, by decide +kernel⟩, List.mem_of_getElem? (i := 696) (by decide +kernel), List.mem_of_getElem? (i := 991) (by decide +kernel), List.mem_of_getElem? (i := 992) (by decide +kernel)⟩
theorem lw_p55 : lw_okq (⟨"FieldKeeperModel", "givesWay", "(II)Z"⟩, 46) := ⟨⟨by decide +kernel, by decide +kernel⟩, List.mem_of_getElem? (i := 696) (by decide +kernel), List.mem_of_getElem? (i := 995) (by decide +kernel), List.mem_of_getElem? (i := 996) (by decide +kernel)⟩
theorem lw_p56 : lw_okq (⟨"FieldKeeperModel", "hour", "(IIII)V"⟩, 46) := ⟨⟨by decide +kernel, by decide +kernel⟩, List.mem_of_getElem? (i := 696) (by decide +kernel), List.mem_of_getElem? (i := 1003) (by decide +kernel), List.mem_of_getElem? (i := 1004) (by decide +kernel)⟩
theorem lw_p57 : lw_okq (⟨"FieldKeeperModel", "isShut", "(I)Z"⟩, 46) := ⟨⟨by decide +kernel, by decide +kernel⟩, List.mem_of_getElem? (i := 696) (by decide +kernel), List.mem_of_getElem? (i := 1013) (by decide +kernel), List.mem_of_getElem? (i := 1014) (by decide +kernel)⟩
theorem lw_p58 : lw_okq (⟨"FieldKeeperModel", "worth", "(I)I"⟩, 46) := ⟨⟨by decide +kernel, by decide +kernel⟩, List.mem_of_getElem? (i := 696) (by decide +kernel), List.mem_of_getElem? (i := 1017) (by decide +kernel), List.mem_of_getElem? (i := 1018) (by decide +kernel)⟩
theorem lw_p59 : lw_okq (⟨"FieldKeeperModel", "movesOn", "(I)V"⟩, 46) := ⟨⟨by decide +kernel, by decide +kernel⟩, List.mem_of_getElem? (i := 696) (by decide +kernel), List.mem_of_getElem? (i := 1021) (by decide +kernel), List.mem_of_getElem? (i := 1022) (by decide +kernel)⟩
theorem lw_p60 : lw_okq (⟨"FieldKeeperModel", "grows", "([III)V"⟩, 46) := ⟨⟨by decide +kernel, by decide +kernel⟩, List.mem_of_getElem? (i := 696) (by decide +kernel), List.mem_of_getElem? (i := 1031) (by decide +kernel), List.mem_of_getElem? (i := 1032) (by decide +kernel)⟩
theorem lw_p61 : lw_okq (⟨"FieldKeeperModel", "gamesOf", "(II)I"⟩, 46) := ⟨⟨by decide +kernel, by decide +kernel⟩, List.mem_of_getElem? (i := 696) (by decide +kernel), List.mem_of_getElem? (i := 1051) (by decide +kernel), List.mem_of_getElem? (i := 1052) (by decide +kernel)⟩
theorem lw_p62 : lw_okq (⟨"FieldKeeperModel", "gamesThat", "(I)I"⟩, 46) := ⟨⟨by decide +kernel, by decide +kernel⟩, List.mem_of_getElem? (i := 696) (by decide +kernel), List.mem_of_getElem? (i := 1067) (by decide +kernel), List.mem_of_getElem? (i := 1068) (by decide +kernel)⟩
def lw_privs_4 : List (MethodName × Nat) := [(⟨"FieldKeeperModel", "laysOne", "(I)Z"⟩, 46), (⟨"FieldKeeperModel", "firstSlot", "(IIZI)I"⟩, 46), (⟨"FieldKeeperModel", "suits", "(II)Z"⟩, 46), (⟨"FieldKeeperModel", "gameAt", "(I)I"⟩, 46), (⟨"FieldKeeperModel", "isThere", "(I)Z"⟩, 46), (⟨"FieldKeeperModel", "hasClub", "(II)Z"⟩, 46), (⟨"FieldKeeperModel", "lays", "(II)V"⟩, 46), (⟨"FieldKeeperModel", "givesWay", "(II)Z"⟩, 46), (⟨"FieldKeeperModel", "hour", "(IIII)V"⟩, 46), (⟨"FieldKeeperModel", "isShut", "(I)Z"⟩, 46), (⟨"FieldKeeperModel", "worth", "(I)I"⟩, 46), (⟨"FieldKeeperModel", "movesOn", "(I)V"⟩, 46), (⟨"FieldKeeperModel", "grows", "([III)V"⟩, 46), (⟨"FieldKeeperModel", "gamesOf", "(II)I"⟩, 46), (⟨"FieldKeeperModel", "gamesThat", "(I)I"⟩, 46)]
theorem lw_r4 : ∀ q ∈ lw_privs_4, lw_okq q := List.forall_mem_cons.mpr ⟨lw_p48, List.forall_mem_cons.mpr ⟨lw_p49, List.forall_mem_cons.mpr ⟨lw_p50, List.forall_mem_cons.mpr ⟨lw_p51, List.forall_mem_cons.mpr ⟨lw_p52, List.forall_mem_cons.mpr ⟨lw_p53, List.forall_mem_cons.mpr ⟨lw_p54, List.forall_mem_cons.mpr ⟨lw_p55, List.forall_mem_cons.mpr ⟨lw_p56, List.forall_mem_cons.mpr ⟨lw_p57, List.forall_mem_cons.mpr ⟨lw_p58, List.forall_mem_cons.mpr ⟨lw_p59, List.forall_mem_cons.mpr ⟨lw_p60, List.forall_mem_cons.mpr ⟨lw_p61, List.forall_mem_cons.mpr ⟨lw_p62, fun _ h => absurd h List.not_mem_nil⟩⟩⟩⟩⟩⟩⟩⟩⟩⟩⟩⟩⟩⟩⟩
def lw_privs : List (MethodName × Nat) := lw_privs_1 ++ (lw_privs_2 ++ (lw_privs_3 ++ (lw_privs_4)))
def lw_tbl : List Cond := k2_sels lw_privs ++ tables_1
theorem lw_privs_ok : ∀ q ∈ lw_privs, lw_okq q := by
  show ∀ q ∈ lw_privs_1 ++ (lw_privs_2 ++ (lw_privs_3 ++ (lw_privs_4))), lw_okq q
  exact List.forall_mem_append.mpr ⟨lw_r1, List.forall_mem_append.mpr ⟨lw_r2, List.forall_mem_append.mpr ⟨lw_r3, lw_r4⟩⟩⟩

def RX0 : String := "FieldKeeper$Board"
def TX0 : u_T := fun k => match k with
  | 0 => ("FieldKeeper$Board", "taken", "[I", true)
  | _ => ("FieldKeeper$Board", "busy", "[I", true)
def tyX0 : Nat → FieldType := fun k => match k with
  | 0 => .array .int
  | _ => .array .int
theorem nmX0 : ∀ a, a < 2 → ∀ b, b < 2 → a ≠ b → (TX0 a).2.1 ≠ (TX0 b).2.1 := by decide +kernel
theorem tyX0_ok : ∀ k, k < 2 → parseFieldDescriptor (TX0 k).2.2.1 = some (tyX0 k) := by decide +kernel
abbrev cX0_init : ByteArray := prog_2_method_1_code
def yX0_init : MethodName := ⟨RX0, "<init>", "()V"⟩
abbrev cX0_clear : ByteArray := prog_2_method_2_code
def yX0_clear : MethodName := ⟨RX0, "clear", "()V"⟩
abbrev cX0_put : ByteArray := prog_2_method_3_code
def yX0_put : MethodName := ⟨RX0, "put", "(II)V"⟩
abbrev cX0_drop : ByteArray := prog_2_method_4_code
def yX0_drop : MethodName := ⟨RX0, "drop", "(II)V"⟩
abbrev cX0_has : ByteArray := prog_2_method_5_code
def yX0_has : MethodName := ⟨RX0, "has", "(I)Z"⟩
abbrev cX0_firstSlot : ByteArray := prog_2_method_6_code
def yX0_firstSlot : MethodName := ⟨RX0, "firstSlot", "(IIIII)I"⟩
abbrev cX0_isSlot : ByteArray := prog_2_method_7_code
def yX0_isSlot : MethodName := ⟨RX0, "isSlot", "(I)Z"⟩
abbrev cX0_slotsOfDay : ByteArray := prog_2_method_8_code
def yX0_slotsOfDay : MethodName := ⟨RX0, "slotsOfDay", "(II)I"⟩
abbrev cX0_lowestBit : ByteArray := prog_2_method_9_code
def yX0_lowestBit : MethodName := ⟨RX0, "lowestBit", "(I)I"⟩
def RX1 : String := "FieldKeeper$Game"
def TX1 : u_T := fun k => match k with
  | 0 => ("FieldKeeper$Game", "a", "I", true)
  | 1 => ("FieldKeeper$Game", "b", "I", true)
  | 2 => ("FieldKeeper$Game", "clubs", "I", true)
  | 3 => ("FieldKeeper$Game", "age", "I", true)
  | 4 => ("FieldKeeper$Game", "rank", "I", true)
  | 5 => ("FieldKeeper$Game", "week", "I", true)
  | 6 => ("FieldKeeper$Game", "wishes", "I", true)
  | 7 => ("FieldKeeper$Game", "state", "I", false)
  | 8 => ("FieldKeeper$Game", "slot", "I", false)
  | _ => ("FieldKeeper$Game", "moves", "I", false)
def tyX1 : Nat → FieldType := fun k => match k with
  | 0 => .int
  | 1 => .int
  | 2 => .int
  | 3 => .int
  | 4 => .int
  | 5 => .int
  | 6 => .int
  | 7 => .int
  | 8 => .int
  | _ => .int
theorem nmX1 : ∀ a, a < 10 → ∀ b, b < 10 → a ≠ b → (TX1 a).2.1 ≠ (TX1 b).2.1 := by decide +kernel
theorem tyX1_ok : ∀ k, k < 10 → parseFieldDescriptor (TX1 k).2.2.1 = some (tyX1 k) := by decide +kernel
abbrev cX1_init : ByteArray := prog_3_method_1_code
def yX1_init : MethodName := ⟨RX1, "<init>", "(IIIIII)V"⟩
def RX2 : String := "FieldKeeper$Pitch"
def TX2 : u_T := fun k => match k with
  | 0 => ("FieldKeeper$Pitch", "now", "LFieldKeeper$Turf;", true)
  | 1 => ("FieldKeeper$Pitch", "other", "LFieldKeeper$Turf;", true)
  | 2 => ("FieldKeeper$Pitch", "played", "I", false)
  | 3 => ("FieldKeeper$Pitch", "playedThisWeek", "I", false)
  | _ => ("FieldKeeper$Pitch", "hoursShut", "I", false)
def tyX2 : Nat → FieldType := fun k => match k with
  | 0 => .object "FieldKeeper$Turf"
  | 1 => .object "FieldKeeper$Turf"
  | 2 => .int
  | 3 => .int
  | _ => .int
theorem nmX2 : ∀ a, a < 5 → ∀ b, b < 5 → a ≠ b → (TX2 a).2.1 ≠ (TX2 b).2.1 := by decide +kernel
theorem tyX2_ok : ∀ k, k < 5 → parseFieldDescriptor (TX2 k).2.2.1 = some (tyX2 k) := by decide +kernel
abbrev cX2_init : ByteArray := prog_4_method_1_code
def yX2_init : MethodName := ⟨RX2, "<init>", "(I)V"⟩
def RX3 : String := "FieldKeeper$Reader"
def TX3 : u_T := fun k => match k with
  | 0 => ("FieldKeeper$Reader", "tokens", "LFieldKeeper$Tokens;", true)
  | 1 => ("FieldKeeper$Reader", "target", "LFieldKeeper$Rules;", false)
  | 2 => ("FieldKeeper$Reader", "next", "I", false)
  | _ => ("FieldKeeper$Reader", "fault", "I", false)
def tyX3 : Nat → FieldType := fun k => match k with
  | 0 => .object "FieldKeeper$Tokens"
  | 1 => .object "FieldKeeper$Rules"
  | 2 => .int
  | _ => .int
theorem nmX3 : ∀ a, a < 4 → ∀ b, b < 4 → a ≠ b → (TX3 a).2.1 ≠ (TX3 b).2.1 := by decide +kernel
theorem tyX3_ok : ∀ k, k < 4 → parseFieldDescriptor (TX3 k).2.2.1 = some (tyX3 k) := by decide +kernel
abbrev cX3_init : ByteArray := prog_5_method_1_code
def yX3_init : MethodName := ⟨RX3, "<init>", "(LFieldKeeper$Tokens;)V"⟩
abbrev cX3_read : ByteArray := prog_5_method_2_code
def yX3_read : MethodName := ⟨RX3, "read", "(LFieldKeeper$Rules;)I"⟩
abbrev cX3_readLine : ByteArray := prog_5_method_3_code
def yX3_readLine : MethodName := ⟨RX3, "readLine", "(I)V"⟩
abbrev cX3_readWhich : ByteArray := prog_5_method_4_code
def yX3_readWhich : MethodName := ⟨RX3, "readWhich", "()I"⟩
abbrev cX3_readAnds : ByteArray := prog_5_method_5_code
def yX3_readAnds : MethodName := ⟨RX3, "readAnds", "(I)V"⟩
abbrev cX3_readTest : ByteArray := prog_5_method_6_code
def yX3_readTest : MethodName := ⟨RX3, "readTest", "(I)V"⟩
abbrev cX3_readSum : ByteArray := prog_5_method_7_code
def yX3_readSum : MethodName := ⟨RX3, "readSum", "(I)V"⟩
abbrev cX3_readPart : ByteArray := prog_5_method_8_code
def yX3_readPart : MethodName := ⟨RX3, "readPart", "(I)V"⟩
abbrev cX3_sees : ByteArray := prog_5_method_9_code
def yX3_sees : MethodName := ⟨RX3, "sees", "(I)Z"⟩
abbrev cX3_step : ByteArray := prog_5_method_10_code
def yX3_step : MethodName := ⟨RX3, "step", "()V"⟩
abbrev cX3_take : ByteArray := prog_5_method_11_code
def yX3_take : MethodName := ⟨RX3, "take", "(I)V"⟩
abbrev cX3_refuse : ByteArray := prog_5_method_12_code
def yX3_refuse : MethodName := ⟨RX3, "refuse", "(I)V"⟩
def RX4 : String := "FieldKeeper$Rules"
def TX4 : u_T := fun k => match k with
  | 0 => ("FieldKeeper$Rules", "code", "[I", true)
  | 1 => ("FieldKeeper$Rules", "lineEnd", "[I", true)
  | 2 => ("FieldKeeper$Rules", "linePitch", "[I", true)
  | 3 => ("FieldKeeper$Rules", "open", "[I", true)
  | 4 => ("FieldKeeper$Rules", "codeSize", "I", false)
  | 5 => ("FieldKeeper$Rules", "openSize", "I", false)
  | _ => ("FieldKeeper$Rules", "lineCount", "I", false)
def tyX4 : Nat → FieldType := fun k => match k with
  | 0 => .array .int
  | 1 => .array .int
  | 2 => .array .int
  | 3 => .array .int
  | 4 => .int
  | 5 => .int
  | _ => .int
theorem nmX4 : ∀ a, a < 7 → ∀ b, b < 7 → a ≠ b → (TX4 a).2.1 ≠ (TX4 b).2.1 := by decide +kernel
theorem tyX4_ok : ∀ k, k < 7 → parseFieldDescriptor (TX4 k).2.2.1 = some (tyX4 k) := by decide +kernel
abbrev cX4_init : ByteArray := prog_6_method_1_code
def yX4_init : MethodName := ⟨RX4, "<init>", "()V"⟩
abbrev cX4_clear : ByteArray := prog_6_method_2_code
def yX4_clear : MethodName := ⟨RX4, "clear", "()V"⟩
abbrev cX4_put : ByteArray := prog_6_method_3_code
def yX4_put : MethodName := ⟨RX4, "put", "(I)V"⟩
abbrev cX4_endLine : ByteArray := prog_6_method_4_code
def yX4_endLine : MethodName := ⟨RX4, "endLine", "(I)V"⟩
abbrev cX4_shut : ByteArray := prog_6_method_5_code
def yX4_shut : MethodName := ⟨RX4, "shut", "(I[I)Z"⟩
abbrev cX4_worth : ByteArray := prog_6_method_6_code
def yX4_worth : MethodName := ⟨RX4, "worth", "(II[I)I"⟩
abbrev cX4_push : ByteArray := prog_6_method_7_code
def yX4_push : MethodName := ⟨RX4, "push", "(I)V"⟩
abbrev cX4_pop : ByteArray := prog_6_method_8_code
def yX4_pop : MethodName := ⟨RX4, "pop", "()I"⟩
abbrev cX4_join : ByteArray := prog_6_method_9_code
def yX4_join : MethodName := ⟨RX4, "join", "(III)I"⟩
def RX5 : String := "FieldKeeper$Tape"
def TX5 : u_T := fun k => match k with
  | 0 => ("FieldKeeper$Tape", "signs", "[C", true)
  | _ => ("FieldKeeper$Tape", "size", "I", false)
def tyX5 : Nat → FieldType := fun k => match k with
  | 0 => .array .char
  | _ => .int
theorem nmX5 : ∀ a, a < 2 → ∀ b, b < 2 → a ≠ b → (TX5 a).2.1 ≠ (TX5 b).2.1 := by decide +kernel
theorem tyX5_ok : ∀ k, k < 2 → parseFieldDescriptor (TX5 k).2.2.1 = some (tyX5 k) := by decide +kernel
abbrev cX5_init : ByteArray := prog_7_method_1_code
def yX5_init : MethodName := ⟨RX5, "<init>", "()V"⟩
abbrev cX5_addBytes : ByteArray := prog_7_method_2_code
def yX5_addBytes : MethodName := ⟨RX5, "addBytes", "(J)V"⟩
def RX6 : String := "FieldKeeper$Tokens"
def TX6 : u_T := fun k => match k with
  | 0 => ("FieldKeeper$Tokens", "kind", "[I", true)
  | 1 => ("FieldKeeper$Tokens", "place", "[I", true)
  | 2 => ("FieldKeeper$Tokens", "value", "[I", true)
  | _ => ("FieldKeeper$Tokens", "size", "I", false)
def tyX6 : Nat → FieldType := fun k => match k with
  | 0 => .array .int
  | 1 => .array .int
  | 2 => .array .int
  | _ => .int
theorem nmX6 : ∀ a, a < 4 → ∀ b, b < 4 → a ≠ b → (TX6 a).2.1 ≠ (TX6 b).2.1 := by decide +kernel
theorem tyX6_ok : ∀ k, k < 4 → parseFieldDescriptor (TX6 k).2.2.1 = some (tyX6 k) := by decide +kernel
abbrev cX6_init : ByteArray := prog_8_method_1_code
def yX6_init : MethodName := ⟨RX6, "<init>", "()V"⟩
abbrev cX6_cut : ByteArray := prog_8_method_2_code
def yX6_cut : MethodName := ⟨RX6, "cut", "(LFieldKeeper$Tape;)V"⟩
abbrev cX6_sortOf : ByteArray := prog_8_method_3_code
def yX6_sortOf : MethodName := ⟨RX6, "sortOf", "(C)I"⟩
abbrev cX6_addToken : ByteArray := prog_8_method_4_code
def yX6_addToken : MethodName := ⟨RX6, "addToken", "(LFieldKeeper$Tape;III)V"⟩
abbrev cX6_markKind : ByteArray := prog_8_method_5_code
def yX6_markKind : MethodName := ⟨RX6, "markKind", "(I)I"⟩
abbrev cX6_numberValue : ByteArray := prog_8_method_6_code
def yX6_numberValue : MethodName := ⟨RX6, "numberValue", "([CII)I"⟩
abbrev cX6_wordKind : ByteArray := prog_8_method_7_code
def yX6_wordKind : MethodName := ⟨RX6, "wordKind", "([CII)I"⟩
abbrev cX6_shortWordKind : ByteArray := prog_8_method_8_code
def yX6_shortWordKind : MethodName := ⟨RX6, "shortWordKind", "([CI)I"⟩
abbrev cX6_fourLetterKind : ByteArray := prog_8_method_9_code
def yX6_fourLetterKind : MethodName := ⟨RX6, "fourLetterKind", "([CI)I"⟩
abbrev cX6_spells : ByteArray := prog_8_method_10_code
def yX6_spells : MethodName := ⟨RX6, "spells", "([CILjava/lang/String;)Z"⟩
def RX7 : String := "FieldKeeper$Turf"
def TX7 : u_T := fun k => match k with
  | 0 => ("FieldKeeper$Turf", "cells", "[I", true)
  | 1 => ("FieldKeeper$Turf", "stand", "I", false)
  | _ => ("FieldKeeper$Turf", "worn", "I", false)
def tyX7 : Nat → FieldType := fun k => match k with
  | 0 => .array .int
  | 1 => .int
  | _ => .int
theorem nmX7 : ∀ a, a < 3 → ∀ b, b < 3 → a ≠ b → (TX7 a).2.1 ≠ (TX7 b).2.1 := by decide +kernel
theorem tyX7_ok : ∀ k, k < 3 → parseFieldDescriptor (TX7 k).2.2.1 = some (tyX7 k) := by decide +kernel
abbrev cX7_init : ByteArray := prog_9_method_1_code
def yX7_init : MethodName := ⟨RX7, "<init>", "(I)V"⟩
abbrev cX7_wear : ByteArray := prog_9_method_2_code
def yX7_wear : MethodName := ⟨RX7, "wear", "(II)V"⟩
abbrev cX7_grow : ByteArray := prog_9_method_3_code
def yX7_grow : MethodName := ⟨RX7, "grow", "(II)V"⟩
abbrev cX7_least : ByteArray := prog_9_method_4_code
def yX7_least : MethodName := ⟨RX7, "least", "()I"⟩
abbrev cX7_mean : ByteArray := prog_9_method_5_code
def yX7_mean : MethodName := ⟨RX7, "mean", "()I"⟩
def RX8 : String := "FieldKeeper"
def TX8 : u_T := fun k => match k with
  | 0 => ("FieldKeeper", "pitches", "[LFieldKeeper$Pitch;", true)
  | 1 => ("FieldKeeper", "games", "[LFieldKeeper$Game;", true)
  | 2 => ("FieldKeeper", "takers", "[I", true)
  | 3 => ("FieldKeeper", "clubPlayed", "[I", true)
  | 4 => ("FieldKeeper", "clubLost", "[I", true)
  | 5 => ("FieldKeeper", "clubOff", "[I", true)
  | 6 => ("FieldKeeper", "told", "[I", true)
  | 7 => ("FieldKeeper", "board", "LFieldKeeper$Board;", true)
  | 8 => ("FieldKeeper", "tape", "LFieldKeeper$Tape;", true)
  | 9 => ("FieldKeeper", "tokens", "LFieldKeeper$Tokens;", true)
  | 10 => ("FieldKeeper", "reader", "LFieldKeeper$Reader;", true)
  | 11 => ("FieldKeeper", "rules", "LFieldKeeper$Rules;", false)
  | 12 => ("FieldKeeper", "spareRules", "LFieldKeeper$Rules;", false)
  | 13 => ("FieldKeeper", "pitchCount", "I", false)
  | 14 => ("FieldKeeper", "gameCount", "I", false)
  | _ => ("FieldKeeper", "daysOver", "I", false)
def tyX8 : Nat → FieldType := fun k => match k with
  | 0 => .array (.object "FieldKeeper$Pitch")
  | 1 => .array (.object "FieldKeeper$Game")
  | 2 => .array .int
  | 3 => .array .int
  | 4 => .array .int
  | 5 => .array .int
  | 6 => .array .int
  | 7 => .object "FieldKeeper$Board"
  | 8 => .object "FieldKeeper$Tape"
  | 9 => .object "FieldKeeper$Tokens"
  | 10 => .object "FieldKeeper$Reader"
  | 11 => .object "FieldKeeper$Rules"
  | 12 => .object "FieldKeeper$Rules"
  | 13 => .int
  | 14 => .int
  | _ => .int
theorem nmX8 : ∀ a, a < 16 → ∀ b, b < 16 → a ≠ b → (TX8 a).2.1 ≠ (TX8 b).2.1 := by decide +kernel
theorem tyX8_ok : ∀ k, k < 16 → parseFieldDescriptor (TX8 k).2.2.1 = some (tyX8 k) := by decide +kernel
abbrev cX8_init : ByteArray := prog_1_method_1_code
def yX8_init : MethodName := ⟨RX8, "<init>", "()V"⟩
abbrev cX8_pitch : ByteArray := prog_1_method_2_code
def yX8_pitch : MethodName := ⟨RX8, "pitch", "(II)I"⟩
abbrev cX8_game : ByteArray := prog_1_method_3_code
def yX8_game : MethodName := ⟨RX8, "game", "(IIIIII)I"⟩
abbrev cX8_lay : ByteArray := prog_1_method_4_code
def yX8_lay : MethodName := ⟨RX8, "lay", "(I)I"⟩
abbrev cX8_feed : ByteArray := prog_1_method_5_code
def yX8_feed : MethodName := ⟨RX8, "feed", "(JJJ)I"⟩
abbrev cX8_text : ByteArray := prog_1_method_6_code
def yX8_text : MethodName := ⟨RX8, "text", "()I"⟩
abbrev cX8_day : ByteArray := prog_1_method_7_code
def yX8_day : MethodName := ⟨RX8, "day", "(II)I"⟩
abbrev cX8_turn : ByteArray := prog_1_method_8_code
def yX8_turn : MethodName := ⟨RX8, "turn", "(I)I"⟩
abbrev cX8_grass : ByteArray := prog_1_method_9_code
def yX8_grass : MethodName := ⟨RX8, "grass", "(III)I"⟩
abbrev cX8_look : ByteArray := prog_1_method_10_code
def yX8_look : MethodName := ⟨RX8, "look", "(II)I"⟩
abbrev cX8_at : ByteArray := prog_1_method_11_code
def yX8_at : MethodName := ⟨RX8, "at", "(III)I"⟩
abbrev cX8_club : ByteArray := prog_1_method_12_code
def yX8_club : MethodName := ⟨RX8, "club", "(II)I"⟩
abbrev cX8_field : ByteArray := prog_1_method_13_code
def yX8_field : MethodName := ⟨RX8, "field", "(II)I"⟩
abbrev cX8_would : ByteArray := prog_1_method_14_code
def yX8_would : MethodName := ⟨RX8, "would", "(II)I"⟩
abbrev cX8_count : ByteArray := prog_1_method_15_code
def yX8_count : MethodName := ⟨RX8, "count", "(I)I"⟩
abbrev cX8_isClub : ByteArray := prog_1_method_16_code
def yX8_isClub : MethodName := ⟨RX8, "isClub", "(I)Z"⟩
abbrev cX8_isPitch : ByteArray := prog_1_method_17_code
def yX8_isPitch : MethodName := ⟨RX8, "isPitch", "(I)Z"⟩
abbrev cX8_isWeekToCome : ByteArray := prog_1_method_18_code
def yX8_isWeekToCome : MethodName := ⟨RX8, "isWeekToCome", "(I)Z"⟩
abbrev cX8_slotOf : ByteArray := prog_1_method_19_code
def yX8_slotOf : MethodName := ⟨RX8, "slotOf", "(III)I"⟩
abbrev cX8_gameIn : ByteArray := prog_1_method_20_code
def yX8_gameIn : MethodName := ⟨RX8, "gameIn", "(II)I"⟩
abbrev cX8_gamesThatAre : ByteArray := prog_1_method_21_code
def yX8_gamesThatAre : MethodName := ⟨RX8, "gamesThatAre", "(I)I"⟩
abbrev cX8_newGamesOf : ByteArray := prog_1_method_22_code
def yX8_newGamesOf : MethodName := ⟨RX8, "newGamesOf", "(I)I"⟩
abbrev cX8_allHoursShut : ByteArray := prog_1_method_23_code
def yX8_allHoursShut : MethodName := ⟨RX8, "allHoursShut", "()I"⟩
abbrev cX8_showWeek : ByteArray := prog_1_method_24_code
def yX8_showWeek : MethodName := ⟨RX8, "showWeek", "(I)V"⟩
abbrev cX8_layGame : ByteArray := prog_1_method_25_code
def yX8_layGame : MethodName := ⟨RX8, "layGame", "(LFieldKeeper$Game;)V"⟩
abbrev cX8_firstWish : ByteArray := prog_1_method_26_code
def yX8_firstWish : MethodName := ⟨RX8, "firstWish", "(LFieldKeeper$Game;I)I"⟩
abbrev cX8_layInPlaceOfAnother : ByteArray := prog_1_method_27_code
def yX8_layInPlaceOfAnother : MethodName := ⟨RX8, "layInPlaceOfAnother", "(LFieldKeeper$Game;)V"⟩
abbrev cX8_givesWay : ByteArray := prog_1_method_28_code
def yX8_givesWay : MethodName := ⟨RX8, "givesWay", "(LFieldKeeper$Game;LFieldKeeper$Game;)Z"⟩
abbrev cX8_beginWeek : ByteArray := prog_1_method_29_code
def yX8_beginWeek : MethodName := ⟨RX8, "beginWeek", "()V"⟩
abbrev cX8_passHour : ByteArray := prog_1_method_30_code
def yX8_passHour : MethodName := ⟨RX8, "passHour", "(III)V"⟩
abbrev cX8_isShut : ByteArray := prog_1_method_31_code
def yX8_isShut : MethodName := ⟨RX8, "isShut", "(III)Z"⟩
abbrev cX8_sendAway : ByteArray := prog_1_method_32_code
def yX8_sendAway : MethodName := ⟨RX8, "sendAway", "(LFieldKeeper$Game;I)V"⟩
abbrev cX8_playGame : ByteArray := prog_1_method_33_code
def yX8_playGame : MethodName := ⟨RX8, "playGame", "(LFieldKeeper$Game;LFieldKeeper$Pitch;)V"⟩
def RX9 : String := "FieldKeeperModel"
def TX9 : u_T := fun k => match k with
  | 0 => ("FieldKeeperModel", "thrown", "I", false)
  | 1 => ("FieldKeeperModel", "tape", "[I", true)
  | 2 => ("FieldKeeperModel", "taped", "I", false)
  | 3 => ("FieldKeeperModel", "size", "I", false)
  | 4 => ("FieldKeeperModel", "sort", "[I", true)
  | 5 => ("FieldKeeperModel", "place", "[I", true)
  | 6 => ("FieldKeeperModel", "value", "[J", true)
  | 7 => ("FieldKeeperModel", "at", "I", false)
  | 8 => ("FieldKeeperModel", "fault", "I", false)
  | 9 => ("FieldKeeperModel", "words", "[J", true)
  | 10 => ("FieldKeeperModel", "lines", "[I", true)
  | 11 => ("FieldKeeperModel", "linePitch", "[I", true)
  | 12 => ("FieldKeeperModel", "lineAt", "[I", true)
  | 13 => ("FieldKeeperModel", "op", "[I", true)
  | 14 => ("FieldKeeperModel", "one", "[I", true)
  | 15 => ("FieldKeeperModel", "holds", "I", false)
  | 16 => ("FieldKeeperModel", "next", "I", false)
  | 17 => ("FieldKeeperModel", "codes", "I", false)
  | 18 => ("FieldKeeperModel", "deep", "I", false)
  | 19 => ("FieldKeeperModel", "sumWaits", "[I", true)
  | 20 => ("FieldKeeperModel", "signWaits", "[I", true)
  | 21 => ("FieldKeeperModel", "andWaits", "[I", true)
  | 22 => ("FieldKeeperModel", "known", "[I", true)
  | 23 => ("FieldKeeperModel", "pile", "[I", true)
  | 24 => ("FieldKeeperModel", "pitches", "I", false)
  | 25 => ("FieldKeeperModel", "ages", "[I", true)
  | 26 => ("FieldKeeperModel", "stand", "[I", true)
  | 27 => ("FieldKeeperModel", "grass", "[I", true)
  | 28 => ("FieldKeeperModel", "shadow", "[I", true)
  | 29 => ("FieldKeeperModel", "wear", "[I", true)
  | 30 => ("FieldKeeperModel", "shadowWear", "[I", true)
  | 31 => ("FieldKeeperModel", "played", "[I", true)
  | 32 => ("FieldKeeperModel", "playedNow", "[I", true)
  | 33 => ("FieldKeeperModel", "shut", "[I", true)
  | 34 => ("FieldKeeperModel", "over", "I", false)
  | 35 => ("FieldKeeperModel", "games", "I", false)
  | 36 => ("FieldKeeperModel", "clubA", "[I", true)
  | 37 => ("FieldKeeperModel", "clubB", "[I", true)
  | 38 => ("FieldKeeperModel", "age", "[I", true)
  | 39 => ("FieldKeeperModel", "rank", "[I", true)
  | 40 => ("FieldKeeperModel", "week", "[I", true)
  | 41 => ("FieldKeeperModel", "wishes", "[I", true)
  | 42 => ("FieldKeeperModel", "state", "[I", true)
  | 43 => ("FieldKeeperModel", "slot", "[I", true)
  | 44 => ("FieldKeeperModel", "moves", "[I", true)
  | _ => ("FieldKeeperModel", "lost", "[I", true)
def tyX9 : Nat → FieldType := fun k => match k with
  | 0 => .int
  | 1 => .array .int
  | 2 => .int
  | 3 => .int
  | 4 => .array .int
  | 5 => .array .int
  | 6 => .array .long
  | 7 => .int
  | 8 => .int
  | 9 => .array .long
  | 10 => .array .int
  | 11 => .array .int
  | 12 => .array .int
  | 13 => .array .int
  | 14 => .array .int
  | 15 => .int
  | 16 => .int
  | 17 => .int
  | 18 => .int
  | 19 => .array .int
  | 20 => .array .int
  | 21 => .array .int
  | 22 => .array .int
  | 23 => .array .int
  | 24 => .int
  | 25 => .array .int
  | 26 => .array .int
  | 27 => .array .int
  | 28 => .array .int
  | 29 => .array .int
  | 30 => .array .int
  | 31 => .array .int
  | 32 => .array .int
  | 33 => .array .int
  | 34 => .int
  | 35 => .int
  | 36 => .array .int
  | 37 => .array .int
  | 38 => .array .int
  | 39 => .array .int
  | 40 => .array .int
  | 41 => .array .int
  | 42 => .array .int
  | 43 => .array .int
  | 44 => .array .int
  | _ => .array .int
theorem nmX9 : ∀ a, a < 46 → ∀ b, b < 46 → a ≠ b → (TX9 a).2.1 ≠ (TX9 b).2.1 := by decide +kernel
theorem tyX9_ok : ∀ k, k < 46 → parseFieldDescriptor (TX9 k).2.2.1 = some (tyX9 k) := by decide +kernel
abbrev cX9_init : ByteArray := prog_11_method_1_code
def yX9_init : MethodName := ⟨RX9, "<init>", "()V"⟩
abbrev cX9_thrown : ByteArray := prog_11_method_2_code
def yX9_thrown : MethodName := ⟨RX9, "thrown", "()I"⟩
abbrev cX9_feed : ByteArray := prog_11_method_3_code
def yX9_feed : MethodName := ⟨RX9, "feed", "(JJJ)I"⟩
abbrev cX9_lay : ByteArray := prog_11_method_4_code
def yX9_lay : MethodName := ⟨RX9, "lay", "(J)V"⟩
abbrev cX9_isLetter : ByteArray := prog_11_method_5_code
def yX9_isLetter : MethodName := ⟨RX9, "isLetter", "(I)Z"⟩
abbrev cX9_isDigit : ByteArray := prog_11_method_6_code
def yX9_isDigit : MethodName := ⟨RX9, "isDigit", "(I)Z"⟩
abbrev cX9_rank : ByteArray := prog_11_method_7_code
def yX9_rank : MethodName := ⟨RX9, "rank", "(I)I"⟩
abbrev cX9_isSignOf : ByteArray := prog_11_method_8_code
def yX9_isSignOf : MethodName := ⟨RX9, "isSignOf", "(I)Z"⟩
abbrev cX9_cutAll : ByteArray := prog_11_method_9_code
def yX9_cutAll : MethodName := ⟨RX9, "cutAll", "()V"⟩
abbrev cX9_wrong : ByteArray := prog_11_method_10_code
def yX9_wrong : MethodName := ⟨RX9, "wrong", "(I)V"⟩
abbrev cX9_isSign : ByteArray := prog_11_method_11_code
def yX9_isSign : MethodName := ⟨RX9, "isSign", "(I)Z"⟩
abbrev cX9_isWord : ByteArray := prog_11_method_12_code
def yX9_isWord : MethodName := ⟨RX9, "isWord", "(I)Z"⟩
abbrev cX9_takeSign : ByteArray := prog_11_method_13_code
def yX9_takeSign : MethodName := ⟨RX9, "takeSign", "(I)V"⟩
abbrev cX9_hasSign : ByteArray := prog_11_method_14_code
def yX9_hasSign : MethodName := ⟨RX9, "hasSign", "(I)Z"⟩
abbrev cX9_hasWord : ByteArray := prog_11_method_15_code
def yX9_hasWord : MethodName := ⟨RX9, "hasWord", "(I)Z"⟩
abbrev cX9_takeWord : ByteArray := prog_11_method_16_code
def yX9_takeWord : MethodName := ⟨RX9, "takeWord", "(I)V"⟩
abbrev cX9_emit : ByteArray := prog_11_method_17_code
def yX9_emit : MethodName := ⟨RX9, "emit", "(II)V"⟩
abbrev cX9_text : ByteArray := prog_11_method_18_code
def yX9_text : MethodName := ⟨RX9, "text", "()I"⟩
abbrev cX9_line : ByteArray := prog_11_method_19_code
def yX9_line : MethodName := ⟨RX9, "line", "()V"⟩
abbrev cX9_opens : ByteArray := prog_11_method_20_code
def yX9_opens : MethodName := ⟨RX9, "opens", "()V"⟩
abbrev cX9_partWord : ByteArray := prog_11_method_21_code
def yX9_partWord : MethodName := ⟨RX9, "partWord", "()I"⟩
abbrev cX9_part : ByteArray := prog_11_method_22_code
def yX9_part : MethodName := ⟨RX9, "part", "()Z"⟩
abbrev cX9_goesOnBehind : ByteArray := prog_11_method_23_code
def yX9_goesOnBehind : MethodName := ⟨RX9, "goesOnBehind", "()Z"⟩
abbrev cX9_worth : ByteArray := prog_11_method_24_code
def yX9_worth : MethodName := ⟨RX9, "worth", "(I)I"⟩
abbrev cX9_pitch : ByteArray := prog_11_method_25_code
def yX9_pitch : MethodName := ⟨RX9, "pitch", "(II)I"⟩
abbrev cX9_isPitch : ByteArray := prog_11_method_26_code
def yX9_isPitch : MethodName := ⟨RX9, "isPitch", "(I)Z"⟩
abbrev cX9_turn : ByteArray := prog_11_method_27_code
def yX9_turn : MethodName := ⟨RX9, "turn", "(I)I"⟩
abbrev cX9_leastOf : ByteArray := prog_11_method_28_code
def yX9_leastOf : MethodName := ⟨RX9, "leastOf", "([II)I"⟩
abbrev cX9_meanOf : ByteArray := prog_11_method_29_code
def yX9_meanOf : MethodName := ⟨RX9, "meanOf", "([II)I"⟩
abbrev cX9_share : ByteArray := prog_11_method_30_code
def yX9_share : MethodName := ⟨RX9, "share", "(III)I"⟩
abbrev cX9_wears : ByteArray := prog_11_method_31_code
def yX9_wears : MethodName := ⟨RX9, "wears", "([IIIII)I"⟩
abbrev cX9_grows : ByteArray := prog_11_method_32_code
def yX9_grows : MethodName := ⟨RX9, "grows", "([III)V"⟩
abbrev cX9_game : ByteArray := prog_11_method_33_code
def yX9_game : MethodName := ⟨RX9, "game", "(IIIIII)I"⟩
abbrev cX9_isGone : ByteArray := prog_11_method_34_code
def yX9_isGone : MethodName := ⟨RX9, "isGone", "(I)Z"⟩
abbrev cX9_isThere : ByteArray := prog_11_method_35_code
def yX9_isThere : MethodName := ⟨RX9, "isThere", "(I)Z"⟩
abbrev cX9_gameAt : ByteArray := prog_11_method_36_code
def yX9_gameAt : MethodName := ⟨RX9, "gameAt", "(I)I"⟩
abbrev cX9_hasClub : ByteArray := prog_11_method_37_code
def yX9_hasClub : MethodName := ⟨RX9, "hasClub", "(II)Z"⟩
abbrev cX9_suits : ByteArray := prog_11_method_38_code
def yX9_suits : MethodName := ⟨RX9, "suits", "(II)Z"⟩
abbrev cX9_firstSlot : ByteArray := prog_11_method_39_code
def yX9_firstSlot : MethodName := ⟨RX9, "firstSlot", "(IIZI)I"⟩
abbrev cX9_lays : ByteArray := prog_11_method_40_code
def yX9_lays : MethodName := ⟨RX9, "lays", "(II)V"⟩
abbrev cX9_laysOne : ByteArray := prog_11_method_41_code
def yX9_laysOne : MethodName := ⟨RX9, "laysOne", "(I)Z"⟩
abbrev cX9_givesWay : ByteArray := prog_11_method_42_code
def yX9_givesWay : MethodName := ⟨RX9, "givesWay", "(II)Z"⟩
abbrev cX9_lay_ : ByteArray := prog_11_method_43_code
def yX9_lay_ : MethodName := ⟨RX9, "lay", "(I)I"⟩
abbrev cX9_isShut : ByteArray := prog_11_method_44_code
def yX9_isShut : MethodName := ⟨RX9, "isShut", "(I)Z"⟩
abbrev cX9_hour : ByteArray := prog_11_method_45_code
def yX9_hour : MethodName := ⟨RX9, "hour", "(IIII)V"⟩
abbrev cX9_movesOn : ByteArray := prog_11_method_46_code
def yX9_movesOn : MethodName := ⟨RX9, "movesOn", "(I)V"⟩
abbrev cX9_day : ByteArray := prog_11_method_47_code
def yX9_day : MethodName := ⟨RX9, "day", "(II)I"⟩
abbrev cX9_grass : ByteArray := prog_11_method_48_code
def yX9_grass : MethodName := ⟨RX9, "grass", "(III)I"⟩
abbrev cX9_look : ByteArray := prog_11_method_49_code
def yX9_look : MethodName := ⟨RX9, "look", "(II)I"⟩
abbrev cX9_at : ByteArray := prog_11_method_50_code
def yX9_at : MethodName := ⟨RX9, "at", "(III)I"⟩
abbrev cX9_gamesOf : ByteArray := prog_11_method_51_code
def yX9_gamesOf : MethodName := ⟨RX9, "gamesOf", "(II)I"⟩
abbrev cX9_club : ByteArray := prog_11_method_52_code
def yX9_club : MethodName := ⟨RX9, "club", "(II)I"⟩
abbrev cX9_field : ByteArray := prog_11_method_53_code
def yX9_field : MethodName := ⟨RX9, "field", "(II)I"⟩
abbrev cX9_would : ByteArray := prog_11_method_54_code
def yX9_would : MethodName := ⟨RX9, "would", "(II)I"⟩
abbrev cX9_gamesThat : ByteArray := prog_11_method_55_code
def yX9_gamesThat : MethodName := ⟨RX9, "gamesThat", "(I)I"⟩
abbrev cX9_count : ByteArray := prog_11_method_56_code
def yX9_count : MethodName := ⟨RX9, "count", "(I)I"⟩
def RJ9 : String := "java/lang/Math"
abbrev cJ9_abs_0f7a4 : ByteArray := prog_13_method_59_code
def yJ9_abs_0f7a4 : MethodName := ⟨RJ9, "abs", "(I)I"⟩
abbrev cJ9_max_7cf53 : ByteArray := prog_13_method_65_code
def yJ9_max_7cf53 : MethodName := ⟨RJ9, "max", "(II)I"⟩
abbrev cJ9_min_7cf53 : ByteArray := prog_13_method_69_code
def yJ9_min_7cf53 : MethodName := ⟨RJ9, "min", "(II)I"⟩
def RJ0 : String := "java/lang/String"
abbrev cJ0_length_8abf5 : ByteArray := prog_15_method_54_code
def yJ0_length_8abf5 : MethodName := ⟨RJ0, "length", "()I"⟩
abbrev cJ0_charAt_5068e : ByteArray := prog_15_method_56_code
def yJ0_charAt_5068e : MethodName := ⟨RJ0, "charAt", "(I)C"⟩
abbrev cJ0_coder_7d493 : ByteArray := prog_15_method_152_code
def yJ0_coder_7d493 : MethodName := ⟨RJ0, "coder", "()B"⟩
abbrev cJ0_isLatin1_aae02 : ByteArray := prog_15_method_154_code
def yJ0_isLatin1_aae02 : MethodName := ⟨RJ0, "isLatin1", "()Z"⟩
abbrev cJ0_checkIndex_df160 : ByteArray := prog_15_method_155_code
def yJ0_checkIndex_df160 : MethodName := ⟨RJ0, "checkIndex", "(II)V"⟩
def RJ1 : String := "java/lang/StringLatin1"
abbrev cJ1_charAt_3b067 : ByteArray := prog_16_method_2_code
def yJ1_charAt_3b067 : MethodName := ⟨RJ1, "charAt", "([BI)C"⟩
def RJ2 : String := "java/lang/StringUTF16"
abbrev cJ2_getChar_3b067 : ByteArray := prog_17_method_5_code
def yJ2_getChar_3b067 : MethodName := ⟨RJ2, "getChar", "([BI)C"⟩
abbrev cJ2_length_9d52b : ByteArray := prog_17_method_6_code
def yJ2_length_9d52b : MethodName := ⟨RJ2, "length", "([B)I"⟩
abbrev cJ2_charAt_3b067 : ByteArray := prog_17_method_83_code
def yJ2_charAt_3b067 : MethodName := ⟨RJ2, "charAt", "([BI)C"⟩
abbrev cJ2_checkIndex_2214a : ByteArray := prog_17_method_91_code
def yJ2_checkIndex_2214a : MethodName := ⟨RJ2, "checkIndex", "(I[B)V"⟩
def RJ3 : String := "jdk/internal/util/Preconditions"
abbrev cJ3_checkIndex_8e157 : ByteArray := prog_20_method_11_code
def yJ3_checkIndex_8e157 : MethodName := ⟨RJ3, "checkIndex", "(IILjava/util/function/BiFunction;)I"⟩
def RL : String := "FieldKeeperLaw"
abbrev cL_look : ByteArray := method_3_code
def yL_look : MethodName := ⟨RL, "look", "(LFieldKeeper;II[J)I"⟩
abbrev cL_law : ByteArray := code
def yL_law : MethodName := ⟨RL, "law", "([I)Z"⟩
abbrev vwCl : List vw_C := [(RX0, TX0, 2), (RX1, TX1, 10), (RX2, TX2, 5), (RX3, TX3, 4), (RX4, TX4, 7), (RX5, TX5, 2), (RX6, TX6, 4), (RX7, TX7, 3), (RX8, TX8, 16), (RX9, TX9, 46)]
end
section
theorem dX0_init_0 : decode cX0_init 0 = .ok (.aload_n 0, 1) := by decide +kernel
theorem dX0_init_1 : decode cX0_init 1 = .ok (.invokespecial 3, 3) := by decide +kernel
theorem dX0_init_4 : decode cX0_init 4 = .ok (.aload_n 0, 1) := by decide +kernel
theorem dX0_init_5 : decode cX0_init 5 = .ok (.bipush 7, 2) := by decide +kernel
theorem dX0_init_7 : decode cX0_init 7 = .ok (.newarray .int, 2) := by decide +kernel
theorem dX0_init_9 : decode cX0_init 9 = .ok (.putfield 9, 3) := by decide +kernel
theorem dX0_init_12 : decode cX0_init 12 = .ok (.aload_n 0, 1) := by decide +kernel
theorem dX0_init_13 : decode cX0_init 13 = .ok (.bipush 7, 2) := by decide +kernel
theorem dX0_init_15 : decode cX0_init 15 = .ok (.newarray .int, 2) := by decide +kernel
theorem dX0_init_17 : decode cX0_init 17 = .ok (.putfield 15, 3) := by decide +kernel
theorem dX0_init_20 : decode cX0_init 20 = .ok (.return_, 1) := by decide +kernel
theorem dX0_clear_0 : decode cX0_clear 0 = .ok (.iconst 0, 1) := by decide +kernel
theorem dX0_clear_1 : decode cX0_clear 1 = .ok (.istore_n 1, 1) := by decide +kernel
theorem dX0_clear_2 : decode cX0_clear 2 = .ok (.iload_n 1, 1) := by decide +kernel
theorem dX0_clear_3 : decode cX0_clear 3 = .ok (.bipush 7, 2) := by decide +kernel
theorem dX0_clear_5 : decode cX0_clear 5 = .ok (.if_icmp .ge 23, 3) := by decide +kernel
theorem dX0_clear_8 : decode cX0_clear 8 = .ok (.aload_n 0, 1) := by decide +kernel
theorem dX0_clear_9 : decode cX0_clear 9 = .ok (.getfield 9, 3) := by decide +kernel
theorem dX0_clear_12 : decode cX0_clear 12 = .ok (.iload_n 1, 1) := by decide +kernel
theorem dX0_clear_13 : decode cX0_clear 13 = .ok (.iconst 0, 1) := by decide +kernel
theorem dX0_clear_14 : decode cX0_clear 14 = .ok (.iastore, 1) := by decide +kernel
theorem dX0_clear_15 : decode cX0_clear 15 = .ok (.aload_n 0, 1) := by decide +kernel
theorem dX0_clear_16 : decode cX0_clear 16 = .ok (.getfield 15, 3) := by decide +kernel
theorem dX0_clear_19 : decode cX0_clear 19 = .ok (.iload_n 1, 1) := by decide +kernel
theorem dX0_clear_20 : decode cX0_clear 20 = .ok (.iconst 0, 1) := by decide +kernel
theorem dX0_clear_21 : decode cX0_clear 21 = .ok (.iastore, 1) := by decide +kernel
theorem dX0_clear_22 : decode cX0_clear 22 = .ok (.iinc 1 1, 3) := by decide +kernel
theorem dX0_clear_25 : decode cX0_clear 25 = .ok (.goto (-23), 3) := by decide +kernel
theorem dX0_clear_28 : decode cX0_clear 28 = .ok (.return_, 1) := by decide +kernel
theorem dX0_put_0 : decode cX0_put 0 = .ok (.iload_n 1, 1) := by decide +kernel
theorem dX0_put_1 : decode cX0_put 1 = .ok (.invokestatic 18, 3) := by decide +kernel
theorem dX0_put_4 : decode cX0_put 4 = .ok (.ifCond .eq 34, 3) := by decide +kernel
theorem dX0_put_7 : decode cX0_put 7 = .ok (.aload_n 0, 1) := by decide +kernel
theorem dX0_put_8 : decode cX0_put 8 = .ok (.getfield 9, 3) := by decide +kernel
theorem dX0_put_11 : decode cX0_put 11 = .ok (.iload_n 1, 1) := by decide +kernel
theorem dX0_put_12 : decode cX0_put 12 = .ok (.bipush 24, 2) := by decide +kernel
theorem dX0_put_14 : decode cX0_put 14 = .ok (.idiv, 1) := by decide +kernel
theorem dX0_put_15 : decode cX0_put 15 = .ok (.dup2, 1) := by decide +kernel
theorem dX0_put_16 : decode cX0_put 16 = .ok (.iaload, 1) := by decide +kernel
theorem dX0_put_17 : decode cX0_put 17 = .ok (.iconst 1, 1) := by decide +kernel
theorem dX0_put_18 : decode cX0_put 18 = .ok (.iload_n 1, 1) := by decide +kernel
theorem dX0_put_19 : decode cX0_put 19 = .ok (.bipush 24, 2) := by decide +kernel
theorem dX0_put_21 : decode cX0_put 21 = .ok (.irem, 1) := by decide +kernel
theorem dX0_put_22 : decode cX0_put 22 = .ok (.ishl, 1) := by decide +kernel
theorem dX0_put_23 : decode cX0_put 23 = .ok (.ior, 1) := by decide +kernel
theorem dX0_put_24 : decode cX0_put 24 = .ok (.iastore, 1) := by decide +kernel
theorem dX0_put_25 : decode cX0_put 25 = .ok (.aload_n 0, 1) := by decide +kernel
theorem dX0_put_26 : decode cX0_put 26 = .ok (.getfield 15, 3) := by decide +kernel
theorem dX0_put_29 : decode cX0_put 29 = .ok (.iload_n 1, 1) := by decide +kernel
theorem dX0_put_30 : decode cX0_put 30 = .ok (.bipush 24, 2) := by decide +kernel
theorem dX0_put_32 : decode cX0_put 32 = .ok (.idiv, 1) := by decide +kernel
theorem dX0_put_33 : decode cX0_put 33 = .ok (.dup2, 1) := by decide +kernel
theorem dX0_put_34 : decode cX0_put 34 = .ok (.iaload, 1) := by decide +kernel
theorem dX0_put_35 : decode cX0_put 35 = .ok (.iload_n 2, 1) := by decide +kernel
theorem dX0_put_36 : decode cX0_put 36 = .ok (.ior, 1) := by decide +kernel
theorem dX0_put_37 : decode cX0_put 37 = .ok (.iastore, 1) := by decide +kernel
theorem dX0_put_38 : decode cX0_put 38 = .ok (.return_, 1) := by decide +kernel
theorem dX0_drop_0 : decode cX0_drop 0 = .ok (.iload_n 1, 1) := by decide +kernel
theorem dX0_drop_1 : decode cX0_drop 1 = .ok (.invokestatic 18, 3) := by decide +kernel
theorem dX0_drop_4 : decode cX0_drop 4 = .ok (.ifCond .eq 38, 3) := by decide +kernel
theorem dX0_drop_7 : decode cX0_drop 7 = .ok (.aload_n 0, 1) := by decide +kernel
theorem dX0_drop_8 : decode cX0_drop 8 = .ok (.getfield 9, 3) := by decide +kernel
theorem dX0_drop_11 : decode cX0_drop 11 = .ok (.iload_n 1, 1) := by decide +kernel
theorem dX0_drop_12 : decode cX0_drop 12 = .ok (.bipush 24, 2) := by decide +kernel
theorem dX0_drop_14 : decode cX0_drop 14 = .ok (.idiv, 1) := by decide +kernel
theorem dX0_drop_15 : decode cX0_drop 15 = .ok (.dup2, 1) := by decide +kernel
theorem dX0_drop_16 : decode cX0_drop 16 = .ok (.iaload, 1) := by decide +kernel
theorem dX0_drop_17 : decode cX0_drop 17 = .ok (.iconst 1, 1) := by decide +kernel
theorem dX0_drop_18 : decode cX0_drop 18 = .ok (.iload_n 1, 1) := by decide +kernel
theorem dX0_drop_19 : decode cX0_drop 19 = .ok (.bipush 24, 2) := by decide +kernel
theorem dX0_drop_21 : decode cX0_drop 21 = .ok (.irem, 1) := by decide +kernel
theorem dX0_drop_22 : decode cX0_drop 22 = .ok (.ishl, 1) := by decide +kernel
theorem dX0_drop_23 : decode cX0_drop 23 = .ok (.iconst (-1), 1) := by decide +kernel
theorem dX0_drop_24 : decode cX0_drop 24 = .ok (.ixor, 1) := by decide +kernel
theorem dX0_drop_25 : decode cX0_drop 25 = .ok (.iand, 1) := by decide +kernel
theorem dX0_drop_26 : decode cX0_drop 26 = .ok (.iastore, 1) := by decide +kernel
theorem dX0_drop_27 : decode cX0_drop 27 = .ok (.aload_n 0, 1) := by decide +kernel
theorem dX0_drop_28 : decode cX0_drop 28 = .ok (.getfield 15, 3) := by decide +kernel
theorem dX0_drop_31 : decode cX0_drop 31 = .ok (.iload_n 1, 1) := by decide +kernel
theorem dX0_drop_32 : decode cX0_drop 32 = .ok (.bipush 24, 2) := by decide +kernel
theorem dX0_drop_34 : decode cX0_drop 34 = .ok (.idiv, 1) := by decide +kernel
theorem dX0_drop_35 : decode cX0_drop 35 = .ok (.dup2, 1) := by decide +kernel
theorem dX0_drop_36 : decode cX0_drop 36 = .ok (.iaload, 1) := by decide +kernel
theorem dX0_drop_37 : decode cX0_drop 37 = .ok (.iload_n 2, 1) := by decide +kernel
theorem dX0_drop_38 : decode cX0_drop 38 = .ok (.iconst (-1), 1) := by decide +kernel
theorem dX0_drop_39 : decode cX0_drop 39 = .ok (.ixor, 1) := by decide +kernel
theorem dX0_drop_40 : decode cX0_drop 40 = .ok (.iand, 1) := by decide +kernel
theorem dX0_drop_41 : decode cX0_drop 41 = .ok (.iastore, 1) := by decide +kernel
theorem dX0_drop_42 : decode cX0_drop 42 = .ok (.return_, 1) := by decide +kernel
theorem dX0_has_0 : decode cX0_has 0 = .ok (.iload_n 1, 1) := by decide +kernel
theorem dX0_has_1 : decode cX0_has 1 = .ok (.invokestatic 18, 3) := by decide +kernel
theorem dX0_has_4 : decode cX0_has 4 = .ok (.ifCond .eq 26, 3) := by decide +kernel
theorem dX0_has_7 : decode cX0_has 7 = .ok (.aload_n 0, 1) := by decide +kernel
theorem dX0_has_8 : decode cX0_has 8 = .ok (.getfield 9, 3) := by decide +kernel
theorem dX0_has_11 : decode cX0_has 11 = .ok (.iload_n 1, 1) := by decide +kernel
theorem dX0_has_12 : decode cX0_has 12 = .ok (.bipush 24, 2) := by decide +kernel
theorem dX0_has_14 : decode cX0_has 14 = .ok (.idiv, 1) := by decide +kernel
theorem dX0_has_15 : decode cX0_has 15 = .ok (.iaload, 1) := by decide +kernel
theorem dX0_has_16 : decode cX0_has 16 = .ok (.iload_n 1, 1) := by decide +kernel
theorem dX0_has_17 : decode cX0_has 17 = .ok (.bipush 24, 2) := by decide +kernel
theorem dX0_has_19 : decode cX0_has 19 = .ok (.irem, 1) := by decide +kernel
theorem dX0_has_20 : decode cX0_has 20 = .ok (.iushr, 1) := by decide +kernel
theorem dX0_has_21 : decode cX0_has 21 = .ok (.iconst 1, 1) := by decide +kernel
theorem dX0_has_22 : decode cX0_has 22 = .ok (.iand, 1) := by decide +kernel
theorem dX0_has_23 : decode cX0_has 23 = .ok (.ifCond .eq 7, 3) := by decide +kernel
theorem dX0_has_26 : decode cX0_has 26 = .ok (.iconst 1, 1) := by decide +kernel
theorem dX0_has_27 : decode cX0_has 27 = .ok (.goto 4, 3) := by decide +kernel
theorem dX0_has_30 : decode cX0_has 30 = .ok (.iconst 0, 1) := by decide +kernel
theorem dX0_has_31 : decode cX0_has 31 = .ok (.ireturn, 1) := by decide +kernel
theorem dX0_firstSlot_0 : decode cX0_firstSlot 0 = .ok (.iconst 0, 1) := by decide +kernel
theorem dX0_firstSlot_1 : decode cX0_firstSlot 1 = .ok (.iload 4, 2) := by decide +kernel
theorem dX0_firstSlot_3 : decode cX0_firstSlot 3 = .ok (.invokestatic 22, 3) := by decide +kernel
theorem dX0_firstSlot_6 : decode cX0_firstSlot 6 = .ok (.istore 6, 2) := by decide +kernel
theorem dX0_firstSlot_8 : decode cX0_firstSlot 8 = .ok (.iload 6, 2) := by decide +kernel
theorem dX0_firstSlot_10 : decode cX0_firstSlot 10 = .ok (.bipush 7, 2) := by decide +kernel
theorem dX0_firstSlot_12 : decode cX0_firstSlot 12 = .ok (.if_icmp .ge 92, 3) := by decide +kernel
theorem dX0_firstSlot_15 : decode cX0_firstSlot 15 = .ok (.aload_n 0, 1) := by decide +kernel
theorem dX0_firstSlot_16 : decode cX0_firstSlot 16 = .ok (.getfield 15, 3) := by decide +kernel
theorem dX0_firstSlot_19 : decode cX0_firstSlot 19 = .ok (.iload 6, 2) := by decide +kernel
theorem dX0_firstSlot_21 : decode cX0_firstSlot 21 = .ok (.iaload, 1) := by decide +kernel
theorem dX0_firstSlot_22 : decode cX0_firstSlot 22 = .ok (.iload_n 1, 1) := by decide +kernel
theorem dX0_firstSlot_23 : decode cX0_firstSlot 23 = .ok (.iand, 1) := by decide +kernel
theorem dX0_firstSlot_24 : decode cX0_firstSlot 24 = .ok (.ifCond .ne 74, 3) := by decide +kernel
theorem dX0_firstSlot_27 : decode cX0_firstSlot 27 = .ok (.iload_n 2, 1) := by decide +kernel
theorem dX0_firstSlot_28 : decode cX0_firstSlot 28 = .ok (.iload_n 3, 1) := by decide +kernel
theorem dX0_firstSlot_29 : decode cX0_firstSlot 29 = .ok (.iload 6, 2) := by decide +kernel
theorem dX0_firstSlot_31 : decode cX0_firstSlot 31 = .ok (.iconst 4, 1) := by decide +kernel
theorem dX0_firstSlot_32 : decode cX0_firstSlot 32 = .ok (.imul, 1) := by decide +kernel
theorem dX0_firstSlot_33 : decode cX0_firstSlot 33 = .ok (.iushr, 1) := by decide +kernel
theorem dX0_firstSlot_34 : decode cX0_firstSlot 34 = .ok (.invokestatic 28, 3) := by decide +kernel
theorem dX0_firstSlot_37 : decode cX0_firstSlot 37 = .ok (.aload_n 0, 1) := by decide +kernel
theorem dX0_firstSlot_38 : decode cX0_firstSlot 38 = .ok (.getfield 9, 3) := by decide +kernel
theorem dX0_firstSlot_41 : decode cX0_firstSlot 41 = .ok (.iload 6, 2) := by decide +kernel
theorem dX0_firstSlot_43 : decode cX0_firstSlot 43 = .ok (.iaload, 1) := by decide +kernel
theorem dX0_firstSlot_44 : decode cX0_firstSlot 44 = .ok (.iconst (-1), 1) := by decide +kernel
theorem dX0_firstSlot_45 : decode cX0_firstSlot 45 = .ok (.ixor, 1) := by decide +kernel
theorem dX0_firstSlot_46 : decode cX0_firstSlot 46 = .ok (.iand, 1) := by decide +kernel
theorem dX0_firstSlot_47 : decode cX0_firstSlot 47 = .ok (.istore 7, 2) := by decide +kernel
theorem dX0_firstSlot_49 : decode cX0_firstSlot 49 = .ok (.iload 5, 2) := by decide +kernel
theorem dX0_firstSlot_51 : decode cX0_firstSlot 51 = .ok (.invokestatic 18, 3) := by decide +kernel
theorem dX0_firstSlot_54 : decode cX0_firstSlot 54 = .ok (.ifCond .eq 27, 3) := by decide +kernel
theorem dX0_firstSlot_57 : decode cX0_firstSlot 57 = .ok (.iload 5, 2) := by decide +kernel
theorem dX0_firstSlot_59 : decode cX0_firstSlot 59 = .ok (.bipush 24, 2) := by decide +kernel
theorem dX0_firstSlot_61 : decode cX0_firstSlot 61 = .ok (.idiv, 1) := by decide +kernel
theorem dX0_firstSlot_62 : decode cX0_firstSlot 62 = .ok (.iload 6, 2) := by decide +kernel
theorem dX0_firstSlot_64 : decode cX0_firstSlot 64 = .ok (.if_icmp .ne 17, 3) := by decide +kernel
theorem dX0_firstSlot_67 : decode cX0_firstSlot 67 = .ok (.iload 7, 2) := by decide +kernel
theorem dX0_firstSlot_69 : decode cX0_firstSlot 69 = .ok (.iconst 1, 1) := by decide +kernel
theorem dX0_firstSlot_70 : decode cX0_firstSlot 70 = .ok (.iload 5, 2) := by decide +kernel
theorem dX0_firstSlot_72 : decode cX0_firstSlot 72 = .ok (.bipush 24, 2) := by decide +kernel
theorem dX0_firstSlot_74 : decode cX0_firstSlot 74 = .ok (.irem, 1) := by decide +kernel
theorem dX0_firstSlot_75 : decode cX0_firstSlot 75 = .ok (.ishl, 1) := by decide +kernel
theorem dX0_firstSlot_76 : decode cX0_firstSlot 76 = .ok (.iconst (-1), 1) := by decide +kernel
theorem dX0_firstSlot_77 : decode cX0_firstSlot 77 = .ok (.ixor, 1) := by decide +kernel
theorem dX0_firstSlot_78 : decode cX0_firstSlot 78 = .ok (.iand, 1) := by decide +kernel
theorem dX0_firstSlot_79 : decode cX0_firstSlot 79 = .ok (.istore 7, 2) := by decide +kernel
theorem dX0_firstSlot_81 : decode cX0_firstSlot 81 = .ok (.iload 7, 2) := by decide +kernel
theorem dX0_firstSlot_83 : decode cX0_firstSlot 83 = .ok (.ifCond .eq 15, 3) := by decide +kernel
theorem dX0_firstSlot_86 : decode cX0_firstSlot 86 = .ok (.iload 6, 2) := by decide +kernel
theorem dX0_firstSlot_88 : decode cX0_firstSlot 88 = .ok (.bipush 24, 2) := by decide +kernel
theorem dX0_firstSlot_90 : decode cX0_firstSlot 90 = .ok (.imul, 1) := by decide +kernel
theorem dX0_firstSlot_91 : decode cX0_firstSlot 91 = .ok (.iload 7, 2) := by decide +kernel
theorem dX0_firstSlot_93 : decode cX0_firstSlot 93 = .ok (.invokestatic 31, 3) := by decide +kernel
theorem dX0_firstSlot_96 : decode cX0_firstSlot 96 = .ok (.iadd, 1) := by decide +kernel
theorem dX0_firstSlot_97 : decode cX0_firstSlot 97 = .ok (.ireturn, 1) := by decide +kernel
theorem dX0_firstSlot_98 : decode cX0_firstSlot 98 = .ok (.iinc 6 1, 3) := by decide +kernel
theorem dX0_firstSlot_101 : decode cX0_firstSlot 101 = .ok (.goto (-93), 3) := by decide +kernel
theorem dX0_firstSlot_104 : decode cX0_firstSlot 104 = .ok (.iconst (-1), 1) := by decide +kernel
theorem dX0_firstSlot_105 : decode cX0_firstSlot 105 = .ok (.ireturn, 1) := by decide +kernel
theorem dX0_isSlot_0 : decode cX0_isSlot 0 = .ok (.iload_n 0, 1) := by decide +kernel
theorem dX0_isSlot_1 : decode cX0_isSlot 1 = .ok (.ifCond .lt 14, 3) := by decide +kernel
theorem dX0_isSlot_4 : decode cX0_isSlot 4 = .ok (.iload_n 0, 1) := by decide +kernel
theorem dX0_isSlot_5 : decode cX0_isSlot 5 = .ok (.sipush 168, 3) := by decide +kernel
theorem dX0_isSlot_8 : decode cX0_isSlot 8 = .ok (.if_icmp .ge 7, 3) := by decide +kernel
theorem dX0_isSlot_11 : decode cX0_isSlot 11 = .ok (.iconst 1, 1) := by decide +kernel
theorem dX0_isSlot_12 : decode cX0_isSlot 12 = .ok (.goto 4, 3) := by decide +kernel
theorem dX0_isSlot_15 : decode cX0_isSlot 15 = .ok (.iconst 0, 1) := by decide +kernel
theorem dX0_isSlot_16 : decode cX0_isSlot 16 = .ok (.ireturn, 1) := by decide +kernel
theorem dX0_slotsOfDay_0 : decode cX0_slotsOfDay 0 = .ok (.iconst 0, 1) := by decide +kernel
theorem dX0_slotsOfDay_1 : decode cX0_slotsOfDay 1 = .ok (.istore_n 2, 1) := by decide +kernel
theorem dX0_slotsOfDay_2 : decode cX0_slotsOfDay 2 = .ok (.iconst 0, 1) := by decide +kernel
theorem dX0_slotsOfDay_3 : decode cX0_slotsOfDay 3 = .ok (.istore_n 3, 1) := by decide +kernel
theorem dX0_slotsOfDay_4 : decode cX0_slotsOfDay 4 = .ok (.iload_n 3, 1) := by decide +kernel
theorem dX0_slotsOfDay_5 : decode cX0_slotsOfDay 5 = .ok (.iconst 4, 1) := by decide +kernel
theorem dX0_slotsOfDay_6 : decode cX0_slotsOfDay 6 = .ok (.if_icmp .ge 29, 3) := by decide +kernel
theorem dX0_slotsOfDay_9 : decode cX0_slotsOfDay 9 = .ok (.iload_n 1, 1) := by decide +kernel
theorem dX0_slotsOfDay_10 : decode cX0_slotsOfDay 10 = .ok (.iload_n 3, 1) := by decide +kernel
theorem dX0_slotsOfDay_11 : decode cX0_slotsOfDay 11 = .ok (.iushr, 1) := by decide +kernel
theorem dX0_slotsOfDay_12 : decode cX0_slotsOfDay 12 = .ok (.iconst 1, 1) := by decide +kernel
theorem dX0_slotsOfDay_13 : decode cX0_slotsOfDay 13 = .ok (.iand, 1) := by decide +kernel
theorem dX0_slotsOfDay_14 : decode cX0_slotsOfDay 14 = .ok (.ifCond .eq 15, 3) := by decide +kernel
theorem dX0_slotsOfDay_17 : decode cX0_slotsOfDay 17 = .ok (.iload_n 2, 1) := by decide +kernel
theorem dX0_slotsOfDay_18 : decode cX0_slotsOfDay 18 = .ok (.iload_n 0, 1) := by decide +kernel
theorem dX0_slotsOfDay_19 : decode cX0_slotsOfDay 19 = .ok (.bipush 63, 2) := by decide +kernel
theorem dX0_slotsOfDay_21 : decode cX0_slotsOfDay 21 = .ok (.iand, 1) := by decide +kernel
theorem dX0_slotsOfDay_22 : decode cX0_slotsOfDay 22 = .ok (.iload_n 3, 1) := by decide +kernel
theorem dX0_slotsOfDay_23 : decode cX0_slotsOfDay 23 = .ok (.bipush 6, 2) := by decide +kernel
theorem dX0_slotsOfDay_25 : decode cX0_slotsOfDay 25 = .ok (.imul, 1) := by decide +kernel
theorem dX0_slotsOfDay_26 : decode cX0_slotsOfDay 26 = .ok (.ishl, 1) := by decide +kernel
theorem dX0_slotsOfDay_27 : decode cX0_slotsOfDay 27 = .ok (.ior, 1) := by decide +kernel
theorem dX0_slotsOfDay_28 : decode cX0_slotsOfDay 28 = .ok (.istore_n 2, 1) := by decide +kernel
theorem dX0_slotsOfDay_29 : decode cX0_slotsOfDay 29 = .ok (.iinc 3 1, 3) := by decide +kernel
theorem dX0_slotsOfDay_32 : decode cX0_slotsOfDay 32 = .ok (.goto (-28), 3) := by decide +kernel
theorem dX0_slotsOfDay_35 : decode cX0_slotsOfDay 35 = .ok (.iload_n 2, 1) := by decide +kernel
theorem dX0_slotsOfDay_36 : decode cX0_slotsOfDay 36 = .ok (.ireturn, 1) := by decide +kernel
theorem dX0_lowestBit_0 : decode cX0_lowestBit 0 = .ok (.iconst 0, 1) := by decide +kernel
theorem dX0_lowestBit_1 : decode cX0_lowestBit 1 = .ok (.istore_n 1, 1) := by decide +kernel
theorem dX0_lowestBit_2 : decode cX0_lowestBit 2 = .ok (.iload_n 1, 1) := by decide +kernel
theorem dX0_lowestBit_3 : decode cX0_lowestBit 3 = .ok (.bipush 23, 2) := by decide +kernel
theorem dX0_lowestBit_5 : decode cX0_lowestBit 5 = .ok (.if_icmp .ge 17, 3) := by decide +kernel
theorem dX0_lowestBit_8 : decode cX0_lowestBit 8 = .ok (.iload_n 0, 1) := by decide +kernel
theorem dX0_lowestBit_9 : decode cX0_lowestBit 9 = .ok (.iload_n 1, 1) := by decide +kernel
theorem dX0_lowestBit_10 : decode cX0_lowestBit 10 = .ok (.iushr, 1) := by decide +kernel
theorem dX0_lowestBit_11 : decode cX0_lowestBit 11 = .ok (.iconst 1, 1) := by decide +kernel
theorem dX0_lowestBit_12 : decode cX0_lowestBit 12 = .ok (.iand, 1) := by decide +kernel
theorem dX0_lowestBit_13 : decode cX0_lowestBit 13 = .ok (.ifCond .ne 9, 3) := by decide +kernel
theorem dX0_lowestBit_16 : decode cX0_lowestBit 16 = .ok (.iinc 1 1, 3) := by decide +kernel
theorem dX0_lowestBit_19 : decode cX0_lowestBit 19 = .ok (.goto (-17), 3) := by decide +kernel
theorem dX0_lowestBit_22 : decode cX0_lowestBit 22 = .ok (.iload_n 1, 1) := by decide +kernel
theorem dX0_lowestBit_23 : decode cX0_lowestBit 23 = .ok (.ireturn, 1) := by decide +kernel
theorem dX1_init_0 : decode cX1_init 0 = .ok (.aload_n 0, 1) := by decide +kernel
theorem dX1_init_1 : decode cX1_init 1 = .ok (.invokespecial 3, 3) := by decide +kernel
theorem dX1_init_4 : decode cX1_init 4 = .ok (.aload_n 0, 1) := by decide +kernel
theorem dX1_init_5 : decode cX1_init 5 = .ok (.iconst 0, 1) := by decide +kernel
theorem dX1_init_6 : decode cX1_init 6 = .ok (.putfield 9, 3) := by decide +kernel
theorem dX1_init_9 : decode cX1_init 9 = .ok (.aload_n 0, 1) := by decide +kernel
theorem dX1_init_10 : decode cX1_init 10 = .ok (.iconst (-1), 1) := by decide +kernel
theorem dX1_init_11 : decode cX1_init 11 = .ok (.putfield 15, 3) := by decide +kernel
theorem dX1_init_14 : decode cX1_init 14 = .ok (.aload_n 0, 1) := by decide +kernel
theorem dX1_init_15 : decode cX1_init 15 = .ok (.iload_n 1, 1) := by decide +kernel
theorem dX1_init_16 : decode cX1_init 16 = .ok (.putfield 18, 3) := by decide +kernel
theorem dX1_init_19 : decode cX1_init 19 = .ok (.aload_n 0, 1) := by decide +kernel
theorem dX1_init_20 : decode cX1_init 20 = .ok (.iload_n 2, 1) := by decide +kernel
theorem dX1_init_21 : decode cX1_init 21 = .ok (.putfield 21, 3) := by decide +kernel
theorem dX1_init_24 : decode cX1_init 24 = .ok (.aload_n 0, 1) := by decide +kernel
theorem dX1_init_25 : decode cX1_init 25 = .ok (.iconst 1, 1) := by decide +kernel
theorem dX1_init_26 : decode cX1_init 26 = .ok (.iload_n 1, 1) := by decide +kernel
theorem dX1_init_27 : decode cX1_init 27 = .ok (.ishl, 1) := by decide +kernel
theorem dX1_init_28 : decode cX1_init 28 = .ok (.iconst 1, 1) := by decide +kernel
theorem dX1_init_29 : decode cX1_init 29 = .ok (.iload_n 2, 1) := by decide +kernel
theorem dX1_init_30 : decode cX1_init 30 = .ok (.ishl, 1) := by decide +kernel
theorem dX1_init_31 : decode cX1_init 31 = .ok (.ior, 1) := by decide +kernel
theorem dX1_init_32 : decode cX1_init 32 = .ok (.putfield 24, 3) := by decide +kernel
theorem dX1_init_35 : decode cX1_init 35 = .ok (.aload_n 0, 1) := by decide +kernel
theorem dX1_init_36 : decode cX1_init 36 = .ok (.iload_n 3, 1) := by decide +kernel
theorem dX1_init_37 : decode cX1_init 37 = .ok (.putfield 27, 3) := by decide +kernel
theorem dX1_init_40 : decode cX1_init 40 = .ok (.aload_n 0, 1) := by decide +kernel
theorem dX1_init_41 : decode cX1_init 41 = .ok (.iload 4, 2) := by decide +kernel
theorem dX1_init_43 : decode cX1_init 43 = .ok (.putfield 30, 3) := by decide +kernel
theorem dX1_init_46 : decode cX1_init 46 = .ok (.aload_n 0, 1) := by decide +kernel
theorem dX1_init_47 : decode cX1_init 47 = .ok (.iload 5, 2) := by decide +kernel
theorem dX1_init_49 : decode cX1_init 49 = .ok (.putfield 33, 3) := by decide +kernel
theorem dX1_init_52 : decode cX1_init 52 = .ok (.aload_n 0, 1) := by decide +kernel
theorem dX1_init_53 : decode cX1_init 53 = .ok (.iload 6, 2) := by decide +kernel
theorem dX1_init_55 : decode cX1_init 55 = .ok (.putfield 36, 3) := by decide +kernel
theorem dX1_init_58 : decode cX1_init 58 = .ok (.return_, 1) := by decide +kernel
theorem dX2_init_0 : decode cX2_init 0 = .ok (.aload_n 0, 1) := by decide +kernel
theorem dX2_init_1 : decode cX2_init 1 = .ok (.invokespecial 1, 3) := by decide +kernel
theorem dX2_init_4 : decode cX2_init 4 = .ok (.aload_n 0, 1) := by decide +kernel
theorem dX2_init_5 : decode cX2_init 5 = .ok (.new 7, 3) := by decide +kernel
theorem dX2_init_8 : decode cX2_init 8 = .ok (.dup, 1) := by decide +kernel
theorem dX2_init_9 : decode cX2_init 9 = .ok (.iload_n 1, 1) := by decide +kernel
theorem dX2_init_10 : decode cX2_init 10 = .ok (.invokespecial 9, 3) := by decide +kernel
theorem dX2_init_13 : decode cX2_init 13 = .ok (.putfield 12, 3) := by decide +kernel
theorem dX2_init_16 : decode cX2_init 16 = .ok (.aload_n 0, 1) := by decide +kernel
theorem dX2_init_17 : decode cX2_init 17 = .ok (.new 7, 3) := by decide +kernel
theorem dX2_init_20 : decode cX2_init 20 = .ok (.dup, 1) := by decide +kernel
theorem dX2_init_21 : decode cX2_init 21 = .ok (.iconst 1, 1) := by decide +kernel
theorem dX2_init_22 : decode cX2_init 22 = .ok (.iload_n 1, 1) := by decide +kernel
theorem dX2_init_23 : decode cX2_init 23 = .ok (.isub, 1) := by decide +kernel
theorem dX2_init_24 : decode cX2_init 24 = .ok (.invokespecial 9, 3) := by decide +kernel
theorem dX2_init_27 : decode cX2_init 27 = .ok (.putfield 18, 3) := by decide +kernel
theorem dX2_init_30 : decode cX2_init 30 = .ok (.return_, 1) := by decide +kernel
theorem dX3_init_0 : decode cX3_init 0 = .ok (.aload_n 0, 1) := by decide +kernel
theorem dX3_init_1 : decode cX3_init 1 = .ok (.invokespecial 3, 3) := by decide +kernel
theorem dX3_init_4 : decode cX3_init 4 = .ok (.aload_n 0, 1) := by decide +kernel
theorem dX3_init_5 : decode cX3_init 5 = .ok (.aload_n 1, 1) := by decide +kernel
theorem dX3_init_6 : decode cX3_init 6 = .ok (.putfield 9, 3) := by decide +kernel
theorem dX3_init_9 : decode cX3_init 9 = .ok (.return_, 1) := by decide +kernel
theorem dX3_read_0 : decode cX3_read 0 = .ok (.aload_n 0, 1) := by decide +kernel
theorem dX3_read_1 : decode cX3_read 1 = .ok (.aload_n 1, 1) := by decide +kernel
theorem dX3_read_2 : decode cX3_read 2 = .ok (.putfield 15, 3) := by decide +kernel
theorem dX3_read_5 : decode cX3_read 5 = .ok (.aload_n 0, 1) := by decide +kernel
theorem dX3_read_6 : decode cX3_read 6 = .ok (.getfield 15, 3) := by decide +kernel
theorem dX3_read_9 : decode cX3_read 9 = .ok (.invokevirtual 19, 3) := by decide +kernel
theorem dX3_read_12 : decode cX3_read 12 = .ok (.aload_n 0, 1) := by decide +kernel
theorem dX3_read_13 : decode cX3_read 13 = .ok (.iconst 0, 1) := by decide +kernel
theorem dX3_read_14 : decode cX3_read 14 = .ok (.putfield 24, 3) := by decide +kernel
theorem dX3_read_17 : decode cX3_read 17 = .ok (.aload_n 0, 1) := by decide +kernel
theorem dX3_read_18 : decode cX3_read 18 = .ok (.iconst 0, 1) := by decide +kernel
theorem dX3_read_19 : decode cX3_read 19 = .ok (.putfield 28, 3) := by decide +kernel
theorem dX3_read_22 : decode cX3_read 22 = .ok (.iconst 0, 1) := by decide +kernel
theorem dX3_read_23 : decode cX3_read 23 = .ok (.istore_n 2, 1) := by decide +kernel
theorem dX3_read_24 : decode cX3_read 24 = .ok (.iload_n 2, 1) := by decide +kernel
theorem dX3_read_25 : decode cX3_read 25 = .ok (.bipush 16, 2) := by decide +kernel
theorem dX3_read_27 : decode cX3_read 27 = .ok (.if_icmp .gt 29, 3) := by decide +kernel
theorem dX3_read_30 : decode cX3_read 30 = .ok (.aload_n 0, 1) := by decide +kernel
theorem dX3_read_31 : decode cX3_read 31 = .ok (.getfield 28, 3) := by decide +kernel
theorem dX3_read_34 : decode cX3_read 34 = .ok (.ifCond .ne 22, 3) := by decide +kernel
theorem dX3_read_37 : decode cX3_read 37 = .ok (.aload_n 0, 1) := by decide +kernel
theorem dX3_read_38 : decode cX3_read 38 = .ok (.iconst 0, 1) := by decide +kernel
theorem dX3_read_39 : decode cX3_read 39 = .ok (.invokevirtual 33, 3) := by decide +kernel
theorem dX3_read_42 : decode cX3_read 42 = .ok (.ifCond .ne 14, 3) := by decide +kernel
theorem dX3_read_45 : decode cX3_read 45 = .ok (.aload_n 0, 1) := by decide +kernel
theorem dX3_read_46 : decode cX3_read 46 = .ok (.iload_n 2, 1) := by decide +kernel
theorem dX3_read_47 : decode cX3_read 47 = .ok (.invokevirtual 37, 3) := by decide +kernel
theorem dX3_read_50 : decode cX3_read 50 = .ok (.iinc 2 1, 3) := by decide +kernel
theorem dX3_read_53 : decode cX3_read 53 = .ok (.goto (-29), 3) := by decide +kernel
theorem dX3_read_56 : decode cX3_read 56 = .ok (.aload_n 0, 1) := by decide +kernel
theorem dX3_read_57 : decode cX3_read 57 = .ok (.getfield 28, 3) := by decide +kernel
theorem dX3_read_60 : decode cX3_read 60 = .ok (.ireturn, 1) := by decide +kernel
theorem dX3_readLine_0 : decode cX3_readLine 0 = .ok (.aload_n 0, 1) := by decide +kernel
theorem dX3_readLine_1 : decode cX3_readLine 1 = .ok (.iconst 3, 1) := by decide +kernel
theorem dX3_readLine_2 : decode cX3_readLine 2 = .ok (.invokevirtual 33, 3) := by decide +kernel
theorem dX3_readLine_5 : decode cX3_readLine 5 = .ok (.ifCond .eq 15, 3) := by decide +kernel
theorem dX3_readLine_8 : decode cX3_readLine 8 = .ok (.iload_n 1, 1) := by decide +kernel
theorem dX3_readLine_9 : decode cX3_readLine 9 = .ok (.bipush 16, 2) := by decide +kernel
theorem dX3_readLine_11 : decode cX3_readLine 11 = .ok (.if_icmp .lt 9, 3) := by decide +kernel
theorem dX3_readLine_14 : decode cX3_readLine 14 = .ok (.aload_n 0, 1) := by decide +kernel
theorem dX3_readLine_15 : decode cX3_readLine 15 = .ok (.iconst 5, 1) := by decide +kernel
theorem dX3_readLine_16 : decode cX3_readLine 16 = .ok (.invokevirtual 41, 3) := by decide +kernel
theorem dX3_readLine_19 : decode cX3_readLine 19 = .ok (.return_, 1) := by decide +kernel
theorem dX3_readLine_20 : decode cX3_readLine 20 = .ok (.aload_n 0, 1) := by decide +kernel
theorem dX3_readLine_21 : decode cX3_readLine 21 = .ok (.iconst 3, 1) := by decide +kernel
theorem dX3_readLine_22 : decode cX3_readLine 22 = .ok (.invokevirtual 44, 3) := by decide +kernel
theorem dX3_readLine_25 : decode cX3_readLine 25 = .ok (.aload_n 0, 1) := by decide +kernel
theorem dX3_readLine_26 : decode cX3_readLine 26 = .ok (.invokevirtual 47, 3) := by decide +kernel
theorem dX3_readLine_29 : decode cX3_readLine 29 = .ok (.istore_n 2, 1) := by decide +kernel
theorem dX3_readLine_30 : decode cX3_readLine 30 = .ok (.aload_n 0, 1) := by decide +kernel
theorem dX3_readLine_31 : decode cX3_readLine 31 = .ok (.iconst 5, 1) := by decide +kernel
theorem dX3_readLine_32 : decode cX3_readLine 32 = .ok (.invokevirtual 44, 3) := by decide +kernel
theorem dX3_readLine_35 : decode cX3_readLine 35 = .ok (.aload_n 0, 1) := by decide +kernel
theorem dX3_readLine_36 : decode cX3_readLine 36 = .ok (.iconst 0, 1) := by decide +kernel
theorem dX3_readLine_37 : decode cX3_readLine 37 = .ok (.invokevirtual 51, 3) := by decide +kernel
theorem dX3_readLine_40 : decode cX3_readLine 40 = .ok (.aload_n 0, 1) := by decide +kernel
theorem dX3_readLine_41 : decode cX3_readLine 41 = .ok (.bipush 59, 2) := by decide +kernel
theorem dX3_readLine_43 : decode cX3_readLine 43 = .ok (.invokevirtual 44, 3) := by decide +kernel
theorem dX3_readLine_46 : decode cX3_readLine 46 = .ok (.aload_n 0, 1) := by decide +kernel
theorem dX3_readLine_47 : decode cX3_readLine 47 = .ok (.getfield 28, 3) := by decide +kernel
theorem dX3_readLine_50 : decode cX3_readLine 50 = .ok (.ifCond .ne 11, 3) := by decide +kernel
theorem dX3_readLine_53 : decode cX3_readLine 53 = .ok (.aload_n 0, 1) := by decide +kernel
theorem dX3_readLine_54 : decode cX3_readLine 54 = .ok (.getfield 15, 3) := by decide +kernel
theorem dX3_readLine_57 : decode cX3_readLine 57 = .ok (.iload_n 2, 1) := by decide +kernel
theorem dX3_readLine_58 : decode cX3_readLine 58 = .ok (.invokevirtual 54, 3) := by decide +kernel
theorem dX3_readLine_61 : decode cX3_readLine 61 = .ok (.return_, 1) := by decide +kernel
theorem dX3_readWhich_0 : decode cX3_readWhich 0 = .ok (.aload_n 0, 1) := by decide +kernel
theorem dX3_readWhich_1 : decode cX3_readWhich 1 = .ok (.iconst 4, 1) := by decide +kernel
theorem dX3_readWhich_2 : decode cX3_readWhich 2 = .ok (.invokevirtual 33, 3) := by decide +kernel
theorem dX3_readWhich_5 : decode cX3_readWhich 5 = .ok (.ifCond .eq 9, 3) := by decide +kernel
theorem dX3_readWhich_8 : decode cX3_readWhich 8 = .ok (.aload_n 0, 1) := by decide +kernel
theorem dX3_readWhich_9 : decode cX3_readWhich 9 = .ok (.invokevirtual 57, 3) := by decide +kernel
theorem dX3_readWhich_12 : decode cX3_readWhich 12 = .ok (.iconst (-1), 1) := by decide +kernel
theorem dX3_readWhich_13 : decode cX3_readWhich 13 = .ok (.ireturn, 1) := by decide +kernel
theorem dX3_readWhich_14 : decode cX3_readWhich 14 = .ok (.aload_n 0, 1) := by decide +kernel
theorem dX3_readWhich_15 : decode cX3_readWhich 15 = .ok (.getfield 9, 3) := by decide +kernel
theorem dX3_readWhich_18 : decode cX3_readWhich 18 = .ok (.getfield 60, 3) := by decide +kernel
theorem dX3_readWhich_21 : decode cX3_readWhich 21 = .ok (.aload_n 0, 1) := by decide +kernel
theorem dX3_readWhich_22 : decode cX3_readWhich 22 = .ok (.getfield 24, 3) := by decide +kernel
theorem dX3_readWhich_25 : decode cX3_readWhich 25 = .ok (.iaload, 1) := by decide +kernel
theorem dX3_readWhich_26 : decode cX3_readWhich 26 = .ok (.istore_n 1, 1) := by decide +kernel
theorem dX3_readWhich_27 : decode cX3_readWhich 27 = .ok (.aload_n 0, 1) := by decide +kernel
theorem dX3_readWhich_28 : decode cX3_readWhich 28 = .ok (.iconst 2, 1) := by decide +kernel
theorem dX3_readWhich_29 : decode cX3_readWhich 29 = .ok (.invokevirtual 33, 3) := by decide +kernel
theorem dX3_readWhich_32 : decode cX3_readWhich 32 = .ok (.ifCond .eq 14, 3) := by decide +kernel
theorem dX3_readWhich_35 : decode cX3_readWhich 35 = .ok (.iload_n 1, 1) := by decide +kernel
theorem dX3_readWhich_36 : decode cX3_readWhich 36 = .ok (.bipush 6, 2) := by decide +kernel
theorem dX3_readWhich_38 : decode cX3_readWhich 38 = .ok (.if_icmp .lt 8, 3) := by decide +kernel
theorem dX3_readWhich_41 : decode cX3_readWhich 41 = .ok (.aload_n 0, 1) := by decide +kernel
theorem dX3_readWhich_42 : decode cX3_readWhich 42 = .ok (.iconst 4, 1) := by decide +kernel
theorem dX3_readWhich_43 : decode cX3_readWhich 43 = .ok (.invokevirtual 41, 3) := by decide +kernel
theorem dX3_readWhich_46 : decode cX3_readWhich 46 = .ok (.aload_n 0, 1) := by decide +kernel
theorem dX3_readWhich_47 : decode cX3_readWhich 47 = .ok (.iconst 2, 1) := by decide +kernel
theorem dX3_readWhich_48 : decode cX3_readWhich 48 = .ok (.invokevirtual 44, 3) := by decide +kernel
theorem dX3_readWhich_51 : decode cX3_readWhich 51 = .ok (.iload_n 1, 1) := by decide +kernel
theorem dX3_readWhich_52 : decode cX3_readWhich 52 = .ok (.ireturn, 1) := by decide +kernel
theorem dX3_readAnds_0 : decode cX3_readAnds 0 = .ok (.aload_n 0, 1) := by decide +kernel
theorem dX3_readAnds_1 : decode cX3_readAnds 1 = .ok (.iload_n 1, 1) := by decide +kernel
theorem dX3_readAnds_2 : decode cX3_readAnds 2 = .ok (.invokevirtual 64, 3) := by decide +kernel
theorem dX3_readAnds_5 : decode cX3_readAnds 5 = .ok (.iconst 0, 1) := by decide +kernel
theorem dX3_readAnds_6 : decode cX3_readAnds 6 = .ok (.istore_n 2, 1) := by decide +kernel
theorem dX3_readAnds_7 : decode cX3_readAnds 7 = .ok (.iload_n 2, 1) := by decide +kernel
theorem dX3_readAnds_8 : decode cX3_readAnds 8 = .ok (.sipush 600, 3) := by decide +kernel
theorem dX3_readAnds_11 : decode cX3_readAnds 11 = .ok (.if_icmp .ge 37, 3) := by decide +kernel
theorem dX3_readAnds_14 : decode cX3_readAnds 14 = .ok (.aload_n 0, 1) := by decide +kernel
theorem dX3_readAnds_15 : decode cX3_readAnds 15 = .ok (.bipush 6, 2) := by decide +kernel
theorem dX3_readAnds_17 : decode cX3_readAnds 17 = .ok (.invokevirtual 33, 3) := by decide +kernel
theorem dX3_readAnds_20 : decode cX3_readAnds 20 = .ok (.ifCond .eq 28, 3) := by decide +kernel
theorem dX3_readAnds_23 : decode cX3_readAnds 23 = .ok (.aload_n 0, 1) := by decide +kernel
theorem dX3_readAnds_24 : decode cX3_readAnds 24 = .ok (.invokevirtual 57, 3) := by decide +kernel
theorem dX3_readAnds_27 : decode cX3_readAnds 27 = .ok (.aload_n 0, 1) := by decide +kernel
theorem dX3_readAnds_28 : decode cX3_readAnds 28 = .ok (.iload_n 1, 1) := by decide +kernel
theorem dX3_readAnds_29 : decode cX3_readAnds 29 = .ok (.invokevirtual 64, 3) := by decide +kernel
theorem dX3_readAnds_32 : decode cX3_readAnds 32 = .ok (.aload_n 0, 1) := by decide +kernel
theorem dX3_readAnds_33 : decode cX3_readAnds 33 = .ok (.getfield 15, 3) := by decide +kernel
theorem dX3_readAnds_36 : decode cX3_readAnds 36 = .ok (.sipush 20006, 3) := by decide +kernel
theorem dX3_readAnds_39 : decode cX3_readAnds 39 = .ok (.invokevirtual 69, 3) := by decide +kernel
theorem dX3_readAnds_42 : decode cX3_readAnds 42 = .ok (.iinc 2 1, 3) := by decide +kernel
theorem dX3_readAnds_45 : decode cX3_readAnds 45 = .ok (.goto (-38), 3) := by decide +kernel
theorem dX3_readAnds_48 : decode cX3_readAnds 48 = .ok (.return_, 1) := by decide +kernel
theorem dX3_readTest_0 : decode cX3_readTest 0 = .ok (.aload_n 0, 1) := by decide +kernel
theorem dX3_readTest_1 : decode cX3_readTest 1 = .ok (.iload_n 1, 1) := by decide +kernel
theorem dX3_readTest_2 : decode cX3_readTest 2 = .ok (.invokevirtual 72, 3) := by decide +kernel
theorem dX3_readTest_5 : decode cX3_readTest 5 = .ok (.aload_n 0, 1) := by decide +kernel
theorem dX3_readTest_6 : decode cX3_readTest 6 = .ok (.bipush 60, 2) := by decide +kernel
theorem dX3_readTest_8 : decode cX3_readTest 8 = .ok (.invokevirtual 33, 3) := by decide +kernel
theorem dX3_readTest_11 : decode cX3_readTest 11 = .ok (.ifCond .ne 12, 3) := by decide +kernel
theorem dX3_readTest_14 : decode cX3_readTest 14 = .ok (.aload_n 0, 1) := by decide +kernel
theorem dX3_readTest_15 : decode cX3_readTest 15 = .ok (.bipush 61, 2) := by decide +kernel
theorem dX3_readTest_17 : decode cX3_readTest 17 = .ok (.invokevirtual 33, 3) := by decide +kernel
theorem dX3_readTest_20 : decode cX3_readTest 20 = .ok (.ifCond .eq 37, 3) := by decide +kernel
theorem dX3_readTest_23 : decode cX3_readTest 23 = .ok (.aload_n 0, 1) := by decide +kernel
theorem dX3_readTest_24 : decode cX3_readTest 24 = .ok (.getfield 9, 3) := by decide +kernel
theorem dX3_readTest_27 : decode cX3_readTest 27 = .ok (.getfield 75, 3) := by decide +kernel
theorem dX3_readTest_30 : decode cX3_readTest 30 = .ok (.aload_n 0, 1) := by decide +kernel
theorem dX3_readTest_31 : decode cX3_readTest 31 = .ok (.getfield 24, 3) := by decide +kernel
theorem dX3_readTest_34 : decode cX3_readTest 34 = .ok (.iaload, 1) := by decide +kernel
theorem dX3_readTest_35 : decode cX3_readTest 35 = .ok (.istore_n 2, 1) := by decide +kernel
theorem dX3_readTest_36 : decode cX3_readTest 36 = .ok (.aload_n 0, 1) := by decide +kernel
theorem dX3_readTest_37 : decode cX3_readTest 37 = .ok (.invokevirtual 57, 3) := by decide +kernel
theorem dX3_readTest_40 : decode cX3_readTest 40 = .ok (.aload_n 0, 1) := by decide +kernel
theorem dX3_readTest_41 : decode cX3_readTest 41 = .ok (.iload_n 1, 1) := by decide +kernel
theorem dX3_readTest_42 : decode cX3_readTest 42 = .ok (.invokevirtual 72, 3) := by decide +kernel
theorem dX3_readTest_45 : decode cX3_readTest 45 = .ok (.aload_n 0, 1) := by decide +kernel
theorem dX3_readTest_46 : decode cX3_readTest 46 = .ok (.getfield 15, 3) := by decide +kernel
theorem dX3_readTest_49 : decode cX3_readTest 49 = .ok (.sipush 20000, 3) := by decide +kernel
theorem dX3_readTest_52 : decode cX3_readTest 52 = .ok (.iload_n 2, 1) := by decide +kernel
theorem dX3_readTest_53 : decode cX3_readTest 53 = .ok (.iadd, 1) := by decide +kernel
theorem dX3_readTest_54 : decode cX3_readTest 54 = .ok (.invokevirtual 69, 3) := by decide +kernel
theorem dX3_readTest_57 : decode cX3_readTest 57 = .ok (.return_, 1) := by decide +kernel
theorem dX3_readSum_0 : decode cX3_readSum 0 = .ok (.aload_n 0, 1) := by decide +kernel
theorem dX3_readSum_1 : decode cX3_readSum 1 = .ok (.iload_n 1, 1) := by decide +kernel
theorem dX3_readSum_2 : decode cX3_readSum 2 = .ok (.invokevirtual 78, 3) := by decide +kernel
theorem dX3_readSum_5 : decode cX3_readSum 5 = .ok (.iconst 0, 1) := by decide +kernel
theorem dX3_readSum_6 : decode cX3_readSum 6 = .ok (.istore_n 2, 1) := by decide +kernel
theorem dX3_readSum_7 : decode cX3_readSum 7 = .ok (.iload_n 2, 1) := by decide +kernel
theorem dX3_readSum_8 : decode cX3_readSum 8 = .ok (.sipush 600, 3) := by decide +kernel
theorem dX3_readSum_11 : decode cX3_readSum 11 = .ok (.if_icmp .ge 61, 3) := by decide +kernel
theorem dX3_readSum_14 : decode cX3_readSum 14 = .ok (.aload_n 0, 1) := by decide +kernel
theorem dX3_readSum_15 : decode cX3_readSum 15 = .ok (.bipush 43, 2) := by decide +kernel
theorem dX3_readSum_17 : decode cX3_readSum 17 = .ok (.invokevirtual 33, 3) := by decide +kernel
theorem dX3_readSum_20 : decode cX3_readSum 20 = .ok (.ifCond .ne 12, 3) := by decide +kernel
theorem dX3_readSum_23 : decode cX3_readSum 23 = .ok (.aload_n 0, 1) := by decide +kernel
theorem dX3_readSum_24 : decode cX3_readSum 24 = .ok (.bipush 45, 2) := by decide +kernel
theorem dX3_readSum_26 : decode cX3_readSum 26 = .ok (.invokevirtual 33, 3) := by decide +kernel
theorem dX3_readSum_29 : decode cX3_readSum 29 = .ok (.ifCond .eq 43, 3) := by decide +kernel
theorem dX3_readSum_32 : decode cX3_readSum 32 = .ok (.aload_n 0, 1) := by decide +kernel
theorem dX3_readSum_33 : decode cX3_readSum 33 = .ok (.getfield 9, 3) := by decide +kernel
theorem dX3_readSum_36 : decode cX3_readSum 36 = .ok (.getfield 75, 3) := by decide +kernel
theorem dX3_readSum_39 : decode cX3_readSum 39 = .ok (.aload_n 0, 1) := by decide +kernel
theorem dX3_readSum_40 : decode cX3_readSum 40 = .ok (.getfield 24, 3) := by decide +kernel
theorem dX3_readSum_43 : decode cX3_readSum 43 = .ok (.iaload, 1) := by decide +kernel
theorem dX3_readSum_44 : decode cX3_readSum 44 = .ok (.istore_n 3, 1) := by decide +kernel
theorem dX3_readSum_45 : decode cX3_readSum 45 = .ok (.aload_n 0, 1) := by decide +kernel
theorem dX3_readSum_46 : decode cX3_readSum 46 = .ok (.invokevirtual 57, 3) := by decide +kernel
theorem dX3_readSum_49 : decode cX3_readSum 49 = .ok (.aload_n 0, 1) := by decide +kernel
theorem dX3_readSum_50 : decode cX3_readSum 50 = .ok (.iload_n 1, 1) := by decide +kernel
theorem dX3_readSum_51 : decode cX3_readSum 51 = .ok (.invokevirtual 78, 3) := by decide +kernel
theorem dX3_readSum_54 : decode cX3_readSum 54 = .ok (.aload_n 0, 1) := by decide +kernel
theorem dX3_readSum_55 : decode cX3_readSum 55 = .ok (.getfield 15, 3) := by decide +kernel
theorem dX3_readSum_58 : decode cX3_readSum 58 = .ok (.sipush 20000, 3) := by decide +kernel
theorem dX3_readSum_61 : decode cX3_readSum 61 = .ok (.iload_n 3, 1) := by decide +kernel
theorem dX3_readSum_62 : decode cX3_readSum 62 = .ok (.iadd, 1) := by decide +kernel
theorem dX3_readSum_63 : decode cX3_readSum 63 = .ok (.invokevirtual 69, 3) := by decide +kernel
theorem dX3_readSum_66 : decode cX3_readSum 66 = .ok (.iinc 2 1, 3) := by decide +kernel
theorem dX3_readSum_69 : decode cX3_readSum 69 = .ok (.goto (-62), 3) := by decide +kernel
theorem dX3_readSum_72 : decode cX3_readSum 72 = .ok (.return_, 1) := by decide +kernel
theorem dX3_readPart_0 : decode cX3_readPart 0 = .ok (.aload_n 0, 1) := by decide +kernel
theorem dX3_readPart_1 : decode cX3_readPart 1 = .ok (.getfield 9, 3) := by decide +kernel
theorem dX3_readPart_4 : decode cX3_readPart 4 = .ok (.getfield 75, 3) := by decide +kernel
theorem dX3_readPart_7 : decode cX3_readPart 7 = .ok (.aload_n 0, 1) := by decide +kernel
theorem dX3_readPart_8 : decode cX3_readPart 8 = .ok (.getfield 24, 3) := by decide +kernel
theorem dX3_readPart_11 : decode cX3_readPart 11 = .ok (.iaload, 1) := by decide +kernel
theorem dX3_readPart_12 : decode cX3_readPart 12 = .ok (.istore_n 2, 1) := by decide +kernel
theorem dX3_readPart_13 : decode cX3_readPart 13 = .ok (.iload_n 2, 1) := by decide +kernel
theorem dX3_readPart_14 : decode cX3_readPart 14 = .ok (.bipush 7, 2) := by decide +kernel
theorem dX3_readPart_16 : decode cX3_readPart 16 = .ok (.if_icmp .lt 13, 3) := by decide +kernel
theorem dX3_readPart_19 : decode cX3_readPart 19 = .ok (.iload_n 2, 1) := by decide +kernel
theorem dX3_readPart_20 : decode cX3_readPart 20 = .ok (.bipush 14, 2) := by decide +kernel
theorem dX3_readPart_22 : decode cX3_readPart 22 = .ok (.if_icmp .gt 7, 3) := by decide +kernel
theorem dX3_readPart_25 : decode cX3_readPart 25 = .ok (.iconst 1, 1) := by decide +kernel
theorem dX3_readPart_26 : decode cX3_readPart 26 = .ok (.goto 4, 3) := by decide +kernel
theorem dX3_readPart_29 : decode cX3_readPart 29 = .ok (.iconst 0, 1) := by decide +kernel
theorem dX3_readPart_30 : decode cX3_readPart 30 = .ok (.istore_n 3, 1) := by decide +kernel
theorem dX3_readPart_31 : decode cX3_readPart 31 = .ok (.iload_n 2, 1) := by decide +kernel
theorem dX3_readPart_32 : decode cX3_readPart 32 = .ok (.iconst 2, 1) := by decide +kernel
theorem dX3_readPart_33 : decode cX3_readPart 33 = .ok (.if_icmp .eq 21, 3) := by decide +kernel
theorem dX3_readPart_36 : decode cX3_readPart 36 = .ok (.iload_n 2, 1) := by decide +kernel
theorem dX3_readPart_37 : decode cX3_readPart 37 = .ok (.bipush 40, 2) := by decide +kernel
theorem dX3_readPart_39 : decode cX3_readPart 39 = .ok (.if_icmp .eq 15, 3) := by decide +kernel
theorem dX3_readPart_42 : decode cX3_readPart 42 = .ok (.iload_n 3, 1) := by decide +kernel
theorem dX3_readPart_43 : decode cX3_readPart 43 = .ok (.ifCond .ne 11, 3) := by decide +kernel
theorem dX3_readPart_46 : decode cX3_readPart 46 = .ok (.aload_n 0, 1) := by decide +kernel
theorem dX3_readPart_47 : decode cX3_readPart 47 = .ok (.iconst 1, 1) := by decide +kernel
theorem dX3_readPart_48 : decode cX3_readPart 48 = .ok (.invokevirtual 41, 3) := by decide +kernel
theorem dX3_readPart_51 : decode cX3_readPart 51 = .ok (.goto 13, 3) := by decide +kernel
theorem dX3_readPart_54 : decode cX3_readPart 54 = .ok (.iload_n 1, 1) := by decide +kernel
theorem dX3_readPart_55 : decode cX3_readPart 55 = .ok (.iconst 5, 1) := by decide +kernel
theorem dX3_readPart_56 : decode cX3_readPart 56 = .ok (.if_icmp .lt 8, 3) := by decide +kernel
theorem dX3_readPart_59 : decode cX3_readPart 59 = .ok (.aload_n 0, 1) := by decide +kernel
theorem dX3_readPart_60 : decode cX3_readPart 60 = .ok (.iconst 5, 1) := by decide +kernel
theorem dX3_readPart_61 : decode cX3_readPart 61 = .ok (.invokevirtual 41, 3) := by decide +kernel
theorem dX3_readPart_64 : decode cX3_readPart 64 = .ok (.aload_n 0, 1) := by decide +kernel
theorem dX3_readPart_65 : decode cX3_readPart 65 = .ok (.getfield 28, 3) := by decide +kernel
theorem dX3_readPart_68 : decode cX3_readPart 68 = .ok (.ifCond .eq 4, 3) := by decide +kernel
theorem dX3_readPart_71 : decode cX3_readPart 71 = .ok (.return_, 1) := by decide +kernel
theorem dX3_readPart_72 : decode cX3_readPart 72 = .ok (.aload_n 0, 1) := by decide +kernel
theorem dX3_readPart_73 : decode cX3_readPart 73 = .ok (.getfield 9, 3) := by decide +kernel
theorem dX3_readPart_76 : decode cX3_readPart 76 = .ok (.getfield 60, 3) := by decide +kernel
theorem dX3_readPart_79 : decode cX3_readPart 79 = .ok (.aload_n 0, 1) := by decide +kernel
theorem dX3_readPart_80 : decode cX3_readPart 80 = .ok (.getfield 24, 3) := by decide +kernel
theorem dX3_readPart_83 : decode cX3_readPart 83 = .ok (.iaload, 1) := by decide +kernel
theorem dX3_readPart_84 : decode cX3_readPart 84 = .ok (.istore 4, 2) := by decide +kernel
theorem dX3_readPart_86 : decode cX3_readPart 86 = .ok (.aload_n 0, 1) := by decide +kernel
theorem dX3_readPart_87 : decode cX3_readPart 87 = .ok (.invokevirtual 57, 3) := by decide +kernel
theorem dX3_readPart_90 : decode cX3_readPart 90 = .ok (.iload_n 2, 1) := by decide +kernel
theorem dX3_readPart_91 : decode cX3_readPart 91 = .ok (.bipush 40, 2) := by decide +kernel
theorem dX3_readPart_93 : decode cX3_readPart 93 = .ok (.if_icmp .ne 19, 3) := by decide +kernel
theorem dX3_readPart_96 : decode cX3_readPart 96 = .ok (.aload_n 0, 1) := by decide +kernel
theorem dX3_readPart_97 : decode cX3_readPart 97 = .ok (.iload_n 1, 1) := by decide +kernel
theorem dX3_readPart_98 : decode cX3_readPart 98 = .ok (.iconst 1, 1) := by decide +kernel
theorem dX3_readPart_99 : decode cX3_readPart 99 = .ok (.iadd, 1) := by decide +kernel
theorem dX3_readPart_100 : decode cX3_readPart 100 = .ok (.invokevirtual 51, 3) := by decide +kernel
theorem dX3_readPart_103 : decode cX3_readPart 103 = .ok (.aload_n 0, 1) := by decide +kernel
theorem dX3_readPart_104 : decode cX3_readPart 104 = .ok (.bipush 41, 2) := by decide +kernel
theorem dX3_readPart_106 : decode cX3_readPart 106 = .ok (.invokevirtual 44, 3) := by decide +kernel
theorem dX3_readPart_109 : decode cX3_readPart 109 = .ok (.goto 34, 3) := by decide +kernel
theorem dX3_readPart_112 : decode cX3_readPart 112 = .ok (.iload_n 3, 1) := by decide +kernel
theorem dX3_readPart_113 : decode cX3_readPart 113 = .ok (.ifCond .eq 21, 3) := by decide +kernel
theorem dX3_readPart_116 : decode cX3_readPart 116 = .ok (.aload_n 0, 1) := by decide +kernel
theorem dX3_readPart_117 : decode cX3_readPart 117 = .ok (.getfield 15, 3) := by decide +kernel
theorem dX3_readPart_120 : decode cX3_readPart 120 = .ok (.sipush 10000, 3) := by decide +kernel
theorem dX3_readPart_123 : decode cX3_readPart 123 = .ok (.iload_n 2, 1) := by decide +kernel
theorem dX3_readPart_124 : decode cX3_readPart 124 = .ok (.iadd, 1) := by decide +kernel
theorem dX3_readPart_125 : decode cX3_readPart 125 = .ok (.bipush 7, 2) := by decide +kernel
theorem dX3_readPart_127 : decode cX3_readPart 127 = .ok (.isub, 1) := by decide +kernel
theorem dX3_readPart_128 : decode cX3_readPart 128 = .ok (.invokevirtual 69, 3) := by decide +kernel
theorem dX3_readPart_131 : decode cX3_readPart 131 = .ok (.goto 12, 3) := by decide +kernel
theorem dX3_readPart_134 : decode cX3_readPart 134 = .ok (.aload_n 0, 1) := by decide +kernel
theorem dX3_readPart_135 : decode cX3_readPart 135 = .ok (.getfield 15, 3) := by decide +kernel
theorem dX3_readPart_138 : decode cX3_readPart 138 = .ok (.iload 4, 2) := by decide +kernel
theorem dX3_readPart_140 : decode cX3_readPart 140 = .ok (.invokevirtual 69, 3) := by decide +kernel
theorem dX3_readPart_143 : decode cX3_readPart 143 = .ok (.return_, 1) := by decide +kernel
theorem dX3_sees_0 : decode cX3_sees 0 = .ok (.aload_n 0, 1) := by decide +kernel
theorem dX3_sees_1 : decode cX3_sees 1 = .ok (.getfield 28, 3) := by decide +kernel
theorem dX3_sees_4 : decode cX3_sees 4 = .ok (.ifCond .ne 23, 3) := by decide +kernel
theorem dX3_sees_7 : decode cX3_sees 7 = .ok (.aload_n 0, 1) := by decide +kernel
theorem dX3_sees_8 : decode cX3_sees 8 = .ok (.getfield 9, 3) := by decide +kernel
theorem dX3_sees_11 : decode cX3_sees 11 = .ok (.getfield 75, 3) := by decide +kernel
theorem dX3_sees_14 : decode cX3_sees 14 = .ok (.aload_n 0, 1) := by decide +kernel
theorem dX3_sees_15 : decode cX3_sees 15 = .ok (.getfield 24, 3) := by decide +kernel
theorem dX3_sees_18 : decode cX3_sees 18 = .ok (.iaload, 1) := by decide +kernel
theorem dX3_sees_19 : decode cX3_sees 19 = .ok (.iload_n 1, 1) := by decide +kernel
theorem dX3_sees_20 : decode cX3_sees 20 = .ok (.if_icmp .ne 7, 3) := by decide +kernel
theorem dX3_sees_23 : decode cX3_sees 23 = .ok (.iconst 1, 1) := by decide +kernel
theorem dX3_sees_24 : decode cX3_sees 24 = .ok (.goto 4, 3) := by decide +kernel
theorem dX3_sees_27 : decode cX3_sees 27 = .ok (.iconst 0, 1) := by decide +kernel
theorem dX3_sees_28 : decode cX3_sees 28 = .ok (.ireturn, 1) := by decide +kernel
theorem dX3_step_0 : decode cX3_step 0 = .ok (.aload_n 0, 1) := by decide +kernel
theorem dX3_step_1 : decode cX3_step 1 = .ok (.getfield 24, 3) := by decide +kernel
theorem dX3_step_4 : decode cX3_step 4 = .ok (.aload_n 0, 1) := by decide +kernel
theorem dX3_step_5 : decode cX3_step 5 = .ok (.getfield 9, 3) := by decide +kernel
theorem dX3_step_8 : decode cX3_step 8 = .ok (.getfield 81, 3) := by decide +kernel
theorem dX3_step_11 : decode cX3_step 11 = .ok (.if_icmp .ge 13, 3) := by decide +kernel
theorem dX3_step_14 : decode cX3_step 14 = .ok (.aload_n 0, 1) := by decide +kernel
theorem dX3_step_15 : decode cX3_step 15 = .ok (.dup, 1) := by decide +kernel
theorem dX3_step_16 : decode cX3_step 16 = .ok (.getfield 24, 3) := by decide +kernel
theorem dX3_step_19 : decode cX3_step 19 = .ok (.iconst 1, 1) := by decide +kernel
theorem dX3_step_20 : decode cX3_step 20 = .ok (.iadd, 1) := by decide +kernel
theorem dX3_step_21 : decode cX3_step 21 = .ok (.putfield 24, 3) := by decide +kernel
theorem dX3_step_24 : decode cX3_step 24 = .ok (.return_, 1) := by decide +kernel
theorem dX3_take_0 : decode cX3_take 0 = .ok (.aload_n 0, 1) := by decide +kernel
theorem dX3_take_1 : decode cX3_take 1 = .ok (.getfield 28, 3) := by decide +kernel
theorem dX3_take_4 : decode cX3_take 4 = .ok (.ifCond .ne 43, 3) := by decide +kernel
theorem dX3_take_7 : decode cX3_take 7 = .ok (.aload_n 0, 1) := by decide +kernel
theorem dX3_take_8 : decode cX3_take 8 = .ok (.getfield 9, 3) := by decide +kernel
theorem dX3_take_11 : decode cX3_take 11 = .ok (.getfield 75, 3) := by decide +kernel
theorem dX3_take_14 : decode cX3_take 14 = .ok (.aload_n 0, 1) := by decide +kernel
theorem dX3_take_15 : decode cX3_take 15 = .ok (.getfield 24, 3) := by decide +kernel
theorem dX3_take_18 : decode cX3_take 18 = .ok (.iaload, 1) := by decide +kernel
theorem dX3_take_19 : decode cX3_take 19 = .ok (.iload_n 1, 1) := by decide +kernel
theorem dX3_take_20 : decode cX3_take 20 = .ok (.if_icmp .eq 27, 3) := by decide +kernel
theorem dX3_take_23 : decode cX3_take 23 = .ok (.aload_n 0, 1) := by decide +kernel
theorem dX3_take_24 : decode cX3_take 24 = .ok (.iconst 1, 1) := by decide +kernel
theorem dX3_take_25 : decode cX3_take 25 = .ok (.bipush 16, 2) := by decide +kernel
theorem dX3_take_27 : decode cX3_take 27 = .ok (.aload_n 0, 1) := by decide +kernel
theorem dX3_take_28 : decode cX3_take 28 = .ok (.getfield 9, 3) := by decide +kernel
theorem dX3_take_31 : decode cX3_take 31 = .ok (.getfield 84, 3) := by decide +kernel
theorem dX3_take_34 : decode cX3_take 34 = .ok (.aload_n 0, 1) := by decide +kernel
theorem dX3_take_35 : decode cX3_take 35 = .ok (.getfield 24, 3) := by decide +kernel
theorem dX3_take_38 : decode cX3_take 38 = .ok (.iaload, 1) := by decide +kernel
theorem dX3_take_39 : decode cX3_take 39 = .ok (.imul, 1) := by decide +kernel
theorem dX3_take_40 : decode cX3_take 40 = .ok (.iadd, 1) := by decide +kernel
theorem dX3_take_41 : decode cX3_take 41 = .ok (.putfield 28, 3) := by decide +kernel
theorem dX3_take_44 : decode cX3_take 44 = .ok (.goto 34, 3) := by decide +kernel
theorem dX3_take_47 : decode cX3_take 47 = .ok (.aload_n 0, 1) := by decide +kernel
theorem dX3_take_48 : decode cX3_take 48 = .ok (.getfield 28, 3) := by decide +kernel
theorem dX3_take_51 : decode cX3_take 51 = .ok (.ifCond .ne 27, 3) := by decide +kernel
theorem dX3_take_54 : decode cX3_take 54 = .ok (.aload_n 0, 1) := by decide +kernel
theorem dX3_take_55 : decode cX3_take 55 = .ok (.getfield 24, 3) := by decide +kernel
theorem dX3_take_58 : decode cX3_take 58 = .ok (.aload_n 0, 1) := by decide +kernel
theorem dX3_take_59 : decode cX3_take 59 = .ok (.getfield 9, 3) := by decide +kernel
theorem dX3_take_62 : decode cX3_take 62 = .ok (.getfield 81, 3) := by decide +kernel
theorem dX3_take_65 : decode cX3_take 65 = .ok (.if_icmp .ge 13, 3) := by decide +kernel
theorem dX3_take_68 : decode cX3_take 68 = .ok (.aload_n 0, 1) := by decide +kernel
theorem dX3_take_69 : decode cX3_take 69 = .ok (.dup, 1) := by decide +kernel
theorem dX3_take_70 : decode cX3_take 70 = .ok (.getfield 24, 3) := by decide +kernel
theorem dX3_take_73 : decode cX3_take 73 = .ok (.iconst 1, 1) := by decide +kernel
theorem dX3_take_74 : decode cX3_take 74 = .ok (.iadd, 1) := by decide +kernel
theorem dX3_take_75 : decode cX3_take 75 = .ok (.putfield 24, 3) := by decide +kernel
theorem dX3_take_78 : decode cX3_take 78 = .ok (.return_, 1) := by decide +kernel
theorem dX3_refuse_0 : decode cX3_refuse 0 = .ok (.aload_n 0, 1) := by decide +kernel
theorem dX3_refuse_1 : decode cX3_refuse 1 = .ok (.getfield 28, 3) := by decide +kernel
theorem dX3_refuse_4 : decode cX3_refuse 4 = .ok (.ifCond .ne 24, 3) := by decide +kernel
theorem dX3_refuse_7 : decode cX3_refuse 7 = .ok (.aload_n 0, 1) := by decide +kernel
theorem dX3_refuse_8 : decode cX3_refuse 8 = .ok (.iload_n 1, 1) := by decide +kernel
theorem dX3_refuse_9 : decode cX3_refuse 9 = .ok (.bipush 16, 2) := by decide +kernel
theorem dX3_refuse_11 : decode cX3_refuse 11 = .ok (.aload_n 0, 1) := by decide +kernel
theorem dX3_refuse_12 : decode cX3_refuse 12 = .ok (.getfield 9, 3) := by decide +kernel
theorem dX3_refuse_15 : decode cX3_refuse 15 = .ok (.getfield 84, 3) := by decide +kernel
theorem dX3_refuse_18 : decode cX3_refuse 18 = .ok (.aload_n 0, 1) := by decide +kernel
theorem dX3_refuse_19 : decode cX3_refuse 19 = .ok (.getfield 24, 3) := by decide +kernel
theorem dX3_refuse_22 : decode cX3_refuse 22 = .ok (.iaload, 1) := by decide +kernel
theorem dX3_refuse_23 : decode cX3_refuse 23 = .ok (.imul, 1) := by decide +kernel
theorem dX3_refuse_24 : decode cX3_refuse 24 = .ok (.iadd, 1) := by decide +kernel
theorem dX3_refuse_25 : decode cX3_refuse 25 = .ok (.putfield 28, 3) := by decide +kernel
theorem dX3_refuse_28 : decode cX3_refuse 28 = .ok (.return_, 1) := by decide +kernel
theorem dX4_init_0 : decode cX4_init 0 = .ok (.aload_n 0, 1) := by decide +kernel
theorem dX4_init_1 : decode cX4_init 1 = .ok (.invokespecial 1, 3) := by decide +kernel
theorem dX4_init_4 : decode cX4_init 4 = .ok (.aload_n 0, 1) := by decide +kernel
theorem dX4_init_5 : decode cX4_init 5 = .ok (.sipush 600, 3) := by decide +kernel
theorem dX4_init_8 : decode cX4_init 8 = .ok (.newarray .int, 2) := by decide +kernel
theorem dX4_init_10 : decode cX4_init 10 = .ok (.putfield 9, 3) := by decide +kernel
theorem dX4_init_13 : decode cX4_init 13 = .ok (.aload_n 0, 1) := by decide +kernel
theorem dX4_init_14 : decode cX4_init 14 = .ok (.bipush 16, 2) := by decide +kernel
theorem dX4_init_16 : decode cX4_init 16 = .ok (.newarray .int, 2) := by decide +kernel
theorem dX4_init_18 : decode cX4_init 18 = .ok (.putfield 15, 3) := by decide +kernel
theorem dX4_init_21 : decode cX4_init 21 = .ok (.aload_n 0, 1) := by decide +kernel
theorem dX4_init_22 : decode cX4_init 22 = .ok (.bipush 16, 2) := by decide +kernel
theorem dX4_init_24 : decode cX4_init 24 = .ok (.newarray .int, 2) := by decide +kernel
theorem dX4_init_26 : decode cX4_init 26 = .ok (.putfield 18, 3) := by decide +kernel
theorem dX4_init_29 : decode cX4_init 29 = .ok (.aload_n 0, 1) := by decide +kernel
theorem dX4_init_30 : decode cX4_init 30 = .ok (.bipush 16, 2) := by decide +kernel
theorem dX4_init_32 : decode cX4_init 32 = .ok (.newarray .int, 2) := by decide +kernel
theorem dX4_init_34 : decode cX4_init 34 = .ok (.putfield 21, 3) := by decide +kernel
theorem dX4_init_37 : decode cX4_init 37 = .ok (.return_, 1) := by decide +kernel
theorem dX4_clear_0 : decode cX4_clear 0 = .ok (.aload_n 0, 1) := by decide +kernel
theorem dX4_clear_1 : decode cX4_clear 1 = .ok (.iconst 0, 1) := by decide +kernel
theorem dX4_clear_2 : decode cX4_clear 2 = .ok (.putfield 24, 3) := by decide +kernel
theorem dX4_clear_5 : decode cX4_clear 5 = .ok (.aload_n 0, 1) := by decide +kernel
theorem dX4_clear_6 : decode cX4_clear 6 = .ok (.iconst 0, 1) := by decide +kernel
theorem dX4_clear_7 : decode cX4_clear 7 = .ok (.putfield 28, 3) := by decide +kernel
theorem dX4_clear_10 : decode cX4_clear 10 = .ok (.return_, 1) := by decide +kernel
theorem dX4_put_0 : decode cX4_put 0 = .ok (.aload_n 0, 1) := by decide +kernel
theorem dX4_put_1 : decode cX4_put 1 = .ok (.getfield 24, 3) := by decide +kernel
theorem dX4_put_4 : decode cX4_put 4 = .ok (.aload_n 0, 1) := by decide +kernel
theorem dX4_put_5 : decode cX4_put 5 = .ok (.getfield 9, 3) := by decide +kernel
theorem dX4_put_8 : decode cX4_put 8 = .ok (.arraylength, 1) := by decide +kernel
theorem dX4_put_9 : decode cX4_put 9 = .ok (.if_icmp .ge 23, 3) := by decide +kernel
theorem dX4_put_12 : decode cX4_put 12 = .ok (.aload_n 0, 1) := by decide +kernel
theorem dX4_put_13 : decode cX4_put 13 = .ok (.getfield 9, 3) := by decide +kernel
theorem dX4_put_16 : decode cX4_put 16 = .ok (.aload_n 0, 1) := by decide +kernel
theorem dX4_put_17 : decode cX4_put 17 = .ok (.getfield 24, 3) := by decide +kernel
theorem dX4_put_20 : decode cX4_put 20 = .ok (.iload_n 1, 1) := by decide +kernel
theorem dX4_put_21 : decode cX4_put 21 = .ok (.iastore, 1) := by decide +kernel
theorem dX4_put_22 : decode cX4_put 22 = .ok (.aload_n 0, 1) := by decide +kernel
theorem dX4_put_23 : decode cX4_put 23 = .ok (.dup, 1) := by decide +kernel
theorem dX4_put_24 : decode cX4_put 24 = .ok (.getfield 24, 3) := by decide +kernel
theorem dX4_put_27 : decode cX4_put 27 = .ok (.iconst 1, 1) := by decide +kernel
theorem dX4_put_28 : decode cX4_put 28 = .ok (.iadd, 1) := by decide +kernel
theorem dX4_put_29 : decode cX4_put 29 = .ok (.putfield 24, 3) := by decide +kernel
theorem dX4_put_32 : decode cX4_put 32 = .ok (.return_, 1) := by decide +kernel
theorem dX4_endLine_0 : decode cX4_endLine 0 = .ok (.aload_n 0, 1) := by decide +kernel
theorem dX4_endLine_1 : decode cX4_endLine 1 = .ok (.getfield 28, 3) := by decide +kernel
theorem dX4_endLine_4 : decode cX4_endLine 4 = .ok (.bipush 16, 2) := by decide +kernel
theorem dX4_endLine_6 : decode cX4_endLine 6 = .ok (.if_icmp .ge 36, 3) := by decide +kernel
theorem dX4_endLine_9 : decode cX4_endLine 9 = .ok (.aload_n 0, 1) := by decide +kernel
theorem dX4_endLine_10 : decode cX4_endLine 10 = .ok (.getfield 15, 3) := by decide +kernel
theorem dX4_endLine_13 : decode cX4_endLine 13 = .ok (.aload_n 0, 1) := by decide +kernel
theorem dX4_endLine_14 : decode cX4_endLine 14 = .ok (.getfield 28, 3) := by decide +kernel
theorem dX4_endLine_17 : decode cX4_endLine 17 = .ok (.aload_n 0, 1) := by decide +kernel
theorem dX4_endLine_18 : decode cX4_endLine 18 = .ok (.getfield 24, 3) := by decide +kernel
theorem dX4_endLine_21 : decode cX4_endLine 21 = .ok (.iastore, 1) := by decide +kernel
theorem dX4_endLine_22 : decode cX4_endLine 22 = .ok (.aload_n 0, 1) := by decide +kernel
theorem dX4_endLine_23 : decode cX4_endLine 23 = .ok (.getfield 18, 3) := by decide +kernel
theorem dX4_endLine_26 : decode cX4_endLine 26 = .ok (.aload_n 0, 1) := by decide +kernel
theorem dX4_endLine_27 : decode cX4_endLine 27 = .ok (.getfield 28, 3) := by decide +kernel
theorem dX4_endLine_30 : decode cX4_endLine 30 = .ok (.iload_n 1, 1) := by decide +kernel
theorem dX4_endLine_31 : decode cX4_endLine 31 = .ok (.iastore, 1) := by decide +kernel
theorem dX4_endLine_32 : decode cX4_endLine 32 = .ok (.aload_n 0, 1) := by decide +kernel
theorem dX4_endLine_33 : decode cX4_endLine 33 = .ok (.dup, 1) := by decide +kernel
theorem dX4_endLine_34 : decode cX4_endLine 34 = .ok (.getfield 28, 3) := by decide +kernel
theorem dX4_endLine_37 : decode cX4_endLine 37 = .ok (.iconst 1, 1) := by decide +kernel
theorem dX4_endLine_38 : decode cX4_endLine 38 = .ok (.iadd, 1) := by decide +kernel
theorem dX4_endLine_39 : decode cX4_endLine 39 = .ok (.putfield 28, 3) := by decide +kernel
theorem dX4_endLine_42 : decode cX4_endLine 42 = .ok (.return_, 1) := by decide +kernel
theorem dX4_shut_0 : decode cX4_shut 0 = .ok (.iconst 0, 1) := by decide +kernel
theorem dX4_shut_1 : decode cX4_shut 1 = .ok (.istore_n 3, 1) := by decide +kernel
theorem dX4_shut_2 : decode cX4_shut 2 = .ok (.iconst 0, 1) := by decide +kernel
theorem dX4_shut_3 : decode cX4_shut 3 = .ok (.istore 4, 2) := by decide +kernel
theorem dX4_shut_5 : decode cX4_shut 5 = .ok (.iload 4, 2) := by decide +kernel
theorem dX4_shut_7 : decode cX4_shut 7 = .ok (.aload_n 0, 1) := by decide +kernel
theorem dX4_shut_8 : decode cX4_shut 8 = .ok (.getfield 28, 3) := by decide +kernel
theorem dX4_shut_11 : decode cX4_shut 11 = .ok (.if_icmp .ge 69, 3) := by decide +kernel
theorem dX4_shut_14 : decode cX4_shut 14 = .ok (.aload_n 0, 1) := by decide +kernel
theorem dX4_shut_15 : decode cX4_shut 15 = .ok (.getfield 18, 3) := by decide +kernel
theorem dX4_shut_18 : decode cX4_shut 18 = .ok (.iload 4, 2) := by decide +kernel
theorem dX4_shut_20 : decode cX4_shut 20 = .ok (.iaload, 1) := by decide +kernel
theorem dX4_shut_21 : decode cX4_shut 21 = .ok (.iconst (-1), 1) := by decide +kernel
theorem dX4_shut_22 : decode cX4_shut 22 = .ok (.if_icmp .eq 14, 3) := by decide +kernel
theorem dX4_shut_25 : decode cX4_shut 25 = .ok (.aload_n 0, 1) := by decide +kernel
theorem dX4_shut_26 : decode cX4_shut 26 = .ok (.getfield 18, 3) := by decide +kernel
theorem dX4_shut_29 : decode cX4_shut 29 = .ok (.iload 4, 2) := by decide +kernel
theorem dX4_shut_31 : decode cX4_shut 31 = .ok (.iaload, 1) := by decide +kernel
theorem dX4_shut_32 : decode cX4_shut 32 = .ok (.iload_n 1, 1) := by decide +kernel
theorem dX4_shut_33 : decode cX4_shut 33 = .ok (.if_icmp .ne 7, 3) := by decide +kernel
theorem dX4_shut_36 : decode cX4_shut 36 = .ok (.iconst 1, 1) := by decide +kernel
theorem dX4_shut_37 : decode cX4_shut 37 = .ok (.goto 4, 3) := by decide +kernel
theorem dX4_shut_40 : decode cX4_shut 40 = .ok (.iconst 0, 1) := by decide +kernel
theorem dX4_shut_41 : decode cX4_shut 41 = .ok (.istore 5, 2) := by decide +kernel
theorem dX4_shut_43 : decode cX4_shut 43 = .ok (.iload 5, 2) := by decide +kernel
theorem dX4_shut_45 : decode cX4_shut 45 = .ok (.ifCond .eq 21, 3) := by decide +kernel
theorem dX4_shut_48 : decode cX4_shut 48 = .ok (.aload_n 0, 1) := by decide +kernel
theorem dX4_shut_49 : decode cX4_shut 49 = .ok (.iload_n 3, 1) := by decide +kernel
theorem dX4_shut_50 : decode cX4_shut 50 = .ok (.aload_n 0, 1) := by decide +kernel
theorem dX4_shut_51 : decode cX4_shut 51 = .ok (.getfield 15, 3) := by decide +kernel
theorem dX4_shut_54 : decode cX4_shut 54 = .ok (.iload 4, 2) := by decide +kernel
theorem dX4_shut_56 : decode cX4_shut 56 = .ok (.iaload, 1) := by decide +kernel
theorem dX4_shut_57 : decode cX4_shut 57 = .ok (.aload_n 2, 1) := by decide +kernel
theorem dX4_shut_58 : decode cX4_shut 58 = .ok (.invokevirtual 31, 3) := by decide +kernel
theorem dX4_shut_61 : decode cX4_shut 61 = .ok (.ifCond .eq 5, 3) := by decide +kernel
theorem dX4_shut_64 : decode cX4_shut 64 = .ok (.iconst 1, 1) := by decide +kernel
theorem dX4_shut_65 : decode cX4_shut 65 = .ok (.ireturn, 1) := by decide +kernel
theorem dX4_shut_66 : decode cX4_shut 66 = .ok (.aload_n 0, 1) := by decide +kernel
theorem dX4_shut_67 : decode cX4_shut 67 = .ok (.getfield 15, 3) := by decide +kernel
theorem dX4_shut_70 : decode cX4_shut 70 = .ok (.iload 4, 2) := by decide +kernel
theorem dX4_shut_72 : decode cX4_shut 72 = .ok (.iaload, 1) := by decide +kernel
theorem dX4_shut_73 : decode cX4_shut 73 = .ok (.istore_n 3, 1) := by decide +kernel
theorem dX4_shut_74 : decode cX4_shut 74 = .ok (.iinc 4 1, 3) := by decide +kernel
theorem dX4_shut_77 : decode cX4_shut 77 = .ok (.goto (-72), 3) := by decide +kernel
theorem dX4_shut_80 : decode cX4_shut 80 = .ok (.iconst 0, 1) := by decide +kernel
theorem dX4_shut_81 : decode cX4_shut 81 = .ok (.ireturn, 1) := by decide +kernel
theorem dX4_worth_0 : decode cX4_worth 0 = .ok (.aload_n 0, 1) := by decide +kernel
theorem dX4_worth_1 : decode cX4_worth 1 = .ok (.iconst 0, 1) := by decide +kernel
theorem dX4_worth_2 : decode cX4_worth 2 = .ok (.putfield 35, 3) := by decide +kernel
theorem dX4_worth_5 : decode cX4_worth 5 = .ok (.iload_n 1, 1) := by decide +kernel
theorem dX4_worth_6 : decode cX4_worth 6 = .ok (.istore 4, 2) := by decide +kernel
theorem dX4_worth_8 : decode cX4_worth 8 = .ok (.iload 4, 2) := by decide +kernel
theorem dX4_worth_10 : decode cX4_worth 10 = .ok (.iload_n 2, 1) := by decide +kernel
theorem dX4_worth_11 : decode cX4_worth 11 = .ok (.if_icmp .ge 112, 3) := by decide +kernel
theorem dX4_worth_14 : decode cX4_worth 14 = .ok (.iload 4, 2) := by decide +kernel
theorem dX4_worth_16 : decode cX4_worth 16 = .ok (.aload_n 0, 1) := by decide +kernel
theorem dX4_worth_17 : decode cX4_worth 17 = .ok (.getfield 9, 3) := by decide +kernel
theorem dX4_worth_20 : decode cX4_worth 20 = .ok (.arraylength, 1) := by decide +kernel
theorem dX4_worth_21 : decode cX4_worth 21 = .ok (.if_icmp .ge 102, 3) := by decide +kernel
theorem dX4_worth_24 : decode cX4_worth 24 = .ok (.aload_n 0, 1) := by decide +kernel
theorem dX4_worth_25 : decode cX4_worth 25 = .ok (.getfield 9, 3) := by decide +kernel
theorem dX4_worth_28 : decode cX4_worth 28 = .ok (.iload 4, 2) := by decide +kernel
theorem dX4_worth_30 : decode cX4_worth 30 = .ok (.iaload, 1) := by decide +kernel
theorem dX4_worth_31 : decode cX4_worth 31 = .ok (.istore 5, 2) := by decide +kernel
theorem dX4_worth_33 : decode cX4_worth 33 = .ok (.iload 5, 2) := by decide +kernel
theorem dX4_worth_35 : decode cX4_worth 35 = .ok (.sipush 10000, 3) := by decide +kernel
theorem dX4_worth_38 : decode cX4_worth 38 = .ok (.if_icmp .ge 12, 3) := by decide +kernel
theorem dX4_worth_41 : decode cX4_worth 41 = .ok (.aload_n 0, 1) := by decide +kernel
theorem dX4_worth_42 : decode cX4_worth 42 = .ok (.iload 5, 2) := by decide +kernel
theorem dX4_worth_44 : decode cX4_worth 44 = .ok (.invokevirtual 38, 3) := by decide +kernel
theorem dX4_worth_47 : decode cX4_worth 47 = .ok (.goto 70, 3) := by decide +kernel
theorem dX4_worth_50 : decode cX4_worth 50 = .ok (.iload 5, 2) := by decide +kernel
theorem dX4_worth_52 : decode cX4_worth 52 = .ok (.sipush 20000, 3) := by decide +kernel
theorem dX4_worth_55 : decode cX4_worth 55 = .ok (.if_icmp .ge 33, 3) := by decide +kernel
theorem dX4_worth_58 : decode cX4_worth 58 = .ok (.iload 5, 2) := by decide +kernel
theorem dX4_worth_60 : decode cX4_worth 60 = .ok (.sipush 10000, 3) := by decide +kernel
theorem dX4_worth_63 : decode cX4_worth 63 = .ok (.isub, 1) := by decide +kernel
theorem dX4_worth_64 : decode cX4_worth 64 = .ok (.istore 6, 2) := by decide +kernel
theorem dX4_worth_66 : decode cX4_worth 66 = .ok (.aload_n 0, 1) := by decide +kernel
theorem dX4_worth_67 : decode cX4_worth 67 = .ok (.iload 6, 2) := by decide +kernel
theorem dX4_worth_69 : decode cX4_worth 69 = .ok (.aload_n 3, 1) := by decide +kernel
theorem dX4_worth_70 : decode cX4_worth 70 = .ok (.arraylength, 1) := by decide +kernel
theorem dX4_worth_71 : decode cX4_worth 71 = .ok (.if_icmp .ge 10, 3) := by decide +kernel
theorem dX4_worth_74 : decode cX4_worth 74 = .ok (.aload_n 3, 1) := by decide +kernel
theorem dX4_worth_75 : decode cX4_worth 75 = .ok (.iload 6, 2) := by decide +kernel
theorem dX4_worth_77 : decode cX4_worth 77 = .ok (.iaload, 1) := by decide +kernel
theorem dX4_worth_78 : decode cX4_worth 78 = .ok (.goto 4, 3) := by decide +kernel
theorem dX4_worth_81 : decode cX4_worth 81 = .ok (.iconst 0, 1) := by decide +kernel
theorem dX4_worth_82 : decode cX4_worth 82 = .ok (.invokevirtual 38, 3) := by decide +kernel
theorem dX4_worth_85 : decode cX4_worth 85 = .ok (.goto 32, 3) := by decide +kernel
theorem dX4_worth_88 : decode cX4_worth 88 = .ok (.aload_n 0, 1) := by decide +kernel
theorem dX4_worth_89 : decode cX4_worth 89 = .ok (.invokevirtual 42, 3) := by decide +kernel
theorem dX4_worth_92 : decode cX4_worth 92 = .ok (.istore 6, 2) := by decide +kernel
theorem dX4_worth_94 : decode cX4_worth 94 = .ok (.aload_n 0, 1) := by decide +kernel
theorem dX4_worth_95 : decode cX4_worth 95 = .ok (.invokevirtual 42, 3) := by decide +kernel
theorem dX4_worth_98 : decode cX4_worth 98 = .ok (.istore 7, 2) := by decide +kernel
theorem dX4_worth_100 : decode cX4_worth 100 = .ok (.aload_n 0, 1) := by decide +kernel
theorem dX4_worth_101 : decode cX4_worth 101 = .ok (.iload 5, 2) := by decide +kernel
theorem dX4_worth_103 : decode cX4_worth 103 = .ok (.sipush 20000, 3) := by decide +kernel
theorem dX4_worth_106 : decode cX4_worth 106 = .ok (.isub, 1) := by decide +kernel
theorem dX4_worth_107 : decode cX4_worth 107 = .ok (.iload 7, 2) := by decide +kernel
theorem dX4_worth_109 : decode cX4_worth 109 = .ok (.iload 6, 2) := by decide +kernel
theorem dX4_worth_111 : decode cX4_worth 111 = .ok (.invokestatic 46, 3) := by decide +kernel
theorem dX4_worth_114 : decode cX4_worth 114 = .ok (.invokevirtual 38, 3) := by decide +kernel
theorem dX4_worth_117 : decode cX4_worth 117 = .ok (.iinc 4 1, 3) := by decide +kernel
theorem dX4_worth_120 : decode cX4_worth 120 = .ok (.goto (-112), 3) := by decide +kernel
theorem dX4_worth_123 : decode cX4_worth 123 = .ok (.aload_n 0, 1) := by decide +kernel
theorem dX4_worth_124 : decode cX4_worth 124 = .ok (.invokevirtual 42, 3) := by decide +kernel
theorem dX4_worth_127 : decode cX4_worth 127 = .ok (.ireturn, 1) := by decide +kernel
theorem dX4_push_0 : decode cX4_push 0 = .ok (.aload_n 0, 1) := by decide +kernel
theorem dX4_push_1 : decode cX4_push 1 = .ok (.getfield 35, 3) := by decide +kernel
theorem dX4_push_4 : decode cX4_push 4 = .ok (.aload_n 0, 1) := by decide +kernel
theorem dX4_push_5 : decode cX4_push 5 = .ok (.getfield 21, 3) := by decide +kernel
theorem dX4_push_8 : decode cX4_push 8 = .ok (.arraylength, 1) := by decide +kernel
theorem dX4_push_9 : decode cX4_push 9 = .ok (.if_icmp .ge 23, 3) := by decide +kernel
theorem dX4_push_12 : decode cX4_push 12 = .ok (.aload_n 0, 1) := by decide +kernel
theorem dX4_push_13 : decode cX4_push 13 = .ok (.getfield 21, 3) := by decide +kernel
theorem dX4_push_16 : decode cX4_push 16 = .ok (.aload_n 0, 1) := by decide +kernel
theorem dX4_push_17 : decode cX4_push 17 = .ok (.getfield 35, 3) := by decide +kernel
theorem dX4_push_20 : decode cX4_push 20 = .ok (.iload_n 1, 1) := by decide +kernel
theorem dX4_push_21 : decode cX4_push 21 = .ok (.iastore, 1) := by decide +kernel
theorem dX4_push_22 : decode cX4_push 22 = .ok (.aload_n 0, 1) := by decide +kernel
theorem dX4_push_23 : decode cX4_push 23 = .ok (.dup, 1) := by decide +kernel
theorem dX4_push_24 : decode cX4_push 24 = .ok (.getfield 35, 3) := by decide +kernel
theorem dX4_push_27 : decode cX4_push 27 = .ok (.iconst 1, 1) := by decide +kernel
theorem dX4_push_28 : decode cX4_push 28 = .ok (.iadd, 1) := by decide +kernel
theorem dX4_push_29 : decode cX4_push 29 = .ok (.putfield 35, 3) := by decide +kernel
theorem dX4_push_32 : decode cX4_push 32 = .ok (.return_, 1) := by decide +kernel
theorem dX4_pop_0 : decode cX4_pop 0 = .ok (.aload_n 0, 1) := by decide +kernel
theorem dX4_pop_1 : decode cX4_pop 1 = .ok (.getfield 35, 3) := by decide +kernel
theorem dX4_pop_4 : decode cX4_pop 4 = .ok (.ifCond .ne 5, 3) := by decide +kernel
theorem dX4_pop_7 : decode cX4_pop 7 = .ok (.iconst 0, 1) := by decide +kernel
theorem dX4_pop_8 : decode cX4_pop 8 = .ok (.ireturn, 1) := by decide +kernel
theorem dX4_pop_9 : decode cX4_pop 9 = .ok (.aload_n 0, 1) := by decide +kernel
theorem dX4_pop_10 : decode cX4_pop 10 = .ok (.dup, 1) := by decide +kernel
theorem dX4_pop_11 : decode cX4_pop 11 = .ok (.getfield 35, 3) := by decide +kernel
theorem dX4_pop_14 : decode cX4_pop 14 = .ok (.iconst 1, 1) := by decide +kernel
theorem dX4_pop_15 : decode cX4_pop 15 = .ok (.isub, 1) := by decide +kernel
theorem dX4_pop_16 : decode cX4_pop 16 = .ok (.putfield 35, 3) := by decide +kernel
theorem dX4_pop_19 : decode cX4_pop 19 = .ok (.aload_n 0, 1) := by decide +kernel
theorem dX4_pop_20 : decode cX4_pop 20 = .ok (.getfield 21, 3) := by decide +kernel
theorem dX4_pop_23 : decode cX4_pop 23 = .ok (.aload_n 0, 1) := by decide +kernel
theorem dX4_pop_24 : decode cX4_pop 24 = .ok (.getfield 35, 3) := by decide +kernel
theorem dX4_pop_27 : decode cX4_pop 27 = .ok (.iaload, 1) := by decide +kernel
theorem dX4_pop_28 : decode cX4_pop 28 = .ok (.ireturn, 1) := by decide +kernel
theorem dX4_join_0 : decode cX4_join 0 = .ok (.iload_n 0, 1) := by decide +kernel
theorem dX4_join_1 : decode cX4_join 1 = .ok (.lookupswitch 73 #[(43, 43), (45, 47), (60, 51), (61, 62)], 43) := by decide +kernel
theorem dX4_join_44 : decode cX4_join 44 = .ok (.iload_n 1, 1) := by decide +kernel
theorem dX4_join_45 : decode cX4_join 45 = .ok (.iload_n 2, 1) := by decide +kernel
theorem dX4_join_46 : decode cX4_join 46 = .ok (.iadd, 1) := by decide +kernel
theorem dX4_join_47 : decode cX4_join 47 = .ok (.ireturn, 1) := by decide +kernel
theorem dX4_join_48 : decode cX4_join 48 = .ok (.iload_n 1, 1) := by decide +kernel
theorem dX4_join_49 : decode cX4_join 49 = .ok (.iload_n 2, 1) := by decide +kernel
theorem dX4_join_50 : decode cX4_join 50 = .ok (.isub, 1) := by decide +kernel
theorem dX4_join_51 : decode cX4_join 51 = .ok (.ireturn, 1) := by decide +kernel
theorem dX4_join_52 : decode cX4_join 52 = .ok (.iload_n 1, 1) := by decide +kernel
theorem dX4_join_53 : decode cX4_join 53 = .ok (.iload_n 2, 1) := by decide +kernel
theorem dX4_join_54 : decode cX4_join 54 = .ok (.if_icmp .ge 7, 3) := by decide +kernel
theorem dX4_join_57 : decode cX4_join 57 = .ok (.iconst 1, 1) := by decide +kernel
theorem dX4_join_58 : decode cX4_join 58 = .ok (.goto 4, 3) := by decide +kernel
theorem dX4_join_61 : decode cX4_join 61 = .ok (.iconst 0, 1) := by decide +kernel
theorem dX4_join_62 : decode cX4_join 62 = .ok (.ireturn, 1) := by decide +kernel
theorem dX4_join_63 : decode cX4_join 63 = .ok (.iload_n 1, 1) := by decide +kernel
theorem dX4_join_64 : decode cX4_join 64 = .ok (.iload_n 2, 1) := by decide +kernel
theorem dX4_join_65 : decode cX4_join 65 = .ok (.if_icmp .ne 7, 3) := by decide +kernel
theorem dX4_join_68 : decode cX4_join 68 = .ok (.iconst 1, 1) := by decide +kernel
theorem dX4_join_69 : decode cX4_join 69 = .ok (.goto 4, 3) := by decide +kernel
theorem dX4_join_72 : decode cX4_join 72 = .ok (.iconst 0, 1) := by decide +kernel
theorem dX4_join_73 : decode cX4_join 73 = .ok (.ireturn, 1) := by decide +kernel
theorem dX4_join_74 : decode cX4_join 74 = .ok (.iload_n 1, 1) := by decide +kernel
theorem dX4_join_75 : decode cX4_join 75 = .ok (.ifCond .eq 11, 3) := by decide +kernel
theorem dX4_join_78 : decode cX4_join 78 = .ok (.iload_n 2, 1) := by decide +kernel
theorem dX4_join_79 : decode cX4_join 79 = .ok (.ifCond .eq 7, 3) := by decide +kernel
theorem dX4_join_82 : decode cX4_join 82 = .ok (.iconst 1, 1) := by decide +kernel
theorem dX4_join_83 : decode cX4_join 83 = .ok (.goto 4, 3) := by decide +kernel
theorem dX4_join_86 : decode cX4_join 86 = .ok (.iconst 0, 1) := by decide +kernel
theorem dX4_join_87 : decode cX4_join 87 = .ok (.ireturn, 1) := by decide +kernel
theorem dX5_init_0 : decode cX5_init 0 = .ok (.aload_n 0, 1) := by decide +kernel
theorem dX5_init_1 : decode cX5_init 1 = .ok (.invokespecial 1, 3) := by decide +kernel
theorem dX5_init_4 : decode cX5_init 4 = .ok (.aload_n 0, 1) := by decide +kernel
theorem dX5_init_5 : decode cX5_init 5 = .ok (.sipush 600, 3) := by decide +kernel
theorem dX5_init_8 : decode cX5_init 8 = .ok (.newarray .char, 2) := by decide +kernel
theorem dX5_init_10 : decode cX5_init 10 = .ok (.putfield 9, 3) := by decide +kernel
theorem dX5_init_13 : decode cX5_init 13 = .ok (.return_, 1) := by decide +kernel
theorem dX5_addBytes_0 : decode cX5_addBytes 0 = .ok (.bipush 56, 2) := by decide +kernel
theorem dX5_addBytes_2 : decode cX5_addBytes 2 = .ok (.istore_n 3, 1) := by decide +kernel
theorem dX5_addBytes_3 : decode cX5_addBytes 3 = .ok (.iload_n 3, 1) := by decide +kernel
theorem dX5_addBytes_4 : decode cX5_addBytes 4 = .ok (.ifCond .lt 84, 3) := by decide +kernel
theorem dX5_addBytes_7 : decode cX5_addBytes 7 = .ok (.lload_n 1, 1) := by decide +kernel
theorem dX5_addBytes_8 : decode cX5_addBytes 8 = .ok (.iload_n 3, 1) := by decide +kernel
theorem dX5_addBytes_9 : decode cX5_addBytes 9 = .ok (.lushr, 1) := by decide +kernel
theorem dX5_addBytes_10 : decode cX5_addBytes 10 = .ok (.ldc2_w 13, 3) := by decide +kernel
theorem dX5_addBytes_13 : decode cX5_addBytes 13 = .ok (.land, 1) := by decide +kernel
theorem dX5_addBytes_14 : decode cX5_addBytes 14 = .ok (.l2i, 1) := by decide +kernel
theorem dX5_addBytes_15 : decode cX5_addBytes 15 = .ok (.istore 4, 2) := by decide +kernel
theorem dX5_addBytes_17 : decode cX5_addBytes 17 = .ok (.iload 4, 2) := by decide +kernel
theorem dX5_addBytes_19 : decode cX5_addBytes 19 = .ok (.bipush 10, 2) := by decide +kernel
theorem dX5_addBytes_21 : decode cX5_addBytes 21 = .ok (.if_icmp .eq 17, 3) := by decide +kernel
theorem dX5_addBytes_24 : decode cX5_addBytes 24 = .ok (.iload 4, 2) := by decide +kernel
theorem dX5_addBytes_26 : decode cX5_addBytes 26 = .ok (.bipush 32, 2) := by decide +kernel
theorem dX5_addBytes_28 : decode cX5_addBytes 28 = .ok (.if_icmp .lt 14, 3) := by decide +kernel
theorem dX5_addBytes_31 : decode cX5_addBytes 31 = .ok (.iload 4, 2) := by decide +kernel
theorem dX5_addBytes_33 : decode cX5_addBytes 33 = .ok (.bipush 126, 2) := by decide +kernel
theorem dX5_addBytes_35 : decode cX5_addBytes 35 = .ok (.if_icmp .gt 7, 3) := by decide +kernel
theorem dX5_addBytes_38 : decode cX5_addBytes 38 = .ok (.iconst 1, 1) := by decide +kernel
theorem dX5_addBytes_39 : decode cX5_addBytes 39 = .ok (.goto 4, 3) := by decide +kernel
theorem dX5_addBytes_42 : decode cX5_addBytes 42 = .ok (.iconst 0, 1) := by decide +kernel
theorem dX5_addBytes_43 : decode cX5_addBytes 43 = .ok (.istore 5, 2) := by decide +kernel
theorem dX5_addBytes_45 : decode cX5_addBytes 45 = .ok (.iload 5, 2) := by decide +kernel
theorem dX5_addBytes_47 : decode cX5_addBytes 47 = .ok (.ifCond .eq 35, 3) := by decide +kernel
theorem dX5_addBytes_50 : decode cX5_addBytes 50 = .ok (.aload_n 0, 1) := by decide +kernel
theorem dX5_addBytes_51 : decode cX5_addBytes 51 = .ok (.getfield 15, 3) := by decide +kernel
theorem dX5_addBytes_54 : decode cX5_addBytes 54 = .ok (.sipush 600, 3) := by decide +kernel
theorem dX5_addBytes_57 : decode cX5_addBytes 57 = .ok (.if_icmp .ge 25, 3) := by decide +kernel
theorem dX5_addBytes_60 : decode cX5_addBytes 60 = .ok (.aload_n 0, 1) := by decide +kernel
theorem dX5_addBytes_61 : decode cX5_addBytes 61 = .ok (.getfield 9, 3) := by decide +kernel
theorem dX5_addBytes_64 : decode cX5_addBytes 64 = .ok (.aload_n 0, 1) := by decide +kernel
theorem dX5_addBytes_65 : decode cX5_addBytes 65 = .ok (.getfield 15, 3) := by decide +kernel
theorem dX5_addBytes_68 : decode cX5_addBytes 68 = .ok (.iload 4, 2) := by decide +kernel
theorem dX5_addBytes_70 : decode cX5_addBytes 70 = .ok (.i2c, 1) := by decide +kernel
theorem dX5_addBytes_71 : decode cX5_addBytes 71 = .ok (.castore, 1) := by decide +kernel
theorem dX5_addBytes_72 : decode cX5_addBytes 72 = .ok (.aload_n 0, 1) := by decide +kernel
theorem dX5_addBytes_73 : decode cX5_addBytes 73 = .ok (.dup, 1) := by decide +kernel
theorem dX5_addBytes_74 : decode cX5_addBytes 74 = .ok (.getfield 15, 3) := by decide +kernel
theorem dX5_addBytes_77 : decode cX5_addBytes 77 = .ok (.iconst 1, 1) := by decide +kernel
theorem dX5_addBytes_78 : decode cX5_addBytes 78 = .ok (.iadd, 1) := by decide +kernel
theorem dX5_addBytes_79 : decode cX5_addBytes 79 = .ok (.putfield 15, 3) := by decide +kernel
theorem dX5_addBytes_82 : decode cX5_addBytes 82 = .ok (.iinc 3 (-8), 3) := by decide +kernel
theorem dX5_addBytes_85 : decode cX5_addBytes 85 = .ok (.goto (-82), 3) := by decide +kernel
theorem dX5_addBytes_88 : decode cX5_addBytes 88 = .ok (.return_, 1) := by decide +kernel
theorem dX6_init_0 : decode cX6_init 0 = .ok (.aload_n 0, 1) := by decide +kernel
theorem dX6_init_1 : decode cX6_init 1 = .ok (.invokespecial 3, 3) := by decide +kernel
theorem dX6_init_4 : decode cX6_init 4 = .ok (.aload_n 0, 1) := by decide +kernel
theorem dX6_init_5 : decode cX6_init 5 = .ok (.sipush 601, 3) := by decide +kernel
theorem dX6_init_8 : decode cX6_init 8 = .ok (.newarray .int, 2) := by decide +kernel
theorem dX6_init_10 : decode cX6_init 10 = .ok (.putfield 11, 3) := by decide +kernel
theorem dX6_init_13 : decode cX6_init 13 = .ok (.aload_n 0, 1) := by decide +kernel
theorem dX6_init_14 : decode cX6_init 14 = .ok (.sipush 601, 3) := by decide +kernel
theorem dX6_init_17 : decode cX6_init 17 = .ok (.newarray .int, 2) := by decide +kernel
theorem dX6_init_19 : decode cX6_init 19 = .ok (.putfield 15, 3) := by decide +kernel
theorem dX6_init_22 : decode cX6_init 22 = .ok (.aload_n 0, 1) := by decide +kernel
theorem dX6_init_23 : decode cX6_init 23 = .ok (.sipush 601, 3) := by decide +kernel
theorem dX6_init_26 : decode cX6_init 26 = .ok (.newarray .int, 2) := by decide +kernel
theorem dX6_init_28 : decode cX6_init 28 = .ok (.putfield 18, 3) := by decide +kernel
theorem dX6_init_31 : decode cX6_init 31 = .ok (.return_, 1) := by decide +kernel
theorem dX6_cut_0 : decode cX6_cut 0 = .ok (.iconst 0, 1) := by decide +kernel
theorem dX6_cut_1 : decode cX6_cut 1 = .ok (.istore_n 2, 1) := by decide +kernel
theorem dX6_cut_2 : decode cX6_cut 2 = .ok (.iconst 0, 1) := by decide +kernel
theorem dX6_cut_3 : decode cX6_cut 3 = .ok (.istore_n 3, 1) := by decide +kernel
theorem dX6_cut_4 : decode cX6_cut 4 = .ok (.aload_n 0, 1) := by decide +kernel
theorem dX6_cut_5 : decode cX6_cut 5 = .ok (.iconst 0, 1) := by decide +kernel
theorem dX6_cut_6 : decode cX6_cut 6 = .ok (.putfield 21, 3) := by decide +kernel
theorem dX6_cut_9 : decode cX6_cut 9 = .ok (.iconst 0, 1) := by decide +kernel
theorem dX6_cut_10 : decode cX6_cut 10 = .ok (.istore 4, 2) := by decide +kernel
theorem dX6_cut_12 : decode cX6_cut 12 = .ok (.iload 4, 2) := by decide +kernel
theorem dX6_cut_14 : decode cX6_cut 14 = .ok (.aload_n 1, 1) := by decide +kernel
theorem dX6_cut_15 : decode cX6_cut 15 = .ok (.getfield 25, 3) := by decide +kernel
theorem dX6_cut_18 : decode cX6_cut 18 = .ok (.if_icmp .ge 48, 3) := by decide +kernel
theorem dX6_cut_21 : decode cX6_cut 21 = .ok (.aload_n 1, 1) := by decide +kernel
theorem dX6_cut_22 : decode cX6_cut 22 = .ok (.getfield 26, 3) := by decide +kernel
theorem dX6_cut_25 : decode cX6_cut 25 = .ok (.iload 4, 2) := by decide +kernel
theorem dX6_cut_27 : decode cX6_cut 27 = .ok (.caload, 1) := by decide +kernel
theorem dX6_cut_28 : decode cX6_cut 28 = .ok (.invokestatic 30, 3) := by decide +kernel
theorem dX6_cut_31 : decode cX6_cut 31 = .ok (.istore 5, 2) := by decide +kernel
theorem dX6_cut_33 : decode cX6_cut 33 = .ok (.iload 5, 2) := by decide +kernel
theorem dX6_cut_35 : decode cX6_cut 35 = .ok (.iload_n 3, 1) := by decide +kernel
theorem dX6_cut_36 : decode cX6_cut 36 = .ok (.if_icmp .ne 9, 3) := by decide +kernel
theorem dX6_cut_39 : decode cX6_cut 39 = .ok (.iload 5, 2) := by decide +kernel
theorem dX6_cut_41 : decode cX6_cut 41 = .ok (.iconst 3, 1) := by decide +kernel
theorem dX6_cut_42 : decode cX6_cut 42 = .ok (.if_icmp .ne 15, 3) := by decide +kernel
theorem dX6_cut_45 : decode cX6_cut 45 = .ok (.aload_n 0, 1) := by decide +kernel
theorem dX6_cut_46 : decode cX6_cut 46 = .ok (.aload_n 1, 1) := by decide +kernel
theorem dX6_cut_47 : decode cX6_cut 47 = .ok (.iload_n 3, 1) := by decide +kernel
theorem dX6_cut_48 : decode cX6_cut 48 = .ok (.iload_n 2, 1) := by decide +kernel
theorem dX6_cut_49 : decode cX6_cut 49 = .ok (.iload 4, 2) := by decide +kernel
theorem dX6_cut_51 : decode cX6_cut 51 = .ok (.invokevirtual 34, 3) := by decide +kernel
theorem dX6_cut_54 : decode cX6_cut 54 = .ok (.iload 4, 2) := by decide +kernel
theorem dX6_cut_56 : decode cX6_cut 56 = .ok (.istore_n 2, 1) := by decide +kernel
theorem dX6_cut_57 : decode cX6_cut 57 = .ok (.iload 5, 2) := by decide +kernel
theorem dX6_cut_59 : decode cX6_cut 59 = .ok (.istore_n 3, 1) := by decide +kernel
theorem dX6_cut_60 : decode cX6_cut 60 = .ok (.iinc 4 1, 3) := by decide +kernel
theorem dX6_cut_63 : decode cX6_cut 63 = .ok (.goto (-51), 3) := by decide +kernel
theorem dX6_cut_66 : decode cX6_cut 66 = .ok (.aload_n 0, 1) := by decide +kernel
theorem dX6_cut_67 : decode cX6_cut 67 = .ok (.aload_n 1, 1) := by decide +kernel
theorem dX6_cut_68 : decode cX6_cut 68 = .ok (.iload_n 3, 1) := by decide +kernel
theorem dX6_cut_69 : decode cX6_cut 69 = .ok (.iload_n 2, 1) := by decide +kernel
theorem dX6_cut_70 : decode cX6_cut 70 = .ok (.aload_n 1, 1) := by decide +kernel
theorem dX6_cut_71 : decode cX6_cut 71 = .ok (.getfield 25, 3) := by decide +kernel
theorem dX6_cut_74 : decode cX6_cut 74 = .ok (.invokevirtual 34, 3) := by decide +kernel
theorem dX6_cut_77 : decode cX6_cut 77 = .ok (.aload_n 0, 1) := by decide +kernel
theorem dX6_cut_78 : decode cX6_cut 78 = .ok (.getfield 11, 3) := by decide +kernel
theorem dX6_cut_81 : decode cX6_cut 81 = .ok (.aload_n 0, 1) := by decide +kernel
theorem dX6_cut_82 : decode cX6_cut 82 = .ok (.getfield 21, 3) := by decide +kernel
theorem dX6_cut_85 : decode cX6_cut 85 = .ok (.iconst 0, 1) := by decide +kernel
theorem dX6_cut_86 : decode cX6_cut 86 = .ok (.iastore, 1) := by decide +kernel
theorem dX6_cut_87 : decode cX6_cut 87 = .ok (.aload_n 0, 1) := by decide +kernel
theorem dX6_cut_88 : decode cX6_cut 88 = .ok (.getfield 15, 3) := by decide +kernel
theorem dX6_cut_91 : decode cX6_cut 91 = .ok (.aload_n 0, 1) := by decide +kernel
theorem dX6_cut_92 : decode cX6_cut 92 = .ok (.getfield 21, 3) := by decide +kernel
theorem dX6_cut_95 : decode cX6_cut 95 = .ok (.aload_n 1, 1) := by decide +kernel
theorem dX6_cut_96 : decode cX6_cut 96 = .ok (.getfield 25, 3) := by decide +kernel
theorem dX6_cut_99 : decode cX6_cut 99 = .ok (.iastore, 1) := by decide +kernel
theorem dX6_cut_100 : decode cX6_cut 100 = .ok (.return_, 1) := by decide +kernel
theorem dX6_sortOf_0 : decode cX6_sortOf 0 = .ok (.iload_n 0, 1) := by decide +kernel
theorem dX6_sortOf_1 : decode cX6_sortOf 1 = .ok (.bipush 10, 2) := by decide +kernel
end
section
theorem dX6_sortOf_3 : decode cX6_sortOf 3 = .ok (.if_icmp .eq 9, 3) := by decide +kernel
theorem dX6_sortOf_6 : decode cX6_sortOf 6 = .ok (.iload_n 0, 1) := by decide +kernel
theorem dX6_sortOf_7 : decode cX6_sortOf 7 = .ok (.bipush 32, 2) := by decide +kernel
theorem dX6_sortOf_9 : decode cX6_sortOf 9 = .ok (.if_icmp .ne 5, 3) := by decide +kernel
theorem dX6_sortOf_12 : decode cX6_sortOf 12 = .ok (.iconst 0, 1) := by decide +kernel
theorem dX6_sortOf_13 : decode cX6_sortOf 13 = .ok (.ireturn, 1) := by decide +kernel
theorem dX6_sortOf_14 : decode cX6_sortOf 14 = .ok (.iload_n 0, 1) := by decide +kernel
theorem dX6_sortOf_15 : decode cX6_sortOf 15 = .ok (.bipush 97, 2) := by decide +kernel
theorem dX6_sortOf_17 : decode cX6_sortOf 17 = .ok (.if_icmp .lt 11, 3) := by decide +kernel
theorem dX6_sortOf_20 : decode cX6_sortOf 20 = .ok (.iload_n 0, 1) := by decide +kernel
theorem dX6_sortOf_21 : decode cX6_sortOf 21 = .ok (.bipush 122, 2) := by decide +kernel
theorem dX6_sortOf_23 : decode cX6_sortOf 23 = .ok (.if_icmp .gt 5, 3) := by decide +kernel
theorem dX6_sortOf_26 : decode cX6_sortOf 26 = .ok (.iconst 1, 1) := by decide +kernel
theorem dX6_sortOf_27 : decode cX6_sortOf 27 = .ok (.ireturn, 1) := by decide +kernel
theorem dX6_sortOf_28 : decode cX6_sortOf 28 = .ok (.iload_n 0, 1) := by decide +kernel
theorem dX6_sortOf_29 : decode cX6_sortOf 29 = .ok (.bipush 48, 2) := by decide +kernel
theorem dX6_sortOf_31 : decode cX6_sortOf 31 = .ok (.if_icmp .lt 13, 3) := by decide +kernel
theorem dX6_sortOf_34 : decode cX6_sortOf 34 = .ok (.iload_n 0, 1) := by decide +kernel
theorem dX6_sortOf_35 : decode cX6_sortOf 35 = .ok (.bipush 57, 2) := by decide +kernel
theorem dX6_sortOf_37 : decode cX6_sortOf 37 = .ok (.if_icmp .gt 7, 3) := by decide +kernel
theorem dX6_sortOf_40 : decode cX6_sortOf 40 = .ok (.iconst 2, 1) := by decide +kernel
theorem dX6_sortOf_41 : decode cX6_sortOf 41 = .ok (.goto 4, 3) := by decide +kernel
theorem dX6_sortOf_44 : decode cX6_sortOf 44 = .ok (.iconst 3, 1) := by decide +kernel
theorem dX6_sortOf_45 : decode cX6_sortOf 45 = .ok (.ireturn, 1) := by decide +kernel
theorem dX6_addToken_0 : decode cX6_addToken 0 = .ok (.iload_n 2, 1) := by decide +kernel
theorem dX6_addToken_1 : decode cX6_addToken 1 = .ok (.ifCond .eq 13, 3) := by decide +kernel
theorem dX6_addToken_4 : decode cX6_addToken 4 = .ok (.aload_n 0, 1) := by decide +kernel
theorem dX6_addToken_5 : decode cX6_addToken 5 = .ok (.getfield 21, 3) := by decide +kernel
theorem dX6_addToken_8 : decode cX6_addToken 8 = .ok (.sipush 600, 3) := by decide +kernel
theorem dX6_addToken_11 : decode cX6_addToken 11 = .ok (.if_icmp .lt 4, 3) := by decide +kernel
theorem dX6_addToken_14 : decode cX6_addToken 14 = .ok (.return_, 1) := by decide +kernel
theorem dX6_addToken_15 : decode cX6_addToken 15 = .ok (.aload_n 0, 1) := by decide +kernel
theorem dX6_addToken_16 : decode cX6_addToken 16 = .ok (.getfield 15, 3) := by decide +kernel
theorem dX6_addToken_19 : decode cX6_addToken 19 = .ok (.aload_n 0, 1) := by decide +kernel
theorem dX6_addToken_20 : decode cX6_addToken 20 = .ok (.getfield 21, 3) := by decide +kernel
theorem dX6_addToken_23 : decode cX6_addToken 23 = .ok (.iload_n 3, 1) := by decide +kernel
theorem dX6_addToken_24 : decode cX6_addToken 24 = .ok (.iastore, 1) := by decide +kernel
theorem dX6_addToken_25 : decode cX6_addToken 25 = .ok (.aload_n 0, 1) := by decide +kernel
theorem dX6_addToken_26 : decode cX6_addToken 26 = .ok (.getfield 18, 3) := by decide +kernel
theorem dX6_addToken_29 : decode cX6_addToken 29 = .ok (.aload_n 0, 1) := by decide +kernel
theorem dX6_addToken_30 : decode cX6_addToken 30 = .ok (.getfield 21, 3) := by decide +kernel
theorem dX6_addToken_33 : decode cX6_addToken 33 = .ok (.iconst 0, 1) := by decide +kernel
theorem dX6_addToken_34 : decode cX6_addToken 34 = .ok (.iastore, 1) := by decide +kernel
theorem dX6_addToken_35 : decode cX6_addToken 35 = .ok (.iload_n 2, 1) := by decide +kernel
theorem dX6_addToken_36 : decode cX6_addToken 36 = .ok (.iconst 1, 1) := by decide +kernel
theorem dX6_addToken_37 : decode cX6_addToken 37 = .ok (.if_icmp .ne 38, 3) := by decide +kernel
theorem dX6_addToken_40 : decode cX6_addToken 40 = .ok (.aload_n 0, 1) := by decide +kernel
theorem dX6_addToken_41 : decode cX6_addToken 41 = .ok (.getfield 11, 3) := by decide +kernel
theorem dX6_addToken_44 : decode cX6_addToken 44 = .ok (.aload_n 0, 1) := by decide +kernel
theorem dX6_addToken_45 : decode cX6_addToken 45 = .ok (.getfield 21, 3) := by decide +kernel
theorem dX6_addToken_48 : decode cX6_addToken 48 = .ok (.iload 4, 2) := by decide +kernel
theorem dX6_addToken_50 : decode cX6_addToken 50 = .ok (.iload_n 3, 1) := by decide +kernel
theorem dX6_addToken_51 : decode cX6_addToken 51 = .ok (.isub, 1) := by decide +kernel
theorem dX6_addToken_52 : decode cX6_addToken 52 = .ok (.bipush 8, 2) := by decide +kernel
theorem dX6_addToken_54 : decode cX6_addToken 54 = .ok (.if_icmp .le 7, 3) := by decide +kernel
theorem dX6_addToken_57 : decode cX6_addToken 57 = .ok (.iconst 1, 1) := by decide +kernel
theorem dX6_addToken_58 : decode cX6_addToken 58 = .ok (.goto 13, 3) := by decide +kernel
theorem dX6_addToken_61 : decode cX6_addToken 61 = .ok (.aload_n 1, 1) := by decide +kernel
theorem dX6_addToken_62 : decode cX6_addToken 62 = .ok (.getfield 26, 3) := by decide +kernel
theorem dX6_addToken_65 : decode cX6_addToken 65 = .ok (.iload_n 3, 1) := by decide +kernel
theorem dX6_addToken_66 : decode cX6_addToken 66 = .ok (.iload 4, 2) := by decide +kernel
theorem dX6_addToken_68 : decode cX6_addToken 68 = .ok (.invokestatic 38, 3) := by decide +kernel
theorem dX6_addToken_71 : decode cX6_addToken 71 = .ok (.iastore, 1) := by decide +kernel
theorem dX6_addToken_72 : decode cX6_addToken 72 = .ok (.goto 82, 3) := by decide +kernel
theorem dX6_addToken_75 : decode cX6_addToken 75 = .ok (.iload_n 2, 1) := by decide +kernel
theorem dX6_addToken_76 : decode cX6_addToken 76 = .ok (.iconst 2, 1) := by decide +kernel
theorem dX6_addToken_77 : decode cX6_addToken 77 = .ok (.if_icmp .ne 59, 3) := by decide +kernel
theorem dX6_addToken_80 : decode cX6_addToken 80 = .ok (.aload_n 0, 1) := by decide +kernel
theorem dX6_addToken_81 : decode cX6_addToken 81 = .ok (.getfield 11, 3) := by decide +kernel
theorem dX6_addToken_84 : decode cX6_addToken 84 = .ok (.aload_n 0, 1) := by decide +kernel
theorem dX6_addToken_85 : decode cX6_addToken 85 = .ok (.getfield 21, 3) := by decide +kernel
theorem dX6_addToken_88 : decode cX6_addToken 88 = .ok (.iload 4, 2) := by decide +kernel
theorem dX6_addToken_90 : decode cX6_addToken 90 = .ok (.iload_n 3, 1) := by decide +kernel
theorem dX6_addToken_91 : decode cX6_addToken 91 = .ok (.isub, 1) := by decide +kernel
theorem dX6_addToken_92 : decode cX6_addToken 92 = .ok (.iconst 4, 1) := by decide +kernel
theorem dX6_addToken_93 : decode cX6_addToken 93 = .ok (.if_icmp .le 7, 3) := by decide +kernel
theorem dX6_addToken_96 : decode cX6_addToken 96 = .ok (.iconst 1, 1) := by decide +kernel
theorem dX6_addToken_97 : decode cX6_addToken 97 = .ok (.goto 4, 3) := by decide +kernel
theorem dX6_addToken_100 : decode cX6_addToken 100 = .ok (.iconst 2, 1) := by decide +kernel
theorem dX6_addToken_101 : decode cX6_addToken 101 = .ok (.iastore, 1) := by decide +kernel
theorem dX6_addToken_102 : decode cX6_addToken 102 = .ok (.aload_n 0, 1) := by decide +kernel
theorem dX6_addToken_103 : decode cX6_addToken 103 = .ok (.getfield 18, 3) := by decide +kernel
theorem dX6_addToken_106 : decode cX6_addToken 106 = .ok (.aload_n 0, 1) := by decide +kernel
theorem dX6_addToken_107 : decode cX6_addToken 107 = .ok (.getfield 21, 3) := by decide +kernel
theorem dX6_addToken_110 : decode cX6_addToken 110 = .ok (.iload 4, 2) := by decide +kernel
theorem dX6_addToken_112 : decode cX6_addToken 112 = .ok (.iload_n 3, 1) := by decide +kernel
theorem dX6_addToken_113 : decode cX6_addToken 113 = .ok (.isub, 1) := by decide +kernel
theorem dX6_addToken_114 : decode cX6_addToken 114 = .ok (.iconst 4, 1) := by decide +kernel
theorem dX6_addToken_115 : decode cX6_addToken 115 = .ok (.if_icmp .le 7, 3) := by decide +kernel
theorem dX6_addToken_118 : decode cX6_addToken 118 = .ok (.iconst 0, 1) := by decide +kernel
theorem dX6_addToken_119 : decode cX6_addToken 119 = .ok (.goto 13, 3) := by decide +kernel
theorem dX6_addToken_122 : decode cX6_addToken 122 = .ok (.aload_n 1, 1) := by decide +kernel
theorem dX6_addToken_123 : decode cX6_addToken 123 = .ok (.getfield 26, 3) := by decide +kernel
theorem dX6_addToken_126 : decode cX6_addToken 126 = .ok (.iload_n 3, 1) := by decide +kernel
theorem dX6_addToken_127 : decode cX6_addToken 127 = .ok (.iload 4, 2) := by decide +kernel
theorem dX6_addToken_129 : decode cX6_addToken 129 = .ok (.invokestatic 42, 3) := by decide +kernel
theorem dX6_addToken_132 : decode cX6_addToken 132 = .ok (.iastore, 1) := by decide +kernel
theorem dX6_addToken_133 : decode cX6_addToken 133 = .ok (.goto 21, 3) := by decide +kernel
theorem dX6_addToken_136 : decode cX6_addToken 136 = .ok (.aload_n 0, 1) := by decide +kernel
theorem dX6_addToken_137 : decode cX6_addToken 137 = .ok (.getfield 11, 3) := by decide +kernel
theorem dX6_addToken_140 : decode cX6_addToken 140 = .ok (.aload_n 0, 1) := by decide +kernel
theorem dX6_addToken_141 : decode cX6_addToken 141 = .ok (.getfield 21, 3) := by decide +kernel
theorem dX6_addToken_144 : decode cX6_addToken 144 = .ok (.aload_n 1, 1) := by decide +kernel
theorem dX6_addToken_145 : decode cX6_addToken 145 = .ok (.getfield 26, 3) := by decide +kernel
theorem dX6_addToken_148 : decode cX6_addToken 148 = .ok (.iload_n 3, 1) := by decide +kernel
theorem dX6_addToken_149 : decode cX6_addToken 149 = .ok (.caload, 1) := by decide +kernel
theorem dX6_addToken_150 : decode cX6_addToken 150 = .ok (.invokestatic 45, 3) := by decide +kernel
theorem dX6_addToken_153 : decode cX6_addToken 153 = .ok (.iastore, 1) := by decide +kernel
theorem dX6_addToken_154 : decode cX6_addToken 154 = .ok (.aload_n 0, 1) := by decide +kernel
theorem dX6_addToken_155 : decode cX6_addToken 155 = .ok (.dup, 1) := by decide +kernel
theorem dX6_addToken_156 : decode cX6_addToken 156 = .ok (.getfield 21, 3) := by decide +kernel
theorem dX6_addToken_159 : decode cX6_addToken 159 = .ok (.iconst 1, 1) := by decide +kernel
theorem dX6_addToken_160 : decode cX6_addToken 160 = .ok (.iadd, 1) := by decide +kernel
theorem dX6_addToken_161 : decode cX6_addToken 161 = .ok (.putfield 21, 3) := by decide +kernel
theorem dX6_addToken_164 : decode cX6_addToken 164 = .ok (.return_, 1) := by decide +kernel
theorem dX6_markKind_0 : decode cX6_markKind 0 = .ok (.iload_n 0, 1) := by decide +kernel
theorem dX6_markKind_1 : decode cX6_markKind 1 = .ok (.tableswitch 105 40 61 #[103, 103, 105, 103, 105, 103, 105, 105, 105, 105, 105, 105, 105, 105, 105, 105, 105, 105, 105, 103, 103, 103], 103) := by decide +kernel
theorem dX6_markKind_104 : decode cX6_markKind 104 = .ok (.iload_n 0, 1) := by decide +kernel
theorem dX6_markKind_105 : decode cX6_markKind 105 = .ok (.ireturn, 1) := by decide +kernel
theorem dX6_markKind_106 : decode cX6_markKind 106 = .ok (.iconst 1, 1) := by decide +kernel
theorem dX6_markKind_107 : decode cX6_markKind 107 = .ok (.ireturn, 1) := by decide +kernel
theorem dX6_numberValue_0 : decode cX6_numberValue 0 = .ok (.iconst 0, 1) := by decide +kernel
theorem dX6_numberValue_1 : decode cX6_numberValue 1 = .ok (.istore_n 3, 1) := by decide +kernel
theorem dX6_numberValue_2 : decode cX6_numberValue 2 = .ok (.iload_n 1, 1) := by decide +kernel
theorem dX6_numberValue_3 : decode cX6_numberValue 3 = .ok (.istore 4, 2) := by decide +kernel
theorem dX6_numberValue_5 : decode cX6_numberValue 5 = .ok (.iload 4, 2) := by decide +kernel
theorem dX6_numberValue_7 : decode cX6_numberValue 7 = .ok (.iload_n 2, 1) := by decide +kernel
theorem dX6_numberValue_8 : decode cX6_numberValue 8 = .ok (.if_icmp .ge 29, 3) := by decide +kernel
theorem dX6_numberValue_11 : decode cX6_numberValue 11 = .ok (.iload 4, 2) := by decide +kernel
theorem dX6_numberValue_13 : decode cX6_numberValue 13 = .ok (.aload_n 0, 1) := by decide +kernel
theorem dX6_numberValue_14 : decode cX6_numberValue 14 = .ok (.arraylength, 1) := by decide +kernel
theorem dX6_numberValue_15 : decode cX6_numberValue 15 = .ok (.if_icmp .ge 22, 3) := by decide +kernel
theorem dX6_numberValue_18 : decode cX6_numberValue 18 = .ok (.iload_n 3, 1) := by decide +kernel
theorem dX6_numberValue_19 : decode cX6_numberValue 19 = .ok (.bipush 10, 2) := by decide +kernel
theorem dX6_numberValue_21 : decode cX6_numberValue 21 = .ok (.imul, 1) := by decide +kernel
theorem dX6_numberValue_22 : decode cX6_numberValue 22 = .ok (.aload_n 0, 1) := by decide +kernel
theorem dX6_numberValue_23 : decode cX6_numberValue 23 = .ok (.iload 4, 2) := by decide +kernel
theorem dX6_numberValue_25 : decode cX6_numberValue 25 = .ok (.caload, 1) := by decide +kernel
theorem dX6_numberValue_26 : decode cX6_numberValue 26 = .ok (.bipush 48, 2) := by decide +kernel
theorem dX6_numberValue_28 : decode cX6_numberValue 28 = .ok (.isub, 1) := by decide +kernel
theorem dX6_numberValue_29 : decode cX6_numberValue 29 = .ok (.iadd, 1) := by decide +kernel
theorem dX6_numberValue_30 : decode cX6_numberValue 30 = .ok (.istore_n 3, 1) := by decide +kernel
theorem dX6_numberValue_31 : decode cX6_numberValue 31 = .ok (.iinc 4 1, 3) := by decide +kernel
theorem dX6_numberValue_34 : decode cX6_numberValue 34 = .ok (.goto (-29), 3) := by decide +kernel
theorem dX6_numberValue_37 : decode cX6_numberValue 37 = .ok (.iload_n 3, 1) := by decide +kernel
theorem dX6_numberValue_38 : decode cX6_numberValue 38 = .ok (.ireturn, 1) := by decide +kernel
theorem dX6_wordKind_0 : decode cX6_wordKind 0 = .ok (.iload_n 2, 1) := by decide +kernel
theorem dX6_wordKind_1 : decode cX6_wordKind 1 = .ok (.iload_n 1, 1) := by decide +kernel
theorem dX6_wordKind_2 : decode cX6_wordKind 2 = .ok (.isub, 1) := by decide +kernel
theorem dX6_wordKind_3 : decode cX6_wordKind 3 = .ok (.tableswitch 75 3 6 #[29, 35, 41, 58], 29) := by decide +kernel
theorem dX6_wordKind_32 : decode cX6_wordKind 32 = .ok (.aload_n 0, 1) := by decide +kernel
theorem dX6_wordKind_33 : decode cX6_wordKind 33 = .ok (.iload_n 1, 1) := by decide +kernel
theorem dX6_wordKind_34 : decode cX6_wordKind 34 = .ok (.invokestatic 49, 3) := by decide +kernel
theorem dX6_wordKind_37 : decode cX6_wordKind 37 = .ok (.ireturn, 1) := by decide +kernel
theorem dX6_wordKind_38 : decode cX6_wordKind 38 = .ok (.aload_n 0, 1) := by decide +kernel
theorem dX6_wordKind_39 : decode cX6_wordKind 39 = .ok (.iload_n 1, 1) := by decide +kernel
theorem dX6_wordKind_40 : decode cX6_wordKind 40 = .ok (.invokestatic 53, 3) := by decide +kernel
theorem dX6_wordKind_43 : decode cX6_wordKind 43 = .ok (.ireturn, 1) := by decide +kernel
theorem dX6_wordKind_44 : decode cX6_wordKind 44 = .ok (.aload_n 0, 1) := by decide +kernel
theorem dX6_wordKind_45 : decode cX6_wordKind 45 = .ok (.iload_n 1, 1) := by decide +kernel
theorem dX6_wordKind_46 : decode cX6_wordKind 46 = .ok (.ldc 56, 2) := by decide +kernel
theorem dX6_wordKind_48 : decode cX6_wordKind 48 = .ok (.invokestatic 58, 3) := by decide +kernel
theorem dX6_wordKind_51 : decode cX6_wordKind 51 = .ok (.ifCond .eq 8, 3) := by decide +kernel
theorem dX6_wordKind_54 : decode cX6_wordKind 54 = .ok (.bipush 9, 2) := by decide +kernel
theorem dX6_wordKind_56 : decode cX6_wordKind 56 = .ok (.goto 4, 3) := by decide +kernel
theorem dX6_wordKind_59 : decode cX6_wordKind 59 = .ok (.iconst 1, 1) := by decide +kernel
theorem dX6_wordKind_60 : decode cX6_wordKind 60 = .ok (.ireturn, 1) := by decide +kernel
theorem dX6_wordKind_61 : decode cX6_wordKind 61 = .ok (.aload_n 0, 1) := by decide +kernel
theorem dX6_wordKind_62 : decode cX6_wordKind 62 = .ok (.iload_n 1, 1) := by decide +kernel
theorem dX6_wordKind_63 : decode cX6_wordKind 63 = .ok (.ldc 62, 2) := by decide +kernel
theorem dX6_wordKind_65 : decode cX6_wordKind 65 = .ok (.invokestatic 58, 3) := by decide +kernel
theorem dX6_wordKind_68 : decode cX6_wordKind 68 = .ok (.ifCond .eq 8, 3) := by decide +kernel
theorem dX6_wordKind_71 : decode cX6_wordKind 71 = .ok (.bipush 11, 2) := by decide +kernel
theorem dX6_wordKind_73 : decode cX6_wordKind 73 = .ok (.goto 4, 3) := by decide +kernel
theorem dX6_wordKind_76 : decode cX6_wordKind 76 = .ok (.iconst 1, 1) := by decide +kernel
theorem dX6_wordKind_77 : decode cX6_wordKind 77 = .ok (.ireturn, 1) := by decide +kernel
theorem dX6_wordKind_78 : decode cX6_wordKind 78 = .ok (.iconst 1, 1) := by decide +kernel
theorem dX6_wordKind_79 : decode cX6_wordKind 79 = .ok (.ireturn, 1) := by decide +kernel
theorem dX6_shortWordKind_0 : decode cX6_shortWordKind 0 = .ok (.aload_n 0, 1) := by decide +kernel
theorem dX6_shortWordKind_1 : decode cX6_shortWordKind 1 = .ok (.iload_n 1, 1) := by decide +kernel
theorem dX6_shortWordKind_2 : decode cX6_shortWordKind 2 = .ok (.ldc 64, 2) := by decide +kernel
theorem dX6_shortWordKind_4 : decode cX6_shortWordKind 4 = .ok (.invokestatic 58, 3) := by decide +kernel
theorem dX6_shortWordKind_7 : decode cX6_shortWordKind 7 = .ok (.ifCond .eq 5, 3) := by decide +kernel
theorem dX6_shortWordKind_10 : decode cX6_shortWordKind 10 = .ok (.iconst 4, 1) := by decide +kernel
theorem dX6_shortWordKind_11 : decode cX6_shortWordKind 11 = .ok (.ireturn, 1) := by decide +kernel
theorem dX6_shortWordKind_12 : decode cX6_shortWordKind 12 = .ok (.aload_n 0, 1) := by decide +kernel
theorem dX6_shortWordKind_13 : decode cX6_shortWordKind 13 = .ok (.iload_n 1, 1) := by decide +kernel
theorem dX6_shortWordKind_14 : decode cX6_shortWordKind 14 = .ok (.ldc 66, 2) := by decide +kernel
theorem dX6_shortWordKind_16 : decode cX6_shortWordKind 16 = .ok (.invokestatic 58, 3) := by decide +kernel
theorem dX6_shortWordKind_19 : decode cX6_shortWordKind 19 = .ok (.ifCond .eq 6, 3) := by decide +kernel
theorem dX6_shortWordKind_22 : decode cX6_shortWordKind 22 = .ok (.bipush 6, 2) := by decide +kernel
theorem dX6_shortWordKind_24 : decode cX6_shortWordKind 24 = .ok (.ireturn, 1) := by decide +kernel
theorem dX6_shortWordKind_25 : decode cX6_shortWordKind 25 = .ok (.aload_n 0, 1) := by decide +kernel
theorem dX6_shortWordKind_26 : decode cX6_shortWordKind 26 = .ok (.iload_n 1, 1) := by decide +kernel
theorem dX6_shortWordKind_27 : decode cX6_shortWordKind 27 = .ok (.ldc 68, 2) := by decide +kernel
theorem dX6_shortWordKind_29 : decode cX6_shortWordKind 29 = .ok (.invokestatic 58, 3) := by decide +kernel
theorem dX6_shortWordKind_32 : decode cX6_shortWordKind 32 = .ok (.ifCond .eq 6, 3) := by decide +kernel
theorem dX6_shortWordKind_35 : decode cX6_shortWordKind 35 = .ok (.bipush 7, 2) := by decide +kernel
theorem dX6_shortWordKind_37 : decode cX6_shortWordKind 37 = .ok (.ireturn, 1) := by decide +kernel
theorem dX6_shortWordKind_38 : decode cX6_shortWordKind 38 = .ok (.aload_n 0, 1) := by decide +kernel
theorem dX6_shortWordKind_39 : decode cX6_shortWordKind 39 = .ok (.iload_n 1, 1) := by decide +kernel
theorem dX6_shortWordKind_40 : decode cX6_shortWordKind 40 = .ok (.ldc 70, 2) := by decide +kernel
theorem dX6_shortWordKind_42 : decode cX6_shortWordKind 42 = .ok (.invokestatic 58, 3) := by decide +kernel
theorem dX6_shortWordKind_45 : decode cX6_shortWordKind 45 = .ok (.ifCond .eq 6, 3) := by decide +kernel
theorem dX6_shortWordKind_48 : decode cX6_shortWordKind 48 = .ok (.bipush 12, 2) := by decide +kernel
theorem dX6_shortWordKind_50 : decode cX6_shortWordKind 50 = .ok (.ireturn, 1) := by decide +kernel
theorem dX6_shortWordKind_51 : decode cX6_shortWordKind 51 = .ok (.aload_n 0, 1) := by decide +kernel
theorem dX6_shortWordKind_52 : decode cX6_shortWordKind 52 = .ok (.iload_n 1, 1) := by decide +kernel
theorem dX6_shortWordKind_53 : decode cX6_shortWordKind 53 = .ok (.ldc 72, 2) := by decide +kernel
theorem dX6_shortWordKind_55 : decode cX6_shortWordKind 55 = .ok (.invokestatic 58, 3) := by decide +kernel
theorem dX6_shortWordKind_58 : decode cX6_shortWordKind 58 = .ok (.ifCond .eq 8, 3) := by decide +kernel
theorem dX6_shortWordKind_61 : decode cX6_shortWordKind 61 = .ok (.bipush 14, 2) := by decide +kernel
theorem dX6_shortWordKind_63 : decode cX6_shortWordKind 63 = .ok (.goto 4, 3) := by decide +kernel
theorem dX6_shortWordKind_66 : decode cX6_shortWordKind 66 = .ok (.iconst 1, 1) := by decide +kernel
theorem dX6_shortWordKind_67 : decode cX6_shortWordKind 67 = .ok (.ireturn, 1) := by decide +kernel
theorem dX6_fourLetterKind_0 : decode cX6_fourLetterKind 0 = .ok (.aload_n 0, 1) := by decide +kernel
theorem dX6_fourLetterKind_1 : decode cX6_fourLetterKind 1 = .ok (.iload_n 1, 1) := by decide +kernel
theorem dX6_fourLetterKind_2 : decode cX6_fourLetterKind 2 = .ok (.ldc 74, 2) := by decide +kernel
theorem dX6_fourLetterKind_4 : decode cX6_fourLetterKind 4 = .ok (.invokestatic 58, 3) := by decide +kernel
theorem dX6_fourLetterKind_7 : decode cX6_fourLetterKind 7 = .ok (.ifCond .eq 5, 3) := by decide +kernel
theorem dX6_fourLetterKind_10 : decode cX6_fourLetterKind 10 = .ok (.iconst 3, 1) := by decide +kernel
theorem dX6_fourLetterKind_11 : decode cX6_fourLetterKind 11 = .ok (.ireturn, 1) := by decide +kernel
theorem dX6_fourLetterKind_12 : decode cX6_fourLetterKind 12 = .ok (.aload_n 0, 1) := by decide +kernel
theorem dX6_fourLetterKind_13 : decode cX6_fourLetterKind 13 = .ok (.iload_n 1, 1) := by decide +kernel
theorem dX6_fourLetterKind_14 : decode cX6_fourLetterKind 14 = .ok (.ldc 76, 2) := by decide +kernel
theorem dX6_fourLetterKind_16 : decode cX6_fourLetterKind 16 = .ok (.invokestatic 58, 3) := by decide +kernel
theorem dX6_fourLetterKind_19 : decode cX6_fourLetterKind 19 = .ok (.ifCond .eq 5, 3) := by decide +kernel
theorem dX6_fourLetterKind_22 : decode cX6_fourLetterKind 22 = .ok (.iconst 5, 1) := by decide +kernel
theorem dX6_fourLetterKind_23 : decode cX6_fourLetterKind 23 = .ok (.ireturn, 1) := by decide +kernel
theorem dX6_fourLetterKind_24 : decode cX6_fourLetterKind 24 = .ok (.aload_n 0, 1) := by decide +kernel
theorem dX6_fourLetterKind_25 : decode cX6_fourLetterKind 25 = .ok (.iload_n 1, 1) := by decide +kernel
theorem dX6_fourLetterKind_26 : decode cX6_fourLetterKind 26 = .ok (.ldc 78, 2) := by decide +kernel
theorem dX6_fourLetterKind_28 : decode cX6_fourLetterKind 28 = .ok (.invokestatic 58, 3) := by decide +kernel
theorem dX6_fourLetterKind_31 : decode cX6_fourLetterKind 31 = .ok (.ifCond .eq 6, 3) := by decide +kernel
theorem dX6_fourLetterKind_34 : decode cX6_fourLetterKind 34 = .ok (.bipush 8, 2) := by decide +kernel
theorem dX6_fourLetterKind_36 : decode cX6_fourLetterKind 36 = .ok (.ireturn, 1) := by decide +kernel
theorem dX6_fourLetterKind_37 : decode cX6_fourLetterKind 37 = .ok (.aload_n 0, 1) := by decide +kernel
theorem dX6_fourLetterKind_38 : decode cX6_fourLetterKind 38 = .ok (.iload_n 1, 1) := by decide +kernel
theorem dX6_fourLetterKind_39 : decode cX6_fourLetterKind 39 = .ok (.ldc 80, 2) := by decide +kernel
theorem dX6_fourLetterKind_41 : decode cX6_fourLetterKind 41 = .ok (.invokestatic 58, 3) := by decide +kernel
theorem dX6_fourLetterKind_44 : decode cX6_fourLetterKind 44 = .ok (.ifCond .eq 6, 3) := by decide +kernel
theorem dX6_fourLetterKind_47 : decode cX6_fourLetterKind 47 = .ok (.bipush 10, 2) := by decide +kernel
theorem dX6_fourLetterKind_49 : decode cX6_fourLetterKind 49 = .ok (.ireturn, 1) := by decide +kernel
theorem dX6_fourLetterKind_50 : decode cX6_fourLetterKind 50 = .ok (.aload_n 0, 1) := by decide +kernel
theorem dX6_fourLetterKind_51 : decode cX6_fourLetterKind 51 = .ok (.iload_n 1, 1) := by decide +kernel
theorem dX6_fourLetterKind_52 : decode cX6_fourLetterKind 52 = .ok (.ldc 82, 2) := by decide +kernel
theorem dX6_fourLetterKind_54 : decode cX6_fourLetterKind 54 = .ok (.invokestatic 58, 3) := by decide +kernel
theorem dX6_fourLetterKind_57 : decode cX6_fourLetterKind 57 = .ok (.ifCond .eq 8, 3) := by decide +kernel
theorem dX6_fourLetterKind_60 : decode cX6_fourLetterKind 60 = .ok (.bipush 13, 2) := by decide +kernel
theorem dX6_fourLetterKind_62 : decode cX6_fourLetterKind 62 = .ok (.goto 4, 3) := by decide +kernel
theorem dX6_fourLetterKind_65 : decode cX6_fourLetterKind 65 = .ok (.iconst 1, 1) := by decide +kernel
theorem dX6_fourLetterKind_66 : decode cX6_fourLetterKind 66 = .ok (.ireturn, 1) := by decide +kernel
theorem dX6_spells_0 : decode cX6_spells 0 = .ok (.iconst 0, 1) := by decide +kernel
theorem dX6_spells_1 : decode cX6_spells 1 = .ok (.istore_n 3, 1) := by decide +kernel
theorem dX6_spells_2 : decode cX6_spells 2 = .ok (.iload_n 3, 1) := by decide +kernel
theorem dX6_spells_3 : decode cX6_spells 3 = .ok (.aload_n 2, 1) := by decide +kernel
theorem dX6_spells_4 : decode cX6_spells 4 = .ok (.invokevirtual 84, 3) := by decide +kernel
theorem dX6_spells_7 : decode cX6_spells 7 = .ok (.if_icmp .ge 32, 3) := by decide +kernel
theorem dX6_spells_10 : decode cX6_spells 10 = .ok (.iload_n 1, 1) := by decide +kernel
theorem dX6_spells_11 : decode cX6_spells 11 = .ok (.iload_n 3, 1) := by decide +kernel
theorem dX6_spells_12 : decode cX6_spells 12 = .ok (.iadd, 1) := by decide +kernel
theorem dX6_spells_13 : decode cX6_spells 13 = .ok (.aload_n 0, 1) := by decide +kernel
theorem dX6_spells_14 : decode cX6_spells 14 = .ok (.arraylength, 1) := by decide +kernel
theorem dX6_spells_15 : decode cX6_spells 15 = .ok (.if_icmp .ge 16, 3) := by decide +kernel
theorem dX6_spells_18 : decode cX6_spells 18 = .ok (.aload_n 0, 1) := by decide +kernel
theorem dX6_spells_19 : decode cX6_spells 19 = .ok (.iload_n 1, 1) := by decide +kernel
theorem dX6_spells_20 : decode cX6_spells 20 = .ok (.iload_n 3, 1) := by decide +kernel
theorem dX6_spells_21 : decode cX6_spells 21 = .ok (.iadd, 1) := by decide +kernel
theorem dX6_spells_22 : decode cX6_spells 22 = .ok (.caload, 1) := by decide +kernel
theorem dX6_spells_23 : decode cX6_spells 23 = .ok (.aload_n 2, 1) := by decide +kernel
theorem dX6_spells_24 : decode cX6_spells 24 = .ok (.iload_n 3, 1) := by decide +kernel
theorem dX6_spells_25 : decode cX6_spells 25 = .ok (.invokevirtual 90, 3) := by decide +kernel
theorem dX6_spells_28 : decode cX6_spells 28 = .ok (.if_icmp .eq 5, 3) := by decide +kernel
theorem dX6_spells_31 : decode cX6_spells 31 = .ok (.iconst 0, 1) := by decide +kernel
theorem dX6_spells_32 : decode cX6_spells 32 = .ok (.ireturn, 1) := by decide +kernel
theorem dX6_spells_33 : decode cX6_spells 33 = .ok (.iinc 3 1, 3) := by decide +kernel
theorem dX6_spells_36 : decode cX6_spells 36 = .ok (.goto (-34), 3) := by decide +kernel
theorem dX6_spells_39 : decode cX6_spells 39 = .ok (.iconst 1, 1) := by decide +kernel
theorem dX6_spells_40 : decode cX6_spells 40 = .ok (.ireturn, 1) := by decide +kernel
theorem dX7_init_0 : decode cX7_init 0 = .ok (.aload_n 0, 1) := by decide +kernel
theorem dX7_init_1 : decode cX7_init 1 = .ok (.invokespecial 3, 3) := by decide +kernel
theorem dX7_init_4 : decode cX7_init 4 = .ok (.aload_n 0, 1) := by decide +kernel
theorem dX7_init_5 : decode cX7_init 5 = .ok (.bipush 24, 2) := by decide +kernel
theorem dX7_init_7 : decode cX7_init 7 = .ok (.newarray .int, 2) := by decide +kernel
theorem dX7_init_9 : decode cX7_init 9 = .ok (.putfield 9, 3) := by decide +kernel
theorem dX7_init_12 : decode cX7_init 12 = .ok (.aload_n 0, 1) := by decide +kernel
theorem dX7_init_13 : decode cX7_init 13 = .ok (.iload_n 1, 1) := by decide +kernel
theorem dX7_init_14 : decode cX7_init 14 = .ok (.putfield 13, 3) := by decide +kernel
theorem dX7_init_17 : decode cX7_init 17 = .ok (.iconst 0, 1) := by decide +kernel
theorem dX7_init_18 : decode cX7_init 18 = .ok (.istore_n 2, 1) := by decide +kernel
theorem dX7_init_19 : decode cX7_init 19 = .ok (.iload_n 2, 1) := by decide +kernel
theorem dX7_init_20 : decode cX7_init 20 = .ok (.bipush 24, 2) := by decide +kernel
theorem dX7_init_22 : decode cX7_init 22 = .ok (.if_icmp .ge 18, 3) := by decide +kernel
theorem dX7_init_25 : decode cX7_init 25 = .ok (.aload_n 0, 1) := by decide +kernel
theorem dX7_init_26 : decode cX7_init 26 = .ok (.getfield 9, 3) := by decide +kernel
theorem dX7_init_29 : decode cX7_init 29 = .ok (.iload_n 2, 1) := by decide +kernel
theorem dX7_init_30 : decode cX7_init 30 = .ok (.sipush 800, 3) := by decide +kernel
theorem dX7_init_33 : decode cX7_init 33 = .ok (.iastore, 1) := by decide +kernel
theorem dX7_init_34 : decode cX7_init 34 = .ok (.iinc 2 1, 3) := by decide +kernel
theorem dX7_init_37 : decode cX7_init 37 = .ok (.goto (-18), 3) := by decide +kernel
theorem dX7_init_40 : decode cX7_init 40 = .ok (.return_, 1) := by decide +kernel
theorem dX7_wear_0 : decode cX7_wear 0 = .ok (.iconst 0, 1) := by decide +kernel
theorem dX7_wear_1 : decode cX7_wear 1 = .ok (.istore_n 3, 1) := by decide +kernel
theorem dX7_wear_2 : decode cX7_wear 2 = .ok (.iload_n 3, 1) := by decide +kernel
theorem dX7_wear_3 : decode cX7_wear 3 = .ok (.bipush 24, 2) := by decide +kernel
theorem dX7_wear_5 : decode cX7_wear 5 = .ok (.if_icmp .ge 84, 3) := by decide +kernel
theorem dX7_wear_8 : decode cX7_wear 8 = .ok (.aload_n 0, 1) := by decide +kernel
theorem dX7_wear_9 : decode cX7_wear 9 = .ok (.getfield 13, 3) := by decide +kernel
theorem dX7_wear_12 : decode cX7_wear 12 = .ok (.ifCond .ne 11, 3) := by decide +kernel
theorem dX7_wear_15 : decode cX7_wear 15 = .ok (.getstatic 17, 3) := by decide +kernel
theorem dX7_wear_18 : decode cX7_wear 18 = .ok (.iload_n 3, 1) := by decide +kernel
theorem dX7_wear_19 : decode cX7_wear 19 = .ok (.iaload, 1) := by decide +kernel
theorem dX7_wear_20 : decode cX7_wear 20 = .ok (.goto 8, 3) := by decide +kernel
theorem dX7_wear_23 : decode cX7_wear 23 = .ok (.getstatic 20, 3) := by decide +kernel
theorem dX7_wear_26 : decode cX7_wear 26 = .ok (.iload_n 3, 1) := by decide +kernel
theorem dX7_wear_27 : decode cX7_wear 27 = .ok (.iaload, 1) := by decide +kernel
theorem dX7_wear_28 : decode cX7_wear 28 = .ok (.istore 4, 2) := by decide +kernel
theorem dX7_wear_30 : decode cX7_wear 30 = .ok (.iconst 4, 1) := by decide +kernel
theorem dX7_wear_31 : decode cX7_wear 31 = .ok (.iconst 2, 1) := by decide +kernel
theorem dX7_wear_32 : decode cX7_wear 32 = .ok (.iload_n 1, 1) := by decide +kernel
theorem dX7_wear_33 : decode cX7_wear 33 = .ok (.imul, 1) := by decide +kernel
theorem dX7_wear_34 : decode cX7_wear 34 = .ok (.iadd, 1) := by decide +kernel
theorem dX7_wear_35 : decode cX7_wear 35 = .ok (.iload 4, 2) := by decide +kernel
theorem dX7_wear_37 : decode cX7_wear 37 = .ok (.imul, 1) := by decide +kernel
theorem dX7_wear_38 : decode cX7_wear 38 = .ok (.bipush 10, 2) := by decide +kernel
theorem dX7_wear_40 : decode cX7_wear 40 = .ok (.iload_n 2, 1) := by decide +kernel
theorem dX7_wear_41 : decode cX7_wear 41 = .ok (.iadd, 1) := by decide +kernel
theorem dX7_wear_42 : decode cX7_wear 42 = .ok (.imul, 1) := by decide +kernel
theorem dX7_wear_43 : decode cX7_wear 43 = .ok (.bipush 10, 2) := by decide +kernel
theorem dX7_wear_45 : decode cX7_wear 45 = .ok (.idiv, 1) := by decide +kernel
theorem dX7_wear_46 : decode cX7_wear 46 = .ok (.istore 5, 2) := by decide +kernel
theorem dX7_wear_48 : decode cX7_wear 48 = .ok (.iload 5, 2) := by decide +kernel
theorem dX7_wear_50 : decode cX7_wear 50 = .ok (.aload_n 0, 1) := by decide +kernel
theorem dX7_wear_51 : decode cX7_wear 51 = .ok (.getfield 9, 3) := by decide +kernel
theorem dX7_wear_54 : decode cX7_wear 54 = .ok (.iload_n 3, 1) := by decide +kernel
theorem dX7_wear_55 : decode cX7_wear 55 = .ok (.iaload, 1) := by decide +kernel
theorem dX7_wear_56 : decode cX7_wear 56 = .ok (.invokestatic 23, 3) := by decide +kernel
theorem dX7_wear_59 : decode cX7_wear 59 = .ok (.istore 6, 2) := by decide +kernel
theorem dX7_wear_61 : decode cX7_wear 61 = .ok (.aload_n 0, 1) := by decide +kernel
theorem dX7_wear_62 : decode cX7_wear 62 = .ok (.getfield 9, 3) := by decide +kernel
theorem dX7_wear_65 : decode cX7_wear 65 = .ok (.iload_n 3, 1) := by decide +kernel
theorem dX7_wear_66 : decode cX7_wear 66 = .ok (.dup2, 1) := by decide +kernel
theorem dX7_wear_67 : decode cX7_wear 67 = .ok (.iaload, 1) := by decide +kernel
theorem dX7_wear_68 : decode cX7_wear 68 = .ok (.iload 6, 2) := by decide +kernel
theorem dX7_wear_70 : decode cX7_wear 70 = .ok (.isub, 1) := by decide +kernel
theorem dX7_wear_71 : decode cX7_wear 71 = .ok (.iastore, 1) := by decide +kernel
theorem dX7_wear_72 : decode cX7_wear 72 = .ok (.aload_n 0, 1) := by decide +kernel
theorem dX7_wear_73 : decode cX7_wear 73 = .ok (.dup, 1) := by decide +kernel
theorem dX7_wear_74 : decode cX7_wear 74 = .ok (.getfield 29, 3) := by decide +kernel
theorem dX7_wear_77 : decode cX7_wear 77 = .ok (.iload 6, 2) := by decide +kernel
theorem dX7_wear_79 : decode cX7_wear 79 = .ok (.iadd, 1) := by decide +kernel
theorem dX7_wear_80 : decode cX7_wear 80 = .ok (.putfield 29, 3) := by decide +kernel
theorem dX7_wear_83 : decode cX7_wear 83 = .ok (.iinc 3 1, 3) := by decide +kernel
theorem dX7_wear_86 : decode cX7_wear 86 = .ok (.goto (-84), 3) := by decide +kernel
theorem dX7_wear_89 : decode cX7_wear 89 = .ok (.return_, 1) := by decide +kernel
theorem dX7_grow_0 : decode cX7_grow 0 = .ok (.iload_n 2, 1) := by decide +kernel
theorem dX7_grow_1 : decode cX7_grow 1 = .ok (.bipush 9, 2) := by decide +kernel
theorem dX7_grow_3 : decode cX7_grow 3 = .ok (.if_icmp .lt 8, 3) := by decide +kernel
theorem dX7_grow_6 : decode cX7_grow 6 = .ok (.bipush 10, 2) := by decide +kernel
theorem dX7_grow_8 : decode cX7_grow 8 = .ok (.goto 4, 3) := by decide +kernel
theorem dX7_grow_11 : decode cX7_grow 11 = .ok (.iconst 0, 1) := by decide +kernel
theorem dX7_grow_12 : decode cX7_grow 12 = .ok (.istore_n 3, 1) := by decide +kernel
theorem dX7_grow_13 : decode cX7_grow 13 = .ok (.iload_n 1, 1) := by decide +kernel
theorem dX7_grow_14 : decode cX7_grow 14 = .ok (.bipush 10, 2) := by decide +kernel
theorem dX7_grow_16 : decode cX7_grow 16 = .ok (.iconst 2, 1) := by decide +kernel
theorem dX7_grow_17 : decode cX7_grow 17 = .ok (.iload_n 2, 1) := by decide +kernel
theorem dX7_grow_18 : decode cX7_grow 18 = .ok (.iconst 5, 1) := by decide +kernel
theorem dX7_grow_19 : decode cX7_grow 19 = .ok (.isub, 1) := by decide +kernel
theorem dX7_grow_20 : decode cX7_grow 20 = .ok (.invokestatic 32, 3) := by decide +kernel
theorem dX7_grow_23 : decode cX7_grow 23 = .ok (.imul, 1) := by decide +kernel
theorem dX7_grow_24 : decode cX7_grow 24 = .ok (.isub, 1) := by decide +kernel
theorem dX7_grow_25 : decode cX7_grow 25 = .ok (.imul, 1) := by decide +kernel
theorem dX7_grow_26 : decode cX7_grow 26 = .ok (.istore 4, 2) := by decide +kernel
theorem dX7_grow_28 : decode cX7_grow 28 = .ok (.iconst 0, 1) := by decide +kernel
theorem dX7_grow_29 : decode cX7_grow 29 = .ok (.istore 5, 2) := by decide +kernel
theorem dX7_grow_31 : decode cX7_grow 31 = .ok (.iload 5, 2) := by decide +kernel
theorem dX7_grow_33 : decode cX7_grow 33 = .ok (.bipush 24, 2) := by decide +kernel
theorem dX7_grow_35 : decode cX7_grow 35 = .ok (.if_icmp .ge 47, 3) := by decide +kernel
theorem dX7_grow_38 : decode cX7_grow 38 = .ok (.iconst 0, 1) := by decide +kernel
theorem dX7_grow_39 : decode cX7_grow 39 = .ok (.aload_n 0, 1) := by decide +kernel
theorem dX7_grow_40 : decode cX7_grow 40 = .ok (.getfield 9, 3) := by decide +kernel
theorem dX7_grow_43 : decode cX7_grow 43 = .ok (.iload 5, 2) := by decide +kernel
theorem dX7_grow_45 : decode cX7_grow 45 = .ok (.iaload, 1) := by decide +kernel
theorem dX7_grow_46 : decode cX7_grow 46 = .ok (.iload_n 3, 1) := by decide +kernel
theorem dX7_grow_47 : decode cX7_grow 47 = .ok (.isub, 1) := by decide +kernel
theorem dX7_grow_48 : decode cX7_grow 48 = .ok (.invokestatic 36, 3) := by decide +kernel
theorem dX7_grow_51 : decode cX7_grow 51 = .ok (.istore 6, 2) := by decide +kernel
theorem dX7_grow_53 : decode cX7_grow 53 = .ok (.aload_n 0, 1) := by decide +kernel
theorem dX7_grow_54 : decode cX7_grow 54 = .ok (.getfield 9, 3) := by decide +kernel
theorem dX7_grow_57 : decode cX7_grow 57 = .ok (.iload 5, 2) := by decide +kernel
theorem dX7_grow_59 : decode cX7_grow 59 = .ok (.iload 6, 2) := by decide +kernel
theorem dX7_grow_61 : decode cX7_grow 61 = .ok (.sipush 1000, 3) := by decide +kernel
theorem dX7_grow_64 : decode cX7_grow 64 = .ok (.iload 6, 2) := by decide +kernel
theorem dX7_grow_66 : decode cX7_grow 66 = .ok (.isub, 1) := by decide +kernel
theorem dX7_grow_67 : decode cX7_grow 67 = .ok (.iload 4, 2) := by decide +kernel
theorem dX7_grow_69 : decode cX7_grow 69 = .ok (.imul, 1) := by decide +kernel
theorem dX7_grow_70 : decode cX7_grow 70 = .ok (.sipush 2000, 3) := by decide +kernel
theorem dX7_grow_73 : decode cX7_grow 73 = .ok (.idiv, 1) := by decide +kernel
theorem dX7_grow_74 : decode cX7_grow 74 = .ok (.iadd, 1) := by decide +kernel
theorem dX7_grow_75 : decode cX7_grow 75 = .ok (.iastore, 1) := by decide +kernel
theorem dX7_grow_76 : decode cX7_grow 76 = .ok (.iinc 5 1, 3) := by decide +kernel
theorem dX7_grow_79 : decode cX7_grow 79 = .ok (.goto (-48), 3) := by decide +kernel
theorem dX7_grow_82 : decode cX7_grow 82 = .ok (.return_, 1) := by decide +kernel
theorem dX7_least_0 : decode cX7_least 0 = .ok (.sipush 1000, 3) := by decide +kernel
theorem dX7_least_3 : decode cX7_least 3 = .ok (.istore_n 1, 1) := by decide +kernel
theorem dX7_least_4 : decode cX7_least 4 = .ok (.iconst 0, 1) := by decide +kernel
theorem dX7_least_5 : decode cX7_least 5 = .ok (.istore_n 2, 1) := by decide +kernel
theorem dX7_least_6 : decode cX7_least 6 = .ok (.iload_n 2, 1) := by decide +kernel
theorem dX7_least_7 : decode cX7_least 7 = .ok (.bipush 24, 2) := by decide +kernel
theorem dX7_least_9 : decode cX7_least 9 = .ok (.if_icmp .ge 20, 3) := by decide +kernel
theorem dX7_least_12 : decode cX7_least 12 = .ok (.iload_n 1, 1) := by decide +kernel
theorem dX7_least_13 : decode cX7_least 13 = .ok (.aload_n 0, 1) := by decide +kernel
theorem dX7_least_14 : decode cX7_least 14 = .ok (.getfield 9, 3) := by decide +kernel
theorem dX7_least_17 : decode cX7_least 17 = .ok (.iload_n 2, 1) := by decide +kernel
theorem dX7_least_18 : decode cX7_least 18 = .ok (.iaload, 1) := by decide +kernel
theorem dX7_least_19 : decode cX7_least 19 = .ok (.invokestatic 23, 3) := by decide +kernel
theorem dX7_least_22 : decode cX7_least 22 = .ok (.istore_n 1, 1) := by decide +kernel
theorem dX7_least_23 : decode cX7_least 23 = .ok (.iinc 2 1, 3) := by decide +kernel
theorem dX7_least_26 : decode cX7_least 26 = .ok (.goto (-20), 3) := by decide +kernel
theorem dX7_least_29 : decode cX7_least 29 = .ok (.iload_n 1, 1) := by decide +kernel
theorem dX7_least_30 : decode cX7_least 30 = .ok (.ireturn, 1) := by decide +kernel
theorem dX7_mean_0 : decode cX7_mean 0 = .ok (.iconst 0, 1) := by decide +kernel
theorem dX7_mean_1 : decode cX7_mean 1 = .ok (.istore_n 1, 1) := by decide +kernel
theorem dX7_mean_2 : decode cX7_mean 2 = .ok (.iconst 0, 1) := by decide +kernel
theorem dX7_mean_3 : decode cX7_mean 3 = .ok (.istore_n 2, 1) := by decide +kernel
theorem dX7_mean_4 : decode cX7_mean 4 = .ok (.iload_n 2, 1) := by decide +kernel
theorem dX7_mean_5 : decode cX7_mean 5 = .ok (.bipush 24, 2) := by decide +kernel
theorem dX7_mean_7 : decode cX7_mean 7 = .ok (.if_icmp .ge 18, 3) := by decide +kernel
theorem dX7_mean_10 : decode cX7_mean 10 = .ok (.iload_n 1, 1) := by decide +kernel
theorem dX7_mean_11 : decode cX7_mean 11 = .ok (.aload_n 0, 1) := by decide +kernel
theorem dX7_mean_12 : decode cX7_mean 12 = .ok (.getfield 9, 3) := by decide +kernel
theorem dX7_mean_15 : decode cX7_mean 15 = .ok (.iload_n 2, 1) := by decide +kernel
theorem dX7_mean_16 : decode cX7_mean 16 = .ok (.iaload, 1) := by decide +kernel
theorem dX7_mean_17 : decode cX7_mean 17 = .ok (.iadd, 1) := by decide +kernel
theorem dX7_mean_18 : decode cX7_mean 18 = .ok (.istore_n 1, 1) := by decide +kernel
theorem dX7_mean_19 : decode cX7_mean 19 = .ok (.iinc 2 1, 3) := by decide +kernel
theorem dX7_mean_22 : decode cX7_mean 22 = .ok (.goto (-18), 3) := by decide +kernel
theorem dX7_mean_25 : decode cX7_mean 25 = .ok (.iload_n 1, 1) := by decide +kernel
theorem dX7_mean_26 : decode cX7_mean 26 = .ok (.bipush 24, 2) := by decide +kernel
theorem dX7_mean_28 : decode cX7_mean 28 = .ok (.idiv, 1) := by decide +kernel
theorem dX7_mean_29 : decode cX7_mean 29 = .ok (.ireturn, 1) := by decide +kernel
theorem dX8_init_0 : decode cX8_init 0 = .ok (.aload_n 0, 1) := by decide +kernel
theorem dX8_init_1 : decode cX8_init 1 = .ok (.invokespecial 3, 3) := by decide +kernel
theorem dX8_init_4 : decode cX8_init 4 = .ok (.aload_n 0, 1) := by decide +kernel
theorem dX8_init_5 : decode cX8_init 5 = .ok (.bipush 6, 2) := by decide +kernel
theorem dX8_init_7 : decode cX8_init 7 = .ok (.anewarray 9, 3) := by decide +kernel
theorem dX8_init_10 : decode cX8_init 10 = .ok (.putfield 11, 3) := by decide +kernel
theorem dX8_init_13 : decode cX8_init 13 = .ok (.aload_n 0, 1) := by decide +kernel
theorem dX8_init_14 : decode cX8_init 14 = .ok (.bipush 60, 2) := by decide +kernel
theorem dX8_init_16 : decode cX8_init 16 = .ok (.anewarray 15, 3) := by decide +kernel
theorem dX8_init_19 : decode cX8_init 19 = .ok (.putfield 17, 3) := by decide +kernel
theorem dX8_init_22 : decode cX8_init 22 = .ok (.aload_n 0, 1) := by decide +kernel
theorem dX8_init_23 : decode cX8_init 23 = .ok (.iconst 3, 1) := by decide +kernel
theorem dX8_init_24 : decode cX8_init 24 = .ok (.newarray .int, 2) := by decide +kernel
theorem dX8_init_26 : decode cX8_init 26 = .ok (.putfield 21, 3) := by decide +kernel
theorem dX8_init_29 : decode cX8_init 29 = .ok (.aload_n 0, 1) := by decide +kernel
theorem dX8_init_30 : decode cX8_init 30 = .ok (.bipush 16, 2) := by decide +kernel
theorem dX8_init_32 : decode cX8_init 32 = .ok (.newarray .int, 2) := by decide +kernel
theorem dX8_init_34 : decode cX8_init 34 = .ok (.putfield 25, 3) := by decide +kernel
theorem dX8_init_37 : decode cX8_init 37 = .ok (.aload_n 0, 1) := by decide +kernel
theorem dX8_init_38 : decode cX8_init 38 = .ok (.bipush 16, 2) := by decide +kernel
theorem dX8_init_40 : decode cX8_init 40 = .ok (.newarray .int, 2) := by decide +kernel
theorem dX8_init_42 : decode cX8_init 42 = .ok (.putfield 28, 3) := by decide +kernel
theorem dX8_init_45 : decode cX8_init 45 = .ok (.aload_n 0, 1) := by decide +kernel
theorem dX8_init_46 : decode cX8_init 46 = .ok (.bipush 16, 2) := by decide +kernel
theorem dX8_init_48 : decode cX8_init 48 = .ok (.newarray .int, 2) := by decide +kernel
theorem dX8_init_50 : decode cX8_init 50 = .ok (.putfield 31, 3) := by decide +kernel
theorem dX8_init_53 : decode cX8_init 53 = .ok (.aload_n 0, 1) := by decide +kernel
theorem dX8_init_54 : decode cX8_init 54 = .ok (.bipush 8, 2) := by decide +kernel
theorem dX8_init_56 : decode cX8_init 56 = .ok (.newarray .int, 2) := by decide +kernel
theorem dX8_init_58 : decode cX8_init 58 = .ok (.putfield 36, 3) := by decide +kernel
theorem dX8_init_61 : decode cX8_init 61 = .ok (.aload_n 0, 1) := by decide +kernel
theorem dX8_init_62 : decode cX8_init 62 = .ok (.new 39, 3) := by decide +kernel
theorem dX8_init_65 : decode cX8_init 65 = .ok (.dup, 1) := by decide +kernel
theorem dX8_init_66 : decode cX8_init 66 = .ok (.invokespecial 41, 3) := by decide +kernel
theorem dX8_init_69 : decode cX8_init 69 = .ok (.putfield 42, 3) := by decide +kernel
theorem dX8_init_72 : decode cX8_init 72 = .ok (.aload_n 0, 1) := by decide +kernel
theorem dX8_init_73 : decode cX8_init 73 = .ok (.new 46, 3) := by decide +kernel
theorem dX8_init_76 : decode cX8_init 76 = .ok (.dup, 1) := by decide +kernel
theorem dX8_init_77 : decode cX8_init 77 = .ok (.invokespecial 48, 3) := by decide +kernel
theorem dX8_init_80 : decode cX8_init 80 = .ok (.putfield 49, 3) := by decide +kernel
theorem dX8_init_83 : decode cX8_init 83 = .ok (.aload_n 0, 1) := by decide +kernel
theorem dX8_init_84 : decode cX8_init 84 = .ok (.new 34, 3) := by decide +kernel
theorem dX8_init_87 : decode cX8_init 87 = .ok (.dup, 1) := by decide +kernel
theorem dX8_init_88 : decode cX8_init 88 = .ok (.invokespecial 53, 3) := by decide +kernel
theorem dX8_init_91 : decode cX8_init 91 = .ok (.putfield 54, 3) := by decide +kernel
theorem dX8_init_94 : decode cX8_init 94 = .ok (.aload_n 0, 1) := by decide +kernel
theorem dX8_init_95 : decode cX8_init 95 = .ok (.new 58, 3) := by decide +kernel
theorem dX8_init_98 : decode cX8_init 98 = .ok (.dup, 1) := by decide +kernel
theorem dX8_init_99 : decode cX8_init 99 = .ok (.aload_n 0, 1) := by decide +kernel
theorem dX8_init_100 : decode cX8_init 100 = .ok (.getfield 54, 3) := by decide +kernel
theorem dX8_init_103 : decode cX8_init 103 = .ok (.invokespecial 60, 3) := by decide +kernel
theorem dX8_init_106 : decode cX8_init 106 = .ok (.putfield 63, 3) := by decide +kernel
theorem dX8_init_109 : decode cX8_init 109 = .ok (.aload_n 0, 1) := by decide +kernel
theorem dX8_init_110 : decode cX8_init 110 = .ok (.new 67, 3) := by decide +kernel
theorem dX8_init_113 : decode cX8_init 113 = .ok (.dup, 1) := by decide +kernel
theorem dX8_init_114 : decode cX8_init 114 = .ok (.invokespecial 69, 3) := by decide +kernel
theorem dX8_init_117 : decode cX8_init 117 = .ok (.putfield 70, 3) := by decide +kernel
theorem dX8_init_120 : decode cX8_init 120 = .ok (.aload_n 0, 1) := by decide +kernel
theorem dX8_init_121 : decode cX8_init 121 = .ok (.new 67, 3) := by decide +kernel
theorem dX8_init_124 : decode cX8_init 124 = .ok (.dup, 1) := by decide +kernel
theorem dX8_init_125 : decode cX8_init 125 = .ok (.invokespecial 69, 3) := by decide +kernel
theorem dX8_init_128 : decode cX8_init 128 = .ok (.putfield 74, 3) := by decide +kernel
theorem dX8_init_131 : decode cX8_init 131 = .ok (.aload_n 0, 1) := by decide +kernel
theorem dX8_init_132 : decode cX8_init 132 = .ok (.iconst 0, 1) := by decide +kernel
theorem dX8_init_133 : decode cX8_init 133 = .ok (.putfield 77, 3) := by decide +kernel
theorem dX8_init_136 : decode cX8_init 136 = .ok (.aload_n 0, 1) := by decide +kernel
theorem dX8_init_137 : decode cX8_init 137 = .ok (.iconst 0, 1) := by decide +kernel
theorem dX8_init_138 : decode cX8_init 138 = .ok (.putfield 81, 3) := by decide +kernel
theorem dX8_init_141 : decode cX8_init 141 = .ok (.aload_n 0, 1) := by decide +kernel
theorem dX8_init_142 : decode cX8_init 142 = .ok (.iconst 0, 1) := by decide +kernel
theorem dX8_init_143 : decode cX8_init 143 = .ok (.putfield 84, 3) := by decide +kernel
theorem dX8_init_146 : decode cX8_init 146 = .ok (.return_, 1) := by decide +kernel
theorem dX8_pitch_0 : decode cX8_pitch 0 = .ok (.iload_n 1, 1) := by decide +kernel
theorem dX8_pitch_1 : decode cX8_pitch 1 = .ok (.ifCond .lt 17, 3) := by decide +kernel
theorem dX8_pitch_4 : decode cX8_pitch 4 = .ok (.iload_n 1, 1) := by decide +kernel
theorem dX8_pitch_5 : decode cX8_pitch 5 = .ok (.iconst 3, 1) := by decide +kernel
theorem dX8_pitch_6 : decode cX8_pitch 6 = .ok (.if_icmp .ge 12, 3) := by decide +kernel
theorem dX8_pitch_9 : decode cX8_pitch 9 = .ok (.iload_n 2, 1) := by decide +kernel
theorem dX8_pitch_10 : decode cX8_pitch 10 = .ok (.ifCond .lt 8, 3) := by decide +kernel
theorem dX8_pitch_13 : decode cX8_pitch 13 = .ok (.iload_n 2, 1) := by decide +kernel
theorem dX8_pitch_14 : decode cX8_pitch 14 = .ok (.iconst 1, 1) := by decide +kernel
theorem dX8_pitch_15 : decode cX8_pitch 15 = .ok (.if_icmp .le 5, 3) := by decide +kernel
theorem dX8_pitch_18 : decode cX8_pitch 18 = .ok (.iconst (-1), 1) := by decide +kernel
theorem dX8_pitch_19 : decode cX8_pitch 19 = .ok (.ireturn, 1) := by decide +kernel
theorem dX8_pitch_20 : decode cX8_pitch 20 = .ok (.aload_n 0, 1) := by decide +kernel
theorem dX8_pitch_21 : decode cX8_pitch 21 = .ok (.getfield 77, 3) := by decide +kernel
theorem dX8_pitch_24 : decode cX8_pitch 24 = .ok (.aload_n 0, 1) := by decide +kernel
theorem dX8_pitch_25 : decode cX8_pitch 25 = .ok (.getfield 11, 3) := by decide +kernel
theorem dX8_pitch_28 : decode cX8_pitch 28 = .ok (.arraylength, 1) := by decide +kernel
theorem dX8_pitch_29 : decode cX8_pitch 29 = .ok (.if_icmp .ge 10, 3) := by decide +kernel
theorem dX8_pitch_32 : decode cX8_pitch 32 = .ok (.aload_n 0, 1) := by decide +kernel
theorem dX8_pitch_33 : decode cX8_pitch 33 = .ok (.getfield 84, 3) := by decide +kernel
theorem dX8_pitch_36 : decode cX8_pitch 36 = .ok (.ifCond .le 5, 3) := by decide +kernel
theorem dX8_pitch_39 : decode cX8_pitch 39 = .ok (.iconst (-1), 1) := by decide +kernel
theorem dX8_pitch_40 : decode cX8_pitch 40 = .ok (.ireturn, 1) := by decide +kernel
theorem dX8_pitch_41 : decode cX8_pitch 41 = .ok (.aload_n 0, 1) := by decide +kernel
theorem dX8_pitch_42 : decode cX8_pitch 42 = .ok (.getfield 77, 3) := by decide +kernel
theorem dX8_pitch_45 : decode cX8_pitch 45 = .ok (.istore_n 3, 1) := by decide +kernel
theorem dX8_pitch_46 : decode cX8_pitch 46 = .ok (.aload_n 0, 1) := by decide +kernel
theorem dX8_pitch_47 : decode cX8_pitch 47 = .ok (.getfield 11, 3) := by decide +kernel
theorem dX8_pitch_50 : decode cX8_pitch 50 = .ok (.iload_n 3, 1) := by decide +kernel
theorem dX8_pitch_51 : decode cX8_pitch 51 = .ok (.new 9, 3) := by decide +kernel
theorem dX8_pitch_54 : decode cX8_pitch 54 = .ok (.dup, 1) := by decide +kernel
theorem dX8_pitch_55 : decode cX8_pitch 55 = .ok (.iload_n 2, 1) := by decide +kernel
theorem dX8_pitch_56 : decode cX8_pitch 56 = .ok (.invokespecial 87, 3) := by decide +kernel
theorem dX8_pitch_59 : decode cX8_pitch 59 = .ok (.aastore, 1) := by decide +kernel
theorem dX8_pitch_60 : decode cX8_pitch 60 = .ok (.iconst 0, 1) := by decide +kernel
theorem dX8_pitch_61 : decode cX8_pitch 61 = .ok (.istore 4, 2) := by decide +kernel
theorem dX8_pitch_63 : decode cX8_pitch 63 = .ok (.iload 4, 2) := by decide +kernel
theorem dX8_pitch_65 : decode cX8_pitch 65 = .ok (.iload_n 1, 1) := by decide +kernel
theorem dX8_pitch_66 : decode cX8_pitch 66 = .ok (.if_icmp .gt 22, 3) := by decide +kernel
theorem dX8_pitch_69 : decode cX8_pitch 69 = .ok (.aload_n 0, 1) := by decide +kernel
theorem dX8_pitch_70 : decode cX8_pitch 70 = .ok (.getfield 21, 3) := by decide +kernel
theorem dX8_pitch_73 : decode cX8_pitch 73 = .ok (.iload 4, 2) := by decide +kernel
theorem dX8_pitch_75 : decode cX8_pitch 75 = .ok (.dup2, 1) := by decide +kernel
theorem dX8_pitch_76 : decode cX8_pitch 76 = .ok (.iaload, 1) := by decide +kernel
theorem dX8_pitch_77 : decode cX8_pitch 77 = .ok (.iconst 1, 1) := by decide +kernel
theorem dX8_pitch_78 : decode cX8_pitch 78 = .ok (.iload_n 3, 1) := by decide +kernel
theorem dX8_pitch_79 : decode cX8_pitch 79 = .ok (.ishl, 1) := by decide +kernel
theorem dX8_pitch_80 : decode cX8_pitch 80 = .ok (.ior, 1) := by decide +kernel
theorem dX8_pitch_81 : decode cX8_pitch 81 = .ok (.iastore, 1) := by decide +kernel
theorem dX8_pitch_82 : decode cX8_pitch 82 = .ok (.iinc 4 1, 3) := by decide +kernel
theorem dX8_pitch_85 : decode cX8_pitch 85 = .ok (.goto (-22), 3) := by decide +kernel
theorem dX8_pitch_88 : decode cX8_pitch 88 = .ok (.aload_n 0, 1) := by decide +kernel
theorem dX8_pitch_89 : decode cX8_pitch 89 = .ok (.dup, 1) := by decide +kernel
theorem dX8_pitch_90 : decode cX8_pitch 90 = .ok (.getfield 77, 3) := by decide +kernel
theorem dX8_pitch_93 : decode cX8_pitch 93 = .ok (.iconst 1, 1) := by decide +kernel
theorem dX8_pitch_94 : decode cX8_pitch 94 = .ok (.iadd, 1) := by decide +kernel
theorem dX8_pitch_95 : decode cX8_pitch 95 = .ok (.putfield 77, 3) := by decide +kernel
theorem dX8_pitch_98 : decode cX8_pitch 98 = .ok (.iload_n 3, 1) := by decide +kernel
theorem dX8_pitch_99 : decode cX8_pitch 99 = .ok (.ireturn, 1) := by decide +kernel
theorem dX8_game_0 : decode cX8_game 0 = .ok (.iload_n 1, 1) := by decide +kernel
theorem dX8_game_1 : decode cX8_game 1 = .ok (.invokestatic 90, 3) := by decide +kernel
theorem dX8_game_4 : decode cX8_game 4 = .ok (.ifCond .eq 15, 3) := by decide +kernel
theorem dX8_game_7 : decode cX8_game 7 = .ok (.iload_n 2, 1) := by decide +kernel
theorem dX8_game_8 : decode cX8_game 8 = .ok (.invokestatic 90, 3) := by decide +kernel
theorem dX8_game_11 : decode cX8_game 11 = .ok (.ifCond .eq 8, 3) := by decide +kernel
theorem dX8_game_14 : decode cX8_game 14 = .ok (.iload_n 1, 1) := by decide +kernel
theorem dX8_game_15 : decode cX8_game 15 = .ok (.iload_n 2, 1) := by decide +kernel
theorem dX8_game_16 : decode cX8_game 16 = .ok (.if_icmp .ne 5, 3) := by decide +kernel
theorem dX8_game_19 : decode cX8_game 19 = .ok (.iconst (-1), 1) := by decide +kernel
theorem dX8_game_20 : decode cX8_game 20 = .ok (.ireturn, 1) := by decide +kernel
theorem dX8_game_21 : decode cX8_game 21 = .ok (.iload_n 3, 1) := by decide +kernel
theorem dX8_game_22 : decode cX8_game 22 = .ok (.ifCond .lt 20, 3) := by decide +kernel
theorem dX8_game_25 : decode cX8_game 25 = .ok (.iload_n 3, 1) := by decide +kernel
theorem dX8_game_26 : decode cX8_game 26 = .ok (.iconst 3, 1) := by decide +kernel
theorem dX8_game_27 : decode cX8_game 27 = .ok (.if_icmp .ge 15, 3) := by decide +kernel
theorem dX8_game_30 : decode cX8_game 30 = .ok (.iload 4, 2) := by decide +kernel
theorem dX8_game_32 : decode cX8_game 32 = .ok (.ifCond .lt 10, 3) := by decide +kernel
theorem dX8_game_35 : decode cX8_game 35 = .ok (.iload 4, 2) := by decide +kernel
theorem dX8_game_37 : decode cX8_game 37 = .ok (.bipush 9, 2) := by decide +kernel
theorem dX8_game_39 : decode cX8_game 39 = .ok (.if_icmp .le 5, 3) := by decide +kernel
theorem dX8_game_42 : decode cX8_game 42 = .ok (.iconst (-1), 1) := by decide +kernel
theorem dX8_game_43 : decode cX8_game 43 = .ok (.ireturn, 1) := by decide +kernel
theorem dX8_game_44 : decode cX8_game 44 = .ok (.aload_n 0, 1) := by decide +kernel
theorem dX8_game_45 : decode cX8_game 45 = .ok (.iload 5, 2) := by decide +kernel
theorem dX8_game_47 : decode cX8_game 47 = .ok (.invokevirtual 94, 3) := by decide +kernel
theorem dX8_game_50 : decode cX8_game 50 = .ok (.ifCond .eq 27, 3) := by decide +kernel
theorem dX8_game_53 : decode cX8_game 53 = .ok (.iload 6, 2) := by decide +kernel
theorem dX8_game_55 : decode cX8_game 55 = .ok (.ifCond .le 22, 3) := by decide +kernel
theorem dX8_game_58 : decode cX8_game 58 = .ok (.iload 6, 2) := by decide +kernel
theorem dX8_game_60 : decode cX8_game 60 = .ok (.ldc 97, 2) := by decide +kernel
theorem dX8_game_62 : decode cX8_game 62 = .ok (.if_icmp .gt 15, 3) := by decide +kernel
theorem dX8_game_65 : decode cX8_game 65 = .ok (.aload_n 0, 1) := by decide +kernel
theorem dX8_game_66 : decode cX8_game 66 = .ok (.getfield 81, 3) := by decide +kernel
theorem dX8_game_69 : decode cX8_game 69 = .ok (.aload_n 0, 1) := by decide +kernel
theorem dX8_game_70 : decode cX8_game 70 = .ok (.getfield 17, 3) := by decide +kernel
theorem dX8_game_73 : decode cX8_game 73 = .ok (.arraylength, 1) := by decide +kernel
theorem dX8_game_74 : decode cX8_game 74 = .ok (.if_icmp .lt 5, 3) := by decide +kernel
theorem dX8_game_77 : decode cX8_game 77 = .ok (.iconst (-1), 1) := by decide +kernel
theorem dX8_game_78 : decode cX8_game 78 = .ok (.ireturn, 1) := by decide +kernel
theorem dX8_game_79 : decode cX8_game 79 = .ok (.aload_n 0, 1) := by decide +kernel
theorem dX8_game_80 : decode cX8_game 80 = .ok (.getfield 81, 3) := by decide +kernel
theorem dX8_game_83 : decode cX8_game 83 = .ok (.istore 7, 2) := by decide +kernel
theorem dX8_game_85 : decode cX8_game 85 = .ok (.aload_n 0, 1) := by decide +kernel
theorem dX8_game_86 : decode cX8_game 86 = .ok (.getfield 17, 3) := by decide +kernel
theorem dX8_game_89 : decode cX8_game 89 = .ok (.iload 7, 2) := by decide +kernel
theorem dX8_game_91 : decode cX8_game 91 = .ok (.new 15, 3) := by decide +kernel
theorem dX8_game_94 : decode cX8_game 94 = .ok (.dup, 1) := by decide +kernel
theorem dX8_game_95 : decode cX8_game 95 = .ok (.iload_n 1, 1) := by decide +kernel
theorem dX8_game_96 : decode cX8_game 96 = .ok (.iload_n 2, 1) := by decide +kernel
theorem dX8_game_97 : decode cX8_game 97 = .ok (.iload_n 3, 1) := by decide +kernel
theorem dX8_game_98 : decode cX8_game 98 = .ok (.iload 4, 2) := by decide +kernel
theorem dX8_game_100 : decode cX8_game 100 = .ok (.iload 5, 2) := by decide +kernel
theorem dX8_game_102 : decode cX8_game 102 = .ok (.iload 6, 2) := by decide +kernel
theorem dX8_game_104 : decode cX8_game 104 = .ok (.invokespecial 98, 3) := by decide +kernel
theorem dX8_game_107 : decode cX8_game 107 = .ok (.aastore, 1) := by decide +kernel
theorem dX8_game_108 : decode cX8_game 108 = .ok (.aload_n 0, 1) := by decide +kernel
theorem dX8_game_109 : decode cX8_game 109 = .ok (.dup, 1) := by decide +kernel
theorem dX8_game_110 : decode cX8_game 110 = .ok (.getfield 81, 3) := by decide +kernel
theorem dX8_game_113 : decode cX8_game 113 = .ok (.iconst 1, 1) := by decide +kernel
theorem dX8_game_114 : decode cX8_game 114 = .ok (.iadd, 1) := by decide +kernel
theorem dX8_game_115 : decode cX8_game 115 = .ok (.putfield 81, 3) := by decide +kernel
theorem dX8_game_118 : decode cX8_game 118 = .ok (.iload 7, 2) := by decide +kernel
theorem dX8_game_120 : decode cX8_game 120 = .ok (.ireturn, 1) := by decide +kernel
theorem dX8_lay_0 : decode cX8_lay 0 = .ok (.aload_n 0, 1) := by decide +kernel
theorem dX8_lay_1 : decode cX8_lay 1 = .ok (.iload_n 1, 1) := by decide +kernel
theorem dX8_lay_2 : decode cX8_lay 2 = .ok (.invokevirtual 94, 3) := by decide +kernel
theorem dX8_lay_5 : decode cX8_lay 5 = .ok (.ifCond .ne 5, 3) := by decide +kernel
theorem dX8_lay_8 : decode cX8_lay 8 = .ok (.iconst (-1), 1) := by decide +kernel
theorem dX8_lay_9 : decode cX8_lay 9 = .ok (.ireturn, 1) := by decide +kernel
theorem dX8_lay_10 : decode cX8_lay 10 = .ok (.aload_n 0, 1) := by decide +kernel
theorem dX8_lay_11 : decode cX8_lay 11 = .ok (.iload_n 1, 1) := by decide +kernel
theorem dX8_lay_12 : decode cX8_lay 12 = .ok (.invokevirtual 101, 3) := by decide +kernel
theorem dX8_lay_15 : decode cX8_lay 15 = .ok (.bipush 9, 2) := by decide +kernel
theorem dX8_lay_17 : decode cX8_lay 17 = .ok (.istore_n 2, 1) := by decide +kernel
theorem dX8_lay_18 : decode cX8_lay 18 = .ok (.iload_n 2, 1) := by decide +kernel
theorem dX8_lay_19 : decode cX8_lay 19 = .ok (.ifCond .lt 65, 3) := by decide +kernel
theorem dX8_lay_22 : decode cX8_lay 22 = .ok (.iconst 0, 1) := by decide +kernel
theorem dX8_lay_23 : decode cX8_lay 23 = .ok (.istore_n 3, 1) := by decide +kernel
theorem dX8_lay_24 : decode cX8_lay 24 = .ok (.iload_n 3, 1) := by decide +kernel
theorem dX8_lay_25 : decode cX8_lay 25 = .ok (.aload_n 0, 1) := by decide +kernel
theorem dX8_lay_26 : decode cX8_lay 26 = .ok (.getfield 81, 3) := by decide +kernel
theorem dX8_lay_29 : decode cX8_lay 29 = .ok (.if_icmp .ge 49, 3) := by decide +kernel
theorem dX8_lay_32 : decode cX8_lay 32 = .ok (.aload_n 0, 1) := by decide +kernel
theorem dX8_lay_33 : decode cX8_lay 33 = .ok (.getfield 17, 3) := by decide +kernel
theorem dX8_lay_36 : decode cX8_lay 36 = .ok (.iload_n 3, 1) := by decide +kernel
theorem dX8_lay_37 : decode cX8_lay 37 = .ok (.aaload, 1) := by decide +kernel
theorem dX8_lay_38 : decode cX8_lay 38 = .ok (.astore 4, 2) := by decide +kernel
theorem dX8_lay_40 : decode cX8_lay 40 = .ok (.aload 4, 2) := by decide +kernel
theorem dX8_lay_42 : decode cX8_lay 42 = .ok (.getfield 104, 3) := by decide +kernel
theorem dX8_lay_45 : decode cX8_lay 45 = .ok (.iload_n 1, 1) := by decide +kernel
theorem dX8_lay_46 : decode cX8_lay 46 = .ok (.if_icmp .ne 26, 3) := by decide +kernel
theorem dX8_lay_49 : decode cX8_lay 49 = .ok (.aload 4, 2) := by decide +kernel
theorem dX8_lay_51 : decode cX8_lay 51 = .ok (.getfield 107, 3) := by decide +kernel
theorem dX8_lay_54 : decode cX8_lay 54 = .ok (.ifCond .ne 18, 3) := by decide +kernel
theorem dX8_lay_57 : decode cX8_lay 57 = .ok (.aload 4, 2) := by decide +kernel
theorem dX8_lay_59 : decode cX8_lay 59 = .ok (.getfield 110, 3) := by decide +kernel
theorem dX8_lay_62 : decode cX8_lay 62 = .ok (.iload_n 2, 1) := by decide +kernel
theorem dX8_lay_63 : decode cX8_lay 63 = .ok (.if_icmp .ne 9, 3) := by decide +kernel
theorem dX8_lay_66 : decode cX8_lay 66 = .ok (.aload_n 0, 1) := by decide +kernel
theorem dX8_lay_67 : decode cX8_lay 67 = .ok (.aload 4, 2) := by decide +kernel
theorem dX8_lay_69 : decode cX8_lay 69 = .ok (.invokevirtual 113, 3) := by decide +kernel
theorem dX8_lay_72 : decode cX8_lay 72 = .ok (.iinc 3 1, 3) := by decide +kernel
theorem dX8_lay_75 : decode cX8_lay 75 = .ok (.goto (-51), 3) := by decide +kernel
theorem dX8_lay_78 : decode cX8_lay 78 = .ok (.iinc 2 (-1), 3) := by decide +kernel
theorem dX8_lay_81 : decode cX8_lay 81 = .ok (.goto (-63), 3) := by decide +kernel
theorem dX8_lay_84 : decode cX8_lay 84 = .ok (.aload_n 0, 1) := by decide +kernel
theorem dX8_lay_85 : decode cX8_lay 85 = .ok (.iload_n 1, 1) := by decide +kernel
theorem dX8_lay_86 : decode cX8_lay 86 = .ok (.invokevirtual 117, 3) := by decide +kernel
theorem dX8_lay_89 : decode cX8_lay 89 = .ok (.ireturn, 1) := by decide +kernel
theorem dX8_feed_0 : decode cX8_feed 0 = .ok (.aload_n 0, 1) := by decide +kernel
theorem dX8_feed_1 : decode cX8_feed 1 = .ok (.getfield 49, 3) := by decide +kernel
theorem dX8_feed_4 : decode cX8_feed 4 = .ok (.lload_n 1, 1) := by decide +kernel
theorem dX8_feed_5 : decode cX8_feed 5 = .ok (.invokevirtual 121, 3) := by decide +kernel
theorem dX8_feed_8 : decode cX8_feed 8 = .ok (.aload_n 0, 1) := by decide +kernel
theorem dX8_feed_9 : decode cX8_feed 9 = .ok (.getfield 49, 3) := by decide +kernel
theorem dX8_feed_12 : decode cX8_feed 12 = .ok (.lload_n 3, 1) := by decide +kernel
theorem dX8_feed_13 : decode cX8_feed 13 = .ok (.invokevirtual 121, 3) := by decide +kernel
theorem dX8_feed_16 : decode cX8_feed 16 = .ok (.aload_n 0, 1) := by decide +kernel
theorem dX8_feed_17 : decode cX8_feed 17 = .ok (.getfield 49, 3) := by decide +kernel
theorem dX8_feed_20 : decode cX8_feed 20 = .ok (.lload 5, 2) := by decide +kernel
theorem dX8_feed_22 : decode cX8_feed 22 = .ok (.invokevirtual 121, 3) := by decide +kernel
theorem dX8_feed_25 : decode cX8_feed 25 = .ok (.aload_n 0, 1) := by decide +kernel
theorem dX8_feed_26 : decode cX8_feed 26 = .ok (.getfield 49, 3) := by decide +kernel
theorem dX8_feed_29 : decode cX8_feed 29 = .ok (.getfield 125, 3) := by decide +kernel
theorem dX8_feed_32 : decode cX8_feed 32 = .ok (.ireturn, 1) := by decide +kernel
theorem dX8_text_0 : decode cX8_text 0 = .ok (.aload_n 0, 1) := by decide +kernel
theorem dX8_text_1 : decode cX8_text 1 = .ok (.getfield 54, 3) := by decide +kernel
theorem dX8_text_4 : decode cX8_text 4 = .ok (.aload_n 0, 1) := by decide +kernel
theorem dX8_text_5 : decode cX8_text 5 = .ok (.getfield 49, 3) := by decide +kernel
theorem dX8_text_8 : decode cX8_text 8 = .ok (.invokevirtual 128, 3) := by decide +kernel
theorem dX8_text_11 : decode cX8_text 11 = .ok (.aload_n 0, 1) := by decide +kernel
theorem dX8_text_12 : decode cX8_text 12 = .ok (.getfield 49, 3) := by decide +kernel
theorem dX8_text_15 : decode cX8_text 15 = .ok (.iconst 0, 1) := by decide +kernel
theorem dX8_text_16 : decode cX8_text 16 = .ok (.putfield 125, 3) := by decide +kernel
theorem dX8_text_19 : decode cX8_text 19 = .ok (.aload_n 0, 1) := by decide +kernel
theorem dX8_text_20 : decode cX8_text 20 = .ok (.getfield 63, 3) := by decide +kernel
theorem dX8_text_23 : decode cX8_text 23 = .ok (.aload_n 0, 1) := by decide +kernel
theorem dX8_text_24 : decode cX8_text 24 = .ok (.getfield 74, 3) := by decide +kernel
theorem dX8_text_27 : decode cX8_text 27 = .ok (.invokevirtual 132, 3) := by decide +kernel
theorem dX8_text_30 : decode cX8_text 30 = .ok (.istore_n 1, 1) := by decide +kernel
theorem dX8_text_31 : decode cX8_text 31 = .ok (.iload_n 1, 1) := by decide +kernel
theorem dX8_text_32 : decode cX8_text 32 = .ok (.ifCond .ne 21, 3) := by decide +kernel
theorem dX8_text_35 : decode cX8_text 35 = .ok (.aload_n 0, 1) := by decide +kernel
theorem dX8_text_36 : decode cX8_text 36 = .ok (.getfield 70, 3) := by decide +kernel
theorem dX8_text_39 : decode cX8_text 39 = .ok (.astore_n 2, 1) := by decide +kernel
theorem dX8_text_40 : decode cX8_text 40 = .ok (.aload_n 0, 1) := by decide +kernel
theorem dX8_text_41 : decode cX8_text 41 = .ok (.aload_n 0, 1) := by decide +kernel
theorem dX8_text_42 : decode cX8_text 42 = .ok (.getfield 74, 3) := by decide +kernel
theorem dX8_text_45 : decode cX8_text 45 = .ok (.putfield 70, 3) := by decide +kernel
theorem dX8_text_48 : decode cX8_text 48 = .ok (.aload_n 0, 1) := by decide +kernel
theorem dX8_text_49 : decode cX8_text 49 = .ok (.aload_n 2, 1) := by decide +kernel
theorem dX8_text_50 : decode cX8_text 50 = .ok (.putfield 74, 3) := by decide +kernel
theorem dX8_text_53 : decode cX8_text 53 = .ok (.iload_n 1, 1) := by decide +kernel
theorem dX8_text_54 : decode cX8_text 54 = .ok (.ireturn, 1) := by decide +kernel
theorem dX8_day_0 : decode cX8_day 0 = .ok (.iload_n 1, 1) := by decide +kernel
theorem dX8_day_1 : decode cX8_day 1 = .ok (.ifCond .lt 29, 3) := by decide +kernel
theorem dX8_day_4 : decode cX8_day 4 = .ok (.iload_n 1, 1) := by decide +kernel
theorem dX8_day_5 : decode cX8_day 5 = .ok (.bipush 10, 2) := by decide +kernel
theorem dX8_day_7 : decode cX8_day 7 = .ok (.if_icmp .gt 23, 3) := by decide +kernel
theorem dX8_day_10 : decode cX8_day 10 = .ok (.iload_n 2, 1) := by decide +kernel
theorem dX8_day_11 : decode cX8_day 11 = .ok (.ifCond .lt 19, 3) := by decide +kernel
theorem dX8_day_14 : decode cX8_day 14 = .ok (.iload_n 2, 1) := by decide +kernel
theorem dX8_day_15 : decode cX8_day 15 = .ok (.bipush 10, 2) := by decide +kernel
theorem dX8_day_17 : decode cX8_day 17 = .ok (.if_icmp .gt 13, 3) := by decide +kernel
theorem dX8_day_20 : decode cX8_day 20 = .ok (.aload_n 0, 1) := by decide +kernel
theorem dX8_day_21 : decode cX8_day 21 = .ok (.getfield 84, 3) := by decide +kernel
theorem dX8_day_24 : decode cX8_day 24 = .ok (.sipush 357, 3) := by decide +kernel
theorem dX8_day_27 : decode cX8_day 27 = .ok (.if_icmp .lt 5, 3) := by decide +kernel
theorem dX8_day_30 : decode cX8_day 30 = .ok (.iconst (-1), 1) := by decide +kernel
theorem dX8_day_31 : decode cX8_day 31 = .ok (.ireturn, 1) := by decide +kernel
theorem dX8_day_32 : decode cX8_day 32 = .ok (.aload_n 0, 1) := by decide +kernel
theorem dX8_day_33 : decode cX8_day 33 = .ok (.getfield 84, 3) := by decide +kernel
theorem dX8_day_36 : decode cX8_day 36 = .ok (.istore_n 3, 1) := by decide +kernel
theorem dX8_day_37 : decode cX8_day 37 = .ok (.aload_n 0, 1) := by decide +kernel
theorem dX8_day_38 : decode cX8_day 38 = .ok (.iload_n 3, 1) := by decide +kernel
theorem dX8_day_39 : decode cX8_day 39 = .ok (.bipush 7, 2) := by decide +kernel
theorem dX8_day_41 : decode cX8_day 41 = .ok (.idiv, 1) := by decide +kernel
theorem dX8_day_42 : decode cX8_day 42 = .ok (.invokevirtual 101, 3) := by decide +kernel
theorem dX8_day_45 : decode cX8_day 45 = .ok (.iload_n 3, 1) := by decide +kernel
theorem dX8_day_46 : decode cX8_day 46 = .ok (.bipush 7, 2) := by decide +kernel
theorem dX8_day_48 : decode cX8_day 48 = .ok (.irem, 1) := by decide +kernel
theorem dX8_day_49 : decode cX8_day 49 = .ok (.ifCond .ne 7, 3) := by decide +kernel
theorem dX8_day_52 : decode cX8_day 52 = .ok (.aload_n 0, 1) := by decide +kernel
theorem dX8_day_53 : decode cX8_day 53 = .ok (.invokevirtual 136, 3) := by decide +kernel
theorem dX8_day_56 : decode cX8_day 56 = .ok (.aload_n 0, 1) := by decide +kernel
theorem dX8_day_57 : decode cX8_day 57 = .ok (.getfield 36, 3) := by decide +kernel
theorem dX8_day_60 : decode cX8_day 60 = .ok (.iconst 0, 1) := by decide +kernel
theorem dX8_day_61 : decode cX8_day 61 = .ok (.iload_n 2, 1) := by decide +kernel
theorem dX8_day_62 : decode cX8_day 62 = .ok (.iastore, 1) := by decide +kernel
theorem dX8_day_63 : decode cX8_day 63 = .ok (.aload_n 0, 1) := by decide +kernel
theorem dX8_day_64 : decode cX8_day 64 = .ok (.getfield 36, 3) := by decide +kernel
theorem dX8_day_67 : decode cX8_day 67 = .ok (.iconst 1, 1) := by decide +kernel
theorem dX8_day_68 : decode cX8_day 68 = .ok (.iload_n 1, 1) := by decide +kernel
theorem dX8_day_69 : decode cX8_day 69 = .ok (.iastore, 1) := by decide +kernel
theorem dX8_day_70 : decode cX8_day 70 = .ok (.aload_n 0, 1) := by decide +kernel
theorem dX8_day_71 : decode cX8_day 71 = .ok (.getfield 36, 3) := by decide +kernel
theorem dX8_day_74 : decode cX8_day 74 = .ok (.iconst 5, 1) := by decide +kernel
theorem dX8_day_75 : decode cX8_day 75 = .ok (.iload_n 3, 1) := by decide +kernel
theorem dX8_day_76 : decode cX8_day 76 = .ok (.bipush 7, 2) := by decide +kernel
theorem dX8_day_78 : decode cX8_day 78 = .ok (.irem, 1) := by decide +kernel
theorem dX8_day_79 : decode cX8_day 79 = .ok (.iastore, 1) := by decide +kernel
theorem dX8_day_80 : decode cX8_day 80 = .ok (.iconst 0, 1) := by decide +kernel
theorem dX8_day_81 : decode cX8_day 81 = .ok (.istore 4, 2) := by decide +kernel
theorem dX8_day_83 : decode cX8_day 83 = .ok (.iload 4, 2) := by decide +kernel
theorem dX8_day_85 : decode cX8_day 85 = .ok (.iconst 4, 1) := by decide +kernel
theorem dX8_day_86 : decode cX8_day 86 = .ok (.if_icmp .ge 36, 3) := by decide +kernel
theorem dX8_day_89 : decode cX8_day 89 = .ok (.iconst 0, 1) := by decide +kernel
theorem dX8_day_90 : decode cX8_day 90 = .ok (.istore 5, 2) := by decide +kernel
theorem dX8_day_92 : decode cX8_day 92 = .ok (.iload 5, 2) := by decide +kernel
theorem dX8_day_94 : decode cX8_day 94 = .ok (.aload_n 0, 1) := by decide +kernel
theorem dX8_day_95 : decode cX8_day 95 = .ok (.getfield 77, 3) := by decide +kernel
theorem dX8_day_98 : decode cX8_day 98 = .ok (.if_icmp .ge 18, 3) := by decide +kernel
theorem dX8_day_101 : decode cX8_day 101 = .ok (.aload_n 0, 1) := by decide +kernel
theorem dX8_day_102 : decode cX8_day 102 = .ok (.iload_n 3, 1) := by decide +kernel
theorem dX8_day_103 : decode cX8_day 103 = .ok (.iload 4, 2) := by decide +kernel
theorem dX8_day_105 : decode cX8_day 105 = .ok (.iload 5, 2) := by decide +kernel
theorem dX8_day_107 : decode cX8_day 107 = .ok (.invokevirtual 139, 3) := by decide +kernel
theorem dX8_day_110 : decode cX8_day 110 = .ok (.iinc 5 1, 3) := by decide +kernel
theorem dX8_day_113 : decode cX8_day 113 = .ok (.goto (-21), 3) := by decide +kernel
theorem dX8_day_116 : decode cX8_day 116 = .ok (.iinc 4 1, 3) := by decide +kernel
theorem dX8_day_119 : decode cX8_day 119 = .ok (.goto (-36), 3) := by decide +kernel
theorem dX8_day_122 : decode cX8_day 122 = .ok (.iconst 0, 1) := by decide +kernel
theorem dX8_day_123 : decode cX8_day 123 = .ok (.istore 4, 2) := by decide +kernel
theorem dX8_day_125 : decode cX8_day 125 = .ok (.iload 4, 2) := by decide +kernel
theorem dX8_day_127 : decode cX8_day 127 = .ok (.aload_n 0, 1) := by decide +kernel
theorem dX8_day_128 : decode cX8_day 128 = .ok (.getfield 77, 3) := by decide +kernel
theorem dX8_day_131 : decode cX8_day 131 = .ok (.if_icmp .ge 39, 3) := by decide +kernel
theorem dX8_day_134 : decode cX8_day 134 = .ok (.aload_n 0, 1) := by decide +kernel
theorem dX8_day_135 : decode cX8_day 135 = .ok (.getfield 11, 3) := by decide +kernel
theorem dX8_day_138 : decode cX8_day 138 = .ok (.iload 4, 2) := by decide +kernel
theorem dX8_day_140 : decode cX8_day 140 = .ok (.aaload, 1) := by decide +kernel
theorem dX8_day_141 : decode cX8_day 141 = .ok (.getfield 143, 3) := by decide +kernel
theorem dX8_day_144 : decode cX8_day 144 = .ok (.iload_n 1, 1) := by decide +kernel
theorem dX8_day_145 : decode cX8_day 145 = .ok (.iload_n 2, 1) := by decide +kernel
theorem dX8_day_146 : decode cX8_day 146 = .ok (.invokevirtual 147, 3) := by decide +kernel
theorem dX8_day_149 : decode cX8_day 149 = .ok (.aload_n 0, 1) := by decide +kernel
theorem dX8_day_150 : decode cX8_day 150 = .ok (.getfield 11, 3) := by decide +kernel
theorem dX8_day_153 : decode cX8_day 153 = .ok (.iload 4, 2) := by decide +kernel
theorem dX8_day_155 : decode cX8_day 155 = .ok (.aaload, 1) := by decide +kernel
theorem dX8_day_156 : decode cX8_day 156 = .ok (.getfield 153, 3) := by decide +kernel
theorem dX8_day_159 : decode cX8_day 159 = .ok (.iload_n 1, 1) := by decide +kernel
theorem dX8_day_160 : decode cX8_day 160 = .ok (.iload_n 2, 1) := by decide +kernel
theorem dX8_day_161 : decode cX8_day 161 = .ok (.invokevirtual 147, 3) := by decide +kernel
theorem dX8_day_164 : decode cX8_day 164 = .ok (.iinc 4 1, 3) := by decide +kernel
theorem dX8_day_167 : decode cX8_day 167 = .ok (.goto (-42), 3) := by decide +kernel
theorem dX8_day_170 : decode cX8_day 170 = .ok (.aload_n 0, 1) := by decide +kernel
theorem dX8_day_171 : decode cX8_day 171 = .ok (.dup, 1) := by decide +kernel
theorem dX8_day_172 : decode cX8_day 172 = .ok (.getfield 84, 3) := by decide +kernel
theorem dX8_day_175 : decode cX8_day 175 = .ok (.iconst 1, 1) := by decide +kernel
theorem dX8_day_176 : decode cX8_day 176 = .ok (.iadd, 1) := by decide +kernel
theorem dX8_day_177 : decode cX8_day 177 = .ok (.putfield 84, 3) := by decide +kernel
theorem dX8_day_180 : decode cX8_day 180 = .ok (.iload_n 3, 1) := by decide +kernel
theorem dX8_day_181 : decode cX8_day 181 = .ok (.ireturn, 1) := by decide +kernel
theorem dX8_turn_0 : decode cX8_turn 0 = .ok (.aload_n 0, 1) := by decide +kernel
theorem dX8_turn_1 : decode cX8_turn 1 = .ok (.iload_n 1, 1) := by decide +kernel
theorem dX8_turn_2 : decode cX8_turn 2 = .ok (.invokevirtual 156, 3) := by decide +kernel
theorem dX8_turn_5 : decode cX8_turn 5 = .ok (.ifCond .ne 5, 3) := by decide +kernel
theorem dX8_turn_8 : decode cX8_turn 8 = .ok (.iconst (-1), 1) := by decide +kernel
theorem dX8_turn_9 : decode cX8_turn 9 = .ok (.ireturn, 1) := by decide +kernel
theorem dX8_turn_10 : decode cX8_turn 10 = .ok (.aload_n 0, 1) := by decide +kernel
theorem dX8_turn_11 : decode cX8_turn 11 = .ok (.getfield 11, 3) := by decide +kernel
theorem dX8_turn_14 : decode cX8_turn 14 = .ok (.iload_n 1, 1) := by decide +kernel
theorem dX8_turn_15 : decode cX8_turn 15 = .ok (.aaload, 1) := by decide +kernel
theorem dX8_turn_16 : decode cX8_turn 16 = .ok (.astore_n 2, 1) := by decide +kernel
theorem dX8_turn_17 : decode cX8_turn 17 = .ok (.aload_n 2, 1) := by decide +kernel
theorem dX8_turn_18 : decode cX8_turn 18 = .ok (.getfield 153, 3) := by decide +kernel
theorem dX8_turn_21 : decode cX8_turn 21 = .ok (.aload_n 2, 1) := by decide +kernel
theorem dX8_turn_22 : decode cX8_turn 22 = .ok (.getfield 143, 3) := by decide +kernel
theorem dX8_turn_25 : decode cX8_turn 25 = .ok (.getfield 159, 3) := by decide +kernel
theorem dX8_turn_28 : decode cX8_turn 28 = .ok (.putfield 159, 3) := by decide +kernel
theorem dX8_turn_31 : decode cX8_turn 31 = .ok (.aload_n 2, 1) := by decide +kernel
theorem dX8_turn_32 : decode cX8_turn 32 = .ok (.getfield 143, 3) := by decide +kernel
theorem dX8_turn_35 : decode cX8_turn 35 = .ok (.iconst 1, 1) := by decide +kernel
theorem dX8_turn_36 : decode cX8_turn 36 = .ok (.aload_n 2, 1) := by decide +kernel
theorem dX8_turn_37 : decode cX8_turn 37 = .ok (.getfield 143, 3) := by decide +kernel
theorem dX8_turn_40 : decode cX8_turn 40 = .ok (.getfield 159, 3) := by decide +kernel
theorem dX8_turn_43 : decode cX8_turn 43 = .ok (.isub, 1) := by decide +kernel
theorem dX8_turn_44 : decode cX8_turn 44 = .ok (.putfield 159, 3) := by decide +kernel
theorem dX8_turn_47 : decode cX8_turn 47 = .ok (.aload_n 2, 1) := by decide +kernel
theorem dX8_turn_48 : decode cX8_turn 48 = .ok (.getfield 143, 3) := by decide +kernel
theorem dX8_turn_51 : decode cX8_turn 51 = .ok (.getfield 159, 3) := by decide +kernel
theorem dX8_turn_54 : decode cX8_turn 54 = .ok (.ireturn, 1) := by decide +kernel
theorem dX8_grass_0 : decode cX8_grass 0 = .ok (.aload_n 0, 1) := by decide +kernel
theorem dX8_grass_1 : decode cX8_grass 1 = .ok (.iload_n 1, 1) := by decide +kernel
theorem dX8_grass_2 : decode cX8_grass 2 = .ok (.invokevirtual 156, 3) := by decide +kernel
theorem dX8_grass_5 : decode cX8_grass 5 = .ok (.ifCond .eq 22, 3) := by decide +kernel
theorem dX8_grass_8 : decode cX8_grass 8 = .ok (.iload_n 2, 1) := by decide +kernel
theorem dX8_grass_9 : decode cX8_grass 9 = .ok (.ifCond .lt 18, 3) := by decide +kernel
theorem dX8_grass_12 : decode cX8_grass 12 = .ok (.iload_n 2, 1) := by decide +kernel
theorem dX8_grass_13 : decode cX8_grass 13 = .ok (.iconst 4, 1) := by decide +kernel
theorem dX8_grass_14 : decode cX8_grass 14 = .ok (.if_icmp .ge 13, 3) := by decide +kernel
theorem dX8_grass_17 : decode cX8_grass 17 = .ok (.iload_n 3, 1) := by decide +kernel
theorem dX8_grass_18 : decode cX8_grass 18 = .ok (.ifCond .lt 9, 3) := by decide +kernel
theorem dX8_grass_21 : decode cX8_grass 21 = .ok (.iload_n 3, 1) := by decide +kernel
theorem dX8_grass_22 : decode cX8_grass 22 = .ok (.bipush 6, 2) := by decide +kernel
theorem dX8_grass_24 : decode cX8_grass 24 = .ok (.if_icmp .lt 5, 3) := by decide +kernel
theorem dX8_grass_27 : decode cX8_grass 27 = .ok (.iconst (-1), 1) := by decide +kernel
theorem dX8_grass_28 : decode cX8_grass 28 = .ok (.ireturn, 1) := by decide +kernel
theorem dX8_grass_29 : decode cX8_grass 29 = .ok (.aload_n 0, 1) := by decide +kernel
theorem dX8_grass_30 : decode cX8_grass 30 = .ok (.getfield 11, 3) := by decide +kernel
theorem dX8_grass_33 : decode cX8_grass 33 = .ok (.iload_n 1, 1) := by decide +kernel
theorem dX8_grass_34 : decode cX8_grass 34 = .ok (.aaload, 1) := by decide +kernel
theorem dX8_grass_35 : decode cX8_grass 35 = .ok (.getfield 143, 3) := by decide +kernel
theorem dX8_grass_38 : decode cX8_grass 38 = .ok (.getfield 162, 3) := by decide +kernel
theorem dX8_grass_41 : decode cX8_grass 41 = .ok (.iload_n 2, 1) := by decide +kernel
theorem dX8_grass_42 : decode cX8_grass 42 = .ok (.bipush 6, 2) := by decide +kernel
theorem dX8_grass_44 : decode cX8_grass 44 = .ok (.imul, 1) := by decide +kernel
theorem dX8_grass_45 : decode cX8_grass 45 = .ok (.iload_n 3, 1) := by decide +kernel
theorem dX8_grass_46 : decode cX8_grass 46 = .ok (.iadd, 1) := by decide +kernel
theorem dX8_grass_47 : decode cX8_grass 47 = .ok (.iaload, 1) := by decide +kernel
theorem dX8_grass_48 : decode cX8_grass 48 = .ok (.ireturn, 1) := by decide +kernel
theorem dX8_look_0 : decode cX8_look 0 = .ok (.iload_n 1, 1) := by decide +kernel
theorem dX8_look_1 : decode cX8_look 1 = .ok (.ifCond .lt 20, 3) := by decide +kernel
theorem dX8_look_4 : decode cX8_look 4 = .ok (.iload_n 1, 1) := by decide +kernel
theorem dX8_look_5 : decode cX8_look 5 = .ok (.aload_n 0, 1) := by decide +kernel
theorem dX8_look_6 : decode cX8_look 6 = .ok (.getfield 81, 3) := by decide +kernel
theorem dX8_look_9 : decode cX8_look 9 = .ok (.if_icmp .ge 12, 3) := by decide +kernel
theorem dX8_look_12 : decode cX8_look 12 = .ok (.iload_n 2, 1) := by decide +kernel
theorem dX8_look_13 : decode cX8_look 13 = .ok (.ifCond .lt 8, 3) := by decide +kernel
theorem dX8_look_16 : decode cX8_look 16 = .ok (.iload_n 2, 1) := by decide +kernel
theorem dX8_look_17 : decode cX8_look 17 = .ok (.iconst 4, 1) := by decide +kernel
theorem dX8_look_18 : decode cX8_look 18 = .ok (.if_icmp .le 13, 3) := by decide +kernel
theorem dX8_look_21 : decode cX8_look 21 = .ok (.new 165, 3) := by decide +kernel
theorem dX8_look_24 : decode cX8_look 24 = .ok (.dup, 1) := by decide +kernel
theorem dX8_look_25 : decode cX8_look 25 = .ok (.ldc 167, 2) := by decide +kernel
theorem dX8_look_27 : decode cX8_look 27 = .ok (.invokespecial 169, 3) := by decide +kernel
theorem dX8_look_30 : decode cX8_look 30 = .ok (.athrow, 1) := by decide +kernel
theorem dX8_look_31 : decode cX8_look 31 = .ok (.aload_n 0, 1) := by decide +kernel
theorem dX8_look_32 : decode cX8_look 32 = .ok (.getfield 17, 3) := by decide +kernel
theorem dX8_look_35 : decode cX8_look 35 = .ok (.iload_n 1, 1) := by decide +kernel
theorem dX8_look_36 : decode cX8_look 36 = .ok (.aaload, 1) := by decide +kernel
theorem dX8_look_37 : decode cX8_look 37 = .ok (.astore_n 3, 1) := by decide +kernel
theorem dX8_look_38 : decode cX8_look 38 = .ok (.iload_n 2, 1) := by decide +kernel
theorem dX8_look_39 : decode cX8_look 39 = .ok (.tableswitch 105 0 3 #[29, 34, 62, 85], 29) := by decide +kernel
theorem dX8_look_68 : decode cX8_look 68 = .ok (.aload_n 3, 1) := by decide +kernel
theorem dX8_look_69 : decode cX8_look 69 = .ok (.getfield 107, 3) := by decide +kernel
theorem dX8_look_72 : decode cX8_look 72 = .ok (.ireturn, 1) := by decide +kernel
theorem dX8_look_73 : decode cX8_look 73 = .ok (.aload_n 3, 1) := by decide +kernel
theorem dX8_look_74 : decode cX8_look 74 = .ok (.getfield 172, 3) := by decide +kernel
theorem dX8_look_77 : decode cX8_look 77 = .ok (.iconst (-1), 1) := by decide +kernel
theorem dX8_look_78 : decode cX8_look 78 = .ok (.if_icmp .ne 7, 3) := by decide +kernel
theorem dX8_look_81 : decode cX8_look 81 = .ok (.iconst (-1), 1) := by decide +kernel
theorem dX8_look_82 : decode cX8_look 82 = .ok (.goto 18, 3) := by decide +kernel
theorem dX8_look_85 : decode cX8_look 85 = .ok (.aload_n 3, 1) := by decide +kernel
theorem dX8_look_86 : decode cX8_look 86 = .ok (.getfield 104, 3) := by decide +kernel
theorem dX8_look_89 : decode cX8_look 89 = .ok (.bipush 7, 2) := by decide +kernel
theorem dX8_look_91 : decode cX8_look 91 = .ok (.imul, 1) := by decide +kernel
theorem dX8_look_92 : decode cX8_look 92 = .ok (.aload_n 3, 1) := by decide +kernel
theorem dX8_look_93 : decode cX8_look 93 = .ok (.getfield 172, 3) := by decide +kernel
theorem dX8_look_96 : decode cX8_look 96 = .ok (.bipush 24, 2) := by decide +kernel
theorem dX8_look_98 : decode cX8_look 98 = .ok (.idiv, 1) := by decide +kernel
theorem dX8_look_99 : decode cX8_look 99 = .ok (.iadd, 1) := by decide +kernel
theorem dX8_look_100 : decode cX8_look 100 = .ok (.ireturn, 1) := by decide +kernel
theorem dX8_look_101 : decode cX8_look 101 = .ok (.aload_n 3, 1) := by decide +kernel
theorem dX8_look_102 : decode cX8_look 102 = .ok (.getfield 172, 3) := by decide +kernel
theorem dX8_look_105 : decode cX8_look 105 = .ok (.iconst (-1), 1) := by decide +kernel
theorem dX8_look_106 : decode cX8_look 106 = .ok (.if_icmp .ne 7, 3) := by decide +kernel
theorem dX8_look_109 : decode cX8_look 109 = .ok (.iconst (-1), 1) := by decide +kernel
theorem dX8_look_110 : decode cX8_look 110 = .ok (.goto 13, 3) := by decide +kernel
theorem dX8_look_113 : decode cX8_look 113 = .ok (.aload_n 3, 1) := by decide +kernel
theorem dX8_look_114 : decode cX8_look 114 = .ok (.getfield 172, 3) := by decide +kernel
theorem dX8_look_117 : decode cX8_look 117 = .ok (.bipush 24, 2) := by decide +kernel
theorem dX8_look_119 : decode cX8_look 119 = .ok (.irem, 1) := by decide +kernel
theorem dX8_look_120 : decode cX8_look 120 = .ok (.bipush 6, 2) := by decide +kernel
theorem dX8_look_122 : decode cX8_look 122 = .ok (.idiv, 1) := by decide +kernel
theorem dX8_look_123 : decode cX8_look 123 = .ok (.ireturn, 1) := by decide +kernel
theorem dX8_look_124 : decode cX8_look 124 = .ok (.aload_n 3, 1) := by decide +kernel
theorem dX8_look_125 : decode cX8_look 125 = .ok (.getfield 172, 3) := by decide +kernel
theorem dX8_look_128 : decode cX8_look 128 = .ok (.iconst (-1), 1) := by decide +kernel
theorem dX8_look_129 : decode cX8_look 129 = .ok (.if_icmp .ne 7, 3) := by decide +kernel
theorem dX8_look_132 : decode cX8_look 132 = .ok (.iconst (-1), 1) := by decide +kernel
theorem dX8_look_133 : decode cX8_look 133 = .ok (.goto 10, 3) := by decide +kernel
theorem dX8_look_136 : decode cX8_look 136 = .ok (.aload_n 3, 1) := by decide +kernel
theorem dX8_look_137 : decode cX8_look 137 = .ok (.getfield 172, 3) := by decide +kernel
theorem dX8_look_140 : decode cX8_look 140 = .ok (.bipush 6, 2) := by decide +kernel
theorem dX8_look_142 : decode cX8_look 142 = .ok (.irem, 1) := by decide +kernel
theorem dX8_look_143 : decode cX8_look 143 = .ok (.ireturn, 1) := by decide +kernel
theorem dX8_look_144 : decode cX8_look 144 = .ok (.aload_n 3, 1) := by decide +kernel
theorem dX8_look_145 : decode cX8_look 145 = .ok (.getfield 175, 3) := by decide +kernel
theorem dX8_look_148 : decode cX8_look 148 = .ok (.ireturn, 1) := by decide +kernel
theorem dX8_at_0 : decode cX8_at 0 = .ok (.iload_n 1, 1) := by decide +kernel
theorem dX8_at_1 : decode cX8_at 1 = .ok (.ifCond .lt 27, 3) := by decide +kernel
theorem dX8_at_4 : decode cX8_at 4 = .ok (.iload_n 1, 1) := by decide +kernel
theorem dX8_at_5 : decode cX8_at 5 = .ok (.sipush 357, 3) := by decide +kernel
theorem dX8_at_8 : decode cX8_at 8 = .ok (.if_icmp .ge 20, 3) := by decide +kernel
theorem dX8_at_11 : decode cX8_at 11 = .ok (.iload_n 2, 1) := by decide +kernel
theorem dX8_at_12 : decode cX8_at 12 = .ok (.ifCond .lt 16, 3) := by decide +kernel
theorem dX8_at_15 : decode cX8_at 15 = .ok (.iload_n 2, 1) := by decide +kernel
theorem dX8_at_16 : decode cX8_at 16 = .ok (.iconst 4, 1) := by decide +kernel
theorem dX8_at_17 : decode cX8_at 17 = .ok (.if_icmp .ge 11, 3) := by decide +kernel
theorem dX8_at_20 : decode cX8_at 20 = .ok (.aload_n 0, 1) := by decide +kernel
theorem dX8_at_21 : decode cX8_at 21 = .ok (.iload_n 3, 1) := by decide +kernel
theorem dX8_at_22 : decode cX8_at 22 = .ok (.invokevirtual 156, 3) := by decide +kernel
theorem dX8_at_25 : decode cX8_at 25 = .ok (.ifCond .ne 5, 3) := by decide +kernel
theorem dX8_at_28 : decode cX8_at 28 = .ok (.iconst (-1), 1) := by decide +kernel
theorem dX8_at_29 : decode cX8_at 29 = .ok (.ireturn, 1) := by decide +kernel
theorem dX8_at_30 : decode cX8_at 30 = .ok (.aload_n 0, 1) := by decide +kernel
theorem dX8_at_31 : decode cX8_at 31 = .ok (.iload_n 1, 1) := by decide +kernel
theorem dX8_at_32 : decode cX8_at 32 = .ok (.bipush 7, 2) := by decide +kernel
theorem dX8_at_34 : decode cX8_at 34 = .ok (.idiv, 1) := by decide +kernel
theorem dX8_at_35 : decode cX8_at 35 = .ok (.iload_n 1, 1) := by decide +kernel
theorem dX8_at_36 : decode cX8_at 36 = .ok (.iload_n 2, 1) := by decide +kernel
theorem dX8_at_37 : decode cX8_at 37 = .ok (.iload_n 3, 1) := by decide +kernel
theorem dX8_at_38 : decode cX8_at 38 = .ok (.invokestatic 178, 3) := by decide +kernel
theorem dX8_at_41 : decode cX8_at 41 = .ok (.invokevirtual 182, 3) := by decide +kernel
theorem dX8_at_44 : decode cX8_at 44 = .ok (.ireturn, 1) := by decide +kernel
theorem dX8_club_0 : decode cX8_club 0 = .ok (.iload_n 1, 1) := by decide +kernel
theorem dX8_club_1 : decode cX8_club 1 = .ok (.invokestatic 90, 3) := by decide +kernel
theorem dX8_club_4 : decode cX8_club 4 = .ok (.ifCond .ne 5, 3) := by decide +kernel
theorem dX8_club_7 : decode cX8_club 7 = .ok (.iconst (-1), 1) := by decide +kernel
theorem dX8_club_8 : decode cX8_club 8 = .ok (.ireturn, 1) := by decide +kernel
theorem dX8_club_9 : decode cX8_club 9 = .ok (.iload_n 2, 1) := by decide +kernel
theorem dX8_club_10 : decode cX8_club 10 = .ok (.tableswitch 47 0 2 #[26, 33, 40], 26) := by decide +kernel
theorem dX8_club_36 : decode cX8_club 36 = .ok (.aload_n 0, 1) := by decide +kernel
theorem dX8_club_37 : decode cX8_club 37 = .ok (.getfield 25, 3) := by decide +kernel
theorem dX8_club_40 : decode cX8_club 40 = .ok (.iload_n 1, 1) := by decide +kernel
theorem dX8_club_41 : decode cX8_club 41 = .ok (.iaload, 1) := by decide +kernel
theorem dX8_club_42 : decode cX8_club 42 = .ok (.ireturn, 1) := by decide +kernel
theorem dX8_club_43 : decode cX8_club 43 = .ok (.aload_n 0, 1) := by decide +kernel
theorem dX8_club_44 : decode cX8_club 44 = .ok (.getfield 28, 3) := by decide +kernel
theorem dX8_club_47 : decode cX8_club 47 = .ok (.iload_n 1, 1) := by decide +kernel
theorem dX8_club_48 : decode cX8_club 48 = .ok (.iaload, 1) := by decide +kernel
theorem dX8_club_49 : decode cX8_club 49 = .ok (.ireturn, 1) := by decide +kernel
theorem dX8_club_50 : decode cX8_club 50 = .ok (.aload_n 0, 1) := by decide +kernel
theorem dX8_club_51 : decode cX8_club 51 = .ok (.getfield 31, 3) := by decide +kernel
theorem dX8_club_54 : decode cX8_club 54 = .ok (.iload_n 1, 1) := by decide +kernel
theorem dX8_club_55 : decode cX8_club 55 = .ok (.iaload, 1) := by decide +kernel
end
section
theorem dX8_club_56 : decode cX8_club 56 = .ok (.ireturn, 1) := by decide +kernel
theorem dX8_club_57 : decode cX8_club 57 = .ok (.iconst (-1), 1) := by decide +kernel
theorem dX8_club_58 : decode cX8_club 58 = .ok (.ireturn, 1) := by decide +kernel
theorem dX8_field_0 : decode cX8_field 0 = .ok (.aload_n 0, 1) := by decide +kernel
theorem dX8_field_1 : decode cX8_field 1 = .ok (.iload_n 1, 1) := by decide +kernel
theorem dX8_field_2 : decode cX8_field 2 = .ok (.invokevirtual 156, 3) := by decide +kernel
theorem dX8_field_5 : decode cX8_field 5 = .ok (.ifCond .ne 5, 3) := by decide +kernel
theorem dX8_field_8 : decode cX8_field 8 = .ok (.iconst (-1), 1) := by decide +kernel
theorem dX8_field_9 : decode cX8_field 9 = .ok (.ireturn, 1) := by decide +kernel
theorem dX8_field_10 : decode cX8_field 10 = .ok (.aload_n 0, 1) := by decide +kernel
theorem dX8_field_11 : decode cX8_field 11 = .ok (.getfield 11, 3) := by decide +kernel
theorem dX8_field_14 : decode cX8_field 14 = .ok (.iload_n 1, 1) := by decide +kernel
theorem dX8_field_15 : decode cX8_field 15 = .ok (.aaload, 1) := by decide +kernel
theorem dX8_field_16 : decode cX8_field 16 = .ok (.astore_n 3, 1) := by decide +kernel
theorem dX8_field_17 : decode cX8_field 17 = .ok (.iload_n 2, 1) := by decide +kernel
theorem dX8_field_18 : decode cX8_field 18 = .ok (.tableswitch 80 0 5 #[38, 46, 54, 62, 67, 72], 38) := by decide +kernel
theorem dX8_field_56 : decode cX8_field 56 = .ok (.aload_n 3, 1) := by decide +kernel
theorem dX8_field_57 : decode cX8_field 57 = .ok (.getfield 143, 3) := by decide +kernel
theorem dX8_field_60 : decode cX8_field 60 = .ok (.getfield 159, 3) := by decide +kernel
theorem dX8_field_63 : decode cX8_field 63 = .ok (.ireturn, 1) := by decide +kernel
theorem dX8_field_64 : decode cX8_field 64 = .ok (.aload_n 3, 1) := by decide +kernel
theorem dX8_field_65 : decode cX8_field 65 = .ok (.getfield 143, 3) := by decide +kernel
theorem dX8_field_68 : decode cX8_field 68 = .ok (.invokevirtual 186, 3) := by decide +kernel
theorem dX8_field_71 : decode cX8_field 71 = .ok (.ireturn, 1) := by decide +kernel
theorem dX8_field_72 : decode cX8_field 72 = .ok (.aload_n 3, 1) := by decide +kernel
theorem dX8_field_73 : decode cX8_field 73 = .ok (.getfield 143, 3) := by decide +kernel
theorem dX8_field_76 : decode cX8_field 76 = .ok (.invokevirtual 190, 3) := by decide +kernel
theorem dX8_field_79 : decode cX8_field 79 = .ok (.ireturn, 1) := by decide +kernel
theorem dX8_field_80 : decode cX8_field 80 = .ok (.aload_n 3, 1) := by decide +kernel
theorem dX8_field_81 : decode cX8_field 81 = .ok (.getfield 193, 3) := by decide +kernel
theorem dX8_field_84 : decode cX8_field 84 = .ok (.ireturn, 1) := by decide +kernel
theorem dX8_field_85 : decode cX8_field 85 = .ok (.aload_n 3, 1) := by decide +kernel
theorem dX8_field_86 : decode cX8_field 86 = .ok (.getfield 196, 3) := by decide +kernel
theorem dX8_field_89 : decode cX8_field 89 = .ok (.ireturn, 1) := by decide +kernel
theorem dX8_field_90 : decode cX8_field 90 = .ok (.aload_n 3, 1) := by decide +kernel
theorem dX8_field_91 : decode cX8_field 91 = .ok (.getfield 143, 3) := by decide +kernel
theorem dX8_field_94 : decode cX8_field 94 = .ok (.getfield 199, 3) := by decide +kernel
theorem dX8_field_97 : decode cX8_field 97 = .ok (.ireturn, 1) := by decide +kernel
theorem dX8_field_98 : decode cX8_field 98 = .ok (.iconst (-1), 1) := by decide +kernel
theorem dX8_field_99 : decode cX8_field 99 = .ok (.ireturn, 1) := by decide +kernel
theorem dX8_would_0 : decode cX8_would 0 = .ok (.aload_n 0, 1) := by decide +kernel
theorem dX8_would_1 : decode cX8_would 1 = .ok (.iload_n 1, 1) := by decide +kernel
theorem dX8_would_2 : decode cX8_would 2 = .ok (.invokevirtual 156, 3) := by decide +kernel
theorem dX8_would_5 : decode cX8_would 5 = .ok (.ifCond .ne 5, 3) := by decide +kernel
theorem dX8_would_8 : decode cX8_would 8 = .ok (.iconst (-1), 1) := by decide +kernel
theorem dX8_would_9 : decode cX8_would 9 = .ok (.ireturn, 1) := by decide +kernel
theorem dX8_would_10 : decode cX8_would 10 = .ok (.aload_n 0, 1) := by decide +kernel
theorem dX8_would_11 : decode cX8_would 11 = .ok (.getfield 11, 3) := by decide +kernel
theorem dX8_would_14 : decode cX8_would 14 = .ok (.iload_n 1, 1) := by decide +kernel
theorem dX8_would_15 : decode cX8_would 15 = .ok (.aaload, 1) := by decide +kernel
theorem dX8_would_16 : decode cX8_would 16 = .ok (.getfield 153, 3) := by decide +kernel
theorem dX8_would_19 : decode cX8_would 19 = .ok (.astore_n 3, 1) := by decide +kernel
theorem dX8_would_20 : decode cX8_would 20 = .ok (.iload_n 2, 1) := by decide +kernel
theorem dX8_would_21 : decode cX8_would 21 = .ok (.tableswitch 42 0 2 #[27, 32, 37], 27) := by decide +kernel
theorem dX8_would_48 : decode cX8_would 48 = .ok (.aload_n 3, 1) := by decide +kernel
theorem dX8_would_49 : decode cX8_would 49 = .ok (.invokevirtual 186, 3) := by decide +kernel
theorem dX8_would_52 : decode cX8_would 52 = .ok (.ireturn, 1) := by decide +kernel
theorem dX8_would_53 : decode cX8_would 53 = .ok (.aload_n 3, 1) := by decide +kernel
theorem dX8_would_54 : decode cX8_would 54 = .ok (.invokevirtual 190, 3) := by decide +kernel
theorem dX8_would_57 : decode cX8_would 57 = .ok (.ireturn, 1) := by decide +kernel
theorem dX8_would_58 : decode cX8_would 58 = .ok (.aload_n 3, 1) := by decide +kernel
theorem dX8_would_59 : decode cX8_would 59 = .ok (.getfield 199, 3) := by decide +kernel
theorem dX8_would_62 : decode cX8_would 62 = .ok (.ireturn, 1) := by decide +kernel
theorem dX8_would_63 : decode cX8_would 63 = .ok (.iconst (-1), 1) := by decide +kernel
theorem dX8_would_64 : decode cX8_would 64 = .ok (.ireturn, 1) := by decide +kernel
theorem dX8_count_0 : decode cX8_count 0 = .ok (.iload_n 1, 1) := by decide +kernel
theorem dX8_count_1 : decode cX8_count 1 = .ok (.tableswitch 115 0 9 #[55, 60, 65, 70, 76, 82, 88, 94, 102, 110], 55) := by decide +kernel
theorem dX8_count_56 : decode cX8_count 56 = .ok (.aload_n 0, 1) := by decide +kernel
theorem dX8_count_57 : decode cX8_count 57 = .ok (.getfield 77, 3) := by decide +kernel
theorem dX8_count_60 : decode cX8_count 60 = .ok (.ireturn, 1) := by decide +kernel
theorem dX8_count_61 : decode cX8_count 61 = .ok (.aload_n 0, 1) := by decide +kernel
theorem dX8_count_62 : decode cX8_count 62 = .ok (.getfield 81, 3) := by decide +kernel
theorem dX8_count_65 : decode cX8_count 65 = .ok (.ireturn, 1) := by decide +kernel
theorem dX8_count_66 : decode cX8_count 66 = .ok (.aload_n 0, 1) := by decide +kernel
theorem dX8_count_67 : decode cX8_count 67 = .ok (.getfield 84, 3) := by decide +kernel
theorem dX8_count_70 : decode cX8_count 70 = .ok (.ireturn, 1) := by decide +kernel
theorem dX8_count_71 : decode cX8_count 71 = .ok (.aload_n 0, 1) := by decide +kernel
theorem dX8_count_72 : decode cX8_count 72 = .ok (.iconst 0, 1) := by decide +kernel
theorem dX8_count_73 : decode cX8_count 73 = .ok (.invokevirtual 202, 3) := by decide +kernel
theorem dX8_count_76 : decode cX8_count 76 = .ok (.ireturn, 1) := by decide +kernel
theorem dX8_count_77 : decode cX8_count 77 = .ok (.aload_n 0, 1) := by decide +kernel
theorem dX8_count_78 : decode cX8_count 78 = .ok (.iconst 1, 1) := by decide +kernel
theorem dX8_count_79 : decode cX8_count 79 = .ok (.invokevirtual 202, 3) := by decide +kernel
theorem dX8_count_82 : decode cX8_count 82 = .ok (.ireturn, 1) := by decide +kernel
theorem dX8_count_83 : decode cX8_count 83 = .ok (.aload_n 0, 1) := by decide +kernel
theorem dX8_count_84 : decode cX8_count 84 = .ok (.iconst 2, 1) := by decide +kernel
theorem dX8_count_85 : decode cX8_count 85 = .ok (.invokevirtual 202, 3) := by decide +kernel
theorem dX8_count_88 : decode cX8_count 88 = .ok (.ireturn, 1) := by decide +kernel
theorem dX8_count_89 : decode cX8_count 89 = .ok (.aload_n 0, 1) := by decide +kernel
theorem dX8_count_90 : decode cX8_count 90 = .ok (.iconst 3, 1) := by decide +kernel
theorem dX8_count_91 : decode cX8_count 91 = .ok (.invokevirtual 202, 3) := by decide +kernel
theorem dX8_count_94 : decode cX8_count 94 = .ok (.ireturn, 1) := by decide +kernel
theorem dX8_count_95 : decode cX8_count 95 = .ok (.aload_n 0, 1) := by decide +kernel
theorem dX8_count_96 : decode cX8_count 96 = .ok (.getfield 70, 3) := by decide +kernel
theorem dX8_count_99 : decode cX8_count 99 = .ok (.getfield 205, 3) := by decide +kernel
theorem dX8_count_102 : decode cX8_count 102 = .ok (.ireturn, 1) := by decide +kernel
theorem dX8_count_103 : decode cX8_count 103 = .ok (.aload_n 0, 1) := by decide +kernel
theorem dX8_count_104 : decode cX8_count 104 = .ok (.getfield 49, 3) := by decide +kernel
theorem dX8_count_107 : decode cX8_count 107 = .ok (.getfield 125, 3) := by decide +kernel
theorem dX8_count_110 : decode cX8_count 110 = .ok (.ireturn, 1) := by decide +kernel
theorem dX8_count_111 : decode cX8_count 111 = .ok (.aload_n 0, 1) := by decide +kernel
theorem dX8_count_112 : decode cX8_count 112 = .ok (.invokevirtual 208, 3) := by decide +kernel
theorem dX8_count_115 : decode cX8_count 115 = .ok (.ireturn, 1) := by decide +kernel
theorem dX8_count_116 : decode cX8_count 116 = .ok (.iconst (-1), 1) := by decide +kernel
theorem dX8_count_117 : decode cX8_count 117 = .ok (.ireturn, 1) := by decide +kernel
theorem dX8_isClub_0 : decode cX8_isClub 0 = .ok (.iload_n 0, 1) := by decide +kernel
theorem dX8_isClub_1 : decode cX8_isClub 1 = .ok (.ifCond .lt 13, 3) := by decide +kernel
theorem dX8_isClub_4 : decode cX8_isClub 4 = .ok (.iload_n 0, 1) := by decide +kernel
theorem dX8_isClub_5 : decode cX8_isClub 5 = .ok (.bipush 16, 2) := by decide +kernel
theorem dX8_isClub_7 : decode cX8_isClub 7 = .ok (.if_icmp .ge 7, 3) := by decide +kernel
theorem dX8_isClub_10 : decode cX8_isClub 10 = .ok (.iconst 1, 1) := by decide +kernel
theorem dX8_isClub_11 : decode cX8_isClub 11 = .ok (.goto 4, 3) := by decide +kernel
theorem dX8_isClub_14 : decode cX8_isClub 14 = .ok (.iconst 0, 1) := by decide +kernel
theorem dX8_isClub_15 : decode cX8_isClub 15 = .ok (.ireturn, 1) := by decide +kernel
theorem dX8_isPitch_0 : decode cX8_isPitch 0 = .ok (.iload_n 1, 1) := by decide +kernel
theorem dX8_isPitch_1 : decode cX8_isPitch 1 = .ok (.ifCond .lt 15, 3) := by decide +kernel
theorem dX8_isPitch_4 : decode cX8_isPitch 4 = .ok (.iload_n 1, 1) := by decide +kernel
theorem dX8_isPitch_5 : decode cX8_isPitch 5 = .ok (.aload_n 0, 1) := by decide +kernel
theorem dX8_isPitch_6 : decode cX8_isPitch 6 = .ok (.getfield 77, 3) := by decide +kernel
theorem dX8_isPitch_9 : decode cX8_isPitch 9 = .ok (.if_icmp .ge 7, 3) := by decide +kernel
theorem dX8_isPitch_12 : decode cX8_isPitch 12 = .ok (.iconst 1, 1) := by decide +kernel
theorem dX8_isPitch_13 : decode cX8_isPitch 13 = .ok (.goto 4, 3) := by decide +kernel
theorem dX8_isPitch_16 : decode cX8_isPitch 16 = .ok (.iconst 0, 1) := by decide +kernel
theorem dX8_isPitch_17 : decode cX8_isPitch 17 = .ok (.ireturn, 1) := by decide +kernel
theorem dX8_isWeekToCome_0 : decode cX8_isWeekToCome 0 = .ok (.iload_n 1, 1) := by decide +kernel
theorem dX8_isWeekToCome_1 : decode cX8_isWeekToCome 1 = .ok (.ifCond .lt 26, 3) := by decide +kernel
theorem dX8_isWeekToCome_4 : decode cX8_isWeekToCome 4 = .ok (.iload_n 1, 1) := by decide +kernel
theorem dX8_isWeekToCome_5 : decode cX8_isWeekToCome 5 = .ok (.bipush 51, 2) := by decide +kernel
theorem dX8_isWeekToCome_7 : decode cX8_isWeekToCome 7 = .ok (.if_icmp .ge 20, 3) := by decide +kernel
theorem dX8_isWeekToCome_10 : decode cX8_isWeekToCome 10 = .ok (.aload_n 0, 1) := by decide +kernel
theorem dX8_isWeekToCome_11 : decode cX8_isWeekToCome 11 = .ok (.getfield 84, 3) := by decide +kernel
theorem dX8_isWeekToCome_14 : decode cX8_isWeekToCome 14 = .ok (.iload_n 1, 1) := by decide +kernel
theorem dX8_isWeekToCome_15 : decode cX8_isWeekToCome 15 = .ok (.iconst 1, 1) := by decide +kernel
theorem dX8_isWeekToCome_16 : decode cX8_isWeekToCome 16 = .ok (.iadd, 1) := by decide +kernel
theorem dX8_isWeekToCome_17 : decode cX8_isWeekToCome 17 = .ok (.bipush 7, 2) := by decide +kernel
theorem dX8_isWeekToCome_19 : decode cX8_isWeekToCome 19 = .ok (.imul, 1) := by decide +kernel
theorem dX8_isWeekToCome_20 : decode cX8_isWeekToCome 20 = .ok (.if_icmp .ge 7, 3) := by decide +kernel
theorem dX8_isWeekToCome_23 : decode cX8_isWeekToCome 23 = .ok (.iconst 1, 1) := by decide +kernel
theorem dX8_isWeekToCome_24 : decode cX8_isWeekToCome 24 = .ok (.goto 4, 3) := by decide +kernel
theorem dX8_isWeekToCome_27 : decode cX8_isWeekToCome 27 = .ok (.iconst 0, 1) := by decide +kernel
theorem dX8_isWeekToCome_28 : decode cX8_isWeekToCome 28 = .ok (.ireturn, 1) := by decide +kernel
theorem dX8_slotOf_0 : decode cX8_slotOf 0 = .ok (.iload_n 0, 1) := by decide +kernel
theorem dX8_slotOf_1 : decode cX8_slotOf 1 = .ok (.bipush 7, 2) := by decide +kernel
theorem dX8_slotOf_3 : decode cX8_slotOf 3 = .ok (.irem, 1) := by decide +kernel
theorem dX8_slotOf_4 : decode cX8_slotOf 4 = .ok (.bipush 24, 2) := by decide +kernel
theorem dX8_slotOf_6 : decode cX8_slotOf 6 = .ok (.imul, 1) := by decide +kernel
theorem dX8_slotOf_7 : decode cX8_slotOf 7 = .ok (.iload_n 1, 1) := by decide +kernel
theorem dX8_slotOf_8 : decode cX8_slotOf 8 = .ok (.bipush 6, 2) := by decide +kernel
theorem dX8_slotOf_10 : decode cX8_slotOf 10 = .ok (.imul, 1) := by decide +kernel
theorem dX8_slotOf_11 : decode cX8_slotOf 11 = .ok (.iadd, 1) := by decide +kernel
theorem dX8_slotOf_12 : decode cX8_slotOf 12 = .ok (.iload_n 2, 1) := by decide +kernel
theorem dX8_slotOf_13 : decode cX8_slotOf 13 = .ok (.iadd, 1) := by decide +kernel
theorem dX8_slotOf_14 : decode cX8_slotOf 14 = .ok (.ireturn, 1) := by decide +kernel
theorem dX8_gameIn_0 : decode cX8_gameIn 0 = .ok (.iconst 0, 1) := by decide +kernel
theorem dX8_gameIn_1 : decode cX8_gameIn 1 = .ok (.istore_n 3, 1) := by decide +kernel
theorem dX8_gameIn_2 : decode cX8_gameIn 2 = .ok (.iload_n 3, 1) := by decide +kernel
theorem dX8_gameIn_3 : decode cX8_gameIn 3 = .ok (.aload_n 0, 1) := by decide +kernel
theorem dX8_gameIn_4 : decode cX8_gameIn 4 = .ok (.getfield 81, 3) := by decide +kernel
theorem dX8_gameIn_7 : decode cX8_gameIn 7 = .ok (.if_icmp .ge 37, 3) := by decide +kernel
theorem dX8_gameIn_10 : decode cX8_gameIn 10 = .ok (.aload_n 0, 1) := by decide +kernel
theorem dX8_gameIn_11 : decode cX8_gameIn 11 = .ok (.getfield 17, 3) := by decide +kernel
theorem dX8_gameIn_14 : decode cX8_gameIn 14 = .ok (.iload_n 3, 1) := by decide +kernel
theorem dX8_gameIn_15 : decode cX8_gameIn 15 = .ok (.aaload, 1) := by decide +kernel
theorem dX8_gameIn_16 : decode cX8_gameIn 16 = .ok (.getfield 104, 3) := by decide +kernel
theorem dX8_gameIn_19 : decode cX8_gameIn 19 = .ok (.iload_n 1, 1) := by decide +kernel
theorem dX8_gameIn_20 : decode cX8_gameIn 20 = .ok (.if_icmp .ne 18, 3) := by decide +kernel
theorem dX8_gameIn_23 : decode cX8_gameIn 23 = .ok (.aload_n 0, 1) := by decide +kernel
theorem dX8_gameIn_24 : decode cX8_gameIn 24 = .ok (.getfield 17, 3) := by decide +kernel
theorem dX8_gameIn_27 : decode cX8_gameIn 27 = .ok (.iload_n 3, 1) := by decide +kernel
theorem dX8_gameIn_28 : decode cX8_gameIn 28 = .ok (.aaload, 1) := by decide +kernel
theorem dX8_gameIn_29 : decode cX8_gameIn 29 = .ok (.getfield 172, 3) := by decide +kernel
theorem dX8_gameIn_32 : decode cX8_gameIn 32 = .ok (.iload_n 2, 1) := by decide +kernel
theorem dX8_gameIn_33 : decode cX8_gameIn 33 = .ok (.if_icmp .ne 5, 3) := by decide +kernel
theorem dX8_gameIn_36 : decode cX8_gameIn 36 = .ok (.iload_n 3, 1) := by decide +kernel
theorem dX8_gameIn_37 : decode cX8_gameIn 37 = .ok (.ireturn, 1) := by decide +kernel
theorem dX8_gameIn_38 : decode cX8_gameIn 38 = .ok (.iinc 3 1, 3) := by decide +kernel
theorem dX8_gameIn_41 : decode cX8_gameIn 41 = .ok (.goto (-39), 3) := by decide +kernel
theorem dX8_gameIn_44 : decode cX8_gameIn 44 = .ok (.iconst (-1), 1) := by decide +kernel
theorem dX8_gameIn_45 : decode cX8_gameIn 45 = .ok (.ireturn, 1) := by decide +kernel
theorem dX8_gamesThatAre_0 : decode cX8_gamesThatAre 0 = .ok (.iconst 0, 1) := by decide +kernel
theorem dX8_gamesThatAre_1 : decode cX8_gamesThatAre 1 = .ok (.istore_n 2, 1) := by decide +kernel
theorem dX8_gamesThatAre_2 : decode cX8_gamesThatAre 2 = .ok (.iconst 0, 1) := by decide +kernel
theorem dX8_gamesThatAre_3 : decode cX8_gamesThatAre 3 = .ok (.istore_n 3, 1) := by decide +kernel
theorem dX8_gamesThatAre_4 : decode cX8_gamesThatAre 4 = .ok (.iload_n 3, 1) := by decide +kernel
theorem dX8_gamesThatAre_5 : decode cX8_gamesThatAre 5 = .ok (.aload_n 0, 1) := by decide +kernel
theorem dX8_gamesThatAre_6 : decode cX8_gamesThatAre 6 = .ok (.getfield 81, 3) := by decide +kernel
theorem dX8_gamesThatAre_9 : decode cX8_gamesThatAre 9 = .ok (.if_icmp .ge 25, 3) := by decide +kernel
theorem dX8_gamesThatAre_12 : decode cX8_gamesThatAre 12 = .ok (.aload_n 0, 1) := by decide +kernel
theorem dX8_gamesThatAre_13 : decode cX8_gamesThatAre 13 = .ok (.getfield 17, 3) := by decide +kernel
theorem dX8_gamesThatAre_16 : decode cX8_gamesThatAre 16 = .ok (.iload_n 3, 1) := by decide +kernel
theorem dX8_gamesThatAre_17 : decode cX8_gamesThatAre 17 = .ok (.aaload, 1) := by decide +kernel
theorem dX8_gamesThatAre_18 : decode cX8_gamesThatAre 18 = .ok (.getfield 107, 3) := by decide +kernel
theorem dX8_gamesThatAre_21 : decode cX8_gamesThatAre 21 = .ok (.iload_n 1, 1) := by decide +kernel
theorem dX8_gamesThatAre_22 : decode cX8_gamesThatAre 22 = .ok (.if_icmp .ne 6, 3) := by decide +kernel
theorem dX8_gamesThatAre_25 : decode cX8_gamesThatAre 25 = .ok (.iinc 2 1, 3) := by decide +kernel
theorem dX8_gamesThatAre_28 : decode cX8_gamesThatAre 28 = .ok (.iinc 3 1, 3) := by decide +kernel
theorem dX8_gamesThatAre_31 : decode cX8_gamesThatAre 31 = .ok (.goto (-27), 3) := by decide +kernel
theorem dX8_gamesThatAre_34 : decode cX8_gamesThatAre 34 = .ok (.iload_n 2, 1) := by decide +kernel
theorem dX8_gamesThatAre_35 : decode cX8_gamesThatAre 35 = .ok (.ireturn, 1) := by decide +kernel
theorem dX8_newGamesOf_0 : decode cX8_newGamesOf 0 = .ok (.iconst 0, 1) := by decide +kernel
theorem dX8_newGamesOf_1 : decode cX8_newGamesOf 1 = .ok (.istore_n 2, 1) := by decide +kernel
theorem dX8_newGamesOf_2 : decode cX8_newGamesOf 2 = .ok (.iconst 0, 1) := by decide +kernel
theorem dX8_newGamesOf_3 : decode cX8_newGamesOf 3 = .ok (.istore_n 3, 1) := by decide +kernel
theorem dX8_newGamesOf_4 : decode cX8_newGamesOf 4 = .ok (.iload_n 3, 1) := by decide +kernel
theorem dX8_newGamesOf_5 : decode cX8_newGamesOf 5 = .ok (.aload_n 0, 1) := by decide +kernel
theorem dX8_newGamesOf_6 : decode cX8_newGamesOf 6 = .ok (.getfield 81, 3) := by decide +kernel
theorem dX8_newGamesOf_9 : decode cX8_newGamesOf 9 = .ok (.if_icmp .ge 37, 3) := by decide +kernel
theorem dX8_newGamesOf_12 : decode cX8_newGamesOf 12 = .ok (.aload_n 0, 1) := by decide +kernel
theorem dX8_newGamesOf_13 : decode cX8_newGamesOf 13 = .ok (.getfield 17, 3) := by decide +kernel
theorem dX8_newGamesOf_16 : decode cX8_newGamesOf 16 = .ok (.iload_n 3, 1) := by decide +kernel
theorem dX8_newGamesOf_17 : decode cX8_newGamesOf 17 = .ok (.aaload, 1) := by decide +kernel
theorem dX8_newGamesOf_18 : decode cX8_newGamesOf 18 = .ok (.getfield 104, 3) := by decide +kernel
theorem dX8_newGamesOf_21 : decode cX8_newGamesOf 21 = .ok (.iload_n 1, 1) := by decide +kernel
theorem dX8_newGamesOf_22 : decode cX8_newGamesOf 22 = .ok (.if_icmp .ne 18, 3) := by decide +kernel
theorem dX8_newGamesOf_25 : decode cX8_newGamesOf 25 = .ok (.aload_n 0, 1) := by decide +kernel
theorem dX8_newGamesOf_26 : decode cX8_newGamesOf 26 = .ok (.getfield 17, 3) := by decide +kernel
theorem dX8_newGamesOf_29 : decode cX8_newGamesOf 29 = .ok (.iload_n 3, 1) := by decide +kernel
theorem dX8_newGamesOf_30 : decode cX8_newGamesOf 30 = .ok (.aaload, 1) := by decide +kernel
theorem dX8_newGamesOf_31 : decode cX8_newGamesOf 31 = .ok (.getfield 107, 3) := by decide +kernel
theorem dX8_newGamesOf_34 : decode cX8_newGamesOf 34 = .ok (.ifCond .ne 6, 3) := by decide +kernel
theorem dX8_newGamesOf_37 : decode cX8_newGamesOf 37 = .ok (.iinc 2 1, 3) := by decide +kernel
theorem dX8_newGamesOf_40 : decode cX8_newGamesOf 40 = .ok (.iinc 3 1, 3) := by decide +kernel
theorem dX8_newGamesOf_43 : decode cX8_newGamesOf 43 = .ok (.goto (-39), 3) := by decide +kernel
theorem dX8_newGamesOf_46 : decode cX8_newGamesOf 46 = .ok (.iload_n 2, 1) := by decide +kernel
theorem dX8_newGamesOf_47 : decode cX8_newGamesOf 47 = .ok (.ireturn, 1) := by decide +kernel
theorem dX8_allHoursShut_0 : decode cX8_allHoursShut 0 = .ok (.iconst 0, 1) := by decide +kernel
theorem dX8_allHoursShut_1 : decode cX8_allHoursShut 1 = .ok (.istore_n 1, 1) := by decide +kernel
theorem dX8_allHoursShut_2 : decode cX8_allHoursShut 2 = .ok (.iconst 0, 1) := by decide +kernel
theorem dX8_allHoursShut_3 : decode cX8_allHoursShut 3 = .ok (.istore_n 2, 1) := by decide +kernel
theorem dX8_allHoursShut_4 : decode cX8_allHoursShut 4 = .ok (.iload_n 2, 1) := by decide +kernel
theorem dX8_allHoursShut_5 : decode cX8_allHoursShut 5 = .ok (.aload_n 0, 1) := by decide +kernel
theorem dX8_allHoursShut_6 : decode cX8_allHoursShut 6 = .ok (.getfield 77, 3) := by decide +kernel
theorem dX8_allHoursShut_9 : decode cX8_allHoursShut 9 = .ok (.if_icmp .ge 21, 3) := by decide +kernel
theorem dX8_allHoursShut_12 : decode cX8_allHoursShut 12 = .ok (.iload_n 1, 1) := by decide +kernel
theorem dX8_allHoursShut_13 : decode cX8_allHoursShut 13 = .ok (.aload_n 0, 1) := by decide +kernel
theorem dX8_allHoursShut_14 : decode cX8_allHoursShut 14 = .ok (.getfield 11, 3) := by decide +kernel
theorem dX8_allHoursShut_17 : decode cX8_allHoursShut 17 = .ok (.iload_n 2, 1) := by decide +kernel
theorem dX8_allHoursShut_18 : decode cX8_allHoursShut 18 = .ok (.aaload, 1) := by decide +kernel
theorem dX8_allHoursShut_19 : decode cX8_allHoursShut 19 = .ok (.getfield 196, 3) := by decide +kernel
theorem dX8_allHoursShut_22 : decode cX8_allHoursShut 22 = .ok (.iadd, 1) := by decide +kernel
theorem dX8_allHoursShut_23 : decode cX8_allHoursShut 23 = .ok (.istore_n 1, 1) := by decide +kernel
theorem dX8_allHoursShut_24 : decode cX8_allHoursShut 24 = .ok (.iinc 2 1, 3) := by decide +kernel
theorem dX8_allHoursShut_27 : decode cX8_allHoursShut 27 = .ok (.goto (-23), 3) := by decide +kernel
theorem dX8_allHoursShut_30 : decode cX8_allHoursShut 30 = .ok (.iload_n 1, 1) := by decide +kernel
theorem dX8_allHoursShut_31 : decode cX8_allHoursShut 31 = .ok (.ireturn, 1) := by decide +kernel
theorem dX8_showWeek_0 : decode cX8_showWeek 0 = .ok (.aload_n 0, 1) := by decide +kernel
theorem dX8_showWeek_1 : decode cX8_showWeek 1 = .ok (.getfield 42, 3) := by decide +kernel
theorem dX8_showWeek_4 : decode cX8_showWeek 4 = .ok (.invokevirtual 211, 3) := by decide +kernel
theorem dX8_showWeek_7 : decode cX8_showWeek 7 = .ok (.iconst 0, 1) := by decide +kernel
theorem dX8_showWeek_8 : decode cX8_showWeek 8 = .ok (.istore_n 2, 1) := by decide +kernel
theorem dX8_showWeek_9 : decode cX8_showWeek 9 = .ok (.iload_n 2, 1) := by decide +kernel
theorem dX8_showWeek_10 : decode cX8_showWeek 10 = .ok (.aload_n 0, 1) := by decide +kernel
theorem dX8_showWeek_11 : decode cX8_showWeek 11 = .ok (.getfield 81, 3) := by decide +kernel
theorem dX8_showWeek_14 : decode cX8_showWeek 14 = .ok (.if_icmp .ge 60, 3) := by decide +kernel
theorem dX8_showWeek_17 : decode cX8_showWeek 17 = .ok (.aload_n 0, 1) := by decide +kernel
theorem dX8_showWeek_18 : decode cX8_showWeek 18 = .ok (.getfield 17, 3) := by decide +kernel
theorem dX8_showWeek_21 : decode cX8_showWeek 21 = .ok (.iload_n 2, 1) := by decide +kernel
theorem dX8_showWeek_22 : decode cX8_showWeek 22 = .ok (.aaload, 1) := by decide +kernel
theorem dX8_showWeek_23 : decode cX8_showWeek 23 = .ok (.getfield 104, 3) := by decide +kernel
theorem dX8_showWeek_26 : decode cX8_showWeek 26 = .ok (.iload_n 1, 1) := by decide +kernel
theorem dX8_showWeek_27 : decode cX8_showWeek 27 = .ok (.if_icmp .ne 41, 3) := by decide +kernel
theorem dX8_showWeek_30 : decode cX8_showWeek 30 = .ok (.aload_n 0, 1) := by decide +kernel
theorem dX8_showWeek_31 : decode cX8_showWeek 31 = .ok (.getfield 17, 3) := by decide +kernel
theorem dX8_showWeek_34 : decode cX8_showWeek 34 = .ok (.iload_n 2, 1) := by decide +kernel
theorem dX8_showWeek_35 : decode cX8_showWeek 35 = .ok (.aaload, 1) := by decide +kernel
theorem dX8_showWeek_36 : decode cX8_showWeek 36 = .ok (.getfield 172, 3) := by decide +kernel
theorem dX8_showWeek_39 : decode cX8_showWeek 39 = .ok (.iconst (-1), 1) := by decide +kernel
theorem dX8_showWeek_40 : decode cX8_showWeek 40 = .ok (.if_icmp .eq 28, 3) := by decide +kernel
theorem dX8_showWeek_43 : decode cX8_showWeek 43 = .ok (.aload_n 0, 1) := by decide +kernel
theorem dX8_showWeek_44 : decode cX8_showWeek 44 = .ok (.getfield 42, 3) := by decide +kernel
theorem dX8_showWeek_47 : decode cX8_showWeek 47 = .ok (.aload_n 0, 1) := by decide +kernel
theorem dX8_showWeek_48 : decode cX8_showWeek 48 = .ok (.getfield 17, 3) := by decide +kernel
theorem dX8_showWeek_51 : decode cX8_showWeek 51 = .ok (.iload_n 2, 1) := by decide +kernel
theorem dX8_showWeek_52 : decode cX8_showWeek 52 = .ok (.aaload, 1) := by decide +kernel
theorem dX8_showWeek_53 : decode cX8_showWeek 53 = .ok (.getfield 172, 3) := by decide +kernel
theorem dX8_showWeek_56 : decode cX8_showWeek 56 = .ok (.aload_n 0, 1) := by decide +kernel
theorem dX8_showWeek_57 : decode cX8_showWeek 57 = .ok (.getfield 17, 3) := by decide +kernel
theorem dX8_showWeek_60 : decode cX8_showWeek 60 = .ok (.iload_n 2, 1) := by decide +kernel
theorem dX8_showWeek_61 : decode cX8_showWeek 61 = .ok (.aaload, 1) := by decide +kernel
theorem dX8_showWeek_62 : decode cX8_showWeek 62 = .ok (.getfield 214, 3) := by decide +kernel
theorem dX8_showWeek_65 : decode cX8_showWeek 65 = .ok (.invokevirtual 217, 3) := by decide +kernel
theorem dX8_showWeek_68 : decode cX8_showWeek 68 = .ok (.iinc 2 1, 3) := by decide +kernel
theorem dX8_showWeek_71 : decode cX8_showWeek 71 = .ok (.goto (-62), 3) := by decide +kernel
theorem dX8_showWeek_74 : decode cX8_showWeek 74 = .ok (.return_, 1) := by decide +kernel
theorem dX8_layGame_0 : decode cX8_layGame 0 = .ok (.aload_n 0, 1) := by decide +kernel
theorem dX8_layGame_1 : decode cX8_layGame 1 = .ok (.aload_n 1, 1) := by decide +kernel
theorem dX8_layGame_2 : decode cX8_layGame 2 = .ok (.iconst (-1), 1) := by decide +kernel
theorem dX8_layGame_3 : decode cX8_layGame 3 = .ok (.invokevirtual 220, 3) := by decide +kernel
theorem dX8_layGame_6 : decode cX8_layGame 6 = .ok (.istore_n 2, 1) := by decide +kernel
theorem dX8_layGame_7 : decode cX8_layGame 7 = .ok (.iload_n 2, 1) := by decide +kernel
theorem dX8_layGame_8 : decode cX8_layGame 8 = .ok (.iconst (-1), 1) := by decide +kernel
theorem dX8_layGame_9 : decode cX8_layGame 9 = .ok (.if_icmp .ne 11, 3) := by decide +kernel
theorem dX8_layGame_12 : decode cX8_layGame 12 = .ok (.aload_n 0, 1) := by decide +kernel
theorem dX8_layGame_13 : decode cX8_layGame 13 = .ok (.aload_n 1, 1) := by decide +kernel
theorem dX8_layGame_14 : decode cX8_layGame 14 = .ok (.invokevirtual 224, 3) := by decide +kernel
theorem dX8_layGame_17 : decode cX8_layGame 17 = .ok (.goto 25, 3) := by decide +kernel
theorem dX8_layGame_20 : decode cX8_layGame 20 = .ok (.aload_n 0, 1) := by decide +kernel
theorem dX8_layGame_21 : decode cX8_layGame 21 = .ok (.getfield 42, 3) := by decide +kernel
theorem dX8_layGame_24 : decode cX8_layGame 24 = .ok (.iload_n 2, 1) := by decide +kernel
theorem dX8_layGame_25 : decode cX8_layGame 25 = .ok (.aload_n 1, 1) := by decide +kernel
theorem dX8_layGame_26 : decode cX8_layGame 26 = .ok (.getfield 214, 3) := by decide +kernel
theorem dX8_layGame_29 : decode cX8_layGame 29 = .ok (.invokevirtual 217, 3) := by decide +kernel
theorem dX8_layGame_32 : decode cX8_layGame 32 = .ok (.aload_n 1, 1) := by decide +kernel
theorem dX8_layGame_33 : decode cX8_layGame 33 = .ok (.iload_n 2, 1) := by decide +kernel
theorem dX8_layGame_34 : decode cX8_layGame 34 = .ok (.putfield 172, 3) := by decide +kernel
theorem dX8_layGame_37 : decode cX8_layGame 37 = .ok (.aload_n 1, 1) := by decide +kernel
theorem dX8_layGame_38 : decode cX8_layGame 38 = .ok (.iconst 1, 1) := by decide +kernel
theorem dX8_layGame_39 : decode cX8_layGame 39 = .ok (.putfield 107, 3) := by decide +kernel
theorem dX8_layGame_42 : decode cX8_layGame 42 = .ok (.return_, 1) := by decide +kernel
theorem dX8_firstWish_0 : decode cX8_firstWish 0 = .ok (.aload_n 0, 1) := by decide +kernel
theorem dX8_firstWish_1 : decode cX8_firstWish 1 = .ok (.getfield 84, 3) := by decide +kernel
theorem dX8_firstWish_4 : decode cX8_firstWish 4 = .ok (.aload_n 1, 1) := by decide +kernel
theorem dX8_firstWish_5 : decode cX8_firstWish 5 = .ok (.getfield 104, 3) := by decide +kernel
theorem dX8_firstWish_8 : decode cX8_firstWish 8 = .ok (.bipush 7, 2) := by decide +kernel
theorem dX8_firstWish_10 : decode cX8_firstWish 10 = .ok (.imul, 1) := by decide +kernel
theorem dX8_firstWish_11 : decode cX8_firstWish 11 = .ok (.isub, 1) := by decide +kernel
theorem dX8_firstWish_12 : decode cX8_firstWish 12 = .ok (.istore_n 3, 1) := by decide +kernel
theorem dX8_firstWish_13 : decode cX8_firstWish 13 = .ok (.aload_n 0, 1) := by decide +kernel
theorem dX8_firstWish_14 : decode cX8_firstWish 14 = .ok (.getfield 42, 3) := by decide +kernel
theorem dX8_firstWish_17 : decode cX8_firstWish 17 = .ok (.aload_n 1, 1) := by decide +kernel
theorem dX8_firstWish_18 : decode cX8_firstWish 18 = .ok (.getfield 214, 3) := by decide +kernel
theorem dX8_firstWish_21 : decode cX8_firstWish 21 = .ok (.aload_n 0, 1) := by decide +kernel
theorem dX8_firstWish_22 : decode cX8_firstWish 22 = .ok (.getfield 21, 3) := by decide +kernel
theorem dX8_firstWish_25 : decode cX8_firstWish 25 = .ok (.aload_n 1, 1) := by decide +kernel
theorem dX8_firstWish_26 : decode cX8_firstWish 26 = .ok (.getfield 227, 3) := by decide +kernel
theorem dX8_firstWish_29 : decode cX8_firstWish 29 = .ok (.iaload, 1) := by decide +kernel
theorem dX8_firstWish_30 : decode cX8_firstWish 30 = .ok (.aload_n 1, 1) := by decide +kernel
theorem dX8_firstWish_31 : decode cX8_firstWish 31 = .ok (.getfield 230, 3) := by decide +kernel
theorem dX8_firstWish_34 : decode cX8_firstWish 34 = .ok (.iload_n 3, 1) := by decide +kernel
theorem dX8_firstWish_35 : decode cX8_firstWish 35 = .ok (.iload_n 2, 1) := by decide +kernel
theorem dX8_firstWish_36 : decode cX8_firstWish 36 = .ok (.invokevirtual 233, 3) := by decide +kernel
theorem dX8_firstWish_39 : decode cX8_firstWish 39 = .ok (.ireturn, 1) := by decide +kernel
theorem dX8_layInPlaceOfAnother_0 : decode cX8_layInPlaceOfAnother 0 = .ok (.iconst 0, 1) := by decide +kernel
theorem dX8_layInPlaceOfAnother_1 : decode cX8_layInPlaceOfAnother 1 = .ok (.istore_n 2, 1) := by decide +kernel
theorem dX8_layInPlaceOfAnother_2 : decode cX8_layInPlaceOfAnother 2 = .ok (.iconst 0, 1) := by decide +kernel
theorem dX8_layInPlaceOfAnother_3 : decode cX8_layInPlaceOfAnother 3 = .ok (.istore_n 3, 1) := by decide +kernel
theorem dX8_layInPlaceOfAnother_4 : decode cX8_layInPlaceOfAnother 4 = .ok (.iload_n 3, 1) := by decide +kernel
theorem dX8_layInPlaceOfAnother_5 : decode cX8_layInPlaceOfAnother 5 = .ok (.aload_n 0, 1) := by decide +kernel
theorem dX8_layInPlaceOfAnother_6 : decode cX8_layInPlaceOfAnother 6 = .ok (.getfield 81, 3) := by decide +kernel
theorem dX8_layInPlaceOfAnother_9 : decode cX8_layInPlaceOfAnother 9 = .ok (.if_icmp .ge 54, 3) := by decide +kernel
theorem dX8_layInPlaceOfAnother_12 : decode cX8_layInPlaceOfAnother 12 = .ok (.iload_n 2, 1) := by decide +kernel
theorem dX8_layInPlaceOfAnother_13 : decode cX8_layInPlaceOfAnother 13 = .ok (.ifCond .ne 50, 3) := by decide +kernel
theorem dX8_layInPlaceOfAnother_16 : decode cX8_layInPlaceOfAnother 16 = .ok (.aload_n 0, 1) := by decide +kernel
theorem dX8_layInPlaceOfAnother_17 : decode cX8_layInPlaceOfAnother 17 = .ok (.getfield 17, 3) := by decide +kernel
theorem dX8_layInPlaceOfAnother_20 : decode cX8_layInPlaceOfAnother 20 = .ok (.iload_n 3, 1) := by decide +kernel
theorem dX8_layInPlaceOfAnother_21 : decode cX8_layInPlaceOfAnother 21 = .ok (.aaload, 1) := by decide +kernel
theorem dX8_layInPlaceOfAnother_22 : decode cX8_layInPlaceOfAnother 22 = .ok (.getfield 104, 3) := by decide +kernel
theorem dX8_layInPlaceOfAnother_25 : decode cX8_layInPlaceOfAnother 25 = .ok (.aload_n 1, 1) := by decide +kernel
theorem dX8_layInPlaceOfAnother_26 : decode cX8_layInPlaceOfAnother 26 = .ok (.getfield 104, 3) := by decide +kernel
theorem dX8_layInPlaceOfAnother_29 : decode cX8_layInPlaceOfAnother 29 = .ok (.if_icmp .ne 28, 3) := by decide +kernel
theorem dX8_layInPlaceOfAnother_32 : decode cX8_layInPlaceOfAnother 32 = .ok (.aload_n 0, 1) := by decide +kernel
theorem dX8_layInPlaceOfAnother_33 : decode cX8_layInPlaceOfAnother 33 = .ok (.getfield 17, 3) := by decide +kernel
theorem dX8_layInPlaceOfAnother_36 : decode cX8_layInPlaceOfAnother 36 = .ok (.iload_n 3, 1) := by decide +kernel
theorem dX8_layInPlaceOfAnother_37 : decode cX8_layInPlaceOfAnother 37 = .ok (.aaload, 1) := by decide +kernel
theorem dX8_layInPlaceOfAnother_38 : decode cX8_layInPlaceOfAnother 38 = .ok (.getfield 107, 3) := by decide +kernel
theorem dX8_layInPlaceOfAnother_41 : decode cX8_layInPlaceOfAnother 41 = .ok (.iconst 1, 1) := by decide +kernel
theorem dX8_layInPlaceOfAnother_42 : decode cX8_layInPlaceOfAnother 42 = .ok (.if_icmp .ne 15, 3) := by decide +kernel
theorem dX8_layInPlaceOfAnother_45 : decode cX8_layInPlaceOfAnother 45 = .ok (.aload_n 0, 1) := by decide +kernel
theorem dX8_layInPlaceOfAnother_46 : decode cX8_layInPlaceOfAnother 46 = .ok (.aload_n 0, 1) := by decide +kernel
theorem dX8_layInPlaceOfAnother_47 : decode cX8_layInPlaceOfAnother 47 = .ok (.getfield 17, 3) := by decide +kernel
theorem dX8_layInPlaceOfAnother_50 : decode cX8_layInPlaceOfAnother 50 = .ok (.iload_n 3, 1) := by decide +kernel
theorem dX8_layInPlaceOfAnother_51 : decode cX8_layInPlaceOfAnother 51 = .ok (.aaload, 1) := by decide +kernel
theorem dX8_layInPlaceOfAnother_52 : decode cX8_layInPlaceOfAnother 52 = .ok (.aload_n 1, 1) := by decide +kernel
theorem dX8_layInPlaceOfAnother_53 : decode cX8_layInPlaceOfAnother 53 = .ok (.invokevirtual 237, 3) := by decide +kernel
theorem dX8_layInPlaceOfAnother_56 : decode cX8_layInPlaceOfAnother 56 = .ok (.istore_n 2, 1) := by decide +kernel
theorem dX8_layInPlaceOfAnother_57 : decode cX8_layInPlaceOfAnother 57 = .ok (.iinc 3 1, 3) := by decide +kernel
theorem dX8_layInPlaceOfAnother_60 : decode cX8_layInPlaceOfAnother 60 = .ok (.goto (-56), 3) := by decide +kernel
theorem dX8_layInPlaceOfAnother_63 : decode cX8_layInPlaceOfAnother 63 = .ok (.return_, 1) := by decide +kernel
theorem dX8_givesWay_0 : decode cX8_givesWay 0 = .ok (.aload_n 0, 1) := by decide +kernel
theorem dX8_givesWay_1 : decode cX8_givesWay 1 = .ok (.getfield 42, 3) := by decide +kernel
theorem dX8_givesWay_4 : decode cX8_givesWay 4 = .ok (.aload_n 1, 1) := by decide +kernel
theorem dX8_givesWay_5 : decode cX8_givesWay 5 = .ok (.getfield 172, 3) := by decide +kernel
theorem dX8_givesWay_8 : decode cX8_givesWay 8 = .ok (.aload_n 1, 1) := by decide +kernel
theorem dX8_givesWay_9 : decode cX8_givesWay 9 = .ok (.getfield 214, 3) := by decide +kernel
theorem dX8_givesWay_12 : decode cX8_givesWay 12 = .ok (.invokevirtual 241, 3) := by decide +kernel
theorem dX8_givesWay_15 : decode cX8_givesWay 15 = .ok (.aload_n 0, 1) := by decide +kernel
theorem dX8_givesWay_16 : decode cX8_givesWay 16 = .ok (.aload_n 2, 1) := by decide +kernel
theorem dX8_givesWay_17 : decode cX8_givesWay 17 = .ok (.iconst (-1), 1) := by decide +kernel
theorem dX8_givesWay_18 : decode cX8_givesWay 18 = .ok (.invokevirtual 220, 3) := by decide +kernel
theorem dX8_givesWay_21 : decode cX8_givesWay 21 = .ok (.istore_n 3, 1) := by decide +kernel
theorem dX8_givesWay_22 : decode cX8_givesWay 22 = .ok (.iload_n 3, 1) := by decide +kernel
theorem dX8_givesWay_23 : decode cX8_givesWay 23 = .ok (.iconst (-1), 1) := by decide +kernel
theorem dX8_givesWay_24 : decode cX8_givesWay 24 = .ok (.if_icmp .eq 75, 3) := by decide +kernel
theorem dX8_givesWay_27 : decode cX8_givesWay 27 = .ok (.aload_n 0, 1) := by decide +kernel
theorem dX8_givesWay_28 : decode cX8_givesWay 28 = .ok (.getfield 42, 3) := by decide +kernel
theorem dX8_givesWay_31 : decode cX8_givesWay 31 = .ok (.iload_n 3, 1) := by decide +kernel
theorem dX8_givesWay_32 : decode cX8_givesWay 32 = .ok (.aload_n 2, 1) := by decide +kernel
theorem dX8_givesWay_33 : decode cX8_givesWay 33 = .ok (.getfield 214, 3) := by decide +kernel
theorem dX8_givesWay_36 : decode cX8_givesWay 36 = .ok (.invokevirtual 217, 3) := by decide +kernel
theorem dX8_givesWay_39 : decode cX8_givesWay 39 = .ok (.aload_n 0, 1) := by decide +kernel
theorem dX8_givesWay_40 : decode cX8_givesWay 40 = .ok (.aload_n 1, 1) := by decide +kernel
theorem dX8_givesWay_41 : decode cX8_givesWay 41 = .ok (.aload_n 1, 1) := by decide +kernel
theorem dX8_givesWay_42 : decode cX8_givesWay 42 = .ok (.getfield 172, 3) := by decide +kernel
theorem dX8_givesWay_45 : decode cX8_givesWay 45 = .ok (.invokevirtual 220, 3) := by decide +kernel
theorem dX8_givesWay_48 : decode cX8_givesWay 48 = .ok (.istore 4, 2) := by decide +kernel
theorem dX8_givesWay_50 : decode cX8_givesWay 50 = .ok (.iload 4, 2) := by decide +kernel
theorem dX8_givesWay_52 : decode cX8_givesWay 52 = .ok (.iconst (-1), 1) := by decide +kernel
theorem dX8_givesWay_53 : decode cX8_givesWay 53 = .ok (.if_icmp .eq 34, 3) := by decide +kernel
theorem dX8_givesWay_56 : decode cX8_givesWay 56 = .ok (.aload_n 0, 1) := by decide +kernel
theorem dX8_givesWay_57 : decode cX8_givesWay 57 = .ok (.getfield 42, 3) := by decide +kernel
theorem dX8_givesWay_60 : decode cX8_givesWay 60 = .ok (.iload 4, 2) := by decide +kernel
theorem dX8_givesWay_62 : decode cX8_givesWay 62 = .ok (.aload_n 1, 1) := by decide +kernel
theorem dX8_givesWay_63 : decode cX8_givesWay 63 = .ok (.getfield 214, 3) := by decide +kernel
theorem dX8_givesWay_66 : decode cX8_givesWay 66 = .ok (.invokevirtual 217, 3) := by decide +kernel
theorem dX8_givesWay_69 : decode cX8_givesWay 69 = .ok (.aload_n 1, 1) := by decide +kernel
theorem dX8_givesWay_70 : decode cX8_givesWay 70 = .ok (.iload 4, 2) := by decide +kernel
theorem dX8_givesWay_72 : decode cX8_givesWay 72 = .ok (.putfield 172, 3) := by decide +kernel
theorem dX8_givesWay_75 : decode cX8_givesWay 75 = .ok (.aload_n 2, 1) := by decide +kernel
theorem dX8_givesWay_76 : decode cX8_givesWay 76 = .ok (.iload_n 3, 1) := by decide +kernel
theorem dX8_givesWay_77 : decode cX8_givesWay 77 = .ok (.putfield 172, 3) := by decide +kernel
theorem dX8_givesWay_80 : decode cX8_givesWay 80 = .ok (.aload_n 2, 1) := by decide +kernel
theorem dX8_givesWay_81 : decode cX8_givesWay 81 = .ok (.iconst 1, 1) := by decide +kernel
theorem dX8_givesWay_82 : decode cX8_givesWay 82 = .ok (.putfield 107, 3) := by decide +kernel
theorem dX8_givesWay_85 : decode cX8_givesWay 85 = .ok (.iconst 1, 1) := by decide +kernel
theorem dX8_givesWay_86 : decode cX8_givesWay 86 = .ok (.ireturn, 1) := by decide +kernel
theorem dX8_givesWay_87 : decode cX8_givesWay 87 = .ok (.aload_n 0, 1) := by decide +kernel
theorem dX8_givesWay_88 : decode cX8_givesWay 88 = .ok (.getfield 42, 3) := by decide +kernel
theorem dX8_givesWay_91 : decode cX8_givesWay 91 = .ok (.iload_n 3, 1) := by decide +kernel
theorem dX8_givesWay_92 : decode cX8_givesWay 92 = .ok (.aload_n 2, 1) := by decide +kernel
theorem dX8_givesWay_93 : decode cX8_givesWay 93 = .ok (.getfield 214, 3) := by decide +kernel
theorem dX8_givesWay_96 : decode cX8_givesWay 96 = .ok (.invokevirtual 241, 3) := by decide +kernel
theorem dX8_givesWay_99 : decode cX8_givesWay 99 = .ok (.aload_n 0, 1) := by decide +kernel
theorem dX8_givesWay_100 : decode cX8_givesWay 100 = .ok (.getfield 42, 3) := by decide +kernel
theorem dX8_givesWay_103 : decode cX8_givesWay 103 = .ok (.aload_n 1, 1) := by decide +kernel
theorem dX8_givesWay_104 : decode cX8_givesWay 104 = .ok (.getfield 172, 3) := by decide +kernel
theorem dX8_givesWay_107 : decode cX8_givesWay 107 = .ok (.aload_n 1, 1) := by decide +kernel
theorem dX8_givesWay_108 : decode cX8_givesWay 108 = .ok (.getfield 214, 3) := by decide +kernel
theorem dX8_givesWay_111 : decode cX8_givesWay 111 = .ok (.invokevirtual 217, 3) := by decide +kernel
theorem dX8_givesWay_114 : decode cX8_givesWay 114 = .ok (.iconst 0, 1) := by decide +kernel
theorem dX8_givesWay_115 : decode cX8_givesWay 115 = .ok (.ireturn, 1) := by decide +kernel
theorem dX8_beginWeek_0 : decode cX8_beginWeek 0 = .ok (.iconst 0, 1) := by decide +kernel
theorem dX8_beginWeek_1 : decode cX8_beginWeek 1 = .ok (.istore_n 1, 1) := by decide +kernel
theorem dX8_beginWeek_2 : decode cX8_beginWeek 2 = .ok (.iload_n 1, 1) := by decide +kernel
theorem dX8_beginWeek_3 : decode cX8_beginWeek 3 = .ok (.aload_n 0, 1) := by decide +kernel
theorem dX8_beginWeek_4 : decode cX8_beginWeek 4 = .ok (.getfield 77, 3) := by decide +kernel
theorem dX8_beginWeek_7 : decode cX8_beginWeek 7 = .ok (.if_icmp .ge 19, 3) := by decide +kernel
theorem dX8_beginWeek_10 : decode cX8_beginWeek 10 = .ok (.aload_n 0, 1) := by decide +kernel
theorem dX8_beginWeek_11 : decode cX8_beginWeek 11 = .ok (.getfield 11, 3) := by decide +kernel
theorem dX8_beginWeek_14 : decode cX8_beginWeek 14 = .ok (.iload_n 1, 1) := by decide +kernel
theorem dX8_beginWeek_15 : decode cX8_beginWeek 15 = .ok (.aaload, 1) := by decide +kernel
theorem dX8_beginWeek_16 : decode cX8_beginWeek 16 = .ok (.iconst 0, 1) := by decide +kernel
theorem dX8_beginWeek_17 : decode cX8_beginWeek 17 = .ok (.putfield 244, 3) := by decide +kernel
theorem dX8_beginWeek_20 : decode cX8_beginWeek 20 = .ok (.iinc 1 1, 3) := by decide +kernel
theorem dX8_beginWeek_23 : decode cX8_beginWeek 23 = .ok (.goto (-21), 3) := by decide +kernel
theorem dX8_beginWeek_26 : decode cX8_beginWeek 26 = .ok (.return_, 1) := by decide +kernel
theorem dX8_passHour_0 : decode cX8_passHour 0 = .ok (.iload_n 1, 1) := by decide +kernel
theorem dX8_passHour_1 : decode cX8_passHour 1 = .ok (.iload_n 2, 1) := by decide +kernel
theorem dX8_passHour_2 : decode cX8_passHour 2 = .ok (.iload_n 3, 1) := by decide +kernel
theorem dX8_passHour_3 : decode cX8_passHour 3 = .ok (.invokestatic 178, 3) := by decide +kernel
theorem dX8_passHour_6 : decode cX8_passHour 6 = .ok (.istore 4, 2) := by decide +kernel
theorem dX8_passHour_8 : decode cX8_passHour 8 = .ok (.aload_n 0, 1) := by decide +kernel
theorem dX8_passHour_9 : decode cX8_passHour 9 = .ok (.getfield 42, 3) := by decide +kernel
theorem dX8_passHour_12 : decode cX8_passHour 12 = .ok (.iload 4, 2) := by decide +kernel
theorem dX8_passHour_14 : decode cX8_passHour 14 = .ok (.invokevirtual 247, 3) := by decide +kernel
theorem dX8_passHour_17 : decode cX8_passHour 17 = .ok (.ifCond .eq 16, 3) := by decide +kernel
theorem dX8_passHour_20 : decode cX8_passHour 20 = .ok (.aload_n 0, 1) := by decide +kernel
theorem dX8_passHour_21 : decode cX8_passHour 21 = .ok (.iload_n 1, 1) := by decide +kernel
theorem dX8_passHour_22 : decode cX8_passHour 22 = .ok (.bipush 7, 2) := by decide +kernel
theorem dX8_passHour_24 : decode cX8_passHour 24 = .ok (.idiv, 1) := by decide +kernel
theorem dX8_passHour_25 : decode cX8_passHour 25 = .ok (.iload 4, 2) := by decide +kernel
theorem dX8_passHour_27 : decode cX8_passHour 27 = .ok (.invokevirtual 182, 3) := by decide +kernel
theorem dX8_passHour_30 : decode cX8_passHour 30 = .ok (.goto 4, 3) := by decide +kernel
theorem dX8_passHour_33 : decode cX8_passHour 33 = .ok (.iconst (-1), 1) := by decide +kernel
theorem dX8_passHour_34 : decode cX8_passHour 34 = .ok (.istore 5, 2) := by decide +kernel
theorem dX8_passHour_36 : decode cX8_passHour 36 = .ok (.aload_n 0, 1) := by decide +kernel
theorem dX8_passHour_37 : decode cX8_passHour 37 = .ok (.getfield 11, 3) := by decide +kernel
theorem dX8_passHour_40 : decode cX8_passHour 40 = .ok (.iload_n 3, 1) := by decide +kernel
theorem dX8_passHour_41 : decode cX8_passHour 41 = .ok (.aaload, 1) := by decide +kernel
theorem dX8_passHour_42 : decode cX8_passHour 42 = .ok (.astore 6, 2) := by decide +kernel
theorem dX8_passHour_44 : decode cX8_passHour 44 = .ok (.aload_n 0, 1) := by decide +kernel
theorem dX8_passHour_45 : decode cX8_passHour 45 = .ok (.iload_n 3, 1) := by decide +kernel
theorem dX8_passHour_46 : decode cX8_passHour 46 = .ok (.iload_n 2, 1) := by decide +kernel
theorem dX8_passHour_47 : decode cX8_passHour 47 = .ok (.iload 5, 2) := by decide +kernel
theorem dX8_passHour_49 : decode cX8_passHour 49 = .ok (.iconst (-1), 1) := by decide +kernel
theorem dX8_passHour_50 : decode cX8_passHour 50 = .ok (.if_icmp .ne 7, 3) := by decide +kernel
theorem dX8_passHour_53 : decode cX8_passHour 53 = .ok (.iconst (-1), 1) := by decide +kernel
theorem dX8_passHour_54 : decode cX8_passHour 54 = .ok (.goto 13, 3) := by decide +kernel
theorem dX8_passHour_57 : decode cX8_passHour 57 = .ok (.aload_n 0, 1) := by decide +kernel
theorem dX8_passHour_58 : decode cX8_passHour 58 = .ok (.getfield 17, 3) := by decide +kernel
theorem dX8_passHour_61 : decode cX8_passHour 61 = .ok (.iload 5, 2) := by decide +kernel
theorem dX8_passHour_63 : decode cX8_passHour 63 = .ok (.aaload, 1) := by decide +kernel
theorem dX8_passHour_64 : decode cX8_passHour 64 = .ok (.getfield 227, 3) := by decide +kernel
theorem dX8_passHour_67 : decode cX8_passHour 67 = .ok (.invokevirtual 250, 3) := by decide +kernel
theorem dX8_passHour_70 : decode cX8_passHour 70 = .ok (.ifCond .eq 38, 3) := by decide +kernel
theorem dX8_passHour_73 : decode cX8_passHour 73 = .ok (.aload 6, 2) := by decide +kernel
theorem dX8_passHour_75 : decode cX8_passHour 75 = .ok (.dup, 1) := by decide +kernel
theorem dX8_passHour_76 : decode cX8_passHour 76 = .ok (.getfield 196, 3) := by decide +kernel
theorem dX8_passHour_79 : decode cX8_passHour 79 = .ok (.iconst 1, 1) := by decide +kernel
theorem dX8_passHour_80 : decode cX8_passHour 80 = .ok (.iadd, 1) := by decide +kernel
theorem dX8_passHour_81 : decode cX8_passHour 81 = .ok (.putfield 196, 3) := by decide +kernel
theorem dX8_passHour_84 : decode cX8_passHour 84 = .ok (.iload 5, 2) := by decide +kernel
theorem dX8_passHour_86 : decode cX8_passHour 86 = .ok (.iconst (-1), 1) := by decide +kernel
theorem dX8_passHour_87 : decode cX8_passHour 87 = .ok (.if_icmp .eq 40, 3) := by decide +kernel
theorem dX8_passHour_90 : decode cX8_passHour 90 = .ok (.aload_n 0, 1) := by decide +kernel
theorem dX8_passHour_91 : decode cX8_passHour 91 = .ok (.aload_n 0, 1) := by decide +kernel
theorem dX8_passHour_92 : decode cX8_passHour 92 = .ok (.getfield 17, 3) := by decide +kernel
theorem dX8_passHour_95 : decode cX8_passHour 95 = .ok (.iload 5, 2) := by decide +kernel
theorem dX8_passHour_97 : decode cX8_passHour 97 = .ok (.aaload, 1) := by decide +kernel
theorem dX8_passHour_98 : decode cX8_passHour 98 = .ok (.iload_n 1, 1) := by decide +kernel
theorem dX8_passHour_99 : decode cX8_passHour 99 = .ok (.bipush 7, 2) := by decide +kernel
theorem dX8_passHour_101 : decode cX8_passHour 101 = .ok (.irem, 1) := by decide +kernel
theorem dX8_passHour_102 : decode cX8_passHour 102 = .ok (.invokevirtual 254, 3) := by decide +kernel
theorem dX8_passHour_105 : decode cX8_passHour 105 = .ok (.goto 22, 3) := by decide +kernel
theorem dX8_passHour_108 : decode cX8_passHour 108 = .ok (.iload 5, 2) := by decide +kernel
theorem dX8_passHour_110 : decode cX8_passHour 110 = .ok (.iconst (-1), 1) := by decide +kernel
theorem dX8_passHour_111 : decode cX8_passHour 111 = .ok (.if_icmp .eq 16, 3) := by decide +kernel
theorem dX8_passHour_114 : decode cX8_passHour 114 = .ok (.aload_n 0, 1) := by decide +kernel
theorem dX8_passHour_115 : decode cX8_passHour 115 = .ok (.aload_n 0, 1) := by decide +kernel
theorem dX8_passHour_116 : decode cX8_passHour 116 = .ok (.getfield 17, 3) := by decide +kernel
theorem dX8_passHour_119 : decode cX8_passHour 119 = .ok (.iload 5, 2) := by decide +kernel
theorem dX8_passHour_121 : decode cX8_passHour 121 = .ok (.aaload, 1) := by decide +kernel
theorem dX8_passHour_122 : decode cX8_passHour 122 = .ok (.aload 6, 2) := by decide +kernel
theorem dX8_passHour_124 : decode cX8_passHour 124 = .ok (.invokevirtual 258, 3) := by decide +kernel
theorem dX8_passHour_127 : decode cX8_passHour 127 = .ok (.return_, 1) := by decide +kernel
theorem dX8_isShut_0 : decode cX8_isShut 0 = .ok (.aload_n 0, 1) := by decide +kernel
theorem dX8_isShut_1 : decode cX8_isShut 1 = .ok (.getfield 70, 3) := by decide +kernel
theorem dX8_isShut_4 : decode cX8_isShut 4 = .ok (.getfield 205, 3) := by decide +kernel
theorem dX8_isShut_7 : decode cX8_isShut 7 = .ok (.ifCond .ne 5, 3) := by decide +kernel
theorem dX8_isShut_10 : decode cX8_isShut 10 = .ok (.iconst 0, 1) := by decide +kernel
theorem dX8_isShut_11 : decode cX8_isShut 11 = .ok (.ireturn, 1) := by decide +kernel
theorem dX8_isShut_12 : decode cX8_isShut 12 = .ok (.aload_n 0, 1) := by decide +kernel
theorem dX8_isShut_13 : decode cX8_isShut 13 = .ok (.getfield 11, 3) := by decide +kernel
theorem dX8_isShut_16 : decode cX8_isShut 16 = .ok (.iload_n 1, 1) := by decide +kernel
theorem dX8_isShut_17 : decode cX8_isShut 17 = .ok (.aaload, 1) := by decide +kernel
theorem dX8_isShut_18 : decode cX8_isShut 18 = .ok (.astore 4, 2) := by decide +kernel
theorem dX8_isShut_20 : decode cX8_isShut 20 = .ok (.aload_n 0, 1) := by decide +kernel
theorem dX8_isShut_21 : decode cX8_isShut 21 = .ok (.getfield 36, 3) := by decide +kernel
theorem dX8_isShut_24 : decode cX8_isShut 24 = .ok (.iconst 2, 1) := by decide +kernel
theorem dX8_isShut_25 : decode cX8_isShut 25 = .ok (.aload 4, 2) := by decide +kernel
theorem dX8_isShut_27 : decode cX8_isShut 27 = .ok (.getfield 143, 3) := by decide +kernel
theorem dX8_isShut_30 : decode cX8_isShut 30 = .ok (.invokevirtual 186, 3) := by decide +kernel
theorem dX8_isShut_33 : decode cX8_isShut 33 = .ok (.iastore, 1) := by decide +kernel
theorem dX8_isShut_34 : decode cX8_isShut 34 = .ok (.aload_n 0, 1) := by decide +kernel
theorem dX8_isShut_35 : decode cX8_isShut 35 = .ok (.getfield 36, 3) := by decide +kernel
theorem dX8_isShut_38 : decode cX8_isShut 38 = .ok (.iconst 3, 1) := by decide +kernel
theorem dX8_isShut_39 : decode cX8_isShut 39 = .ok (.aload 4, 2) := by decide +kernel
theorem dX8_isShut_41 : decode cX8_isShut 41 = .ok (.getfield 143, 3) := by decide +kernel
theorem dX8_isShut_44 : decode cX8_isShut 44 = .ok (.invokevirtual 190, 3) := by decide +kernel
theorem dX8_isShut_47 : decode cX8_isShut 47 = .ok (.iastore, 1) := by decide +kernel
theorem dX8_isShut_48 : decode cX8_isShut 48 = .ok (.aload_n 0, 1) := by decide +kernel
theorem dX8_isShut_49 : decode cX8_isShut 49 = .ok (.getfield 36, 3) := by decide +kernel
theorem dX8_isShut_52 : decode cX8_isShut 52 = .ok (.iconst 4, 1) := by decide +kernel
theorem dX8_isShut_53 : decode cX8_isShut 53 = .ok (.aload 4, 2) := by decide +kernel
theorem dX8_isShut_55 : decode cX8_isShut 55 = .ok (.getfield 244, 3) := by decide +kernel
theorem dX8_isShut_58 : decode cX8_isShut 58 = .ok (.iastore, 1) := by decide +kernel
theorem dX8_isShut_59 : decode cX8_isShut 59 = .ok (.aload_n 0, 1) := by decide +kernel
theorem dX8_isShut_60 : decode cX8_isShut 60 = .ok (.getfield 36, 3) := by decide +kernel
theorem dX8_isShut_63 : decode cX8_isShut 63 = .ok (.bipush 6, 2) := by decide +kernel
theorem dX8_isShut_65 : decode cX8_isShut 65 = .ok (.iload_n 2, 1) := by decide +kernel
theorem dX8_isShut_66 : decode cX8_isShut 66 = .ok (.iastore, 1) := by decide +kernel
theorem dX8_isShut_67 : decode cX8_isShut 67 = .ok (.aload_n 0, 1) := by decide +kernel
theorem dX8_isShut_68 : decode cX8_isShut 68 = .ok (.getfield 36, 3) := by decide +kernel
theorem dX8_isShut_71 : decode cX8_isShut 71 = .ok (.bipush 7, 2) := by decide +kernel
theorem dX8_isShut_73 : decode cX8_isShut 73 = .ok (.iload_n 3, 1) := by decide +kernel
theorem dX8_isShut_74 : decode cX8_isShut 74 = .ok (.iastore, 1) := by decide +kernel
theorem dX8_isShut_75 : decode cX8_isShut 75 = .ok (.aload_n 0, 1) := by decide +kernel
theorem dX8_isShut_76 : decode cX8_isShut 76 = .ok (.getfield 70, 3) := by decide +kernel
theorem dX8_isShut_79 : decode cX8_isShut 79 = .ok (.iload_n 1, 1) := by decide +kernel
theorem dX8_isShut_80 : decode cX8_isShut 80 = .ok (.aload_n 0, 1) := by decide +kernel
theorem dX8_isShut_81 : decode cX8_isShut 81 = .ok (.getfield 36, 3) := by decide +kernel
theorem dX8_isShut_84 : decode cX8_isShut 84 = .ok (.invokevirtual 262, 3) := by decide +kernel
theorem dX8_isShut_87 : decode cX8_isShut 87 = .ok (.ireturn, 1) := by decide +kernel
theorem dX8_sendAway_0 : decode cX8_sendAway 0 = .ok (.aload_n 0, 1) := by decide +kernel
theorem dX8_sendAway_1 : decode cX8_sendAway 1 = .ok (.getfield 28, 3) := by decide +kernel
theorem dX8_sendAway_4 : decode cX8_sendAway 4 = .ok (.aload_n 1, 1) := by decide +kernel
theorem dX8_sendAway_5 : decode cX8_sendAway 5 = .ok (.getfield 266, 3) := by decide +kernel
theorem dX8_sendAway_8 : decode cX8_sendAway 8 = .ok (.dup2, 1) := by decide +kernel
theorem dX8_sendAway_9 : decode cX8_sendAway 9 = .ok (.iaload, 1) := by decide +kernel
theorem dX8_sendAway_10 : decode cX8_sendAway 10 = .ok (.iconst 1, 1) := by decide +kernel
theorem dX8_sendAway_11 : decode cX8_sendAway 11 = .ok (.iadd, 1) := by decide +kernel
theorem dX8_sendAway_12 : decode cX8_sendAway 12 = .ok (.iastore, 1) := by decide +kernel
theorem dX8_sendAway_13 : decode cX8_sendAway 13 = .ok (.aload_n 0, 1) := by decide +kernel
theorem dX8_sendAway_14 : decode cX8_sendAway 14 = .ok (.getfield 28, 3) := by decide +kernel
theorem dX8_sendAway_17 : decode cX8_sendAway 17 = .ok (.aload_n 1, 1) := by decide +kernel
theorem dX8_sendAway_18 : decode cX8_sendAway 18 = .ok (.getfield 269, 3) := by decide +kernel
theorem dX8_sendAway_21 : decode cX8_sendAway 21 = .ok (.dup2, 1) := by decide +kernel
theorem dX8_sendAway_22 : decode cX8_sendAway 22 = .ok (.iaload, 1) := by decide +kernel
theorem dX8_sendAway_23 : decode cX8_sendAway 23 = .ok (.iconst 1, 1) := by decide +kernel
theorem dX8_sendAway_24 : decode cX8_sendAway 24 = .ok (.iadd, 1) := by decide +kernel
theorem dX8_sendAway_25 : decode cX8_sendAway 25 = .ok (.iastore, 1) := by decide +kernel
theorem dX8_sendAway_26 : decode cX8_sendAway 26 = .ok (.aload_n 0, 1) := by decide +kernel
theorem dX8_sendAway_27 : decode cX8_sendAway 27 = .ok (.getfield 42, 3) := by decide +kernel
theorem dX8_sendAway_30 : decode cX8_sendAway 30 = .ok (.aload_n 1, 1) := by decide +kernel
theorem dX8_sendAway_31 : decode cX8_sendAway 31 = .ok (.getfield 214, 3) := by decide +kernel
theorem dX8_sendAway_34 : decode cX8_sendAway 34 = .ok (.aload_n 0, 1) := by decide +kernel
theorem dX8_sendAway_35 : decode cX8_sendAway 35 = .ok (.getfield 21, 3) := by decide +kernel
theorem dX8_sendAway_38 : decode cX8_sendAway 38 = .ok (.aload_n 1, 1) := by decide +kernel
theorem dX8_sendAway_39 : decode cX8_sendAway 39 = .ok (.getfield 227, 3) := by decide +kernel
theorem dX8_sendAway_42 : decode cX8_sendAway 42 = .ok (.iaload, 1) := by decide +kernel
theorem dX8_sendAway_43 : decode cX8_sendAway 43 = .ok (.ldc 97, 2) := by decide +kernel
theorem dX8_sendAway_45 : decode cX8_sendAway 45 = .ok (.iload_n 2, 1) := by decide +kernel
theorem dX8_sendAway_46 : decode cX8_sendAway 46 = .ok (.iconst 1, 1) := by decide +kernel
theorem dX8_sendAway_47 : decode cX8_sendAway 47 = .ok (.iadd, 1) := by decide +kernel
theorem dX8_sendAway_48 : decode cX8_sendAway 48 = .ok (.iconst (-1), 1) := by decide +kernel
theorem dX8_sendAway_49 : decode cX8_sendAway 49 = .ok (.invokevirtual 233, 3) := by decide +kernel
theorem dX8_sendAway_52 : decode cX8_sendAway 52 = .ok (.istore_n 3, 1) := by decide +kernel
theorem dX8_sendAway_53 : decode cX8_sendAway 53 = .ok (.aload_n 0, 1) := by decide +kernel
theorem dX8_sendAway_54 : decode cX8_sendAway 54 = .ok (.getfield 42, 3) := by decide +kernel
theorem dX8_sendAway_57 : decode cX8_sendAway 57 = .ok (.aload_n 1, 1) := by decide +kernel
theorem dX8_sendAway_58 : decode cX8_sendAway 58 = .ok (.getfield 172, 3) := by decide +kernel
theorem dX8_sendAway_61 : decode cX8_sendAway 61 = .ok (.aload_n 1, 1) := by decide +kernel
theorem dX8_sendAway_62 : decode cX8_sendAway 62 = .ok (.getfield 214, 3) := by decide +kernel
theorem dX8_sendAway_65 : decode cX8_sendAway 65 = .ok (.invokevirtual 241, 3) := by decide +kernel
theorem dX8_sendAway_68 : decode cX8_sendAway 68 = .ok (.aload_n 1, 1) := by decide +kernel
theorem dX8_sendAway_69 : decode cX8_sendAway 69 = .ok (.iload_n 3, 1) := by decide +kernel
theorem dX8_sendAway_70 : decode cX8_sendAway 70 = .ok (.putfield 172, 3) := by decide +kernel
theorem dX8_sendAway_73 : decode cX8_sendAway 73 = .ok (.iload_n 3, 1) := by decide +kernel
theorem dX8_sendAway_74 : decode cX8_sendAway 74 = .ok (.iconst (-1), 1) := by decide +kernel
theorem dX8_sendAway_75 : decode cX8_sendAway 75 = .ok (.if_icmp .ne 37, 3) := by decide +kernel
theorem dX8_sendAway_78 : decode cX8_sendAway 78 = .ok (.aload_n 1, 1) := by decide +kernel
theorem dX8_sendAway_79 : decode cX8_sendAway 79 = .ok (.iconst 3, 1) := by decide +kernel
theorem dX8_sendAway_80 : decode cX8_sendAway 80 = .ok (.putfield 107, 3) := by decide +kernel
theorem dX8_sendAway_83 : decode cX8_sendAway 83 = .ok (.aload_n 0, 1) := by decide +kernel
theorem dX8_sendAway_84 : decode cX8_sendAway 84 = .ok (.getfield 31, 3) := by decide +kernel
theorem dX8_sendAway_87 : decode cX8_sendAway 87 = .ok (.aload_n 1, 1) := by decide +kernel
theorem dX8_sendAway_88 : decode cX8_sendAway 88 = .ok (.getfield 266, 3) := by decide +kernel
theorem dX8_sendAway_91 : decode cX8_sendAway 91 = .ok (.dup2, 1) := by decide +kernel
theorem dX8_sendAway_92 : decode cX8_sendAway 92 = .ok (.iaload, 1) := by decide +kernel
theorem dX8_sendAway_93 : decode cX8_sendAway 93 = .ok (.iconst 1, 1) := by decide +kernel
theorem dX8_sendAway_94 : decode cX8_sendAway 94 = .ok (.iadd, 1) := by decide +kernel
theorem dX8_sendAway_95 : decode cX8_sendAway 95 = .ok (.iastore, 1) := by decide +kernel
theorem dX8_sendAway_96 : decode cX8_sendAway 96 = .ok (.aload_n 0, 1) := by decide +kernel
theorem dX8_sendAway_97 : decode cX8_sendAway 97 = .ok (.getfield 31, 3) := by decide +kernel
theorem dX8_sendAway_100 : decode cX8_sendAway 100 = .ok (.aload_n 1, 1) := by decide +kernel
theorem dX8_sendAway_101 : decode cX8_sendAway 101 = .ok (.getfield 269, 3) := by decide +kernel
theorem dX8_sendAway_104 : decode cX8_sendAway 104 = .ok (.dup2, 1) := by decide +kernel
theorem dX8_sendAway_105 : decode cX8_sendAway 105 = .ok (.iaload, 1) := by decide +kernel
theorem dX8_sendAway_106 : decode cX8_sendAway 106 = .ok (.iconst 1, 1) := by decide +kernel
theorem dX8_sendAway_107 : decode cX8_sendAway 107 = .ok (.iadd, 1) := by decide +kernel
theorem dX8_sendAway_108 : decode cX8_sendAway 108 = .ok (.iastore, 1) := by decide +kernel
theorem dX8_sendAway_109 : decode cX8_sendAway 109 = .ok (.goto 25, 3) := by decide +kernel
theorem dX8_sendAway_112 : decode cX8_sendAway 112 = .ok (.aload_n 0, 1) := by decide +kernel
theorem dX8_sendAway_113 : decode cX8_sendAway 113 = .ok (.getfield 42, 3) := by decide +kernel
theorem dX8_sendAway_116 : decode cX8_sendAway 116 = .ok (.iload_n 3, 1) := by decide +kernel
theorem dX8_sendAway_117 : decode cX8_sendAway 117 = .ok (.aload_n 1, 1) := by decide +kernel
theorem dX8_sendAway_118 : decode cX8_sendAway 118 = .ok (.getfield 214, 3) := by decide +kernel
theorem dX8_sendAway_121 : decode cX8_sendAway 121 = .ok (.invokevirtual 217, 3) := by decide +kernel
theorem dX8_sendAway_124 : decode cX8_sendAway 124 = .ok (.aload_n 1, 1) := by decide +kernel
theorem dX8_sendAway_125 : decode cX8_sendAway 125 = .ok (.dup, 1) := by decide +kernel
theorem dX8_sendAway_126 : decode cX8_sendAway 126 = .ok (.getfield 175, 3) := by decide +kernel
theorem dX8_sendAway_129 : decode cX8_sendAway 129 = .ok (.iconst 1, 1) := by decide +kernel
theorem dX8_sendAway_130 : decode cX8_sendAway 130 = .ok (.iadd, 1) := by decide +kernel
theorem dX8_sendAway_131 : decode cX8_sendAway 131 = .ok (.putfield 175, 3) := by decide +kernel
theorem dX8_sendAway_134 : decode cX8_sendAway 134 = .ok (.return_, 1) := by decide +kernel
theorem dX8_playGame_0 : decode cX8_playGame 0 = .ok (.aload_n 0, 1) := by decide +kernel
theorem dX8_playGame_1 : decode cX8_playGame 1 = .ok (.getfield 36, 3) := by decide +kernel
theorem dX8_playGame_4 : decode cX8_playGame 4 = .ok (.iconst 0, 1) := by decide +kernel
theorem dX8_playGame_5 : decode cX8_playGame 5 = .ok (.iaload, 1) := by decide +kernel
theorem dX8_playGame_6 : decode cX8_playGame 6 = .ok (.istore_n 3, 1) := by decide +kernel
theorem dX8_playGame_7 : decode cX8_playGame 7 = .ok (.aload_n 1, 1) := by decide +kernel
theorem dX8_playGame_8 : decode cX8_playGame 8 = .ok (.iconst 2, 1) := by decide +kernel
theorem dX8_playGame_9 : decode cX8_playGame 9 = .ok (.putfield 107, 3) := by decide +kernel
theorem dX8_playGame_12 : decode cX8_playGame 12 = .ok (.aload_n 0, 1) := by decide +kernel
theorem dX8_playGame_13 : decode cX8_playGame 13 = .ok (.getfield 25, 3) := by decide +kernel
theorem dX8_playGame_16 : decode cX8_playGame 16 = .ok (.aload_n 1, 1) := by decide +kernel
theorem dX8_playGame_17 : decode cX8_playGame 17 = .ok (.getfield 266, 3) := by decide +kernel
theorem dX8_playGame_20 : decode cX8_playGame 20 = .ok (.dup2, 1) := by decide +kernel
theorem dX8_playGame_21 : decode cX8_playGame 21 = .ok (.iaload, 1) := by decide +kernel
theorem dX8_playGame_22 : decode cX8_playGame 22 = .ok (.iconst 1, 1) := by decide +kernel
theorem dX8_playGame_23 : decode cX8_playGame 23 = .ok (.iadd, 1) := by decide +kernel
theorem dX8_playGame_24 : decode cX8_playGame 24 = .ok (.iastore, 1) := by decide +kernel
theorem dX8_playGame_25 : decode cX8_playGame 25 = .ok (.aload_n 0, 1) := by decide +kernel
theorem dX8_playGame_26 : decode cX8_playGame 26 = .ok (.getfield 25, 3) := by decide +kernel
theorem dX8_playGame_29 : decode cX8_playGame 29 = .ok (.aload_n 1, 1) := by decide +kernel
theorem dX8_playGame_30 : decode cX8_playGame 30 = .ok (.getfield 269, 3) := by decide +kernel
theorem dX8_playGame_33 : decode cX8_playGame 33 = .ok (.dup2, 1) := by decide +kernel
theorem dX8_playGame_34 : decode cX8_playGame 34 = .ok (.iaload, 1) := by decide +kernel
theorem dX8_playGame_35 : decode cX8_playGame 35 = .ok (.iconst 1, 1) := by decide +kernel
theorem dX8_playGame_36 : decode cX8_playGame 36 = .ok (.iadd, 1) := by decide +kernel
theorem dX8_playGame_37 : decode cX8_playGame 37 = .ok (.iastore, 1) := by decide +kernel
theorem dX8_playGame_38 : decode cX8_playGame 38 = .ok (.aload_n 2, 1) := by decide +kernel
theorem dX8_playGame_39 : decode cX8_playGame 39 = .ok (.dup, 1) := by decide +kernel
theorem dX8_playGame_40 : decode cX8_playGame 40 = .ok (.getfield 193, 3) := by decide +kernel
theorem dX8_playGame_43 : decode cX8_playGame 43 = .ok (.iconst 1, 1) := by decide +kernel
theorem dX8_playGame_44 : decode cX8_playGame 44 = .ok (.iadd, 1) := by decide +kernel
theorem dX8_playGame_45 : decode cX8_playGame 45 = .ok (.putfield 193, 3) := by decide +kernel
theorem dX8_playGame_48 : decode cX8_playGame 48 = .ok (.aload_n 2, 1) := by decide +kernel
theorem dX8_playGame_49 : decode cX8_playGame 49 = .ok (.dup, 1) := by decide +kernel
theorem dX8_playGame_50 : decode cX8_playGame 50 = .ok (.getfield 244, 3) := by decide +kernel
theorem dX8_playGame_53 : decode cX8_playGame 53 = .ok (.iconst 1, 1) := by decide +kernel
theorem dX8_playGame_54 : decode cX8_playGame 54 = .ok (.iadd, 1) := by decide +kernel
theorem dX8_playGame_55 : decode cX8_playGame 55 = .ok (.putfield 244, 3) := by decide +kernel
theorem dX8_playGame_58 : decode cX8_playGame 58 = .ok (.aload_n 2, 1) := by decide +kernel
theorem dX8_playGame_59 : decode cX8_playGame 59 = .ok (.getfield 143, 3) := by decide +kernel
theorem dX8_playGame_62 : decode cX8_playGame 62 = .ok (.aload_n 1, 1) := by decide +kernel
theorem dX8_playGame_63 : decode cX8_playGame 63 = .ok (.getfield 227, 3) := by decide +kernel
theorem dX8_playGame_66 : decode cX8_playGame 66 = .ok (.iload_n 3, 1) := by decide +kernel
theorem dX8_playGame_67 : decode cX8_playGame 67 = .ok (.invokevirtual 272, 3) := by decide +kernel
theorem dX8_playGame_70 : decode cX8_playGame 70 = .ok (.aload_n 2, 1) := by decide +kernel
theorem dX8_playGame_71 : decode cX8_playGame 71 = .ok (.getfield 153, 3) := by decide +kernel
theorem dX8_playGame_74 : decode cX8_playGame 74 = .ok (.aload_n 1, 1) := by decide +kernel
theorem dX8_playGame_75 : decode cX8_playGame 75 = .ok (.getfield 227, 3) := by decide +kernel
theorem dX8_playGame_78 : decode cX8_playGame 78 = .ok (.iload_n 3, 1) := by decide +kernel
theorem dX8_playGame_79 : decode cX8_playGame 79 = .ok (.invokevirtual 272, 3) := by decide +kernel
theorem dX8_playGame_82 : decode cX8_playGame 82 = .ok (.return_, 1) := by decide +kernel
theorem dX9_init_0 : decode cX9_init 0 = .ok (.aload_n 0, 1) := by decide +kernel
theorem dX9_init_1 : decode cX9_init 1 = .ok (.invokespecial 1, 3) := by decide +kernel
theorem dX9_init_4 : decode cX9_init 4 = .ok (.aload_n 0, 1) := by decide +kernel
theorem dX9_init_5 : decode cX9_init 5 = .ok (.sipush 600, 3) := by decide +kernel
theorem dX9_init_8 : decode cX9_init 8 = .ok (.newarray .int, 2) := by decide +kernel
theorem dX9_init_10 : decode cX9_init 10 = .ok (.putfield 7, 3) := by decide +kernel
theorem dX9_init_13 : decode cX9_init 13 = .ok (.aload_n 0, 1) := by decide +kernel
theorem dX9_init_14 : decode cX9_init 14 = .ok (.sipush 602, 3) := by decide +kernel
theorem dX9_init_17 : decode cX9_init 17 = .ok (.newarray .int, 2) := by decide +kernel
theorem dX9_init_19 : decode cX9_init 19 = .ok (.putfield 13, 3) := by decide +kernel
theorem dX9_init_22 : decode cX9_init 22 = .ok (.aload_n 0, 1) := by decide +kernel
theorem dX9_init_23 : decode cX9_init 23 = .ok (.sipush 602, 3) := by decide +kernel
theorem dX9_init_26 : decode cX9_init 26 = .ok (.newarray .int, 2) := by decide +kernel
theorem dX9_init_28 : decode cX9_init 28 = .ok (.putfield 16, 3) := by decide +kernel
theorem dX9_init_31 : decode cX9_init 31 = .ok (.aload_n 0, 1) := by decide +kernel
theorem dX9_init_32 : decode cX9_init 32 = .ok (.sipush 602, 3) := by decide +kernel
theorem dX9_init_35 : decode cX9_init 35 = .ok (.newarray .long, 2) := by decide +kernel
theorem dX9_init_37 : decode cX9_init 37 = .ok (.putfield 19, 3) := by decide +kernel
theorem dX9_init_40 : decode cX9_init 40 = .ok (.aload_n 0, 1) := by decide +kernel
theorem dX9_init_41 : decode cX9_init 41 = .ok (.bipush 12, 2) := by decide +kernel
theorem dX9_init_43 : decode cX9_init 43 = .ok (.newarray .long, 2) := by decide +kernel
theorem dX9_init_45 : decode cX9_init 45 = .ok (.dup, 1) := by decide +kernel
theorem dX9_init_46 : decode cX9_init 46 = .ok (.iconst 0, 1) := by decide +kernel
theorem dX9_init_47 : decode cX9_init 47 = .ok (.ldc2_w 23, 3) := by decide +kernel
theorem dX9_init_50 : decode cX9_init 50 = .ok (.lastore, 1) := by decide +kernel
theorem dX9_init_51 : decode cX9_init 51 = .ok (.dup, 1) := by decide +kernel
theorem dX9_init_52 : decode cX9_init 52 = .ok (.iconst 1, 1) := by decide +kernel
theorem dX9_init_53 : decode cX9_init 53 = .ok (.ldc2_w 25, 3) := by decide +kernel
theorem dX9_init_56 : decode cX9_init 56 = .ok (.lastore, 1) := by decide +kernel
theorem dX9_init_57 : decode cX9_init 57 = .ok (.dup, 1) := by decide +kernel
theorem dX9_init_58 : decode cX9_init 58 = .ok (.iconst 2, 1) := by decide +kernel
theorem dX9_init_59 : decode cX9_init 59 = .ok (.ldc2_w 27, 3) := by decide +kernel
theorem dX9_init_62 : decode cX9_init 62 = .ok (.lastore, 1) := by decide +kernel
theorem dX9_init_63 : decode cX9_init 63 = .ok (.dup, 1) := by decide +kernel
theorem dX9_init_64 : decode cX9_init 64 = .ok (.iconst 3, 1) := by decide +kernel
theorem dX9_init_65 : decode cX9_init 65 = .ok (.ldc2_w 29, 3) := by decide +kernel
theorem dX9_init_68 : decode cX9_init 68 = .ok (.lastore, 1) := by decide +kernel
theorem dX9_init_69 : decode cX9_init 69 = .ok (.dup, 1) := by decide +kernel
theorem dX9_init_70 : decode cX9_init 70 = .ok (.iconst 4, 1) := by decide +kernel
theorem dX9_init_71 : decode cX9_init 71 = .ok (.ldc2_w 31, 3) := by decide +kernel
theorem dX9_init_74 : decode cX9_init 74 = .ok (.lastore, 1) := by decide +kernel
theorem dX9_init_75 : decode cX9_init 75 = .ok (.dup, 1) := by decide +kernel
theorem dX9_init_76 : decode cX9_init 76 = .ok (.iconst 5, 1) := by decide +kernel
theorem dX9_init_77 : decode cX9_init 77 = .ok (.ldc2_w 33, 3) := by decide +kernel
theorem dX9_init_80 : decode cX9_init 80 = .ok (.lastore, 1) := by decide +kernel
theorem dX9_init_81 : decode cX9_init 81 = .ok (.dup, 1) := by decide +kernel
theorem dX9_init_82 : decode cX9_init 82 = .ok (.bipush 6, 2) := by decide +kernel
theorem dX9_init_84 : decode cX9_init 84 = .ok (.ldc2_w 35, 3) := by decide +kernel
theorem dX9_init_87 : decode cX9_init 87 = .ok (.lastore, 1) := by decide +kernel
theorem dX9_init_88 : decode cX9_init 88 = .ok (.dup, 1) := by decide +kernel
theorem dX9_init_89 : decode cX9_init 89 = .ok (.bipush 7, 2) := by decide +kernel
theorem dX9_init_91 : decode cX9_init 91 = .ok (.ldc2_w 37, 3) := by decide +kernel
theorem dX9_init_94 : decode cX9_init 94 = .ok (.lastore, 1) := by decide +kernel
theorem dX9_init_95 : decode cX9_init 95 = .ok (.dup, 1) := by decide +kernel
theorem dX9_init_96 : decode cX9_init 96 = .ok (.bipush 8, 2) := by decide +kernel
theorem dX9_init_98 : decode cX9_init 98 = .ok (.ldc2_w 39, 3) := by decide +kernel
theorem dX9_init_101 : decode cX9_init 101 = .ok (.lastore, 1) := by decide +kernel
theorem dX9_init_102 : decode cX9_init 102 = .ok (.dup, 1) := by decide +kernel
theorem dX9_init_103 : decode cX9_init 103 = .ok (.bipush 9, 2) := by decide +kernel
theorem dX9_init_105 : decode cX9_init 105 = .ok (.ldc2_w 41, 3) := by decide +kernel
theorem dX9_init_108 : decode cX9_init 108 = .ok (.lastore, 1) := by decide +kernel
theorem dX9_init_109 : decode cX9_init 109 = .ok (.dup, 1) := by decide +kernel
theorem dX9_init_110 : decode cX9_init 110 = .ok (.bipush 10, 2) := by decide +kernel
theorem dX9_init_112 : decode cX9_init 112 = .ok (.ldc2_w 43, 3) := by decide +kernel
theorem dX9_init_115 : decode cX9_init 115 = .ok (.lastore, 1) := by decide +kernel
theorem dX9_init_116 : decode cX9_init 116 = .ok (.dup, 1) := by decide +kernel
theorem dX9_init_117 : decode cX9_init 117 = .ok (.bipush 11, 2) := by decide +kernel
theorem dX9_init_119 : decode cX9_init 119 = .ok (.ldc2_w 45, 3) := by decide +kernel
theorem dX9_init_122 : decode cX9_init 122 = .ok (.lastore, 1) := by decide +kernel
theorem dX9_init_123 : decode cX9_init 123 = .ok (.putfield 47, 3) := by decide +kernel
theorem dX9_init_126 : decode cX9_init 126 = .ok (.aload_n 0, 1) := by decide +kernel
theorem dX9_init_127 : decode cX9_init 127 = .ok (.iconst 2, 1) := by decide +kernel
theorem dX9_init_128 : decode cX9_init 128 = .ok (.newarray .int, 2) := by decide +kernel
theorem dX9_init_130 : decode cX9_init 130 = .ok (.putfield 50, 3) := by decide +kernel
theorem dX9_init_133 : decode cX9_init 133 = .ok (.aload_n 0, 1) := by decide +kernel
theorem dX9_init_134 : decode cX9_init 134 = .ok (.bipush 32, 2) := by decide +kernel
theorem dX9_init_136 : decode cX9_init 136 = .ok (.newarray .int, 2) := by decide +kernel
theorem dX9_init_138 : decode cX9_init 138 = .ok (.putfield 53, 3) := by decide +kernel
theorem dX9_init_141 : decode cX9_init 141 = .ok (.aload_n 0, 1) := by decide +kernel
theorem dX9_init_142 : decode cX9_init 142 = .ok (.bipush 32, 2) := by decide +kernel
theorem dX9_init_144 : decode cX9_init 144 = .ok (.newarray .int, 2) := by decide +kernel
theorem dX9_init_146 : decode cX9_init 146 = .ok (.putfield 56, 3) := by decide +kernel
theorem dX9_init_149 : decode cX9_init 149 = .ok (.aload_n 0, 1) := by decide +kernel
theorem dX9_init_150 : decode cX9_init 150 = .ok (.sipush 1320, 3) := by decide +kernel
theorem dX9_init_153 : decode cX9_init 153 = .ok (.newarray .int, 2) := by decide +kernel
theorem dX9_init_155 : decode cX9_init 155 = .ok (.putfield 59, 3) := by decide +kernel
theorem dX9_init_158 : decode cX9_init 158 = .ok (.aload_n 0, 1) := by decide +kernel
theorem dX9_init_159 : decode cX9_init 159 = .ok (.sipush 1320, 3) := by decide +kernel
theorem dX9_init_162 : decode cX9_init 162 = .ok (.newarray .int, 2) := by decide +kernel
theorem dX9_init_164 : decode cX9_init 164 = .ok (.putfield 62, 3) := by decide +kernel
theorem dX9_init_167 : decode cX9_init 167 = .ok (.aload_n 0, 1) := by decide +kernel
theorem dX9_init_168 : decode cX9_init 168 = .ok (.bipush 7, 2) := by decide +kernel
theorem dX9_init_170 : decode cX9_init 170 = .ok (.newarray .int, 2) := by decide +kernel
theorem dX9_init_172 : decode cX9_init 172 = .ok (.putfield 65, 3) := by decide +kernel
theorem dX9_init_175 : decode cX9_init 175 = .ok (.aload_n 0, 1) := by decide +kernel
theorem dX9_init_176 : decode cX9_init 176 = .ok (.bipush 7, 2) := by decide +kernel
theorem dX9_init_178 : decode cX9_init 178 = .ok (.newarray .int, 2) := by decide +kernel
theorem dX9_init_180 : decode cX9_init 180 = .ok (.putfield 68, 3) := by decide +kernel
theorem dX9_init_183 : decode cX9_init 183 = .ok (.aload_n 0, 1) := by decide +kernel
theorem dX9_init_184 : decode cX9_init 184 = .ok (.bipush 7, 2) := by decide +kernel
theorem dX9_init_186 : decode cX9_init 186 = .ok (.newarray .int, 2) := by decide +kernel
theorem dX9_init_188 : decode cX9_init 188 = .ok (.putfield 71, 3) := by decide +kernel
theorem dX9_init_191 : decode cX9_init 191 = .ok (.aload_n 0, 1) := by decide +kernel
theorem dX9_init_192 : decode cX9_init 192 = .ok (.bipush 8, 2) := by decide +kernel
theorem dX9_init_194 : decode cX9_init 194 = .ok (.newarray .int, 2) := by decide +kernel
theorem dX9_init_196 : decode cX9_init 196 = .ok (.putfield 74, 3) := by decide +kernel
theorem dX9_init_199 : decode cX9_init 199 = .ok (.aload_n 0, 1) := by decide +kernel
theorem dX9_init_200 : decode cX9_init 200 = .ok (.sipush 660, 3) := by decide +kernel
theorem dX9_init_203 : decode cX9_init 203 = .ok (.newarray .int, 2) := by decide +kernel
theorem dX9_init_205 : decode cX9_init 205 = .ok (.putfield 77, 3) := by decide +kernel
theorem dX9_init_208 : decode cX9_init 208 = .ok (.aload_n 0, 1) := by decide +kernel
theorem dX9_init_209 : decode cX9_init 209 = .ok (.bipush 6, 2) := by decide +kernel
theorem dX9_init_211 : decode cX9_init 211 = .ok (.newarray .int, 2) := by decide +kernel
theorem dX9_init_213 : decode cX9_init 213 = .ok (.putfield 80, 3) := by decide +kernel
theorem dX9_init_216 : decode cX9_init 216 = .ok (.aload_n 0, 1) := by decide +kernel
theorem dX9_init_217 : decode cX9_init 217 = .ok (.bipush 6, 2) := by decide +kernel
theorem dX9_init_219 : decode cX9_init 219 = .ok (.newarray .int, 2) := by decide +kernel
theorem dX9_init_221 : decode cX9_init 221 = .ok (.putfield 83, 3) := by decide +kernel
theorem dX9_init_224 : decode cX9_init 224 = .ok (.aload_n 0, 1) := by decide +kernel
theorem dX9_init_225 : decode cX9_init 225 = .ok (.sipush 144, 3) := by decide +kernel
theorem dX9_init_228 : decode cX9_init 228 = .ok (.newarray .int, 2) := by decide +kernel
theorem dX9_init_230 : decode cX9_init 230 = .ok (.putfield 86, 3) := by decide +kernel
theorem dX9_init_233 : decode cX9_init 233 = .ok (.aload_n 0, 1) := by decide +kernel
theorem dX9_init_234 : decode cX9_init 234 = .ok (.sipush 144, 3) := by decide +kernel
theorem dX9_init_237 : decode cX9_init 237 = .ok (.newarray .int, 2) := by decide +kernel
theorem dX9_init_239 : decode cX9_init 239 = .ok (.putfield 89, 3) := by decide +kernel
theorem dX9_init_242 : decode cX9_init 242 = .ok (.aload_n 0, 1) := by decide +kernel
theorem dX9_init_243 : decode cX9_init 243 = .ok (.bipush 6, 2) := by decide +kernel
theorem dX9_init_245 : decode cX9_init 245 = .ok (.newarray .int, 2) := by decide +kernel
theorem dX9_init_247 : decode cX9_init 247 = .ok (.putfield 92, 3) := by decide +kernel
theorem dX9_init_250 : decode cX9_init 250 = .ok (.aload_n 0, 1) := by decide +kernel
theorem dX9_init_251 : decode cX9_init 251 = .ok (.bipush 6, 2) := by decide +kernel
theorem dX9_init_253 : decode cX9_init 253 = .ok (.newarray .int, 2) := by decide +kernel
theorem dX9_init_255 : decode cX9_init 255 = .ok (.putfield 95, 3) := by decide +kernel
theorem dX9_init_258 : decode cX9_init 258 = .ok (.aload_n 0, 1) := by decide +kernel
theorem dX9_init_259 : decode cX9_init 259 = .ok (.bipush 6, 2) := by decide +kernel
theorem dX9_init_261 : decode cX9_init 261 = .ok (.newarray .int, 2) := by decide +kernel
theorem dX9_init_263 : decode cX9_init 263 = .ok (.putfield 98, 3) := by decide +kernel
theorem dX9_init_266 : decode cX9_init 266 = .ok (.aload_n 0, 1) := by decide +kernel
theorem dX9_init_267 : decode cX9_init 267 = .ok (.bipush 6, 2) := by decide +kernel
theorem dX9_init_269 : decode cX9_init 269 = .ok (.newarray .int, 2) := by decide +kernel
theorem dX9_init_271 : decode cX9_init 271 = .ok (.putfield 101, 3) := by decide +kernel
theorem dX9_init_274 : decode cX9_init 274 = .ok (.aload_n 0, 1) := by decide +kernel
theorem dX9_init_275 : decode cX9_init 275 = .ok (.bipush 6, 2) := by decide +kernel
theorem dX9_init_277 : decode cX9_init 277 = .ok (.newarray .int, 2) := by decide +kernel
theorem dX9_init_279 : decode cX9_init 279 = .ok (.putfield 104, 3) := by decide +kernel
theorem dX9_init_282 : decode cX9_init 282 = .ok (.aload_n 0, 1) := by decide +kernel
theorem dX9_init_283 : decode cX9_init 283 = .ok (.bipush 60, 2) := by decide +kernel
theorem dX9_init_285 : decode cX9_init 285 = .ok (.newarray .int, 2) := by decide +kernel
theorem dX9_init_287 : decode cX9_init 287 = .ok (.putfield 107, 3) := by decide +kernel
theorem dX9_init_290 : decode cX9_init 290 = .ok (.aload_n 0, 1) := by decide +kernel
theorem dX9_init_291 : decode cX9_init 291 = .ok (.bipush 60, 2) := by decide +kernel
theorem dX9_init_293 : decode cX9_init 293 = .ok (.newarray .int, 2) := by decide +kernel
theorem dX9_init_295 : decode cX9_init 295 = .ok (.putfield 110, 3) := by decide +kernel
theorem dX9_init_298 : decode cX9_init 298 = .ok (.aload_n 0, 1) := by decide +kernel
theorem dX9_init_299 : decode cX9_init 299 = .ok (.bipush 60, 2) := by decide +kernel
theorem dX9_init_301 : decode cX9_init 301 = .ok (.newarray .int, 2) := by decide +kernel
theorem dX9_init_303 : decode cX9_init 303 = .ok (.putfield 113, 3) := by decide +kernel
theorem dX9_init_306 : decode cX9_init 306 = .ok (.aload_n 0, 1) := by decide +kernel
theorem dX9_init_307 : decode cX9_init 307 = .ok (.bipush 60, 2) := by decide +kernel
theorem dX9_init_309 : decode cX9_init 309 = .ok (.newarray .int, 2) := by decide +kernel
theorem dX9_init_311 : decode cX9_init 311 = .ok (.putfield 116, 3) := by decide +kernel
theorem dX9_init_314 : decode cX9_init 314 = .ok (.aload_n 0, 1) := by decide +kernel
theorem dX9_init_315 : decode cX9_init 315 = .ok (.bipush 60, 2) := by decide +kernel
theorem dX9_init_317 : decode cX9_init 317 = .ok (.newarray .int, 2) := by decide +kernel
theorem dX9_init_319 : decode cX9_init 319 = .ok (.putfield 119, 3) := by decide +kernel
theorem dX9_init_322 : decode cX9_init 322 = .ok (.aload_n 0, 1) := by decide +kernel
theorem dX9_init_323 : decode cX9_init 323 = .ok (.bipush 60, 2) := by decide +kernel
theorem dX9_init_325 : decode cX9_init 325 = .ok (.newarray .int, 2) := by decide +kernel
theorem dX9_init_327 : decode cX9_init 327 = .ok (.putfield 122, 3) := by decide +kernel
theorem dX9_init_330 : decode cX9_init 330 = .ok (.aload_n 0, 1) := by decide +kernel
theorem dX9_init_331 : decode cX9_init 331 = .ok (.bipush 60, 2) := by decide +kernel
theorem dX9_init_333 : decode cX9_init 333 = .ok (.newarray .int, 2) := by decide +kernel
theorem dX9_init_335 : decode cX9_init 335 = .ok (.putfield 125, 3) := by decide +kernel
theorem dX9_init_338 : decode cX9_init 338 = .ok (.aload_n 0, 1) := by decide +kernel
theorem dX9_init_339 : decode cX9_init 339 = .ok (.bipush 60, 2) := by decide +kernel
theorem dX9_init_341 : decode cX9_init 341 = .ok (.newarray .int, 2) := by decide +kernel
theorem dX9_init_343 : decode cX9_init 343 = .ok (.putfield 128, 3) := by decide +kernel
theorem dX9_init_346 : decode cX9_init 346 = .ok (.aload_n 0, 1) := by decide +kernel
theorem dX9_init_347 : decode cX9_init 347 = .ok (.bipush 60, 2) := by decide +kernel
theorem dX9_init_349 : decode cX9_init 349 = .ok (.newarray .int, 2) := by decide +kernel
theorem dX9_init_351 : decode cX9_init 351 = .ok (.putfield 131, 3) := by decide +kernel
theorem dX9_init_354 : decode cX9_init 354 = .ok (.aload_n 0, 1) := by decide +kernel
theorem dX9_init_355 : decode cX9_init 355 = .ok (.bipush 16, 2) := by decide +kernel
theorem dX9_init_357 : decode cX9_init 357 = .ok (.newarray .int, 2) := by decide +kernel
theorem dX9_init_359 : decode cX9_init 359 = .ok (.putfield 134, 3) := by decide +kernel
theorem dX9_init_362 : decode cX9_init 362 = .ok (.return_, 1) := by decide +kernel
theorem dX9_thrown_0 : decode cX9_thrown 0 = .ok (.aload_n 0, 1) := by decide +kernel
theorem dX9_thrown_1 : decode cX9_thrown 1 = .ok (.getfield 137, 3) := by decide +kernel
theorem dX9_thrown_4 : decode cX9_thrown 4 = .ok (.ireturn, 1) := by decide +kernel
theorem dX9_feed_0 : decode cX9_feed 0 = .ok (.aload_n 0, 1) := by decide +kernel
theorem dX9_feed_1 : decode cX9_feed 1 = .ok (.iconst 0, 1) := by decide +kernel
theorem dX9_feed_2 : decode cX9_feed 2 = .ok (.putfield 137, 3) := by decide +kernel
theorem dX9_feed_5 : decode cX9_feed 5 = .ok (.aload_n 0, 1) := by decide +kernel
theorem dX9_feed_6 : decode cX9_feed 6 = .ok (.lload_n 1, 1) := by decide +kernel
theorem dX9_feed_7 : decode cX9_feed 7 = .ok (.invokevirtual 141, 3) := by decide +kernel
theorem dX9_feed_10 : decode cX9_feed 10 = .ok (.aload_n 0, 1) := by decide +kernel
theorem dX9_feed_11 : decode cX9_feed 11 = .ok (.lload_n 3, 1) := by decide +kernel
theorem dX9_feed_12 : decode cX9_feed 12 = .ok (.invokevirtual 141, 3) := by decide +kernel
theorem dX9_feed_15 : decode cX9_feed 15 = .ok (.aload_n 0, 1) := by decide +kernel
theorem dX9_feed_16 : decode cX9_feed 16 = .ok (.lload 5, 2) := by decide +kernel
theorem dX9_feed_18 : decode cX9_feed 18 = .ok (.invokevirtual 141, 3) := by decide +kernel
theorem dX9_feed_21 : decode cX9_feed 21 = .ok (.aload_n 0, 1) := by decide +kernel
theorem dX9_feed_22 : decode cX9_feed 22 = .ok (.getfield 145, 3) := by decide +kernel
theorem dX9_feed_25 : decode cX9_feed 25 = .ok (.ireturn, 1) := by decide +kernel
theorem dX9_lay_0 : decode cX9_lay 0 = .ok (.bipush 56, 2) := by decide +kernel
theorem dX9_lay_2 : decode cX9_lay 2 = .ok (.istore_n 3, 1) := by decide +kernel
theorem dX9_lay_3 : decode cX9_lay 3 = .ok (.iload_n 3, 1) := by decide +kernel
theorem dX9_lay_4 : decode cX9_lay 4 = .ok (.ifCond .lt 71, 3) := by decide +kernel
theorem dX9_lay_7 : decode cX9_lay 7 = .ok (.lload_n 1, 1) := by decide +kernel
theorem dX9_lay_8 : decode cX9_lay 8 = .ok (.iload_n 3, 1) := by decide +kernel
theorem dX9_lay_9 : decode cX9_lay 9 = .ok (.lshr, 1) := by decide +kernel
theorem dX9_lay_10 : decode cX9_lay 10 = .ok (.l2i, 1) := by decide +kernel
theorem dX9_lay_11 : decode cX9_lay 11 = .ok (.sipush 255, 3) := by decide +kernel
theorem dX9_lay_14 : decode cX9_lay 14 = .ok (.iand, 1) := by decide +kernel
theorem dX9_lay_15 : decode cX9_lay 15 = .ok (.istore 4, 2) := by decide +kernel
theorem dX9_lay_17 : decode cX9_lay 17 = .ok (.iload 4, 2) := by decide +kernel
theorem dX9_lay_19 : decode cX9_lay 19 = .ok (.bipush 10, 2) := by decide +kernel
theorem dX9_lay_21 : decode cX9_lay 21 = .ok (.if_icmp .eq 17, 3) := by decide +kernel
theorem dX9_lay_24 : decode cX9_lay 24 = .ok (.iload 4, 2) := by decide +kernel
theorem dX9_lay_26 : decode cX9_lay 26 = .ok (.bipush 32, 2) := by decide +kernel
theorem dX9_lay_28 : decode cX9_lay 28 = .ok (.if_icmp .lt 41, 3) := by decide +kernel
theorem dX9_lay_31 : decode cX9_lay 31 = .ok (.iload 4, 2) := by decide +kernel
theorem dX9_lay_33 : decode cX9_lay 33 = .ok (.bipush 126, 2) := by decide +kernel
theorem dX9_lay_35 : decode cX9_lay 35 = .ok (.if_icmp .gt 34, 3) := by decide +kernel
theorem dX9_lay_38 : decode cX9_lay 38 = .ok (.aload_n 0, 1) := by decide +kernel
theorem dX9_lay_39 : decode cX9_lay 39 = .ok (.getfield 145, 3) := by decide +kernel
theorem dX9_lay_42 : decode cX9_lay 42 = .ok (.sipush 600, 3) := by decide +kernel
theorem dX9_lay_45 : decode cX9_lay 45 = .ok (.if_icmp .ge 24, 3) := by decide +kernel
theorem dX9_lay_48 : decode cX9_lay 48 = .ok (.aload_n 0, 1) := by decide +kernel
theorem dX9_lay_49 : decode cX9_lay 49 = .ok (.getfield 7, 3) := by decide +kernel
theorem dX9_lay_52 : decode cX9_lay 52 = .ok (.aload_n 0, 1) := by decide +kernel
theorem dX9_lay_53 : decode cX9_lay 53 = .ok (.getfield 145, 3) := by decide +kernel
theorem dX9_lay_56 : decode cX9_lay 56 = .ok (.iload 4, 2) := by decide +kernel
theorem dX9_lay_58 : decode cX9_lay 58 = .ok (.iastore, 1) := by decide +kernel
theorem dX9_lay_59 : decode cX9_lay 59 = .ok (.aload_n 0, 1) := by decide +kernel
theorem dX9_lay_60 : decode cX9_lay 60 = .ok (.dup, 1) := by decide +kernel
theorem dX9_lay_61 : decode cX9_lay 61 = .ok (.getfield 145, 3) := by decide +kernel
theorem dX9_lay_64 : decode cX9_lay 64 = .ok (.iconst 1, 1) := by decide +kernel
theorem dX9_lay_65 : decode cX9_lay 65 = .ok (.iadd, 1) := by decide +kernel
theorem dX9_lay_66 : decode cX9_lay 66 = .ok (.putfield 145, 3) := by decide +kernel
theorem dX9_lay_69 : decode cX9_lay 69 = .ok (.iinc 3 (-8), 3) := by decide +kernel
theorem dX9_lay_72 : decode cX9_lay 72 = .ok (.goto (-69), 3) := by decide +kernel
theorem dX9_lay_75 : decode cX9_lay 75 = .ok (.return_, 1) := by decide +kernel
theorem dX9_isLetter_0 : decode cX9_isLetter 0 = .ok (.iload_n 0, 1) := by decide +kernel
theorem dX9_isLetter_1 : decode cX9_isLetter 1 = .ok (.bipush 97, 2) := by decide +kernel
theorem dX9_isLetter_3 : decode cX9_isLetter 3 = .ok (.if_icmp .lt 13, 3) := by decide +kernel
theorem dX9_isLetter_6 : decode cX9_isLetter 6 = .ok (.iload_n 0, 1) := by decide +kernel
theorem dX9_isLetter_7 : decode cX9_isLetter 7 = .ok (.bipush 122, 2) := by decide +kernel
theorem dX9_isLetter_9 : decode cX9_isLetter 9 = .ok (.if_icmp .gt 7, 3) := by decide +kernel
theorem dX9_isLetter_12 : decode cX9_isLetter 12 = .ok (.iconst 1, 1) := by decide +kernel
theorem dX9_isLetter_13 : decode cX9_isLetter 13 = .ok (.goto 4, 3) := by decide +kernel
theorem dX9_isLetter_16 : decode cX9_isLetter 16 = .ok (.iconst 0, 1) := by decide +kernel
theorem dX9_isLetter_17 : decode cX9_isLetter 17 = .ok (.ireturn, 1) := by decide +kernel
theorem dX9_isDigit_0 : decode cX9_isDigit 0 = .ok (.iload_n 0, 1) := by decide +kernel
theorem dX9_isDigit_1 : decode cX9_isDigit 1 = .ok (.bipush 48, 2) := by decide +kernel
theorem dX9_isDigit_3 : decode cX9_isDigit 3 = .ok (.if_icmp .lt 13, 3) := by decide +kernel
theorem dX9_isDigit_6 : decode cX9_isDigit 6 = .ok (.iload_n 0, 1) := by decide +kernel
theorem dX9_isDigit_7 : decode cX9_isDigit 7 = .ok (.bipush 57, 2) := by decide +kernel
theorem dX9_isDigit_9 : decode cX9_isDigit 9 = .ok (.if_icmp .gt 7, 3) := by decide +kernel
theorem dX9_isDigit_12 : decode cX9_isDigit 12 = .ok (.iconst 1, 1) := by decide +kernel
theorem dX9_isDigit_13 : decode cX9_isDigit 13 = .ok (.goto 4, 3) := by decide +kernel
theorem dX9_isDigit_16 : decode cX9_isDigit 16 = .ok (.iconst 0, 1) := by decide +kernel
theorem dX9_isDigit_17 : decode cX9_isDigit 17 = .ok (.ireturn, 1) := by decide +kernel
theorem dX9_rank_0 : decode cX9_rank 0 = .ok (.iload_n 0, 1) := by decide +kernel
theorem dX9_rank_1 : decode cX9_rank 1 = .ok (.invokestatic 148, 3) := by decide +kernel
theorem dX9_rank_4 : decode cX9_rank 4 = .ok (.ifCond .eq 10, 3) := by decide +kernel
theorem dX9_rank_7 : decode cX9_rank 7 = .ok (.iload_n 0, 1) := by decide +kernel
theorem dX9_rank_8 : decode cX9_rank 8 = .ok (.bipush 96, 2) := by decide +kernel
theorem dX9_rank_10 : decode cX9_rank 10 = .ok (.isub, 1) := by decide +kernel
theorem dX9_rank_11 : decode cX9_rank 11 = .ok (.goto 7, 3) := by decide +kernel
theorem dX9_rank_14 : decode cX9_rank 14 = .ok (.iload_n 0, 1) := by decide +kernel
theorem dX9_rank_15 : decode cX9_rank 15 = .ok (.bipush 21, 2) := by decide +kernel
theorem dX9_rank_17 : decode cX9_rank 17 = .ok (.isub, 1) := by decide +kernel
theorem dX9_rank_18 : decode cX9_rank 18 = .ok (.ireturn, 1) := by decide +kernel
theorem dX9_isSignOf_0 : decode cX9_isSignOf 0 = .ok (.iload_n 0, 1) := by decide +kernel
theorem dX9_isSignOf_1 : decode cX9_isSignOf 1 = .ok (.bipush 40, 2) := by decide +kernel
theorem dX9_isSignOf_3 : decode cX9_isSignOf 3 = .ok (.if_icmp .eq 39, 3) := by decide +kernel
theorem dX9_isSignOf_6 : decode cX9_isSignOf 6 = .ok (.iload_n 0, 1) := by decide +kernel
theorem dX9_isSignOf_7 : decode cX9_isSignOf 7 = .ok (.bipush 41, 2) := by decide +kernel
theorem dX9_isSignOf_9 : decode cX9_isSignOf 9 = .ok (.if_icmp .eq 33, 3) := by decide +kernel
theorem dX9_isSignOf_12 : decode cX9_isSignOf 12 = .ok (.iload_n 0, 1) := by decide +kernel
theorem dX9_isSignOf_13 : decode cX9_isSignOf 13 = .ok (.bipush 59, 2) := by decide +kernel
theorem dX9_isSignOf_15 : decode cX9_isSignOf 15 = .ok (.if_icmp .eq 27, 3) := by decide +kernel
theorem dX9_isSignOf_18 : decode cX9_isSignOf 18 = .ok (.iload_n 0, 1) := by decide +kernel
theorem dX9_isSignOf_19 : decode cX9_isSignOf 19 = .ok (.bipush 61, 2) := by decide +kernel
theorem dX9_isSignOf_21 : decode cX9_isSignOf 21 = .ok (.if_icmp .eq 21, 3) := by decide +kernel
theorem dX9_isSignOf_24 : decode cX9_isSignOf 24 = .ok (.iload_n 0, 1) := by decide +kernel
theorem dX9_isSignOf_25 : decode cX9_isSignOf 25 = .ok (.bipush 60, 2) := by decide +kernel
theorem dX9_isSignOf_27 : decode cX9_isSignOf 27 = .ok (.if_icmp .eq 15, 3) := by decide +kernel
theorem dX9_isSignOf_30 : decode cX9_isSignOf 30 = .ok (.iload_n 0, 1) := by decide +kernel
theorem dX9_isSignOf_31 : decode cX9_isSignOf 31 = .ok (.bipush 43, 2) := by decide +kernel
theorem dX9_isSignOf_33 : decode cX9_isSignOf 33 = .ok (.if_icmp .eq 9, 3) := by decide +kernel
theorem dX9_isSignOf_36 : decode cX9_isSignOf 36 = .ok (.iload_n 0, 1) := by decide +kernel
theorem dX9_isSignOf_37 : decode cX9_isSignOf 37 = .ok (.bipush 45, 2) := by decide +kernel
theorem dX9_isSignOf_39 : decode cX9_isSignOf 39 = .ok (.if_icmp .ne 7, 3) := by decide +kernel
theorem dX9_isSignOf_42 : decode cX9_isSignOf 42 = .ok (.iconst 1, 1) := by decide +kernel
theorem dX9_isSignOf_43 : decode cX9_isSignOf 43 = .ok (.goto 4, 3) := by decide +kernel
theorem dX9_isSignOf_46 : decode cX9_isSignOf 46 = .ok (.iconst 0, 1) := by decide +kernel
theorem dX9_isSignOf_47 : decode cX9_isSignOf 47 = .ok (.ireturn, 1) := by decide +kernel
theorem dX9_cutAll_0 : decode cX9_cutAll 0 = .ok (.aload_n 0, 1) := by decide +kernel
theorem dX9_cutAll_1 : decode cX9_cutAll 1 = .ok (.aload_n 0, 1) := by decide +kernel
theorem dX9_cutAll_2 : decode cX9_cutAll 2 = .ok (.getfield 145, 3) := by decide +kernel
theorem dX9_cutAll_5 : decode cX9_cutAll 5 = .ok (.putfield 152, 3) := by decide +kernel
theorem dX9_cutAll_8 : decode cX9_cutAll 8 = .ok (.aload_n 0, 1) := by decide +kernel
end
section
theorem dX9_cutAll_9 : decode cX9_cutAll 9 = .ok (.iconst 0, 1) := by decide +kernel
theorem dX9_cutAll_10 : decode cX9_cutAll 10 = .ok (.putfield 145, 3) := by decide +kernel
theorem dX9_cutAll_13 : decode cX9_cutAll 13 = .ok (.iconst 0, 1) := by decide +kernel
theorem dX9_cutAll_14 : decode cX9_cutAll 14 = .ok (.istore_n 1, 1) := by decide +kernel
theorem dX9_cutAll_15 : decode cX9_cutAll 15 = .ok (.iconst 0, 1) := by decide +kernel
theorem dX9_cutAll_16 : decode cX9_cutAll 16 = .ok (.istore_n 2, 1) := by decide +kernel
theorem dX9_cutAll_17 : decode cX9_cutAll 17 = .ok (.iload_n 2, 1) := by decide +kernel
theorem dX9_cutAll_18 : decode cX9_cutAll 18 = .ok (.aload_n 0, 1) := by decide +kernel
theorem dX9_cutAll_19 : decode cX9_cutAll 19 = .ok (.getfield 152, 3) := by decide +kernel
theorem dX9_cutAll_22 : decode cX9_cutAll 22 = .ok (.if_icmp .ge 257, 3) := by decide +kernel
theorem dX9_cutAll_25 : decode cX9_cutAll 25 = .ok (.aload_n 0, 1) := by decide +kernel
theorem dX9_cutAll_26 : decode cX9_cutAll 26 = .ok (.getfield 7, 3) := by decide +kernel
theorem dX9_cutAll_29 : decode cX9_cutAll 29 = .ok (.iload_n 2, 1) := by decide +kernel
theorem dX9_cutAll_30 : decode cX9_cutAll 30 = .ok (.iaload, 1) := by decide +kernel
theorem dX9_cutAll_31 : decode cX9_cutAll 31 = .ok (.istore_n 3, 1) := by decide +kernel
theorem dX9_cutAll_32 : decode cX9_cutAll 32 = .ok (.iload_n 3, 1) := by decide +kernel
theorem dX9_cutAll_33 : decode cX9_cutAll 33 = .ok (.bipush 10, 2) := by decide +kernel
theorem dX9_cutAll_35 : decode cX9_cutAll 35 = .ok (.if_icmp .eq 9, 3) := by decide +kernel
theorem dX9_cutAll_38 : decode cX9_cutAll 38 = .ok (.iload_n 3, 1) := by decide +kernel
theorem dX9_cutAll_39 : decode cX9_cutAll 39 = .ok (.bipush 32, 2) := by decide +kernel
theorem dX9_cutAll_41 : decode cX9_cutAll 41 = .ok (.if_icmp .ne 9, 3) := by decide +kernel
theorem dX9_cutAll_44 : decode cX9_cutAll 44 = .ok (.iinc 2 1, 3) := by decide +kernel
theorem dX9_cutAll_47 : decode cX9_cutAll 47 = .ok (.goto (-30), 3) := by decide +kernel
theorem dX9_cutAll_50 : decode cX9_cutAll 50 = .ok (.iload_n 2, 1) := by decide +kernel
theorem dX9_cutAll_51 : decode cX9_cutAll 51 = .ok (.istore 4, 2) := by decide +kernel
theorem dX9_cutAll_53 : decode cX9_cutAll 53 = .ok (.lconst 0, 1) := by decide +kernel
theorem dX9_cutAll_54 : decode cX9_cutAll 54 = .ok (.lstore 5, 2) := by decide +kernel
theorem dX9_cutAll_56 : decode cX9_cutAll 56 = .ok (.aload_n 0, 1) := by decide +kernel
theorem dX9_cutAll_57 : decode cX9_cutAll 57 = .ok (.getfield 16, 3) := by decide +kernel
theorem dX9_cutAll_60 : decode cX9_cutAll 60 = .ok (.iload_n 1, 1) := by decide +kernel
theorem dX9_cutAll_61 : decode cX9_cutAll 61 = .ok (.iload_n 2, 1) := by decide +kernel
theorem dX9_cutAll_62 : decode cX9_cutAll 62 = .ok (.iastore, 1) := by decide +kernel
theorem dX9_cutAll_63 : decode cX9_cutAll 63 = .ok (.iload_n 3, 1) := by decide +kernel
theorem dX9_cutAll_64 : decode cX9_cutAll 64 = .ok (.invokestatic 148, 3) := by decide +kernel
theorem dX9_cutAll_67 : decode cX9_cutAll 67 = .ok (.ifCond .eq 85, 3) := by decide +kernel
theorem dX9_cutAll_70 : decode cX9_cutAll 70 = .ok (.iload_n 2, 1) := by decide +kernel
theorem dX9_cutAll_71 : decode cX9_cutAll 71 = .ok (.aload_n 0, 1) := by decide +kernel
theorem dX9_cutAll_72 : decode cX9_cutAll 72 = .ok (.getfield 152, 3) := by decide +kernel
theorem dX9_cutAll_75 : decode cX9_cutAll 75 = .ok (.if_icmp .ge 54, 3) := by decide +kernel
theorem dX9_cutAll_78 : decode cX9_cutAll 78 = .ok (.aload_n 0, 1) := by decide +kernel
theorem dX9_cutAll_79 : decode cX9_cutAll 79 = .ok (.getfield 7, 3) := by decide +kernel
theorem dX9_cutAll_82 : decode cX9_cutAll 82 = .ok (.iload_n 2, 1) := by decide +kernel
theorem dX9_cutAll_83 : decode cX9_cutAll 83 = .ok (.iaload, 1) := by decide +kernel
theorem dX9_cutAll_84 : decode cX9_cutAll 84 = .ok (.invokestatic 148, 3) := by decide +kernel
theorem dX9_cutAll_87 : decode cX9_cutAll 87 = .ok (.ifCond .eq 42, 3) := by decide +kernel
theorem dX9_cutAll_90 : decode cX9_cutAll 90 = .ok (.iload_n 2, 1) := by decide +kernel
theorem dX9_cutAll_91 : decode cX9_cutAll 91 = .ok (.iload 4, 2) := by decide +kernel
theorem dX9_cutAll_93 : decode cX9_cutAll 93 = .ok (.isub, 1) := by decide +kernel
theorem dX9_cutAll_94 : decode cX9_cutAll 94 = .ok (.bipush 8, 2) := by decide +kernel
theorem dX9_cutAll_96 : decode cX9_cutAll 96 = .ok (.if_icmp .ge 23, 3) := by decide +kernel
theorem dX9_cutAll_99 : decode cX9_cutAll 99 = .ok (.ldc2_w 155, 3) := by decide +kernel
theorem dX9_cutAll_102 : decode cX9_cutAll 102 = .ok (.lload 5, 2) := by decide +kernel
theorem dX9_cutAll_104 : decode cX9_cutAll 104 = .ok (.lmul, 1) := by decide +kernel
theorem dX9_cutAll_105 : decode cX9_cutAll 105 = .ok (.aload_n 0, 1) := by decide +kernel
theorem dX9_cutAll_106 : decode cX9_cutAll 106 = .ok (.getfield 7, 3) := by decide +kernel
theorem dX9_cutAll_109 : decode cX9_cutAll 109 = .ok (.iload_n 2, 1) := by decide +kernel
theorem dX9_cutAll_110 : decode cX9_cutAll 110 = .ok (.iaload, 1) := by decide +kernel
theorem dX9_cutAll_111 : decode cX9_cutAll 111 = .ok (.invokestatic 157, 3) := by decide +kernel
theorem dX9_cutAll_114 : decode cX9_cutAll 114 = .ok (.i2l, 1) := by decide +kernel
theorem dX9_cutAll_115 : decode cX9_cutAll 115 = .ok (.ladd, 1) := by decide +kernel
theorem dX9_cutAll_116 : decode cX9_cutAll 116 = .ok (.goto 5, 3) := by decide +kernel
theorem dX9_cutAll_119 : decode cX9_cutAll 119 = .ok (.lload 5, 2) := by decide +kernel
theorem dX9_cutAll_121 : decode cX9_cutAll 121 = .ok (.lstore 5, 2) := by decide +kernel
theorem dX9_cutAll_123 : decode cX9_cutAll 123 = .ok (.iinc 2 1, 3) := by decide +kernel
theorem dX9_cutAll_126 : decode cX9_cutAll 126 = .ok (.goto (-56), 3) := by decide +kernel
theorem dX9_cutAll_129 : decode cX9_cutAll 129 = .ok (.aload_n 0, 1) := by decide +kernel
theorem dX9_cutAll_130 : decode cX9_cutAll 130 = .ok (.getfield 13, 3) := by decide +kernel
theorem dX9_cutAll_133 : decode cX9_cutAll 133 = .ok (.iload_n 1, 1) := by decide +kernel
theorem dX9_cutAll_134 : decode cX9_cutAll 134 = .ok (.iload_n 2, 1) := by decide +kernel
theorem dX9_cutAll_135 : decode cX9_cutAll 135 = .ok (.iload 4, 2) := by decide +kernel
theorem dX9_cutAll_137 : decode cX9_cutAll 137 = .ok (.isub, 1) := by decide +kernel
theorem dX9_cutAll_138 : decode cX9_cutAll 138 = .ok (.bipush 8, 2) := by decide +kernel
theorem dX9_cutAll_140 : decode cX9_cutAll 140 = .ok (.if_icmp .le 7, 3) := by decide +kernel
theorem dX9_cutAll_143 : decode cX9_cutAll 143 = .ok (.iconst 4, 1) := by decide +kernel
theorem dX9_cutAll_144 : decode cX9_cutAll 144 = .ok (.goto 4, 3) := by decide +kernel
theorem dX9_cutAll_147 : decode cX9_cutAll 147 = .ok (.iconst 1, 1) := by decide +kernel
theorem dX9_cutAll_148 : decode cX9_cutAll 148 = .ok (.iastore, 1) := by decide +kernel
theorem dX9_cutAll_149 : decode cX9_cutAll 149 = .ok (.goto 116, 3) := by decide +kernel
theorem dX9_cutAll_152 : decode cX9_cutAll 152 = .ok (.iload_n 3, 1) := by decide +kernel
theorem dX9_cutAll_153 : decode cX9_cutAll 153 = .ok (.invokestatic 160, 3) := by decide +kernel
theorem dX9_cutAll_156 : decode cX9_cutAll 156 = .ok (.ifCond .eq 84, 3) := by decide +kernel
theorem dX9_cutAll_159 : decode cX9_cutAll 159 = .ok (.iload_n 2, 1) := by decide +kernel
theorem dX9_cutAll_160 : decode cX9_cutAll 160 = .ok (.aload_n 0, 1) := by decide +kernel
theorem dX9_cutAll_161 : decode cX9_cutAll 161 = .ok (.getfield 152, 3) := by decide +kernel
theorem dX9_cutAll_164 : decode cX9_cutAll 164 = .ok (.if_icmp .ge 54, 3) := by decide +kernel
theorem dX9_cutAll_167 : decode cX9_cutAll 167 = .ok (.aload_n 0, 1) := by decide +kernel
theorem dX9_cutAll_168 : decode cX9_cutAll 168 = .ok (.getfield 7, 3) := by decide +kernel
theorem dX9_cutAll_171 : decode cX9_cutAll 171 = .ok (.iload_n 2, 1) := by decide +kernel
theorem dX9_cutAll_172 : decode cX9_cutAll 172 = .ok (.iaload, 1) := by decide +kernel
theorem dX9_cutAll_173 : decode cX9_cutAll 173 = .ok (.invokestatic 160, 3) := by decide +kernel
theorem dX9_cutAll_176 : decode cX9_cutAll 176 = .ok (.ifCond .eq 42, 3) := by decide +kernel
theorem dX9_cutAll_179 : decode cX9_cutAll 179 = .ok (.iload_n 2, 1) := by decide +kernel
theorem dX9_cutAll_180 : decode cX9_cutAll 180 = .ok (.iload 4, 2) := by decide +kernel
theorem dX9_cutAll_182 : decode cX9_cutAll 182 = .ok (.isub, 1) := by decide +kernel
theorem dX9_cutAll_183 : decode cX9_cutAll 183 = .ok (.iconst 4, 1) := by decide +kernel
theorem dX9_cutAll_184 : decode cX9_cutAll 184 = .ok (.if_icmp .ge 24, 3) := by decide +kernel
theorem dX9_cutAll_187 : decode cX9_cutAll 187 = .ok (.ldc2_w 163, 3) := by decide +kernel
theorem dX9_cutAll_190 : decode cX9_cutAll 190 = .ok (.lload 5, 2) := by decide +kernel
theorem dX9_cutAll_192 : decode cX9_cutAll 192 = .ok (.lmul, 1) := by decide +kernel
theorem dX9_cutAll_193 : decode cX9_cutAll 193 = .ok (.aload_n 0, 1) := by decide +kernel
theorem dX9_cutAll_194 : decode cX9_cutAll 194 = .ok (.getfield 7, 3) := by decide +kernel
theorem dX9_cutAll_197 : decode cX9_cutAll 197 = .ok (.iload_n 2, 1) := by decide +kernel
theorem dX9_cutAll_198 : decode cX9_cutAll 198 = .ok (.iaload, 1) := by decide +kernel
theorem dX9_cutAll_199 : decode cX9_cutAll 199 = .ok (.i2l, 1) := by decide +kernel
theorem dX9_cutAll_200 : decode cX9_cutAll 200 = .ok (.ladd, 1) := by decide +kernel
theorem dX9_cutAll_201 : decode cX9_cutAll 201 = .ok (.ldc2_w 165, 3) := by decide +kernel
theorem dX9_cutAll_204 : decode cX9_cutAll 204 = .ok (.lsub, 1) := by decide +kernel
theorem dX9_cutAll_205 : decode cX9_cutAll 205 = .ok (.goto 5, 3) := by decide +kernel
theorem dX9_cutAll_208 : decode cX9_cutAll 208 = .ok (.lload 5, 2) := by decide +kernel
theorem dX9_cutAll_210 : decode cX9_cutAll 210 = .ok (.lstore 5, 2) := by decide +kernel
theorem dX9_cutAll_212 : decode cX9_cutAll 212 = .ok (.iinc 2 1, 3) := by decide +kernel
theorem dX9_cutAll_215 : decode cX9_cutAll 215 = .ok (.goto (-56), 3) := by decide +kernel
theorem dX9_cutAll_218 : decode cX9_cutAll 218 = .ok (.aload_n 0, 1) := by decide +kernel
theorem dX9_cutAll_219 : decode cX9_cutAll 219 = .ok (.getfield 13, 3) := by decide +kernel
theorem dX9_cutAll_222 : decode cX9_cutAll 222 = .ok (.iload_n 1, 1) := by decide +kernel
theorem dX9_cutAll_223 : decode cX9_cutAll 223 = .ok (.iload_n 2, 1) := by decide +kernel
theorem dX9_cutAll_224 : decode cX9_cutAll 224 = .ok (.iload 4, 2) := by decide +kernel
theorem dX9_cutAll_226 : decode cX9_cutAll 226 = .ok (.isub, 1) := by decide +kernel
theorem dX9_cutAll_227 : decode cX9_cutAll 227 = .ok (.iconst 4, 1) := by decide +kernel
theorem dX9_cutAll_228 : decode cX9_cutAll 228 = .ok (.if_icmp .le 7, 3) := by decide +kernel
theorem dX9_cutAll_231 : decode cX9_cutAll 231 = .ok (.iconst 4, 1) := by decide +kernel
theorem dX9_cutAll_232 : decode cX9_cutAll 232 = .ok (.goto 4, 3) := by decide +kernel
theorem dX9_cutAll_235 : decode cX9_cutAll 235 = .ok (.iconst 2, 1) := by decide +kernel
theorem dX9_cutAll_236 : decode cX9_cutAll 236 = .ok (.iastore, 1) := by decide +kernel
theorem dX9_cutAll_237 : decode cX9_cutAll 237 = .ok (.goto 28, 3) := by decide +kernel
theorem dX9_cutAll_240 : decode cX9_cutAll 240 = .ok (.iload_n 3, 1) := by decide +kernel
theorem dX9_cutAll_241 : decode cX9_cutAll 241 = .ok (.i2l, 1) := by decide +kernel
theorem dX9_cutAll_242 : decode cX9_cutAll 242 = .ok (.lstore 5, 2) := by decide +kernel
theorem dX9_cutAll_244 : decode cX9_cutAll 244 = .ok (.aload_n 0, 1) := by decide +kernel
theorem dX9_cutAll_245 : decode cX9_cutAll 245 = .ok (.getfield 13, 3) := by decide +kernel
theorem dX9_cutAll_248 : decode cX9_cutAll 248 = .ok (.iload_n 1, 1) := by decide +kernel
theorem dX9_cutAll_249 : decode cX9_cutAll 249 = .ok (.iload_n 3, 1) := by decide +kernel
theorem dX9_cutAll_250 : decode cX9_cutAll 250 = .ok (.invokestatic 167, 3) := by decide +kernel
theorem dX9_cutAll_253 : decode cX9_cutAll 253 = .ok (.ifCond .eq 7, 3) := by decide +kernel
theorem dX9_cutAll_256 : decode cX9_cutAll 256 = .ok (.iconst 3, 1) := by decide +kernel
theorem dX9_cutAll_257 : decode cX9_cutAll 257 = .ok (.goto 4, 3) := by decide +kernel
theorem dX9_cutAll_260 : decode cX9_cutAll 260 = .ok (.iconst 4, 1) := by decide +kernel
theorem dX9_cutAll_261 : decode cX9_cutAll 261 = .ok (.iastore, 1) := by decide +kernel
theorem dX9_cutAll_262 : decode cX9_cutAll 262 = .ok (.iinc 2 1, 3) := by decide +kernel
theorem dX9_cutAll_265 : decode cX9_cutAll 265 = .ok (.aload_n 0, 1) := by decide +kernel
theorem dX9_cutAll_266 : decode cX9_cutAll 266 = .ok (.getfield 19, 3) := by decide +kernel
theorem dX9_cutAll_269 : decode cX9_cutAll 269 = .ok (.iload_n 1, 1) := by decide +kernel
theorem dX9_cutAll_270 : decode cX9_cutAll 270 = .ok (.lload 5, 2) := by decide +kernel
theorem dX9_cutAll_272 : decode cX9_cutAll 272 = .ok (.lastore, 1) := by decide +kernel
theorem dX9_cutAll_273 : decode cX9_cutAll 273 = .ok (.iinc 1 1, 3) := by decide +kernel
theorem dX9_cutAll_276 : decode cX9_cutAll 276 = .ok (.goto (-259), 3) := by decide +kernel
theorem dX9_cutAll_279 : decode cX9_cutAll 279 = .ok (.aload_n 0, 1) := by decide +kernel
theorem dX9_cutAll_280 : decode cX9_cutAll 280 = .ok (.getfield 13, 3) := by decide +kernel
theorem dX9_cutAll_283 : decode cX9_cutAll 283 = .ok (.iload_n 1, 1) := by decide +kernel
theorem dX9_cutAll_284 : decode cX9_cutAll 284 = .ok (.iconst 0, 1) := by decide +kernel
theorem dX9_cutAll_285 : decode cX9_cutAll 285 = .ok (.iastore, 1) := by decide +kernel
theorem dX9_cutAll_286 : decode cX9_cutAll 286 = .ok (.aload_n 0, 1) := by decide +kernel
theorem dX9_cutAll_287 : decode cX9_cutAll 287 = .ok (.getfield 16, 3) := by decide +kernel
theorem dX9_cutAll_290 : decode cX9_cutAll 290 = .ok (.iload_n 1, 1) := by decide +kernel
theorem dX9_cutAll_291 : decode cX9_cutAll 291 = .ok (.aload_n 0, 1) := by decide +kernel
theorem dX9_cutAll_292 : decode cX9_cutAll 292 = .ok (.getfield 152, 3) := by decide +kernel
theorem dX9_cutAll_295 : decode cX9_cutAll 295 = .ok (.iastore, 1) := by decide +kernel
theorem dX9_cutAll_296 : decode cX9_cutAll 296 = .ok (.aload_n 0, 1) := by decide +kernel
theorem dX9_cutAll_297 : decode cX9_cutAll 297 = .ok (.iconst 0, 1) := by decide +kernel
theorem dX9_cutAll_298 : decode cX9_cutAll 298 = .ok (.putfield 170, 3) := by decide +kernel
theorem dX9_cutAll_301 : decode cX9_cutAll 301 = .ok (.aload_n 0, 1) := by decide +kernel
theorem dX9_cutAll_302 : decode cX9_cutAll 302 = .ok (.iconst 0, 1) := by decide +kernel
theorem dX9_cutAll_303 : decode cX9_cutAll 303 = .ok (.putfield 173, 3) := by decide +kernel
theorem dX9_cutAll_306 : decode cX9_cutAll 306 = .ok (.return_, 1) := by decide +kernel
theorem dX9_wrong_0 : decode cX9_wrong 0 = .ok (.aload_n 0, 1) := by decide +kernel
theorem dX9_wrong_1 : decode cX9_wrong 1 = .ok (.getfield 173, 3) := by decide +kernel
theorem dX9_wrong_4 : decode cX9_wrong 4 = .ok (.ifCond .ne 21, 3) := by decide +kernel
theorem dX9_wrong_7 : decode cX9_wrong 7 = .ok (.aload_n 0, 1) := by decide +kernel
theorem dX9_wrong_8 : decode cX9_wrong 8 = .ok (.iload_n 1, 1) := by decide +kernel
theorem dX9_wrong_9 : decode cX9_wrong 9 = .ok (.bipush 16, 2) := by decide +kernel
theorem dX9_wrong_11 : decode cX9_wrong 11 = .ok (.aload_n 0, 1) := by decide +kernel
theorem dX9_wrong_12 : decode cX9_wrong 12 = .ok (.getfield 16, 3) := by decide +kernel
theorem dX9_wrong_15 : decode cX9_wrong 15 = .ok (.aload_n 0, 1) := by decide +kernel
theorem dX9_wrong_16 : decode cX9_wrong 16 = .ok (.getfield 170, 3) := by decide +kernel
theorem dX9_wrong_19 : decode cX9_wrong 19 = .ok (.iaload, 1) := by decide +kernel
theorem dX9_wrong_20 : decode cX9_wrong 20 = .ok (.imul, 1) := by decide +kernel
theorem dX9_wrong_21 : decode cX9_wrong 21 = .ok (.iadd, 1) := by decide +kernel
theorem dX9_wrong_22 : decode cX9_wrong 22 = .ok (.putfield 173, 3) := by decide +kernel
theorem dX9_wrong_25 : decode cX9_wrong 25 = .ok (.return_, 1) := by decide +kernel
theorem dX9_isSign_0 : decode cX9_isSign 0 = .ok (.aload_n 0, 1) := by decide +kernel
theorem dX9_isSign_1 : decode cX9_isSign 1 = .ok (.getfield 173, 3) := by decide +kernel
theorem dX9_isSign_4 : decode cX9_isSign 4 = .ok (.ifCond .ne 35, 3) := by decide +kernel
theorem dX9_isSign_7 : decode cX9_isSign 7 = .ok (.aload_n 0, 1) := by decide +kernel
theorem dX9_isSign_8 : decode cX9_isSign 8 = .ok (.getfield 13, 3) := by decide +kernel
theorem dX9_isSign_11 : decode cX9_isSign 11 = .ok (.aload_n 0, 1) := by decide +kernel
theorem dX9_isSign_12 : decode cX9_isSign 12 = .ok (.getfield 170, 3) := by decide +kernel
theorem dX9_isSign_15 : decode cX9_isSign 15 = .ok (.iaload, 1) := by decide +kernel
theorem dX9_isSign_16 : decode cX9_isSign 16 = .ok (.iconst 3, 1) := by decide +kernel
theorem dX9_isSign_17 : decode cX9_isSign 17 = .ok (.if_icmp .ne 22, 3) := by decide +kernel
theorem dX9_isSign_20 : decode cX9_isSign 20 = .ok (.aload_n 0, 1) := by decide +kernel
theorem dX9_isSign_21 : decode cX9_isSign 21 = .ok (.getfield 19, 3) := by decide +kernel
theorem dX9_isSign_24 : decode cX9_isSign 24 = .ok (.aload_n 0, 1) := by decide +kernel
theorem dX9_isSign_25 : decode cX9_isSign 25 = .ok (.getfield 170, 3) := by decide +kernel
theorem dX9_isSign_28 : decode cX9_isSign 28 = .ok (.laload, 1) := by decide +kernel
theorem dX9_isSign_29 : decode cX9_isSign 29 = .ok (.iload_n 1, 1) := by decide +kernel
theorem dX9_isSign_30 : decode cX9_isSign 30 = .ok (.i2l, 1) := by decide +kernel
theorem dX9_isSign_31 : decode cX9_isSign 31 = .ok (.lcmp, 1) := by decide +kernel
theorem dX9_isSign_32 : decode cX9_isSign 32 = .ok (.ifCond .ne 7, 3) := by decide +kernel
theorem dX9_isSign_35 : decode cX9_isSign 35 = .ok (.iconst 1, 1) := by decide +kernel
theorem dX9_isSign_36 : decode cX9_isSign 36 = .ok (.goto 4, 3) := by decide +kernel
theorem dX9_isSign_39 : decode cX9_isSign 39 = .ok (.iconst 0, 1) := by decide +kernel
theorem dX9_isSign_40 : decode cX9_isSign 40 = .ok (.ireturn, 1) := by decide +kernel
theorem dX9_isWord_0 : decode cX9_isWord 0 = .ok (.aload_n 0, 1) := by decide +kernel
theorem dX9_isWord_1 : decode cX9_isWord 1 = .ok (.getfield 173, 3) := by decide +kernel
theorem dX9_isWord_4 : decode cX9_isWord 4 = .ok (.ifCond .ne 39, 3) := by decide +kernel
theorem dX9_isWord_7 : decode cX9_isWord 7 = .ok (.aload_n 0, 1) := by decide +kernel
theorem dX9_isWord_8 : decode cX9_isWord 8 = .ok (.getfield 13, 3) := by decide +kernel
theorem dX9_isWord_11 : decode cX9_isWord 11 = .ok (.aload_n 0, 1) := by decide +kernel
theorem dX9_isWord_12 : decode cX9_isWord 12 = .ok (.getfield 170, 3) := by decide +kernel
theorem dX9_isWord_15 : decode cX9_isWord 15 = .ok (.iaload, 1) := by decide +kernel
theorem dX9_isWord_16 : decode cX9_isWord 16 = .ok (.iconst 1, 1) := by decide +kernel
theorem dX9_isWord_17 : decode cX9_isWord 17 = .ok (.if_icmp .ne 26, 3) := by decide +kernel
theorem dX9_isWord_20 : decode cX9_isWord 20 = .ok (.aload_n 0, 1) := by decide +kernel
theorem dX9_isWord_21 : decode cX9_isWord 21 = .ok (.getfield 19, 3) := by decide +kernel
theorem dX9_isWord_24 : decode cX9_isWord 24 = .ok (.aload_n 0, 1) := by decide +kernel
theorem dX9_isWord_25 : decode cX9_isWord 25 = .ok (.getfield 170, 3) := by decide +kernel
theorem dX9_isWord_28 : decode cX9_isWord 28 = .ok (.laload, 1) := by decide +kernel
theorem dX9_isWord_29 : decode cX9_isWord 29 = .ok (.aload_n 0, 1) := by decide +kernel
theorem dX9_isWord_30 : decode cX9_isWord 30 = .ok (.getfield 47, 3) := by decide +kernel
theorem dX9_isWord_33 : decode cX9_isWord 33 = .ok (.iload_n 1, 1) := by decide +kernel
theorem dX9_isWord_34 : decode cX9_isWord 34 = .ok (.laload, 1) := by decide +kernel
theorem dX9_isWord_35 : decode cX9_isWord 35 = .ok (.lcmp, 1) := by decide +kernel
theorem dX9_isWord_36 : decode cX9_isWord 36 = .ok (.ifCond .ne 7, 3) := by decide +kernel
theorem dX9_isWord_39 : decode cX9_isWord 39 = .ok (.iconst 1, 1) := by decide +kernel
theorem dX9_isWord_40 : decode cX9_isWord 40 = .ok (.goto 4, 3) := by decide +kernel
theorem dX9_isWord_43 : decode cX9_isWord 43 = .ok (.iconst 0, 1) := by decide +kernel
theorem dX9_isWord_44 : decode cX9_isWord 44 = .ok (.ireturn, 1) := by decide +kernel
theorem dX9_takeSign_0 : decode cX9_takeSign 0 = .ok (.aload_n 0, 1) := by decide +kernel
theorem dX9_takeSign_1 : decode cX9_takeSign 1 = .ok (.iload_n 1, 1) := by decide +kernel
theorem dX9_takeSign_2 : decode cX9_takeSign 2 = .ok (.invokevirtual 176, 3) := by decide +kernel
theorem dX9_takeSign_5 : decode cX9_takeSign 5 = .ok (.ifCond .eq 16, 3) := by decide +kernel
theorem dX9_takeSign_8 : decode cX9_takeSign 8 = .ok (.aload_n 0, 1) := by decide +kernel
theorem dX9_takeSign_9 : decode cX9_takeSign 9 = .ok (.dup, 1) := by decide +kernel
theorem dX9_takeSign_10 : decode cX9_takeSign 10 = .ok (.getfield 170, 3) := by decide +kernel
theorem dX9_takeSign_13 : decode cX9_takeSign 13 = .ok (.iconst 1, 1) := by decide +kernel
theorem dX9_takeSign_14 : decode cX9_takeSign 14 = .ok (.iadd, 1) := by decide +kernel
theorem dX9_takeSign_15 : decode cX9_takeSign 15 = .ok (.putfield 170, 3) := by decide +kernel
theorem dX9_takeSign_18 : decode cX9_takeSign 18 = .ok (.goto 8, 3) := by decide +kernel
theorem dX9_takeSign_21 : decode cX9_takeSign 21 = .ok (.aload_n 0, 1) := by decide +kernel
theorem dX9_takeSign_22 : decode cX9_takeSign 22 = .ok (.iconst 1, 1) := by decide +kernel
theorem dX9_takeSign_23 : decode cX9_takeSign 23 = .ok (.invokevirtual 179, 3) := by decide +kernel
theorem dX9_takeSign_26 : decode cX9_takeSign 26 = .ok (.return_, 1) := by decide +kernel
theorem dX9_hasSign_0 : decode cX9_hasSign 0 = .ok (.aload_n 0, 1) := by decide +kernel
theorem dX9_hasSign_1 : decode cX9_hasSign 1 = .ok (.iload_n 1, 1) := by decide +kernel
theorem dX9_hasSign_2 : decode cX9_hasSign 2 = .ok (.invokevirtual 176, 3) := by decide +kernel
theorem dX9_hasSign_5 : decode cX9_hasSign 5 = .ok (.istore_n 2, 1) := by decide +kernel
theorem dX9_hasSign_6 : decode cX9_hasSign 6 = .ok (.aload_n 0, 1) := by decide +kernel
theorem dX9_hasSign_7 : decode cX9_hasSign 7 = .ok (.dup, 1) := by decide +kernel
theorem dX9_hasSign_8 : decode cX9_hasSign 8 = .ok (.getfield 170, 3) := by decide +kernel
theorem dX9_hasSign_11 : decode cX9_hasSign 11 = .ok (.iload_n 2, 1) := by decide +kernel
theorem dX9_hasSign_12 : decode cX9_hasSign 12 = .ok (.ifCond .eq 7, 3) := by decide +kernel
theorem dX9_hasSign_15 : decode cX9_hasSign 15 = .ok (.iconst 1, 1) := by decide +kernel
theorem dX9_hasSign_16 : decode cX9_hasSign 16 = .ok (.goto 4, 3) := by decide +kernel
theorem dX9_hasSign_19 : decode cX9_hasSign 19 = .ok (.iconst 0, 1) := by decide +kernel
theorem dX9_hasSign_20 : decode cX9_hasSign 20 = .ok (.iadd, 1) := by decide +kernel
theorem dX9_hasSign_21 : decode cX9_hasSign 21 = .ok (.putfield 170, 3) := by decide +kernel
theorem dX9_hasSign_24 : decode cX9_hasSign 24 = .ok (.iload_n 2, 1) := by decide +kernel
theorem dX9_hasSign_25 : decode cX9_hasSign 25 = .ok (.ireturn, 1) := by decide +kernel
theorem dX9_hasWord_0 : decode cX9_hasWord 0 = .ok (.aload_n 0, 1) := by decide +kernel
theorem dX9_hasWord_1 : decode cX9_hasWord 1 = .ok (.iload_n 1, 1) := by decide +kernel
theorem dX9_hasWord_2 : decode cX9_hasWord 2 = .ok (.invokevirtual 183, 3) := by decide +kernel
theorem dX9_hasWord_5 : decode cX9_hasWord 5 = .ok (.istore_n 2, 1) := by decide +kernel
theorem dX9_hasWord_6 : decode cX9_hasWord 6 = .ok (.aload_n 0, 1) := by decide +kernel
theorem dX9_hasWord_7 : decode cX9_hasWord 7 = .ok (.dup, 1) := by decide +kernel
theorem dX9_hasWord_8 : decode cX9_hasWord 8 = .ok (.getfield 170, 3) := by decide +kernel
theorem dX9_hasWord_11 : decode cX9_hasWord 11 = .ok (.iload_n 2, 1) := by decide +kernel
theorem dX9_hasWord_12 : decode cX9_hasWord 12 = .ok (.ifCond .eq 7, 3) := by decide +kernel
theorem dX9_hasWord_15 : decode cX9_hasWord 15 = .ok (.iconst 1, 1) := by decide +kernel
theorem dX9_hasWord_16 : decode cX9_hasWord 16 = .ok (.goto 4, 3) := by decide +kernel
theorem dX9_hasWord_19 : decode cX9_hasWord 19 = .ok (.iconst 0, 1) := by decide +kernel
theorem dX9_hasWord_20 : decode cX9_hasWord 20 = .ok (.iadd, 1) := by decide +kernel
theorem dX9_hasWord_21 : decode cX9_hasWord 21 = .ok (.putfield 170, 3) := by decide +kernel
theorem dX9_hasWord_24 : decode cX9_hasWord 24 = .ok (.iload_n 2, 1) := by decide +kernel
theorem dX9_hasWord_25 : decode cX9_hasWord 25 = .ok (.ireturn, 1) := by decide +kernel
theorem dX9_takeWord_0 : decode cX9_takeWord 0 = .ok (.aload_n 0, 1) := by decide +kernel
theorem dX9_takeWord_1 : decode cX9_takeWord 1 = .ok (.iload_n 1, 1) := by decide +kernel
theorem dX9_takeWord_2 : decode cX9_takeWord 2 = .ok (.invokevirtual 186, 3) := by decide +kernel
theorem dX9_takeWord_5 : decode cX9_takeWord 5 = .ok (.ifCond .ne 8, 3) := by decide +kernel
theorem dX9_takeWord_8 : decode cX9_takeWord 8 = .ok (.aload_n 0, 1) := by decide +kernel
theorem dX9_takeWord_9 : decode cX9_takeWord 9 = .ok (.iconst 1, 1) := by decide +kernel
theorem dX9_takeWord_10 : decode cX9_takeWord 10 = .ok (.invokevirtual 179, 3) := by decide +kernel
theorem dX9_takeWord_13 : decode cX9_takeWord 13 = .ok (.return_, 1) := by decide +kernel
theorem dX9_emit_0 : decode cX9_emit 0 = .ok (.aload_n 0, 1) := by decide +kernel
theorem dX9_emit_1 : decode cX9_emit 1 = .ok (.getfield 59, 3) := by decide +kernel
theorem dX9_emit_4 : decode cX9_emit 4 = .ok (.sipush 660, 3) := by decide +kernel
theorem dX9_emit_7 : decode cX9_emit 7 = .ok (.aload_n 0, 1) := by decide +kernel
theorem dX9_emit_8 : decode cX9_emit 8 = .ok (.getfield 189, 3) := by decide +kernel
theorem dX9_emit_11 : decode cX9_emit 11 = .ok (.imul, 1) := by decide +kernel
theorem dX9_emit_12 : decode cX9_emit 12 = .ok (.aload_n 0, 1) := by decide +kernel
theorem dX9_emit_13 : decode cX9_emit 13 = .ok (.getfield 192, 3) := by decide +kernel
theorem dX9_emit_16 : decode cX9_emit 16 = .ok (.iadd, 1) := by decide +kernel
theorem dX9_emit_17 : decode cX9_emit 17 = .ok (.iload_n 1, 1) := by decide +kernel
theorem dX9_emit_18 : decode cX9_emit 18 = .ok (.iastore, 1) := by decide +kernel
theorem dX9_emit_19 : decode cX9_emit 19 = .ok (.aload_n 0, 1) := by decide +kernel
theorem dX9_emit_20 : decode cX9_emit 20 = .ok (.getfield 62, 3) := by decide +kernel
theorem dX9_emit_23 : decode cX9_emit 23 = .ok (.sipush 660, 3) := by decide +kernel
theorem dX9_emit_26 : decode cX9_emit 26 = .ok (.aload_n 0, 1) := by decide +kernel
theorem dX9_emit_27 : decode cX9_emit 27 = .ok (.getfield 189, 3) := by decide +kernel
theorem dX9_emit_30 : decode cX9_emit 30 = .ok (.imul, 1) := by decide +kernel
theorem dX9_emit_31 : decode cX9_emit 31 = .ok (.aload_n 0, 1) := by decide +kernel
theorem dX9_emit_32 : decode cX9_emit 32 = .ok (.getfield 192, 3) := by decide +kernel
theorem dX9_emit_35 : decode cX9_emit 35 = .ok (.iadd, 1) := by decide +kernel
theorem dX9_emit_36 : decode cX9_emit 36 = .ok (.iload_n 2, 1) := by decide +kernel
theorem dX9_emit_37 : decode cX9_emit 37 = .ok (.iastore, 1) := by decide +kernel
theorem dX9_emit_38 : decode cX9_emit 38 = .ok (.aload_n 0, 1) := by decide +kernel
theorem dX9_emit_39 : decode cX9_emit 39 = .ok (.dup, 1) := by decide +kernel
theorem dX9_emit_40 : decode cX9_emit 40 = .ok (.getfield 192, 3) := by decide +kernel
theorem dX9_emit_43 : decode cX9_emit 43 = .ok (.iconst 1, 1) := by decide +kernel
theorem dX9_emit_44 : decode cX9_emit 44 = .ok (.iadd, 1) := by decide +kernel
theorem dX9_emit_45 : decode cX9_emit 45 = .ok (.putfield 192, 3) := by decide +kernel
theorem dX9_emit_48 : decode cX9_emit 48 = .ok (.return_, 1) := by decide +kernel
theorem dX9_text_0 : decode cX9_text 0 = .ok (.aload_n 0, 1) := by decide +kernel
theorem dX9_text_1 : decode cX9_text 1 = .ok (.iconst 0, 1) := by decide +kernel
theorem dX9_text_2 : decode cX9_text 2 = .ok (.putfield 137, 3) := by decide +kernel
theorem dX9_text_5 : decode cX9_text 5 = .ok (.aload_n 0, 1) := by decide +kernel
theorem dX9_text_6 : decode cX9_text 6 = .ok (.invokevirtual 195, 3) := by decide +kernel
theorem dX9_text_9 : decode cX9_text 9 = .ok (.aload_n 0, 1) := by decide +kernel
theorem dX9_text_10 : decode cX9_text 10 = .ok (.iconst 1, 1) := by decide +kernel
theorem dX9_text_11 : decode cX9_text 11 = .ok (.aload_n 0, 1) := by decide +kernel
theorem dX9_text_12 : decode cX9_text 12 = .ok (.getfield 198, 3) := by decide +kernel
theorem dX9_text_15 : decode cX9_text 15 = .ok (.isub, 1) := by decide +kernel
theorem dX9_text_16 : decode cX9_text 16 = .ok (.putfield 189, 3) := by decide +kernel
theorem dX9_text_19 : decode cX9_text 19 = .ok (.aload_n 0, 1) := by decide +kernel
theorem dX9_text_20 : decode cX9_text 20 = .ok (.getfield 50, 3) := by decide +kernel
theorem dX9_text_23 : decode cX9_text 23 = .ok (.aload_n 0, 1) := by decide +kernel
theorem dX9_text_24 : decode cX9_text 24 = .ok (.getfield 189, 3) := by decide +kernel
theorem dX9_text_27 : decode cX9_text 27 = .ok (.iconst 0, 1) := by decide +kernel
theorem dX9_text_28 : decode cX9_text 28 = .ok (.iastore, 1) := by decide +kernel
theorem dX9_text_29 : decode cX9_text 29 = .ok (.aload_n 0, 1) := by decide +kernel
theorem dX9_text_30 : decode cX9_text 30 = .ok (.iconst 0, 1) := by decide +kernel
theorem dX9_text_31 : decode cX9_text 31 = .ok (.putfield 192, 3) := by decide +kernel
theorem dX9_text_34 : decode cX9_text 34 = .ok (.aload_n 0, 1) := by decide +kernel
theorem dX9_text_35 : decode cX9_text 35 = .ok (.getfield 173, 3) := by decide +kernel
theorem dX9_text_38 : decode cX9_text 38 = .ok (.ifCond .ne 22, 3) := by decide +kernel
theorem dX9_text_41 : decode cX9_text 41 = .ok (.aload_n 0, 1) := by decide +kernel
theorem dX9_text_42 : decode cX9_text 42 = .ok (.getfield 13, 3) := by decide +kernel
theorem dX9_text_45 : decode cX9_text 45 = .ok (.aload_n 0, 1) := by decide +kernel
theorem dX9_text_46 : decode cX9_text 46 = .ok (.getfield 170, 3) := by decide +kernel
theorem dX9_text_49 : decode cX9_text 49 = .ok (.iaload, 1) := by decide +kernel
theorem dX9_text_50 : decode cX9_text 50 = .ok (.ifCond .eq 10, 3) := by decide +kernel
theorem dX9_text_53 : decode cX9_text 53 = .ok (.aload_n 0, 1) := by decide +kernel
theorem dX9_text_54 : decode cX9_text 54 = .ok (.invokevirtual 201, 3) := by decide +kernel
theorem dX9_text_57 : decode cX9_text 57 = .ok (.goto (-23), 3) := by decide +kernel
theorem dX9_text_60 : decode cX9_text 60 = .ok (.aload_n 0, 1) := by decide +kernel
theorem dX9_text_61 : decode cX9_text 61 = .ok (.getfield 173, 3) := by decide +kernel
theorem dX9_text_64 : decode cX9_text 64 = .ok (.ifCond .ne 11, 3) := by decide +kernel
theorem dX9_text_67 : decode cX9_text 67 = .ok (.aload_n 0, 1) := by decide +kernel
theorem dX9_text_68 : decode cX9_text 68 = .ok (.aload_n 0, 1) := by decide +kernel
theorem dX9_text_69 : decode cX9_text 69 = .ok (.getfield 189, 3) := by decide +kernel
theorem dX9_text_72 : decode cX9_text 72 = .ok (.putfield 198, 3) := by decide +kernel
theorem dX9_text_75 : decode cX9_text 75 = .ok (.aload_n 0, 1) := by decide +kernel
theorem dX9_text_76 : decode cX9_text 76 = .ok (.getfield 173, 3) := by decide +kernel
theorem dX9_text_79 : decode cX9_text 79 = .ok (.ireturn, 1) := by decide +kernel
theorem dX9_line_0 : decode cX9_line 0 = .ok (.aload_n 0, 1) := by decide +kernel
theorem dX9_line_1 : decode cX9_line 1 = .ok (.iconst 0, 1) := by decide +kernel
theorem dX9_line_2 : decode cX9_line 2 = .ok (.invokevirtual 183, 3) := by decide +kernel
theorem dX9_line_5 : decode cX9_line 5 = .ok (.ifCond .ne 11, 3) := by decide +kernel
theorem dX9_line_8 : decode cX9_line 8 = .ok (.aload_n 0, 1) := by decide +kernel
theorem dX9_line_9 : decode cX9_line 9 = .ok (.iconst 1, 1) := by decide +kernel
theorem dX9_line_10 : decode cX9_line 10 = .ok (.invokevirtual 179, 3) := by decide +kernel
theorem dX9_line_13 : decode cX9_line 13 = .ok (.goto 22, 3) := by decide +kernel
theorem dX9_line_16 : decode cX9_line 16 = .ok (.aload_n 0, 1) := by decide +kernel
theorem dX9_line_17 : decode cX9_line 17 = .ok (.getfield 50, 3) := by decide +kernel
theorem dX9_line_20 : decode cX9_line 20 = .ok (.aload_n 0, 1) := by decide +kernel
theorem dX9_line_21 : decode cX9_line 21 = .ok (.getfield 189, 3) := by decide +kernel
theorem dX9_line_24 : decode cX9_line 24 = .ok (.iaload, 1) := by decide +kernel
theorem dX9_line_25 : decode cX9_line 25 = .ok (.bipush 16, 2) := by decide +kernel
theorem dX9_line_27 : decode cX9_line 27 = .ok (.if_icmp .ne 8, 3) := by decide +kernel
theorem dX9_line_30 : decode cX9_line 30 = .ok (.aload_n 0, 1) := by decide +kernel
theorem dX9_line_31 : decode cX9_line 31 = .ok (.iconst 5, 1) := by decide +kernel
theorem dX9_line_32 : decode cX9_line 32 = .ok (.invokevirtual 179, 3) := by decide +kernel
theorem dX9_line_35 : decode cX9_line 35 = .ok (.aload_n 0, 1) := by decide +kernel
theorem dX9_line_36 : decode cX9_line 36 = .ok (.getfield 173, 3) := by decide +kernel
theorem dX9_line_39 : decode cX9_line 39 = .ok (.ifCond .le 4, 3) := by decide +kernel
theorem dX9_line_42 : decode cX9_line 42 = .ok (.return_, 1) := by decide +kernel
theorem dX9_line_43 : decode cX9_line 43 = .ok (.aload_n 0, 1) := by decide +kernel
theorem dX9_line_44 : decode cX9_line 44 = .ok (.dup, 1) := by decide +kernel
theorem dX9_line_45 : decode cX9_line 45 = .ok (.getfield 170, 3) := by decide +kernel
theorem dX9_line_48 : decode cX9_line 48 = .ok (.iconst 1, 1) := by decide +kernel
theorem dX9_line_49 : decode cX9_line 49 = .ok (.iadd, 1) := by decide +kernel
theorem dX9_line_50 : decode cX9_line 50 = .ok (.putfield 170, 3) := by decide +kernel
theorem dX9_line_53 : decode cX9_line 53 = .ok (.bipush 16, 2) := by decide +kernel
theorem dX9_line_55 : decode cX9_line 55 = .ok (.aload_n 0, 1) := by decide +kernel
theorem dX9_line_56 : decode cX9_line 56 = .ok (.getfield 189, 3) := by decide +kernel
theorem dX9_line_59 : decode cX9_line 59 = .ok (.imul, 1) := by decide +kernel
theorem dX9_line_60 : decode cX9_line 60 = .ok (.aload_n 0, 1) := by decide +kernel
theorem dX9_line_61 : decode cX9_line 61 = .ok (.getfield 50, 3) := by decide +kernel
theorem dX9_line_64 : decode cX9_line 64 = .ok (.aload_n 0, 1) := by decide +kernel
theorem dX9_line_65 : decode cX9_line 65 = .ok (.getfield 189, 3) := by decide +kernel
theorem dX9_line_68 : decode cX9_line 68 = .ok (.iaload, 1) := by decide +kernel
theorem dX9_line_69 : decode cX9_line 69 = .ok (.iadd, 1) := by decide +kernel
theorem dX9_line_70 : decode cX9_line 70 = .ok (.istore_n 1, 1) := by decide +kernel
theorem dX9_line_71 : decode cX9_line 71 = .ok (.aload_n 0, 1) := by decide +kernel
theorem dX9_line_72 : decode cX9_line 72 = .ok (.getfield 53, 3) := by decide +kernel
theorem dX9_line_75 : decode cX9_line 75 = .ok (.iload_n 1, 1) := by decide +kernel
theorem dX9_line_76 : decode cX9_line 76 = .ok (.iconst (-1), 1) := by decide +kernel
theorem dX9_line_77 : decode cX9_line 77 = .ok (.iastore, 1) := by decide +kernel
theorem dX9_line_78 : decode cX9_line 78 = .ok (.aload_n 0, 1) := by decide +kernel
theorem dX9_line_79 : decode cX9_line 79 = .ok (.iconst 1, 1) := by decide +kernel
theorem dX9_line_80 : decode cX9_line 80 = .ok (.invokevirtual 186, 3) := by decide +kernel
theorem dX9_line_83 : decode cX9_line 83 = .ok (.ifCond .ne 82, 3) := by decide +kernel
theorem dX9_line_86 : decode cX9_line 86 = .ok (.aload_n 0, 1) := by decide +kernel
theorem dX9_line_87 : decode cX9_line 87 = .ok (.getfield 13, 3) := by decide +kernel
theorem dX9_line_90 : decode cX9_line 90 = .ok (.aload_n 0, 1) := by decide +kernel
theorem dX9_line_91 : decode cX9_line 91 = .ok (.getfield 170, 3) := by decide +kernel
theorem dX9_line_94 : decode cX9_line 94 = .ok (.iaload, 1) := by decide +kernel
theorem dX9_line_95 : decode cX9_line 95 = .ok (.iconst 2, 1) := by decide +kernel
theorem dX9_line_96 : decode cX9_line 96 = .ok (.if_icmp .eq 11, 3) := by decide +kernel
theorem dX9_line_99 : decode cX9_line 99 = .ok (.aload_n 0, 1) := by decide +kernel
theorem dX9_line_100 : decode cX9_line 100 = .ok (.iconst 1, 1) := by decide +kernel
theorem dX9_line_101 : decode cX9_line 101 = .ok (.invokevirtual 179, 3) := by decide +kernel
theorem dX9_line_104 : decode cX9_line 104 = .ok (.goto 24, 3) := by decide +kernel
theorem dX9_line_107 : decode cX9_line 107 = .ok (.aload_n 0, 1) := by decide +kernel
theorem dX9_line_108 : decode cX9_line 108 = .ok (.getfield 19, 3) := by decide +kernel
theorem dX9_line_111 : decode cX9_line 111 = .ok (.aload_n 0, 1) := by decide +kernel
theorem dX9_line_112 : decode cX9_line 112 = .ok (.getfield 170, 3) := by decide +kernel
theorem dX9_line_115 : decode cX9_line 115 = .ok (.laload, 1) := by decide +kernel
theorem dX9_line_116 : decode cX9_line 116 = .ok (.ldc2_w 204, 3) := by decide +kernel
theorem dX9_line_119 : decode cX9_line 119 = .ok (.lcmp, 1) := by decide +kernel
theorem dX9_line_120 : decode cX9_line 120 = .ok (.ifCond .le 8, 3) := by decide +kernel
theorem dX9_line_123 : decode cX9_line 123 = .ok (.aload_n 0, 1) := by decide +kernel
theorem dX9_line_124 : decode cX9_line 124 = .ok (.iconst 4, 1) := by decide +kernel
theorem dX9_line_125 : decode cX9_line 125 = .ok (.invokevirtual 179, 3) := by decide +kernel
theorem dX9_line_128 : decode cX9_line 128 = .ok (.aload_n 0, 1) := by decide +kernel
theorem dX9_line_129 : decode cX9_line 129 = .ok (.getfield 53, 3) := by decide +kernel
theorem dX9_line_132 : decode cX9_line 132 = .ok (.iload_n 1, 1) := by decide +kernel
theorem dX9_line_133 : decode cX9_line 133 = .ok (.aload_n 0, 1) := by decide +kernel
theorem dX9_line_134 : decode cX9_line 134 = .ok (.getfield 173, 3) := by decide +kernel
theorem dX9_line_137 : decode cX9_line 137 = .ok (.ifCond .le 7, 3) := by decide +kernel
theorem dX9_line_140 : decode cX9_line 140 = .ok (.iconst (-1), 1) := by decide +kernel
theorem dX9_line_141 : decode cX9_line 141 = .ok (.goto 13, 3) := by decide +kernel
theorem dX9_line_144 : decode cX9_line 144 = .ok (.aload_n 0, 1) := by decide +kernel
theorem dX9_line_145 : decode cX9_line 145 = .ok (.getfield 19, 3) := by decide +kernel
theorem dX9_line_148 : decode cX9_line 148 = .ok (.aload_n 0, 1) := by decide +kernel
theorem dX9_line_149 : decode cX9_line 149 = .ok (.getfield 170, 3) := by decide +kernel
theorem dX9_line_152 : decode cX9_line 152 = .ok (.laload, 1) := by decide +kernel
theorem dX9_line_153 : decode cX9_line 153 = .ok (.l2i, 1) := by decide +kernel
theorem dX9_line_154 : decode cX9_line 154 = .ok (.iastore, 1) := by decide +kernel
theorem dX9_line_155 : decode cX9_line 155 = .ok (.aload_n 0, 1) := by decide +kernel
theorem dX9_line_156 : decode cX9_line 156 = .ok (.dup, 1) := by decide +kernel
theorem dX9_line_157 : decode cX9_line 157 = .ok (.getfield 170, 3) := by decide +kernel
theorem dX9_line_160 : decode cX9_line 160 = .ok (.iconst 1, 1) := by decide +kernel
theorem dX9_line_161 : decode cX9_line 161 = .ok (.iadd, 1) := by decide +kernel
theorem dX9_line_162 : decode cX9_line 162 = .ok (.putfield 170, 3) := by decide +kernel
theorem dX9_line_165 : decode cX9_line 165 = .ok (.aload_n 0, 1) := by decide +kernel
theorem dX9_line_166 : decode cX9_line 166 = .ok (.iconst 2, 1) := by decide +kernel
theorem dX9_line_167 : decode cX9_line 167 = .ok (.invokevirtual 206, 3) := by decide +kernel
theorem dX9_line_170 : decode cX9_line 170 = .ok (.aload_n 0, 1) := by decide +kernel
theorem dX9_line_171 : decode cX9_line 171 = .ok (.getfield 56, 3) := by decide +kernel
theorem dX9_line_174 : decode cX9_line 174 = .ok (.iload_n 1, 1) := by decide +kernel
theorem dX9_line_175 : decode cX9_line 175 = .ok (.sipush 660, 3) := by decide +kernel
theorem dX9_line_178 : decode cX9_line 178 = .ok (.aload_n 0, 1) := by decide +kernel
theorem dX9_line_179 : decode cX9_line 179 = .ok (.getfield 189, 3) := by decide +kernel
theorem dX9_line_182 : decode cX9_line 182 = .ok (.imul, 1) := by decide +kernel
theorem dX9_line_183 : decode cX9_line 183 = .ok (.aload_n 0, 1) := by decide +kernel
theorem dX9_line_184 : decode cX9_line 184 = .ok (.getfield 192, 3) := by decide +kernel
theorem dX9_line_187 : decode cX9_line 187 = .ok (.iadd, 1) := by decide +kernel
theorem dX9_line_188 : decode cX9_line 188 = .ok (.iastore, 1) := by decide +kernel
theorem dX9_line_189 : decode cX9_line 189 = .ok (.aload_n 0, 1) := by decide +kernel
theorem dX9_line_190 : decode cX9_line 190 = .ok (.iconst 0, 1) := by decide +kernel
theorem dX9_line_191 : decode cX9_line 191 = .ok (.putfield 209, 3) := by decide +kernel
theorem dX9_line_194 : decode cX9_line 194 = .ok (.aload_n 0, 1) := by decide +kernel
theorem dX9_line_195 : decode cX9_line 195 = .ok (.invokevirtual 212, 3) := by decide +kernel
theorem dX9_line_198 : decode cX9_line 198 = .ok (.iconst 1, 1) := by decide +kernel
theorem dX9_line_199 : decode cX9_line 199 = .ok (.istore_n 2, 1) := by decide +kernel
theorem dX9_line_200 : decode cX9_line 200 = .ok (.iload_n 2, 1) := by decide +kernel
theorem dX9_line_201 : decode cX9_line 201 = .ok (.ifCond .eq 33, 3) := by decide +kernel
theorem dX9_line_204 : decode cX9_line 204 = .ok (.aload_n 0, 1) := by decide +kernel
theorem dX9_line_205 : decode cX9_line 205 = .ok (.getfield 173, 3) := by decide +kernel
theorem dX9_line_208 : decode cX9_line 208 = .ok (.ifCond .ne 26, 3) := by decide +kernel
theorem dX9_line_211 : decode cX9_line 211 = .ok (.aload_n 0, 1) := by decide +kernel
theorem dX9_line_212 : decode cX9_line 212 = .ok (.invokevirtual 215, 3) := by decide +kernel
theorem dX9_line_215 : decode cX9_line 215 = .ok (.ifCond .ne 10, 3) := by decide +kernel
theorem dX9_line_218 : decode cX9_line 218 = .ok (.aload_n 0, 1) := by decide +kernel
theorem dX9_line_219 : decode cX9_line 219 = .ok (.invokevirtual 219, 3) := by decide +kernel
theorem dX9_line_222 : decode cX9_line 222 = .ok (.ifCond .eq 7, 3) := by decide +kernel
theorem dX9_line_225 : decode cX9_line 225 = .ok (.iconst 1, 1) := by decide +kernel
theorem dX9_line_226 : decode cX9_line 226 = .ok (.goto 4, 3) := by decide +kernel
theorem dX9_line_229 : decode cX9_line 229 = .ok (.iconst 0, 1) := by decide +kernel
theorem dX9_line_230 : decode cX9_line 230 = .ok (.istore_n 2, 1) := by decide +kernel
theorem dX9_line_231 : decode cX9_line 231 = .ok (.goto (-31), 3) := by decide +kernel
theorem dX9_line_234 : decode cX9_line 234 = .ok (.aload_n 0, 1) := by decide +kernel
theorem dX9_line_235 : decode cX9_line 235 = .ok (.iconst 0, 1) := by decide +kernel
theorem dX9_line_236 : decode cX9_line 236 = .ok (.iconst 0, 1) := by decide +kernel
theorem dX9_line_237 : decode cX9_line 237 = .ok (.invokevirtual 222, 3) := by decide +kernel
theorem dX9_line_240 : decode cX9_line 240 = .ok (.aload_n 0, 1) := by decide +kernel
theorem dX9_line_241 : decode cX9_line 241 = .ok (.bipush 59, 2) := by decide +kernel
theorem dX9_line_243 : decode cX9_line 243 = .ok (.invokevirtual 226, 3) := by decide +kernel
theorem dX9_line_246 : decode cX9_line 246 = .ok (.aload_n 0, 1) := by decide +kernel
theorem dX9_line_247 : decode cX9_line 247 = .ok (.getfield 50, 3) := by decide +kernel
theorem dX9_line_250 : decode cX9_line 250 = .ok (.aload_n 0, 1) := by decide +kernel
theorem dX9_line_251 : decode cX9_line 251 = .ok (.getfield 189, 3) := by decide +kernel
theorem dX9_line_254 : decode cX9_line 254 = .ok (.dup2, 1) := by decide +kernel
theorem dX9_line_255 : decode cX9_line 255 = .ok (.iaload, 1) := by decide +kernel
theorem dX9_line_256 : decode cX9_line 256 = .ok (.iconst 1, 1) := by decide +kernel
theorem dX9_line_257 : decode cX9_line 257 = .ok (.iadd, 1) := by decide +kernel
theorem dX9_line_258 : decode cX9_line 258 = .ok (.iastore, 1) := by decide +kernel
theorem dX9_line_259 : decode cX9_line 259 = .ok (.return_, 1) := by decide +kernel
theorem dX9_opens_0 : decode cX9_opens 0 = .ok (.aload_n 0, 1) := by decide +kernel
theorem dX9_opens_1 : decode cX9_opens 1 = .ok (.getfield 65, 3) := by decide +kernel
theorem dX9_opens_4 : decode cX9_opens 4 = .ok (.aload_n 0, 1) := by decide +kernel
theorem dX9_opens_5 : decode cX9_opens 5 = .ok (.getfield 209, 3) := by decide +kernel
theorem dX9_opens_8 : decode cX9_opens 8 = .ok (.iconst 0, 1) := by decide +kernel
theorem dX9_opens_9 : decode cX9_opens 9 = .ok (.iastore, 1) := by decide +kernel
theorem dX9_opens_10 : decode cX9_opens 10 = .ok (.aload_n 0, 1) := by decide +kernel
theorem dX9_opens_11 : decode cX9_opens 11 = .ok (.getfield 68, 3) := by decide +kernel
theorem dX9_opens_14 : decode cX9_opens 14 = .ok (.aload_n 0, 1) := by decide +kernel
theorem dX9_opens_15 : decode cX9_opens 15 = .ok (.getfield 209, 3) := by decide +kernel
theorem dX9_opens_18 : decode cX9_opens 18 = .ok (.iconst 0, 1) := by decide +kernel
theorem dX9_opens_19 : decode cX9_opens 19 = .ok (.iastore, 1) := by decide +kernel
theorem dX9_opens_20 : decode cX9_opens 20 = .ok (.aload_n 0, 1) := by decide +kernel
theorem dX9_opens_21 : decode cX9_opens 21 = .ok (.getfield 71, 3) := by decide +kernel
theorem dX9_opens_24 : decode cX9_opens 24 = .ok (.aload_n 0, 1) := by decide +kernel
theorem dX9_opens_25 : decode cX9_opens 25 = .ok (.getfield 209, 3) := by decide +kernel
theorem dX9_opens_28 : decode cX9_opens 28 = .ok (.iconst 0, 1) := by decide +kernel
theorem dX9_opens_29 : decode cX9_opens 29 = .ok (.iastore, 1) := by decide +kernel
theorem dX9_opens_30 : decode cX9_opens 30 = .ok (.return_, 1) := by decide +kernel
theorem dX9_partWord_0 : decode cX9_partWord 0 = .ok (.iconst 0, 1) := by decide +kernel
theorem dX9_partWord_1 : decode cX9_partWord 1 = .ok (.istore_n 1, 1) := by decide +kernel
theorem dX9_partWord_2 : decode cX9_partWord 2 = .ok (.iload_n 1, 1) := by decide +kernel
theorem dX9_partWord_3 : decode cX9_partWord 3 = .ok (.bipush 8, 2) := by decide +kernel
theorem dX9_partWord_5 : decode cX9_partWord 5 = .ok (.if_icmp .ge 21, 3) := by decide +kernel
theorem dX9_partWord_8 : decode cX9_partWord 8 = .ok (.aload_n 0, 1) := by decide +kernel
theorem dX9_partWord_9 : decode cX9_partWord 9 = .ok (.iconst 4, 1) := by decide +kernel
theorem dX9_partWord_10 : decode cX9_partWord 10 = .ok (.iload_n 1, 1) := by decide +kernel
theorem dX9_partWord_11 : decode cX9_partWord 11 = .ok (.iadd, 1) := by decide +kernel
theorem dX9_partWord_12 : decode cX9_partWord 12 = .ok (.invokevirtual 183, 3) := by decide +kernel
theorem dX9_partWord_15 : decode cX9_partWord 15 = .ok (.ifCond .eq 5, 3) := by decide +kernel
theorem dX9_partWord_18 : decode cX9_partWord 18 = .ok (.iload_n 1, 1) := by decide +kernel
theorem dX9_partWord_19 : decode cX9_partWord 19 = .ok (.ireturn, 1) := by decide +kernel
theorem dX9_partWord_20 : decode cX9_partWord 20 = .ok (.iinc 1 1, 3) := by decide +kernel
theorem dX9_partWord_23 : decode cX9_partWord 23 = .ok (.goto (-21), 3) := by decide +kernel
theorem dX9_partWord_26 : decode cX9_partWord 26 = .ok (.iconst (-1), 1) := by decide +kernel
theorem dX9_partWord_27 : decode cX9_partWord 27 = .ok (.ireturn, 1) := by decide +kernel
theorem dX9_part_0 : decode cX9_part 0 = .ok (.aload_n 0, 1) := by decide +kernel
theorem dX9_part_1 : decode cX9_part 1 = .ok (.invokevirtual 229, 3) := by decide +kernel
theorem dX9_part_4 : decode cX9_part 4 = .ok (.istore_n 1, 1) := by decide +kernel
theorem dX9_part_5 : decode cX9_part 5 = .ok (.aload_n 0, 1) := by decide +kernel
theorem dX9_part_6 : decode cX9_part 6 = .ok (.getfield 173, 3) := by decide +kernel
theorem dX9_part_9 : decode cX9_part 9 = .ok (.ifCond .ne 37, 3) := by decide +kernel
theorem dX9_part_12 : decode cX9_part 12 = .ok (.aload_n 0, 1) := by decide +kernel
theorem dX9_part_13 : decode cX9_part 13 = .ok (.getfield 13, 3) := by decide +kernel
theorem dX9_part_16 : decode cX9_part 16 = .ok (.aload_n 0, 1) := by decide +kernel
theorem dX9_part_17 : decode cX9_part 17 = .ok (.getfield 170, 3) := by decide +kernel
theorem dX9_part_20 : decode cX9_part 20 = .ok (.iaload, 1) := by decide +kernel
theorem dX9_part_21 : decode cX9_part 21 = .ok (.iconst 2, 1) := by decide +kernel
theorem dX9_part_22 : decode cX9_part 22 = .ok (.if_icmp .eq 24, 3) := by decide +kernel
theorem dX9_part_25 : decode cX9_part 25 = .ok (.aload_n 0, 1) := by decide +kernel
theorem dX9_part_26 : decode cX9_part 26 = .ok (.bipush 40, 2) := by decide +kernel
theorem dX9_part_28 : decode cX9_part 28 = .ok (.invokevirtual 176, 3) := by decide +kernel
theorem dX9_part_31 : decode cX9_part 31 = .ok (.ifCond .ne 15, 3) := by decide +kernel
theorem dX9_part_34 : decode cX9_part 34 = .ok (.iload_n 1, 1) := by decide +kernel
theorem dX9_part_35 : decode cX9_part 35 = .ok (.ifCond .ge 11, 3) := by decide +kernel
theorem dX9_part_38 : decode cX9_part 38 = .ok (.aload_n 0, 1) := by decide +kernel
theorem dX9_part_39 : decode cX9_part 39 = .ok (.iconst 1, 1) := by decide +kernel
theorem dX9_part_40 : decode cX9_part 40 = .ok (.invokevirtual 179, 3) := by decide +kernel
theorem dX9_part_43 : decode cX9_part 43 = .ok (.goto 16, 3) := by decide +kernel
theorem dX9_part_46 : decode cX9_part 46 = .ok (.aload_n 0, 1) := by decide +kernel
theorem dX9_part_47 : decode cX9_part 47 = .ok (.getfield 209, 3) := by decide +kernel
theorem dX9_part_50 : decode cX9_part 50 = .ok (.iconst 5, 1) := by decide +kernel
theorem dX9_part_51 : decode cX9_part 51 = .ok (.if_icmp .ne 8, 3) := by decide +kernel
theorem dX9_part_54 : decode cX9_part 54 = .ok (.aload_n 0, 1) := by decide +kernel
theorem dX9_part_55 : decode cX9_part 55 = .ok (.iconst 5, 1) := by decide +kernel
theorem dX9_part_56 : decode cX9_part 56 = .ok (.invokevirtual 179, 3) := by decide +kernel
theorem dX9_part_59 : decode cX9_part 59 = .ok (.aload_n 0, 1) := by decide +kernel
theorem dX9_part_60 : decode cX9_part 60 = .ok (.getfield 173, 3) := by decide +kernel
theorem dX9_part_63 : decode cX9_part 63 = .ok (.ifCond .le 5, 3) := by decide +kernel
theorem dX9_part_66 : decode cX9_part 66 = .ok (.iconst 0, 1) := by decide +kernel
theorem dX9_part_67 : decode cX9_part 67 = .ok (.ireturn, 1) := by decide +kernel
theorem dX9_part_68 : decode cX9_part 68 = .ok (.aload_n 0, 1) := by decide +kernel
theorem dX9_part_69 : decode cX9_part 69 = .ok (.bipush 40, 2) := by decide +kernel
theorem dX9_part_71 : decode cX9_part 71 = .ok (.invokevirtual 233, 3) := by decide +kernel
theorem dX9_part_74 : decode cX9_part 74 = .ok (.ifCond .eq 19, 3) := by decide +kernel
theorem dX9_part_77 : decode cX9_part 77 = .ok (.aload_n 0, 1) := by decide +kernel
theorem dX9_part_78 : decode cX9_part 78 = .ok (.dup, 1) := by decide +kernel
theorem dX9_part_79 : decode cX9_part 79 = .ok (.getfield 209, 3) := by decide +kernel
theorem dX9_part_82 : decode cX9_part 82 = .ok (.iconst 1, 1) := by decide +kernel
theorem dX9_part_83 : decode cX9_part 83 = .ok (.iadd, 1) := by decide +kernel
theorem dX9_part_84 : decode cX9_part 84 = .ok (.putfield 209, 3) := by decide +kernel
theorem dX9_part_87 : decode cX9_part 87 = .ok (.aload_n 0, 1) := by decide +kernel
theorem dX9_part_88 : decode cX9_part 88 = .ok (.invokevirtual 212, 3) := by decide +kernel
theorem dX9_part_91 : decode cX9_part 91 = .ok (.iconst 1, 1) := by decide +kernel
theorem dX9_part_92 : decode cX9_part 92 = .ok (.ireturn, 1) := by decide +kernel
theorem dX9_part_93 : decode cX9_part 93 = .ok (.aload_n 0, 1) := by decide +kernel
theorem dX9_part_94 : decode cX9_part 94 = .ok (.iload_n 1, 1) := by decide +kernel
theorem dX9_part_95 : decode cX9_part 95 = .ok (.ifCond .ge 7, 3) := by decide +kernel
theorem dX9_part_98 : decode cX9_part 98 = .ok (.iconst 1, 1) := by decide +kernel
theorem dX9_part_99 : decode cX9_part 99 = .ok (.goto 4, 3) := by decide +kernel
theorem dX9_part_102 : decode cX9_part 102 = .ok (.iconst 2, 1) := by decide +kernel
theorem dX9_part_103 : decode cX9_part 103 = .ok (.iload_n 1, 1) := by decide +kernel
theorem dX9_part_104 : decode cX9_part 104 = .ok (.ifCond .ge 16, 3) := by decide +kernel
theorem dX9_part_107 : decode cX9_part 107 = .ok (.aload_n 0, 1) := by decide +kernel
theorem dX9_part_108 : decode cX9_part 108 = .ok (.getfield 19, 3) := by decide +kernel
theorem dX9_part_111 : decode cX9_part 111 = .ok (.aload_n 0, 1) := by decide +kernel
theorem dX9_part_112 : decode cX9_part 112 = .ok (.getfield 170, 3) := by decide +kernel
theorem dX9_part_115 : decode cX9_part 115 = .ok (.laload, 1) := by decide +kernel
theorem dX9_part_116 : decode cX9_part 116 = .ok (.l2i, 1) := by decide +kernel
theorem dX9_part_117 : decode cX9_part 117 = .ok (.goto 4, 3) := by decide +kernel
theorem dX9_part_120 : decode cX9_part 120 = .ok (.iload_n 1, 1) := by decide +kernel
theorem dX9_part_121 : decode cX9_part 121 = .ok (.invokevirtual 222, 3) := by decide +kernel
theorem dX9_part_124 : decode cX9_part 124 = .ok (.aload_n 0, 1) := by decide +kernel
theorem dX9_part_125 : decode cX9_part 125 = .ok (.dup, 1) := by decide +kernel
theorem dX9_part_126 : decode cX9_part 126 = .ok (.getfield 170, 3) := by decide +kernel
theorem dX9_part_129 : decode cX9_part 129 = .ok (.iconst 1, 1) := by decide +kernel
theorem dX9_part_130 : decode cX9_part 130 = .ok (.iadd, 1) := by decide +kernel
theorem dX9_part_131 : decode cX9_part 131 = .ok (.putfield 170, 3) := by decide +kernel
theorem dX9_part_134 : decode cX9_part 134 = .ok (.iconst 0, 1) := by decide +kernel
theorem dX9_part_135 : decode cX9_part 135 = .ok (.ireturn, 1) := by decide +kernel
theorem dX9_goesOnBehind_0 : decode cX9_goesOnBehind 0 = .ok (.aload_n 0, 1) := by decide +kernel
theorem dX9_goesOnBehind_1 : decode cX9_goesOnBehind 1 = .ok (.getfield 173, 3) := by decide +kernel
theorem dX9_goesOnBehind_4 : decode cX9_goesOnBehind 4 = .ok (.ifCond .ne 273, 3) := by decide +kernel
theorem dX9_goesOnBehind_7 : decode cX9_goesOnBehind 7 = .ok (.aload_n 0, 1) := by decide +kernel
theorem dX9_goesOnBehind_8 : decode cX9_goesOnBehind 8 = .ok (.getfield 65, 3) := by decide +kernel
theorem dX9_goesOnBehind_11 : decode cX9_goesOnBehind 11 = .ok (.aload_n 0, 1) := by decide +kernel
theorem dX9_goesOnBehind_12 : decode cX9_goesOnBehind 12 = .ok (.getfield 209, 3) := by decide +kernel
theorem dX9_goesOnBehind_15 : decode cX9_goesOnBehind 15 = .ok (.iaload, 1) := by decide +kernel
theorem dX9_goesOnBehind_16 : decode cX9_goesOnBehind 16 = .ok (.ifCond .eq 27, 3) := by decide +kernel
theorem dX9_goesOnBehind_19 : decode cX9_goesOnBehind 19 = .ok (.aload_n 0, 1) := by decide +kernel
theorem dX9_goesOnBehind_20 : decode cX9_goesOnBehind 20 = .ok (.aload_n 0, 1) := by decide +kernel
theorem dX9_goesOnBehind_21 : decode cX9_goesOnBehind 21 = .ok (.getfield 65, 3) := by decide +kernel
theorem dX9_goesOnBehind_24 : decode cX9_goesOnBehind 24 = .ok (.aload_n 0, 1) := by decide +kernel
theorem dX9_goesOnBehind_25 : decode cX9_goesOnBehind 25 = .ok (.getfield 209, 3) := by decide +kernel
theorem dX9_goesOnBehind_28 : decode cX9_goesOnBehind 28 = .ok (.iaload, 1) := by decide +kernel
theorem dX9_goesOnBehind_29 : decode cX9_goesOnBehind 29 = .ok (.iconst 0, 1) := by decide +kernel
theorem dX9_goesOnBehind_30 : decode cX9_goesOnBehind 30 = .ok (.invokevirtual 222, 3) := by decide +kernel
theorem dX9_goesOnBehind_33 : decode cX9_goesOnBehind 33 = .ok (.aload_n 0, 1) := by decide +kernel
theorem dX9_goesOnBehind_34 : decode cX9_goesOnBehind 34 = .ok (.getfield 65, 3) := by decide +kernel
theorem dX9_goesOnBehind_37 : decode cX9_goesOnBehind 37 = .ok (.aload_n 0, 1) := by decide +kernel
theorem dX9_goesOnBehind_38 : decode cX9_goesOnBehind 38 = .ok (.getfield 209, 3) := by decide +kernel
theorem dX9_goesOnBehind_41 : decode cX9_goesOnBehind 41 = .ok (.iconst 0, 1) := by decide +kernel
theorem dX9_goesOnBehind_42 : decode cX9_goesOnBehind 42 = .ok (.iastore, 1) := by decide +kernel
theorem dX9_goesOnBehind_43 : decode cX9_goesOnBehind 43 = .ok (.aload_n 0, 1) := by decide +kernel
theorem dX9_goesOnBehind_44 : decode cX9_goesOnBehind 44 = .ok (.bipush 43, 2) := by decide +kernel
theorem dX9_goesOnBehind_46 : decode cX9_goesOnBehind 46 = .ok (.invokevirtual 176, 3) := by decide +kernel
theorem dX9_goesOnBehind_49 : decode cX9_goesOnBehind 49 = .ok (.ifCond .ne 12, 3) := by decide +kernel
theorem dX9_goesOnBehind_52 : decode cX9_goesOnBehind 52 = .ok (.aload_n 0, 1) := by decide +kernel
theorem dX9_goesOnBehind_53 : decode cX9_goesOnBehind 53 = .ok (.bipush 45, 2) := by decide +kernel
theorem dX9_goesOnBehind_55 : decode cX9_goesOnBehind 55 = .ok (.invokevirtual 176, 3) := by decide +kernel
theorem dX9_goesOnBehind_58 : decode cX9_goesOnBehind 58 = .ok (.ifCond .eq 38, 3) := by decide +kernel
theorem dX9_goesOnBehind_61 : decode cX9_goesOnBehind 61 = .ok (.aload_n 0, 1) := by decide +kernel
theorem dX9_goesOnBehind_62 : decode cX9_goesOnBehind 62 = .ok (.getfield 65, 3) := by decide +kernel
theorem dX9_goesOnBehind_65 : decode cX9_goesOnBehind 65 = .ok (.aload_n 0, 1) := by decide +kernel
theorem dX9_goesOnBehind_66 : decode cX9_goesOnBehind 66 = .ok (.getfield 209, 3) := by decide +kernel
theorem dX9_goesOnBehind_69 : decode cX9_goesOnBehind 69 = .ok (.aload_n 0, 1) := by decide +kernel
theorem dX9_goesOnBehind_70 : decode cX9_goesOnBehind 70 = .ok (.bipush 43, 2) := by decide +kernel
theorem dX9_goesOnBehind_72 : decode cX9_goesOnBehind 72 = .ok (.invokevirtual 176, 3) := by decide +kernel
theorem dX9_goesOnBehind_75 : decode cX9_goesOnBehind 75 = .ok (.ifCond .eq 7, 3) := by decide +kernel
theorem dX9_goesOnBehind_78 : decode cX9_goesOnBehind 78 = .ok (.iconst 3, 1) := by decide +kernel
theorem dX9_goesOnBehind_79 : decode cX9_goesOnBehind 79 = .ok (.goto 4, 3) := by decide +kernel
theorem dX9_goesOnBehind_82 : decode cX9_goesOnBehind 82 = .ok (.iconst 4, 1) := by decide +kernel
theorem dX9_goesOnBehind_83 : decode cX9_goesOnBehind 83 = .ok (.iastore, 1) := by decide +kernel
theorem dX9_goesOnBehind_84 : decode cX9_goesOnBehind 84 = .ok (.aload_n 0, 1) := by decide +kernel
theorem dX9_goesOnBehind_85 : decode cX9_goesOnBehind 85 = .ok (.dup, 1) := by decide +kernel
theorem dX9_goesOnBehind_86 : decode cX9_goesOnBehind 86 = .ok (.getfield 170, 3) := by decide +kernel
theorem dX9_goesOnBehind_89 : decode cX9_goesOnBehind 89 = .ok (.iconst 1, 1) := by decide +kernel
theorem dX9_goesOnBehind_90 : decode cX9_goesOnBehind 90 = .ok (.iadd, 1) := by decide +kernel
theorem dX9_goesOnBehind_91 : decode cX9_goesOnBehind 91 = .ok (.putfield 170, 3) := by decide +kernel
theorem dX9_goesOnBehind_94 : decode cX9_goesOnBehind 94 = .ok (.iconst 1, 1) := by decide +kernel
theorem dX9_goesOnBehind_95 : decode cX9_goesOnBehind 95 = .ok (.ireturn, 1) := by decide +kernel
theorem dX9_goesOnBehind_96 : decode cX9_goesOnBehind 96 = .ok (.aload_n 0, 1) := by decide +kernel
theorem dX9_goesOnBehind_97 : decode cX9_goesOnBehind 97 = .ok (.getfield 68, 3) := by decide +kernel
theorem dX9_goesOnBehind_100 : decode cX9_goesOnBehind 100 = .ok (.aload_n 0, 1) := by decide +kernel
theorem dX9_goesOnBehind_101 : decode cX9_goesOnBehind 101 = .ok (.getfield 209, 3) := by decide +kernel
theorem dX9_goesOnBehind_104 : decode cX9_goesOnBehind 104 = .ok (.iaload, 1) := by decide +kernel
theorem dX9_goesOnBehind_105 : decode cX9_goesOnBehind 105 = .ok (.ifCond .eq 30, 3) := by decide +kernel
theorem dX9_goesOnBehind_108 : decode cX9_goesOnBehind 108 = .ok (.aload_n 0, 1) := by decide +kernel
theorem dX9_goesOnBehind_109 : decode cX9_goesOnBehind 109 = .ok (.aload_n 0, 1) := by decide +kernel
theorem dX9_goesOnBehind_110 : decode cX9_goesOnBehind 110 = .ok (.getfield 68, 3) := by decide +kernel
theorem dX9_goesOnBehind_113 : decode cX9_goesOnBehind 113 = .ok (.aload_n 0, 1) := by decide +kernel
theorem dX9_goesOnBehind_114 : decode cX9_goesOnBehind 114 = .ok (.getfield 209, 3) := by decide +kernel
theorem dX9_goesOnBehind_117 : decode cX9_goesOnBehind 117 = .ok (.iaload, 1) := by decide +kernel
theorem dX9_goesOnBehind_118 : decode cX9_goesOnBehind 118 = .ok (.iconst 0, 1) := by decide +kernel
theorem dX9_goesOnBehind_119 : decode cX9_goesOnBehind 119 = .ok (.invokevirtual 222, 3) := by decide +kernel
theorem dX9_goesOnBehind_122 : decode cX9_goesOnBehind 122 = .ok (.aload_n 0, 1) := by decide +kernel
theorem dX9_goesOnBehind_123 : decode cX9_goesOnBehind 123 = .ok (.getfield 68, 3) := by decide +kernel
theorem dX9_goesOnBehind_126 : decode cX9_goesOnBehind 126 = .ok (.aload_n 0, 1) := by decide +kernel
theorem dX9_goesOnBehind_127 : decode cX9_goesOnBehind 127 = .ok (.getfield 209, 3) := by decide +kernel
theorem dX9_goesOnBehind_130 : decode cX9_goesOnBehind 130 = .ok (.iconst 0, 1) := by decide +kernel
theorem dX9_goesOnBehind_131 : decode cX9_goesOnBehind 131 = .ok (.iastore, 1) := by decide +kernel
theorem dX9_goesOnBehind_132 : decode cX9_goesOnBehind 132 = .ok (.goto 57, 3) := by decide +kernel
theorem dX9_goesOnBehind_135 : decode cX9_goesOnBehind 135 = .ok (.aload_n 0, 1) := by decide +kernel
theorem dX9_goesOnBehind_136 : decode cX9_goesOnBehind 136 = .ok (.bipush 60, 2) := by decide +kernel
theorem dX9_goesOnBehind_138 : decode cX9_goesOnBehind 138 = .ok (.invokevirtual 176, 3) := by decide +kernel
theorem dX9_goesOnBehind_141 : decode cX9_goesOnBehind 141 = .ok (.ifCond .ne 12, 3) := by decide +kernel
theorem dX9_goesOnBehind_144 : decode cX9_goesOnBehind 144 = .ok (.aload_n 0, 1) := by decide +kernel
theorem dX9_goesOnBehind_145 : decode cX9_goesOnBehind 145 = .ok (.bipush 61, 2) := by decide +kernel
theorem dX9_goesOnBehind_147 : decode cX9_goesOnBehind 147 = .ok (.invokevirtual 176, 3) := by decide +kernel
theorem dX9_goesOnBehind_150 : decode cX9_goesOnBehind 150 = .ok (.ifCond .eq 39, 3) := by decide +kernel
theorem dX9_goesOnBehind_153 : decode cX9_goesOnBehind 153 = .ok (.aload_n 0, 1) := by decide +kernel
theorem dX9_goesOnBehind_154 : decode cX9_goesOnBehind 154 = .ok (.getfield 68, 3) := by decide +kernel
theorem dX9_goesOnBehind_157 : decode cX9_goesOnBehind 157 = .ok (.aload_n 0, 1) := by decide +kernel
theorem dX9_goesOnBehind_158 : decode cX9_goesOnBehind 158 = .ok (.getfield 209, 3) := by decide +kernel
theorem dX9_goesOnBehind_161 : decode cX9_goesOnBehind 161 = .ok (.aload_n 0, 1) := by decide +kernel
theorem dX9_goesOnBehind_162 : decode cX9_goesOnBehind 162 = .ok (.bipush 60, 2) := by decide +kernel
theorem dX9_goesOnBehind_164 : decode cX9_goesOnBehind 164 = .ok (.invokevirtual 176, 3) := by decide +kernel
theorem dX9_goesOnBehind_167 : decode cX9_goesOnBehind 167 = .ok (.ifCond .eq 7, 3) := by decide +kernel
theorem dX9_goesOnBehind_170 : decode cX9_goesOnBehind 170 = .ok (.iconst 5, 1) := by decide +kernel
theorem dX9_goesOnBehind_171 : decode cX9_goesOnBehind 171 = .ok (.goto 5, 3) := by decide +kernel
theorem dX9_goesOnBehind_174 : decode cX9_goesOnBehind 174 = .ok (.bipush 6, 2) := by decide +kernel
theorem dX9_goesOnBehind_176 : decode cX9_goesOnBehind 176 = .ok (.iastore, 1) := by decide +kernel
theorem dX9_goesOnBehind_177 : decode cX9_goesOnBehind 177 = .ok (.aload_n 0, 1) := by decide +kernel
theorem dX9_goesOnBehind_178 : decode cX9_goesOnBehind 178 = .ok (.dup, 1) := by decide +kernel
theorem dX9_goesOnBehind_179 : decode cX9_goesOnBehind 179 = .ok (.getfield 170, 3) := by decide +kernel
theorem dX9_goesOnBehind_182 : decode cX9_goesOnBehind 182 = .ok (.iconst 1, 1) := by decide +kernel
theorem dX9_goesOnBehind_183 : decode cX9_goesOnBehind 183 = .ok (.iadd, 1) := by decide +kernel
theorem dX9_goesOnBehind_184 : decode cX9_goesOnBehind 184 = .ok (.putfield 170, 3) := by decide +kernel
theorem dX9_goesOnBehind_187 : decode cX9_goesOnBehind 187 = .ok (.iconst 1, 1) := by decide +kernel
theorem dX9_goesOnBehind_188 : decode cX9_goesOnBehind 188 = .ok (.ireturn, 1) := by decide +kernel
theorem dX9_goesOnBehind_189 : decode cX9_goesOnBehind 189 = .ok (.aload_n 0, 1) := by decide +kernel
theorem dX9_goesOnBehind_190 : decode cX9_goesOnBehind 190 = .ok (.getfield 71, 3) := by decide +kernel
theorem dX9_goesOnBehind_193 : decode cX9_goesOnBehind 193 = .ok (.aload_n 0, 1) := by decide +kernel
theorem dX9_goesOnBehind_194 : decode cX9_goesOnBehind 194 = .ok (.getfield 209, 3) := by decide +kernel
theorem dX9_goesOnBehind_197 : decode cX9_goesOnBehind 197 = .ok (.iaload, 1) := by decide +kernel
theorem dX9_goesOnBehind_198 : decode cX9_goesOnBehind 198 = .ok (.ifCond .eq 20, 3) := by decide +kernel
theorem dX9_goesOnBehind_201 : decode cX9_goesOnBehind 201 = .ok (.aload_n 0, 1) := by decide +kernel
theorem dX9_goesOnBehind_202 : decode cX9_goesOnBehind 202 = .ok (.bipush 7, 2) := by decide +kernel
theorem dX9_goesOnBehind_204 : decode cX9_goesOnBehind 204 = .ok (.iconst 0, 1) := by decide +kernel
theorem dX9_goesOnBehind_205 : decode cX9_goesOnBehind 205 = .ok (.invokevirtual 222, 3) := by decide +kernel
theorem dX9_goesOnBehind_208 : decode cX9_goesOnBehind 208 = .ok (.aload_n 0, 1) := by decide +kernel
theorem dX9_goesOnBehind_209 : decode cX9_goesOnBehind 209 = .ok (.getfield 71, 3) := by decide +kernel
theorem dX9_goesOnBehind_212 : decode cX9_goesOnBehind 212 = .ok (.aload_n 0, 1) := by decide +kernel
theorem dX9_goesOnBehind_213 : decode cX9_goesOnBehind 213 = .ok (.getfield 209, 3) := by decide +kernel
theorem dX9_goesOnBehind_216 : decode cX9_goesOnBehind 216 = .ok (.iconst 0, 1) := by decide +kernel
theorem dX9_goesOnBehind_217 : decode cX9_goesOnBehind 217 = .ok (.iastore, 1) := by decide +kernel
theorem dX9_goesOnBehind_218 : decode cX9_goesOnBehind 218 = .ok (.aload_n 0, 1) := by decide +kernel
theorem dX9_goesOnBehind_219 : decode cX9_goesOnBehind 219 = .ok (.iconst 3, 1) := by decide +kernel
theorem dX9_goesOnBehind_220 : decode cX9_goesOnBehind 220 = .ok (.invokevirtual 183, 3) := by decide +kernel
theorem dX9_goesOnBehind_223 : decode cX9_goesOnBehind 223 = .ok (.ifCond .eq 26, 3) := by decide +kernel
theorem dX9_goesOnBehind_226 : decode cX9_goesOnBehind 226 = .ok (.aload_n 0, 1) := by decide +kernel
theorem dX9_goesOnBehind_227 : decode cX9_goesOnBehind 227 = .ok (.getfield 71, 3) := by decide +kernel
theorem dX9_goesOnBehind_230 : decode cX9_goesOnBehind 230 = .ok (.aload_n 0, 1) := by decide +kernel
theorem dX9_goesOnBehind_231 : decode cX9_goesOnBehind 231 = .ok (.getfield 209, 3) := by decide +kernel
theorem dX9_goesOnBehind_234 : decode cX9_goesOnBehind 234 = .ok (.bipush 7, 2) := by decide +kernel
theorem dX9_goesOnBehind_236 : decode cX9_goesOnBehind 236 = .ok (.iastore, 1) := by decide +kernel
theorem dX9_goesOnBehind_237 : decode cX9_goesOnBehind 237 = .ok (.aload_n 0, 1) := by decide +kernel
theorem dX9_goesOnBehind_238 : decode cX9_goesOnBehind 238 = .ok (.dup, 1) := by decide +kernel
theorem dX9_goesOnBehind_239 : decode cX9_goesOnBehind 239 = .ok (.getfield 170, 3) := by decide +kernel
theorem dX9_goesOnBehind_242 : decode cX9_goesOnBehind 242 = .ok (.iconst 1, 1) := by decide +kernel
theorem dX9_goesOnBehind_243 : decode cX9_goesOnBehind 243 = .ok (.iadd, 1) := by decide +kernel
theorem dX9_goesOnBehind_244 : decode cX9_goesOnBehind 244 = .ok (.putfield 170, 3) := by decide +kernel
theorem dX9_goesOnBehind_247 : decode cX9_goesOnBehind 247 = .ok (.iconst 1, 1) := by decide +kernel
theorem dX9_goesOnBehind_248 : decode cX9_goesOnBehind 248 = .ok (.ireturn, 1) := by decide +kernel
theorem dX9_goesOnBehind_249 : decode cX9_goesOnBehind 249 = .ok (.aload_n 0, 1) := by decide +kernel
theorem dX9_goesOnBehind_250 : decode cX9_goesOnBehind 250 = .ok (.getfield 209, 3) := by decide +kernel
theorem dX9_goesOnBehind_253 : decode cX9_goesOnBehind 253 = .ok (.ifCond .ne 5, 3) := by decide +kernel
theorem dX9_goesOnBehind_256 : decode cX9_goesOnBehind 256 = .ok (.iconst 0, 1) := by decide +kernel
theorem dX9_goesOnBehind_257 : decode cX9_goesOnBehind 257 = .ok (.ireturn, 1) := by decide +kernel
theorem dX9_goesOnBehind_258 : decode cX9_goesOnBehind 258 = .ok (.aload_n 0, 1) := by decide +kernel
theorem dX9_goesOnBehind_259 : decode cX9_goesOnBehind 259 = .ok (.bipush 41, 2) := by decide +kernel
theorem dX9_goesOnBehind_261 : decode cX9_goesOnBehind 261 = .ok (.invokevirtual 226, 3) := by decide +kernel
theorem dX9_goesOnBehind_264 : decode cX9_goesOnBehind 264 = .ok (.aload_n 0, 1) := by decide +kernel
theorem dX9_goesOnBehind_265 : decode cX9_goesOnBehind 265 = .ok (.dup, 1) := by decide +kernel
theorem dX9_goesOnBehind_266 : decode cX9_goesOnBehind 266 = .ok (.getfield 209, 3) := by decide +kernel
theorem dX9_goesOnBehind_269 : decode cX9_goesOnBehind 269 = .ok (.iconst 1, 1) := by decide +kernel
theorem dX9_goesOnBehind_270 : decode cX9_goesOnBehind 270 = .ok (.isub, 1) := by decide +kernel
theorem dX9_goesOnBehind_271 : decode cX9_goesOnBehind 271 = .ok (.putfield 209, 3) := by decide +kernel
theorem dX9_goesOnBehind_274 : decode cX9_goesOnBehind 274 = .ok (.goto (-274), 3) := by decide +kernel
theorem dX9_goesOnBehind_277 : decode cX9_goesOnBehind 277 = .ok (.iconst 0, 1) := by decide +kernel
theorem dX9_goesOnBehind_278 : decode cX9_goesOnBehind 278 = .ok (.ireturn, 1) := by decide +kernel
theorem dX9_worth_0 : decode cX9_worth 0 = .ok (.iload_n 1, 1) := by decide +kernel
theorem dX9_worth_1 : decode cX9_worth 1 = .ok (.istore_n 2, 1) := by decide +kernel
theorem dX9_worth_2 : decode cX9_worth 2 = .ok (.iconst 0, 1) := by decide +kernel
theorem dX9_worth_3 : decode cX9_worth 3 = .ok (.istore_n 3, 1) := by decide +kernel
theorem dX9_worth_4 : decode cX9_worth 4 = .ok (.aload_n 0, 1) := by decide +kernel
theorem dX9_worth_5 : decode cX9_worth 5 = .ok (.getfield 59, 3) := by decide +kernel
theorem dX9_worth_8 : decode cX9_worth 8 = .ok (.iload_n 2, 1) := by decide +kernel
theorem dX9_worth_9 : decode cX9_worth 9 = .ok (.iaload, 1) := by decide +kernel
theorem dX9_worth_10 : decode cX9_worth 10 = .ok (.ifCond .eq 182, 3) := by decide +kernel
theorem dX9_worth_13 : decode cX9_worth 13 = .ok (.aload_n 0, 1) := by decide +kernel
theorem dX9_worth_14 : decode cX9_worth 14 = .ok (.getfield 59, 3) := by decide +kernel
theorem dX9_worth_17 : decode cX9_worth 17 = .ok (.iload_n 2, 1) := by decide +kernel
theorem dX9_worth_18 : decode cX9_worth 18 = .ok (.iaload, 1) := by decide +kernel
theorem dX9_worth_19 : decode cX9_worth 19 = .ok (.istore 4, 2) := by decide +kernel
theorem dX9_worth_21 : decode cX9_worth 21 = .ok (.iload 4, 2) := by decide +kernel
theorem dX9_worth_23 : decode cX9_worth 23 = .ok (.iconst 1, 1) := by decide +kernel
theorem dX9_worth_24 : decode cX9_worth 24 = .ok (.if_icmp .eq 9, 3) := by decide +kernel
theorem dX9_worth_27 : decode cX9_worth 27 = .ok (.iload 4, 2) := by decide +kernel
theorem dX9_worth_29 : decode cX9_worth 29 = .ok (.iconst 2, 1) := by decide +kernel
theorem dX9_worth_30 : decode cX9_worth 30 = .ok (.if_icmp .ne 41, 3) := by decide +kernel
theorem dX9_worth_33 : decode cX9_worth 33 = .ok (.aload_n 0, 1) := by decide +kernel
theorem dX9_worth_34 : decode cX9_worth 34 = .ok (.getfield 77, 3) := by decide +kernel
theorem dX9_worth_37 : decode cX9_worth 37 = .ok (.iload_n 3, 1) := by decide +kernel
theorem dX9_worth_38 : decode cX9_worth 38 = .ok (.iload 4, 2) := by decide +kernel
theorem dX9_worth_40 : decode cX9_worth 40 = .ok (.iconst 1, 1) := by decide +kernel
theorem dX9_worth_41 : decode cX9_worth 41 = .ok (.if_icmp .ne 12, 3) := by decide +kernel
theorem dX9_worth_44 : decode cX9_worth 44 = .ok (.aload_n 0, 1) := by decide +kernel
theorem dX9_worth_45 : decode cX9_worth 45 = .ok (.getfield 62, 3) := by decide +kernel
theorem dX9_worth_48 : decode cX9_worth 48 = .ok (.iload_n 2, 1) := by decide +kernel
theorem dX9_worth_49 : decode cX9_worth 49 = .ok (.iaload, 1) := by decide +kernel
theorem dX9_worth_50 : decode cX9_worth 50 = .ok (.goto 14, 3) := by decide +kernel
theorem dX9_worth_53 : decode cX9_worth 53 = .ok (.aload_n 0, 1) := by decide +kernel
theorem dX9_worth_54 : decode cX9_worth 54 = .ok (.getfield 74, 3) := by decide +kernel
theorem dX9_worth_57 : decode cX9_worth 57 = .ok (.aload_n 0, 1) := by decide +kernel
theorem dX9_worth_58 : decode cX9_worth 58 = .ok (.getfield 62, 3) := by decide +kernel
theorem dX9_worth_61 : decode cX9_worth 61 = .ok (.iload_n 2, 1) := by decide +kernel
theorem dX9_worth_62 : decode cX9_worth 62 = .ok (.iaload, 1) := by decide +kernel
theorem dX9_worth_63 : decode cX9_worth 63 = .ok (.iaload, 1) := by decide +kernel
theorem dX9_worth_64 : decode cX9_worth 64 = .ok (.iastore, 1) := by decide +kernel
theorem dX9_worth_65 : decode cX9_worth 65 = .ok (.iinc 3 1, 3) := by decide +kernel
theorem dX9_worth_68 : decode cX9_worth 68 = .ok (.goto 118, 3) := by decide +kernel
theorem dX9_worth_71 : decode cX9_worth 71 = .ok (.iinc 3 (-1), 3) := by decide +kernel
theorem dX9_worth_74 : decode cX9_worth 74 = .ok (.aload_n 0, 1) := by decide +kernel
theorem dX9_worth_75 : decode cX9_worth 75 = .ok (.getfield 77, 3) := by decide +kernel
theorem dX9_worth_78 : decode cX9_worth 78 = .ok (.iload_n 3, 1) := by decide +kernel
theorem dX9_worth_79 : decode cX9_worth 79 = .ok (.iaload, 1) := by decide +kernel
theorem dX9_worth_80 : decode cX9_worth 80 = .ok (.istore 5, 2) := by decide +kernel
theorem dX9_worth_82 : decode cX9_worth 82 = .ok (.aload_n 0, 1) := by decide +kernel
theorem dX9_worth_83 : decode cX9_worth 83 = .ok (.getfield 77, 3) := by decide +kernel
theorem dX9_worth_86 : decode cX9_worth 86 = .ok (.iload_n 3, 1) := by decide +kernel
theorem dX9_worth_87 : decode cX9_worth 87 = .ok (.iconst 1, 1) := by decide +kernel
theorem dX9_worth_88 : decode cX9_worth 88 = .ok (.isub, 1) := by decide +kernel
theorem dX9_worth_89 : decode cX9_worth 89 = .ok (.iaload, 1) := by decide +kernel
theorem dX9_worth_90 : decode cX9_worth 90 = .ok (.istore 6, 2) := by decide +kernel
theorem dX9_worth_92 : decode cX9_worth 92 = .ok (.aload_n 0, 1) := by decide +kernel
theorem dX9_worth_93 : decode cX9_worth 93 = .ok (.getfield 77, 3) := by decide +kernel
theorem dX9_worth_96 : decode cX9_worth 96 = .ok (.iload_n 3, 1) := by decide +kernel
theorem dX9_worth_97 : decode cX9_worth 97 = .ok (.iconst 1, 1) := by decide +kernel
theorem dX9_worth_98 : decode cX9_worth 98 = .ok (.isub, 1) := by decide +kernel
theorem dX9_worth_99 : decode cX9_worth 99 = .ok (.iload 4, 2) := by decide +kernel
theorem dX9_worth_101 : decode cX9_worth 101 = .ok (.iconst 3, 1) := by decide +kernel
theorem dX9_worth_102 : decode cX9_worth 102 = .ok (.if_icmp .ne 11, 3) := by decide +kernel
theorem dX9_worth_105 : decode cX9_worth 105 = .ok (.iload 6, 2) := by decide +kernel
theorem dX9_worth_107 : decode cX9_worth 107 = .ok (.iload 5, 2) := by decide +kernel
theorem dX9_worth_109 : decode cX9_worth 109 = .ok (.iadd, 1) := by decide +kernel
theorem dX9_worth_110 : decode cX9_worth 110 = .ok (.goto 75, 3) := by decide +kernel
theorem dX9_worth_113 : decode cX9_worth 113 = .ok (.iload 4, 2) := by decide +kernel
theorem dX9_worth_115 : decode cX9_worth 115 = .ok (.iconst 4, 1) := by decide +kernel
theorem dX9_worth_116 : decode cX9_worth 116 = .ok (.if_icmp .ne 11, 3) := by decide +kernel
theorem dX9_worth_119 : decode cX9_worth 119 = .ok (.iload 6, 2) := by decide +kernel
theorem dX9_worth_121 : decode cX9_worth 121 = .ok (.iload 5, 2) := by decide +kernel
theorem dX9_worth_123 : decode cX9_worth 123 = .ok (.isub, 1) := by decide +kernel
theorem dX9_worth_124 : decode cX9_worth 124 = .ok (.goto 61, 3) := by decide +kernel
theorem dX9_worth_127 : decode cX9_worth 127 = .ok (.iload 4, 2) := by decide +kernel
theorem dX9_worth_129 : decode cX9_worth 129 = .ok (.iconst 5, 1) := by decide +kernel
theorem dX9_worth_130 : decode cX9_worth 130 = .ok (.if_icmp .ne 18, 3) := by decide +kernel
theorem dX9_worth_133 : decode cX9_worth 133 = .ok (.iload 6, 2) := by decide +kernel
theorem dX9_worth_135 : decode cX9_worth 135 = .ok (.iload 5, 2) := by decide +kernel
theorem dX9_worth_137 : decode cX9_worth 137 = .ok (.if_icmp .ge 7, 3) := by decide +kernel
theorem dX9_worth_140 : decode cX9_worth 140 = .ok (.iconst 1, 1) := by decide +kernel
theorem dX9_worth_141 : decode cX9_worth 141 = .ok (.goto 44, 3) := by decide +kernel
theorem dX9_worth_144 : decode cX9_worth 144 = .ok (.iconst 0, 1) := by decide +kernel
theorem dX9_worth_145 : decode cX9_worth 145 = .ok (.goto 40, 3) := by decide +kernel
theorem dX9_worth_148 : decode cX9_worth 148 = .ok (.iload 4, 2) := by decide +kernel
theorem dX9_worth_150 : decode cX9_worth 150 = .ok (.bipush 6, 2) := by decide +kernel
theorem dX9_worth_152 : decode cX9_worth 152 = .ok (.if_icmp .ne 18, 3) := by decide +kernel
theorem dX9_worth_155 : decode cX9_worth 155 = .ok (.iload 6, 2) := by decide +kernel
theorem dX9_worth_157 : decode cX9_worth 157 = .ok (.iload 5, 2) := by decide +kernel
theorem dX9_worth_159 : decode cX9_worth 159 = .ok (.if_icmp .ne 7, 3) := by decide +kernel
theorem dX9_worth_162 : decode cX9_worth 162 = .ok (.iconst 1, 1) := by decide +kernel
theorem dX9_worth_163 : decode cX9_worth 163 = .ok (.goto 22, 3) := by decide +kernel
theorem dX9_worth_166 : decode cX9_worth 166 = .ok (.iconst 0, 1) := by decide +kernel
theorem dX9_worth_167 : decode cX9_worth 167 = .ok (.goto 18, 3) := by decide +kernel
theorem dX9_worth_170 : decode cX9_worth 170 = .ok (.iload 6, 2) := by decide +kernel
theorem dX9_worth_172 : decode cX9_worth 172 = .ok (.ifCond .eq 12, 3) := by decide +kernel
theorem dX9_worth_175 : decode cX9_worth 175 = .ok (.iload 5, 2) := by decide +kernel
theorem dX9_worth_177 : decode cX9_worth 177 = .ok (.ifCond .eq 7, 3) := by decide +kernel
theorem dX9_worth_180 : decode cX9_worth 180 = .ok (.iconst 1, 1) := by decide +kernel
theorem dX9_worth_181 : decode cX9_worth 181 = .ok (.goto 4, 3) := by decide +kernel
theorem dX9_worth_184 : decode cX9_worth 184 = .ok (.iconst 0, 1) := by decide +kernel
theorem dX9_worth_185 : decode cX9_worth 185 = .ok (.iastore, 1) := by decide +kernel
theorem dX9_worth_186 : decode cX9_worth 186 = .ok (.iinc 2 1, 3) := by decide +kernel
theorem dX9_worth_189 : decode cX9_worth 189 = .ok (.goto (-185), 3) := by decide +kernel
theorem dX9_worth_192 : decode cX9_worth 192 = .ok (.aload_n 0, 1) := by decide +kernel
theorem dX9_worth_193 : decode cX9_worth 193 = .ok (.getfield 77, 3) := by decide +kernel
theorem dX9_worth_196 : decode cX9_worth 196 = .ok (.iconst 0, 1) := by decide +kernel
theorem dX9_worth_197 : decode cX9_worth 197 = .ok (.iaload, 1) := by decide +kernel
theorem dX9_worth_198 : decode cX9_worth 198 = .ok (.ireturn, 1) := by decide +kernel
theorem dX9_pitch_0 : decode cX9_pitch 0 = .ok (.aload_n 0, 1) := by decide +kernel
theorem dX9_pitch_1 : decode cX9_pitch 1 = .ok (.iconst 0, 1) := by decide +kernel
theorem dX9_pitch_2 : decode cX9_pitch 2 = .ok (.putfield 137, 3) := by decide +kernel
theorem dX9_pitch_5 : decode cX9_pitch 5 = .ok (.iload_n 1, 1) := by decide +kernel
theorem dX9_pitch_6 : decode cX9_pitch 6 = .ok (.ifCond .lt 33, 3) := by decide +kernel
theorem dX9_pitch_9 : decode cX9_pitch 9 = .ok (.iload_n 1, 1) := by decide +kernel
theorem dX9_pitch_10 : decode cX9_pitch 10 = .ok (.iconst 2, 1) := by decide +kernel
theorem dX9_pitch_11 : decode cX9_pitch 11 = .ok (.if_icmp .gt 28, 3) := by decide +kernel
theorem dX9_pitch_14 : decode cX9_pitch 14 = .ok (.iload_n 2, 1) := by decide +kernel
theorem dX9_pitch_15 : decode cX9_pitch 15 = .ok (.ifCond .lt 24, 3) := by decide +kernel
theorem dX9_pitch_18 : decode cX9_pitch 18 = .ok (.iload_n 2, 1) := by decide +kernel
theorem dX9_pitch_19 : decode cX9_pitch 19 = .ok (.iconst 1, 1) := by decide +kernel
theorem dX9_pitch_20 : decode cX9_pitch 20 = .ok (.if_icmp .gt 19, 3) := by decide +kernel
theorem dX9_pitch_23 : decode cX9_pitch 23 = .ok (.aload_n 0, 1) := by decide +kernel
theorem dX9_pitch_24 : decode cX9_pitch 24 = .ok (.getfield 236, 3) := by decide +kernel
theorem dX9_pitch_27 : decode cX9_pitch 27 = .ok (.bipush 6, 2) := by decide +kernel
theorem dX9_pitch_29 : decode cX9_pitch 29 = .ok (.if_icmp .eq 10, 3) := by decide +kernel
theorem dX9_pitch_32 : decode cX9_pitch 32 = .ok (.aload_n 0, 1) := by decide +kernel
theorem dX9_pitch_33 : decode cX9_pitch 33 = .ok (.getfield 239, 3) := by decide +kernel
theorem dX9_pitch_36 : decode cX9_pitch 36 = .ok (.ifCond .le 5, 3) := by decide +kernel
theorem dX9_pitch_39 : decode cX9_pitch 39 = .ok (.iconst (-1), 1) := by decide +kernel
theorem dX9_pitch_40 : decode cX9_pitch 40 = .ok (.ireturn, 1) := by decide +kernel
theorem dX9_pitch_41 : decode cX9_pitch 41 = .ok (.aload_n 0, 1) := by decide +kernel
theorem dX9_pitch_42 : decode cX9_pitch 42 = .ok (.getfield 80, 3) := by decide +kernel
theorem dX9_pitch_45 : decode cX9_pitch 45 = .ok (.aload_n 0, 1) := by decide +kernel
theorem dX9_pitch_46 : decode cX9_pitch 46 = .ok (.getfield 236, 3) := by decide +kernel
theorem dX9_pitch_49 : decode cX9_pitch 49 = .ok (.iload_n 1, 1) := by decide +kernel
theorem dX9_pitch_50 : decode cX9_pitch 50 = .ok (.iastore, 1) := by decide +kernel
theorem dX9_pitch_51 : decode cX9_pitch 51 = .ok (.aload_n 0, 1) := by decide +kernel
theorem dX9_pitch_52 : decode cX9_pitch 52 = .ok (.getfield 83, 3) := by decide +kernel
theorem dX9_pitch_55 : decode cX9_pitch 55 = .ok (.aload_n 0, 1) := by decide +kernel
theorem dX9_pitch_56 : decode cX9_pitch 56 = .ok (.getfield 236, 3) := by decide +kernel
theorem dX9_pitch_59 : decode cX9_pitch 59 = .ok (.iload_n 2, 1) := by decide +kernel
theorem dX9_pitch_60 : decode cX9_pitch 60 = .ok (.iastore, 1) := by decide +kernel
theorem dX9_pitch_61 : decode cX9_pitch 61 = .ok (.bipush 24, 2) := by decide +kernel
theorem dX9_pitch_63 : decode cX9_pitch 63 = .ok (.aload_n 0, 1) := by decide +kernel
theorem dX9_pitch_64 : decode cX9_pitch 64 = .ok (.getfield 236, 3) := by decide +kernel
theorem dX9_pitch_67 : decode cX9_pitch 67 = .ok (.imul, 1) := by decide +kernel
theorem dX9_pitch_68 : decode cX9_pitch 68 = .ok (.istore_n 3, 1) := by decide +kernel
theorem dX9_pitch_69 : decode cX9_pitch 69 = .ok (.iload_n 3, 1) := by decide +kernel
theorem dX9_pitch_70 : decode cX9_pitch 70 = .ok (.bipush 24, 2) := by decide +kernel
theorem dX9_pitch_72 : decode cX9_pitch 72 = .ok (.aload_n 0, 1) := by decide +kernel
theorem dX9_pitch_73 : decode cX9_pitch 73 = .ok (.getfield 236, 3) := by decide +kernel
theorem dX9_pitch_76 : decode cX9_pitch 76 = .ok (.imul, 1) := by decide +kernel
theorem dX9_pitch_77 : decode cX9_pitch 77 = .ok (.bipush 24, 2) := by decide +kernel
theorem dX9_pitch_79 : decode cX9_pitch 79 = .ok (.iadd, 1) := by decide +kernel
theorem dX9_pitch_80 : decode cX9_pitch 80 = .ok (.if_icmp .ge 27, 3) := by decide +kernel
theorem dX9_pitch_83 : decode cX9_pitch 83 = .ok (.aload_n 0, 1) := by decide +kernel
theorem dX9_pitch_84 : decode cX9_pitch 84 = .ok (.getfield 86, 3) := by decide +kernel
theorem dX9_pitch_87 : decode cX9_pitch 87 = .ok (.iload_n 3, 1) := by decide +kernel
theorem dX9_pitch_88 : decode cX9_pitch 88 = .ok (.sipush 800, 3) := by decide +kernel
theorem dX9_pitch_91 : decode cX9_pitch 91 = .ok (.iastore, 1) := by decide +kernel
theorem dX9_pitch_92 : decode cX9_pitch 92 = .ok (.aload_n 0, 1) := by decide +kernel
theorem dX9_pitch_93 : decode cX9_pitch 93 = .ok (.getfield 89, 3) := by decide +kernel
theorem dX9_pitch_96 : decode cX9_pitch 96 = .ok (.iload_n 3, 1) := by decide +kernel
theorem dX9_pitch_97 : decode cX9_pitch 97 = .ok (.sipush 800, 3) := by decide +kernel
theorem dX9_pitch_100 : decode cX9_pitch 100 = .ok (.iastore, 1) := by decide +kernel
theorem dX9_pitch_101 : decode cX9_pitch 101 = .ok (.iinc 3 1, 3) := by decide +kernel
theorem dX9_pitch_104 : decode cX9_pitch 104 = .ok (.goto (-35), 3) := by decide +kernel
theorem dX9_pitch_107 : decode cX9_pitch 107 = .ok (.aload_n 0, 1) := by decide +kernel
theorem dX9_pitch_108 : decode cX9_pitch 108 = .ok (.dup, 1) := by decide +kernel
theorem dX9_pitch_109 : decode cX9_pitch 109 = .ok (.getfield 236, 3) := by decide +kernel
theorem dX9_pitch_112 : decode cX9_pitch 112 = .ok (.iconst 1, 1) := by decide +kernel
theorem dX9_pitch_113 : decode cX9_pitch 113 = .ok (.iadd, 1) := by decide +kernel
theorem dX9_pitch_114 : decode cX9_pitch 114 = .ok (.putfield 236, 3) := by decide +kernel
theorem dX9_pitch_117 : decode cX9_pitch 117 = .ok (.aload_n 0, 1) := by decide +kernel
theorem dX9_pitch_118 : decode cX9_pitch 118 = .ok (.getfield 236, 3) := by decide +kernel
theorem dX9_pitch_121 : decode cX9_pitch 121 = .ok (.iconst 1, 1) := by decide +kernel
theorem dX9_pitch_122 : decode cX9_pitch 122 = .ok (.isub, 1) := by decide +kernel
theorem dX9_pitch_123 : decode cX9_pitch 123 = .ok (.ireturn, 1) := by decide +kernel
theorem dX9_isPitch_0 : decode cX9_isPitch 0 = .ok (.iload_n 1, 1) := by decide +kernel
theorem dX9_isPitch_1 : decode cX9_isPitch 1 = .ok (.ifCond .lt 15, 3) := by decide +kernel
theorem dX9_isPitch_4 : decode cX9_isPitch 4 = .ok (.iload_n 1, 1) := by decide +kernel
theorem dX9_isPitch_5 : decode cX9_isPitch 5 = .ok (.aload_n 0, 1) := by decide +kernel
theorem dX9_isPitch_6 : decode cX9_isPitch 6 = .ok (.getfield 236, 3) := by decide +kernel
theorem dX9_isPitch_9 : decode cX9_isPitch 9 = .ok (.if_icmp .ge 7, 3) := by decide +kernel
theorem dX9_isPitch_12 : decode cX9_isPitch 12 = .ok (.iconst 1, 1) := by decide +kernel
theorem dX9_isPitch_13 : decode cX9_isPitch 13 = .ok (.goto 4, 3) := by decide +kernel
theorem dX9_isPitch_16 : decode cX9_isPitch 16 = .ok (.iconst 0, 1) := by decide +kernel
theorem dX9_isPitch_17 : decode cX9_isPitch 17 = .ok (.ireturn, 1) := by decide +kernel
theorem dX9_turn_0 : decode cX9_turn 0 = .ok (.aload_n 0, 1) := by decide +kernel
theorem dX9_turn_1 : decode cX9_turn 1 = .ok (.iconst 0, 1) := by decide +kernel
theorem dX9_turn_2 : decode cX9_turn 2 = .ok (.putfield 137, 3) := by decide +kernel
theorem dX9_turn_5 : decode cX9_turn 5 = .ok (.aload_n 0, 1) := by decide +kernel
theorem dX9_turn_6 : decode cX9_turn 6 = .ok (.iload_n 1, 1) := by decide +kernel
theorem dX9_turn_7 : decode cX9_turn 7 = .ok (.invokevirtual 242, 3) := by decide +kernel
theorem dX9_turn_10 : decode cX9_turn 10 = .ok (.ifCond .ne 5, 3) := by decide +kernel
theorem dX9_turn_13 : decode cX9_turn 13 = .ok (.iconst (-1), 1) := by decide +kernel
theorem dX9_turn_14 : decode cX9_turn 14 = .ok (.ireturn, 1) := by decide +kernel
theorem dX9_turn_15 : decode cX9_turn 15 = .ok (.aload_n 0, 1) := by decide +kernel
theorem dX9_turn_16 : decode cX9_turn 16 = .ok (.getfield 83, 3) := by decide +kernel
theorem dX9_turn_19 : decode cX9_turn 19 = .ok (.iload_n 1, 1) := by decide +kernel
theorem dX9_turn_20 : decode cX9_turn 20 = .ok (.iconst 1, 1) := by decide +kernel
theorem dX9_turn_21 : decode cX9_turn 21 = .ok (.aload_n 0, 1) := by decide +kernel
theorem dX9_turn_22 : decode cX9_turn 22 = .ok (.getfield 83, 3) := by decide +kernel
theorem dX9_turn_25 : decode cX9_turn 25 = .ok (.iload_n 1, 1) := by decide +kernel
theorem dX9_turn_26 : decode cX9_turn 26 = .ok (.iaload, 1) := by decide +kernel
theorem dX9_turn_27 : decode cX9_turn 27 = .ok (.isub, 1) := by decide +kernel
theorem dX9_turn_28 : decode cX9_turn 28 = .ok (.iastore, 1) := by decide +kernel
theorem dX9_turn_29 : decode cX9_turn 29 = .ok (.aload_n 0, 1) := by decide +kernel
theorem dX9_turn_30 : decode cX9_turn 30 = .ok (.getfield 83, 3) := by decide +kernel
theorem dX9_turn_33 : decode cX9_turn 33 = .ok (.iload_n 1, 1) := by decide +kernel
theorem dX9_turn_34 : decode cX9_turn 34 = .ok (.iaload, 1) := by decide +kernel
theorem dX9_turn_35 : decode cX9_turn 35 = .ok (.ireturn, 1) := by decide +kernel
theorem dX9_leastOf_0 : decode cX9_leastOf 0 = .ok (.sipush 1000, 3) := by decide +kernel
theorem dX9_leastOf_3 : decode cX9_leastOf 3 = .ok (.istore_n 2, 1) := by decide +kernel
theorem dX9_leastOf_4 : decode cX9_leastOf 4 = .ok (.bipush 24, 2) := by decide +kernel
theorem dX9_leastOf_6 : decode cX9_leastOf 6 = .ok (.iload_n 1, 1) := by decide +kernel
theorem dX9_leastOf_7 : decode cX9_leastOf 7 = .ok (.imul, 1) := by decide +kernel
theorem dX9_leastOf_8 : decode cX9_leastOf 8 = .ok (.istore_n 3, 1) := by decide +kernel
theorem dX9_leastOf_9 : decode cX9_leastOf 9 = .ok (.iload_n 3, 1) := by decide +kernel
theorem dX9_leastOf_10 : decode cX9_leastOf 10 = .ok (.bipush 24, 2) := by decide +kernel
theorem dX9_leastOf_12 : decode cX9_leastOf 12 = .ok (.iload_n 1, 1) := by decide +kernel
theorem dX9_leastOf_13 : decode cX9_leastOf 13 = .ok (.imul, 1) := by decide +kernel
theorem dX9_leastOf_14 : decode cX9_leastOf 14 = .ok (.bipush 24, 2) := by decide +kernel
theorem dX9_leastOf_16 : decode cX9_leastOf 16 = .ok (.iadd, 1) := by decide +kernel
theorem dX9_leastOf_17 : decode cX9_leastOf 17 = .ok (.if_icmp .ge 24, 3) := by decide +kernel
theorem dX9_leastOf_20 : decode cX9_leastOf 20 = .ok (.aload_n 0, 1) := by decide +kernel
theorem dX9_leastOf_21 : decode cX9_leastOf 21 = .ok (.iload_n 3, 1) := by decide +kernel
theorem dX9_leastOf_22 : decode cX9_leastOf 22 = .ok (.iaload, 1) := by decide +kernel
theorem dX9_leastOf_23 : decode cX9_leastOf 23 = .ok (.iload_n 2, 1) := by decide +kernel
theorem dX9_leastOf_24 : decode cX9_leastOf 24 = .ok (.if_icmp .ge 9, 3) := by decide +kernel
theorem dX9_leastOf_27 : decode cX9_leastOf 27 = .ok (.aload_n 0, 1) := by decide +kernel
theorem dX9_leastOf_28 : decode cX9_leastOf 28 = .ok (.iload_n 3, 1) := by decide +kernel
theorem dX9_leastOf_29 : decode cX9_leastOf 29 = .ok (.iaload, 1) := by decide +kernel
theorem dX9_leastOf_30 : decode cX9_leastOf 30 = .ok (.goto 4, 3) := by decide +kernel
theorem dX9_leastOf_33 : decode cX9_leastOf 33 = .ok (.iload_n 2, 1) := by decide +kernel
theorem dX9_leastOf_34 : decode cX9_leastOf 34 = .ok (.istore_n 2, 1) := by decide +kernel
theorem dX9_leastOf_35 : decode cX9_leastOf 35 = .ok (.iinc 3 1, 3) := by decide +kernel
theorem dX9_leastOf_38 : decode cX9_leastOf 38 = .ok (.goto (-29), 3) := by decide +kernel
theorem dX9_leastOf_41 : decode cX9_leastOf 41 = .ok (.iload_n 2, 1) := by decide +kernel
theorem dX9_leastOf_42 : decode cX9_leastOf 42 = .ok (.ireturn, 1) := by decide +kernel
theorem dX9_meanOf_0 : decode cX9_meanOf 0 = .ok (.iconst 0, 1) := by decide +kernel
end
section
theorem dX9_meanOf_1 : decode cX9_meanOf 1 = .ok (.istore_n 2, 1) := by decide +kernel
theorem dX9_meanOf_2 : decode cX9_meanOf 2 = .ok (.bipush 24, 2) := by decide +kernel
theorem dX9_meanOf_4 : decode cX9_meanOf 4 = .ok (.iload_n 1, 1) := by decide +kernel
theorem dX9_meanOf_5 : decode cX9_meanOf 5 = .ok (.imul, 1) := by decide +kernel
theorem dX9_meanOf_6 : decode cX9_meanOf 6 = .ok (.istore_n 3, 1) := by decide +kernel
theorem dX9_meanOf_7 : decode cX9_meanOf 7 = .ok (.iload_n 3, 1) := by decide +kernel
theorem dX9_meanOf_8 : decode cX9_meanOf 8 = .ok (.bipush 24, 2) := by decide +kernel
theorem dX9_meanOf_10 : decode cX9_meanOf 10 = .ok (.iload_n 1, 1) := by decide +kernel
theorem dX9_meanOf_11 : decode cX9_meanOf 11 = .ok (.imul, 1) := by decide +kernel
theorem dX9_meanOf_12 : decode cX9_meanOf 12 = .ok (.bipush 24, 2) := by decide +kernel
theorem dX9_meanOf_14 : decode cX9_meanOf 14 = .ok (.iadd, 1) := by decide +kernel
theorem dX9_meanOf_15 : decode cX9_meanOf 15 = .ok (.if_icmp .ge 15, 3) := by decide +kernel
theorem dX9_meanOf_18 : decode cX9_meanOf 18 = .ok (.iload_n 2, 1) := by decide +kernel
theorem dX9_meanOf_19 : decode cX9_meanOf 19 = .ok (.aload_n 0, 1) := by decide +kernel
theorem dX9_meanOf_20 : decode cX9_meanOf 20 = .ok (.iload_n 3, 1) := by decide +kernel
theorem dX9_meanOf_21 : decode cX9_meanOf 21 = .ok (.iaload, 1) := by decide +kernel
theorem dX9_meanOf_22 : decode cX9_meanOf 22 = .ok (.iadd, 1) := by decide +kernel
theorem dX9_meanOf_23 : decode cX9_meanOf 23 = .ok (.istore_n 2, 1) := by decide +kernel
theorem dX9_meanOf_24 : decode cX9_meanOf 24 = .ok (.iinc 3 1, 3) := by decide +kernel
theorem dX9_meanOf_27 : decode cX9_meanOf 27 = .ok (.goto (-20), 3) := by decide +kernel
theorem dX9_meanOf_30 : decode cX9_meanOf 30 = .ok (.iload_n 2, 1) := by decide +kernel
theorem dX9_meanOf_31 : decode cX9_meanOf 31 = .ok (.bipush 24, 2) := by decide +kernel
theorem dX9_meanOf_33 : decode cX9_meanOf 33 = .ok (.idiv, 1) := by decide +kernel
theorem dX9_meanOf_34 : decode cX9_meanOf 34 = .ok (.ireturn, 1) := by decide +kernel
theorem dX9_share_0 : decode cX9_share 0 = .ok (.iload_n 1, 1) := by decide +kernel
theorem dX9_share_1 : decode cX9_share 1 = .ok (.iconst 1, 1) := by decide +kernel
theorem dX9_share_2 : decode cX9_share 2 = .ok (.if_icmp .eq 8, 3) := by decide +kernel
theorem dX9_share_5 : decode cX9_share 5 = .ok (.iload_n 1, 1) := by decide +kernel
theorem dX9_share_6 : decode cX9_share 6 = .ok (.iconst 2, 1) := by decide +kernel
theorem dX9_share_7 : decode cX9_share 7 = .ok (.if_icmp .ne 7, 3) := by decide +kernel
theorem dX9_share_10 : decode cX9_share 10 = .ok (.iconst 1, 1) := by decide +kernel
theorem dX9_share_11 : decode cX9_share 11 = .ok (.goto 4, 3) := by decide +kernel
theorem dX9_share_14 : decode cX9_share 14 = .ok (.iconst 0, 1) := by decide +kernel
theorem dX9_share_15 : decode cX9_share 15 = .ok (.istore_n 3, 1) := by decide +kernel
theorem dX9_share_16 : decode cX9_share 16 = .ok (.iload_n 2, 1) := by decide +kernel
theorem dX9_share_17 : decode cX9_share 17 = .ok (.iconst 2, 1) := by decide +kernel
theorem dX9_share_18 : decode cX9_share 18 = .ok (.if_icmp .eq 8, 3) := by decide +kernel
theorem dX9_share_21 : decode cX9_share 21 = .ok (.iload_n 2, 1) := by decide +kernel
theorem dX9_share_22 : decode cX9_share 22 = .ok (.iconst 3, 1) := by decide +kernel
theorem dX9_share_23 : decode cX9_share 23 = .ok (.if_icmp .ne 7, 3) := by decide +kernel
theorem dX9_share_26 : decode cX9_share 26 = .ok (.iconst 1, 1) := by decide +kernel
theorem dX9_share_27 : decode cX9_share 27 = .ok (.goto 4, 3) := by decide +kernel
theorem dX9_share_30 : decode cX9_share 30 = .ok (.iconst 0, 1) := by decide +kernel
theorem dX9_share_31 : decode cX9_share 31 = .ok (.istore 4, 2) := by decide +kernel
theorem dX9_share_33 : decode cX9_share 33 = .ok (.iload_n 0, 1) := by decide +kernel
theorem dX9_share_34 : decode cX9_share 34 = .ok (.ifCond .ne 35, 3) := by decide +kernel
theorem dX9_share_37 : decode cX9_share 37 = .ok (.iload_n 3, 1) := by decide +kernel
theorem dX9_share_38 : decode cX9_share 38 = .ok (.ifCond .ne 7, 3) := by decide +kernel
theorem dX9_share_41 : decode cX9_share 41 = .ok (.iconst 1, 1) := by decide +kernel
theorem dX9_share_42 : decode cX9_share 42 = .ok (.goto 26, 3) := by decide +kernel
theorem dX9_share_45 : decode cX9_share 45 = .ok (.iload_n 2, 1) := by decide +kernel
theorem dX9_share_46 : decode cX9_share 46 = .ok (.ifCond .eq 8, 3) := by decide +kernel
theorem dX9_share_49 : decode cX9_share 49 = .ok (.iload_n 2, 1) := by decide +kernel
theorem dX9_share_50 : decode cX9_share 50 = .ok (.iconst 5, 1) := by decide +kernel
theorem dX9_share_51 : decode cX9_share 51 = .ok (.if_icmp .ne 7, 3) := by decide +kernel
theorem dX9_share_54 : decode cX9_share 54 = .ok (.iconst 3, 1) := by decide +kernel
theorem dX9_share_55 : decode cX9_share 55 = .ok (.goto 13, 3) := by decide +kernel
theorem dX9_share_58 : decode cX9_share 58 = .ok (.iload 4, 2) := by decide +kernel
theorem dX9_share_60 : decode cX9_share 60 = .ok (.ifCond .eq 7, 3) := by decide +kernel
theorem dX9_share_63 : decode cX9_share 63 = .ok (.iconst 2, 1) := by decide +kernel
theorem dX9_share_64 : decode cX9_share 64 = .ok (.goto 4, 3) := by decide +kernel
theorem dX9_share_67 : decode cX9_share 67 = .ok (.iconst 1, 1) := by decide +kernel
theorem dX9_share_68 : decode cX9_share 68 = .ok (.ireturn, 1) := by decide +kernel
theorem dX9_share_69 : decode cX9_share 69 = .ok (.iload 4, 2) := by decide +kernel
theorem dX9_share_71 : decode cX9_share 71 = .ok (.ifCond .ne 7, 3) := by decide +kernel
theorem dX9_share_74 : decode cX9_share 74 = .ok (.iconst 1, 1) := by decide +kernel
theorem dX9_share_75 : decode cX9_share 75 = .ok (.goto 12, 3) := by decide +kernel
theorem dX9_share_78 : decode cX9_share 78 = .ok (.iload_n 3, 1) := by decide +kernel
theorem dX9_share_79 : decode cX9_share 79 = .ok (.ifCond .eq 7, 3) := by decide +kernel
theorem dX9_share_82 : decode cX9_share 82 = .ok (.iconst 2, 1) := by decide +kernel
theorem dX9_share_83 : decode cX9_share 83 = .ok (.goto 4, 3) := by decide +kernel
theorem dX9_share_86 : decode cX9_share 86 = .ok (.iconst 3, 1) := by decide +kernel
theorem dX9_share_87 : decode cX9_share 87 = .ok (.ireturn, 1) := by decide +kernel
theorem dX9_wears_0 : decode cX9_wears 0 = .ok (.iconst 0, 1) := by decide +kernel
theorem dX9_wears_1 : decode cX9_wears 1 = .ok (.istore 5, 2) := by decide +kernel
theorem dX9_wears_3 : decode cX9_wears 3 = .ok (.iconst 0, 1) := by decide +kernel
theorem dX9_wears_4 : decode cX9_wears 4 = .ok (.istore 6, 2) := by decide +kernel
theorem dX9_wears_6 : decode cX9_wears 6 = .ok (.iload 6, 2) := by decide +kernel
theorem dX9_wears_8 : decode cX9_wears 8 = .ok (.bipush 24, 2) := by decide +kernel
theorem dX9_wears_10 : decode cX9_wears 10 = .ok (.if_icmp .ge 85, 3) := by decide +kernel
theorem dX9_wears_13 : decode cX9_wears 13 = .ok (.iconst 4, 1) := by decide +kernel
theorem dX9_wears_14 : decode cX9_wears 14 = .ok (.iconst 2, 1) := by decide +kernel
theorem dX9_wears_15 : decode cX9_wears 15 = .ok (.iload_n 3, 1) := by decide +kernel
theorem dX9_wears_16 : decode cX9_wears 16 = .ok (.imul, 1) := by decide +kernel
theorem dX9_wears_17 : decode cX9_wears 17 = .ok (.iadd, 1) := by decide +kernel
theorem dX9_wears_18 : decode cX9_wears 18 = .ok (.iload_n 2, 1) := by decide +kernel
theorem dX9_wears_19 : decode cX9_wears 19 = .ok (.iload 6, 2) := by decide +kernel
theorem dX9_wears_21 : decode cX9_wears 21 = .ok (.bipush 6, 2) := by decide +kernel
theorem dX9_wears_23 : decode cX9_wears 23 = .ok (.idiv, 1) := by decide +kernel
theorem dX9_wears_24 : decode cX9_wears 24 = .ok (.iload 6, 2) := by decide +kernel
theorem dX9_wears_26 : decode cX9_wears 26 = .ok (.bipush 6, 2) := by decide +kernel
theorem dX9_wears_28 : decode cX9_wears 28 = .ok (.irem, 1) := by decide +kernel
theorem dX9_wears_29 : decode cX9_wears 29 = .ok (.invokestatic 245, 3) := by decide +kernel
theorem dX9_wears_32 : decode cX9_wears 32 = .ok (.imul, 1) := by decide +kernel
theorem dX9_wears_33 : decode cX9_wears 33 = .ok (.bipush 10, 2) := by decide +kernel
theorem dX9_wears_35 : decode cX9_wears 35 = .ok (.iload 4, 2) := by decide +kernel
theorem dX9_wears_37 : decode cX9_wears 37 = .ok (.iadd, 1) := by decide +kernel
theorem dX9_wears_38 : decode cX9_wears 38 = .ok (.imul, 1) := by decide +kernel
theorem dX9_wears_39 : decode cX9_wears 39 = .ok (.bipush 10, 2) := by decide +kernel
theorem dX9_wears_41 : decode cX9_wears 41 = .ok (.idiv, 1) := by decide +kernel
theorem dX9_wears_42 : decode cX9_wears 42 = .ok (.istore 7, 2) := by decide +kernel
theorem dX9_wears_44 : decode cX9_wears 44 = .ok (.bipush 24, 2) := by decide +kernel
theorem dX9_wears_46 : decode cX9_wears 46 = .ok (.iload_n 1, 1) := by decide +kernel
theorem dX9_wears_47 : decode cX9_wears 47 = .ok (.imul, 1) := by decide +kernel
theorem dX9_wears_48 : decode cX9_wears 48 = .ok (.iload 6, 2) := by decide +kernel
theorem dX9_wears_50 : decode cX9_wears 50 = .ok (.iadd, 1) := by decide +kernel
theorem dX9_wears_51 : decode cX9_wears 51 = .ok (.istore 8, 2) := by decide +kernel
theorem dX9_wears_53 : decode cX9_wears 53 = .ok (.iload 7, 2) := by decide +kernel
theorem dX9_wears_55 : decode cX9_wears 55 = .ok (.aload_n 0, 1) := by decide +kernel
theorem dX9_wears_56 : decode cX9_wears 56 = .ok (.iload 8, 2) := by decide +kernel
theorem dX9_wears_58 : decode cX9_wears 58 = .ok (.iaload, 1) := by decide +kernel
theorem dX9_wears_59 : decode cX9_wears 59 = .ok (.if_icmp .le 10, 3) := by decide +kernel
theorem dX9_wears_62 : decode cX9_wears 62 = .ok (.aload_n 0, 1) := by decide +kernel
theorem dX9_wears_63 : decode cX9_wears 63 = .ok (.iload 8, 2) := by decide +kernel
theorem dX9_wears_65 : decode cX9_wears 65 = .ok (.iaload, 1) := by decide +kernel
theorem dX9_wears_66 : decode cX9_wears 66 = .ok (.goto 5, 3) := by decide +kernel
theorem dX9_wears_69 : decode cX9_wears 69 = .ok (.iload 7, 2) := by decide +kernel
theorem dX9_wears_71 : decode cX9_wears 71 = .ok (.istore 7, 2) := by decide +kernel
theorem dX9_wears_73 : decode cX9_wears 73 = .ok (.aload_n 0, 1) := by decide +kernel
theorem dX9_wears_74 : decode cX9_wears 74 = .ok (.iload 8, 2) := by decide +kernel
theorem dX9_wears_76 : decode cX9_wears 76 = .ok (.dup2, 1) := by decide +kernel
theorem dX9_wears_77 : decode cX9_wears 77 = .ok (.iaload, 1) := by decide +kernel
theorem dX9_wears_78 : decode cX9_wears 78 = .ok (.iload 7, 2) := by decide +kernel
theorem dX9_wears_80 : decode cX9_wears 80 = .ok (.isub, 1) := by decide +kernel
theorem dX9_wears_81 : decode cX9_wears 81 = .ok (.iastore, 1) := by decide +kernel
theorem dX9_wears_82 : decode cX9_wears 82 = .ok (.iload 5, 2) := by decide +kernel
theorem dX9_wears_84 : decode cX9_wears 84 = .ok (.iload 7, 2) := by decide +kernel
theorem dX9_wears_86 : decode cX9_wears 86 = .ok (.iadd, 1) := by decide +kernel
theorem dX9_wears_87 : decode cX9_wears 87 = .ok (.istore 5, 2) := by decide +kernel
theorem dX9_wears_89 : decode cX9_wears 89 = .ok (.iinc 6 1, 3) := by decide +kernel
theorem dX9_wears_92 : decode cX9_wears 92 = .ok (.goto (-86), 3) := by decide +kernel
theorem dX9_wears_95 : decode cX9_wears 95 = .ok (.iload 5, 2) := by decide +kernel
theorem dX9_wears_97 : decode cX9_wears 97 = .ok (.ireturn, 1) := by decide +kernel
theorem dX9_grows_0 : decode cX9_grows 0 = .ok (.iload_n 3, 1) := by decide +kernel
theorem dX9_grows_1 : decode cX9_grows 1 = .ok (.iconst 5, 1) := by decide +kernel
theorem dX9_grows_2 : decode cX9_grows 2 = .ok (.if_icmp .le 11, 3) := by decide +kernel
theorem dX9_grows_5 : decode cX9_grows 5 = .ok (.iconst 2, 1) := by decide +kernel
theorem dX9_grows_6 : decode cX9_grows 6 = .ok (.iload_n 3, 1) := by decide +kernel
theorem dX9_grows_7 : decode cX9_grows 7 = .ok (.iconst 5, 1) := by decide +kernel
theorem dX9_grows_8 : decode cX9_grows 8 = .ok (.isub, 1) := by decide +kernel
theorem dX9_grows_9 : decode cX9_grows 9 = .ok (.imul, 1) := by decide +kernel
theorem dX9_grows_10 : decode cX9_grows 10 = .ok (.goto 8, 3) := by decide +kernel
theorem dX9_grows_13 : decode cX9_grows 13 = .ok (.iconst 2, 1) := by decide +kernel
theorem dX9_grows_14 : decode cX9_grows 14 = .ok (.iconst 5, 1) := by decide +kernel
theorem dX9_grows_15 : decode cX9_grows 15 = .ok (.iload_n 3, 1) := by decide +kernel
theorem dX9_grows_16 : decode cX9_grows 16 = .ok (.isub, 1) := by decide +kernel
theorem dX9_grows_17 : decode cX9_grows 17 = .ok (.imul, 1) := by decide +kernel
theorem dX9_grows_18 : decode cX9_grows 18 = .ok (.istore 4, 2) := by decide +kernel
theorem dX9_grows_20 : decode cX9_grows 20 = .ok (.iconst 0, 1) := by decide +kernel
theorem dX9_grows_21 : decode cX9_grows 21 = .ok (.istore 5, 2) := by decide +kernel
theorem dX9_grows_23 : decode cX9_grows 23 = .ok (.iload 5, 2) := by decide +kernel
theorem dX9_grows_25 : decode cX9_grows 25 = .ok (.bipush 24, 2) := by decide +kernel
theorem dX9_grows_27 : decode cX9_grows 27 = .ok (.aload_n 0, 1) := by decide +kernel
theorem dX9_grows_28 : decode cX9_grows 28 = .ok (.getfield 236, 3) := by decide +kernel
theorem dX9_grows_31 : decode cX9_grows 31 = .ok (.imul, 1) := by decide +kernel
theorem dX9_grows_32 : decode cX9_grows 32 = .ok (.if_icmp .ge 69, 3) := by decide +kernel
theorem dX9_grows_35 : decode cX9_grows 35 = .ok (.iload_n 3, 1) := by decide +kernel
theorem dX9_grows_36 : decode cX9_grows 36 = .ok (.bipush 9, 2) := by decide +kernel
theorem dX9_grows_38 : decode cX9_grows 38 = .ok (.if_icmp .lt 26, 3) := by decide +kernel
theorem dX9_grows_41 : decode cX9_grows 41 = .ok (.aload_n 1, 1) := by decide +kernel
theorem dX9_grows_42 : decode cX9_grows 42 = .ok (.iload 5, 2) := by decide +kernel
theorem dX9_grows_44 : decode cX9_grows 44 = .ok (.iaload, 1) := by decide +kernel
theorem dX9_grows_45 : decode cX9_grows 45 = .ok (.bipush 10, 2) := by decide +kernel
theorem dX9_grows_47 : decode cX9_grows 47 = .ok (.if_icmp .le 13, 3) := by decide +kernel
theorem dX9_grows_50 : decode cX9_grows 50 = .ok (.aload_n 1, 1) := by decide +kernel
theorem dX9_grows_51 : decode cX9_grows 51 = .ok (.iload 5, 2) := by decide +kernel
theorem dX9_grows_53 : decode cX9_grows 53 = .ok (.iaload, 1) := by decide +kernel
theorem dX9_grows_54 : decode cX9_grows 54 = .ok (.bipush 10, 2) := by decide +kernel
theorem dX9_grows_56 : decode cX9_grows 56 = .ok (.isub, 1) := by decide +kernel
theorem dX9_grows_57 : decode cX9_grows 57 = .ok (.goto 11, 3) := by decide +kernel
theorem dX9_grows_60 : decode cX9_grows 60 = .ok (.iconst 0, 1) := by decide +kernel
theorem dX9_grows_61 : decode cX9_grows 61 = .ok (.goto 7, 3) := by decide +kernel
theorem dX9_grows_64 : decode cX9_grows 64 = .ok (.aload_n 1, 1) := by decide +kernel
theorem dX9_grows_65 : decode cX9_grows 65 = .ok (.iload 5, 2) := by decide +kernel
theorem dX9_grows_67 : decode cX9_grows 67 = .ok (.iaload, 1) := by decide +kernel
theorem dX9_grows_68 : decode cX9_grows 68 = .ok (.istore 6, 2) := by decide +kernel
theorem dX9_grows_70 : decode cX9_grows 70 = .ok (.aload_n 1, 1) := by decide +kernel
theorem dX9_grows_71 : decode cX9_grows 71 = .ok (.iload 5, 2) := by decide +kernel
theorem dX9_grows_73 : decode cX9_grows 73 = .ok (.iload 6, 2) := by decide +kernel
theorem dX9_grows_75 : decode cX9_grows 75 = .ok (.sipush 1000, 3) := by decide +kernel
theorem dX9_grows_78 : decode cX9_grows 78 = .ok (.iload 6, 2) := by decide +kernel
theorem dX9_grows_80 : decode cX9_grows 80 = .ok (.isub, 1) := by decide +kernel
theorem dX9_grows_81 : decode cX9_grows 81 = .ok (.iload_n 2, 1) := by decide +kernel
theorem dX9_grows_82 : decode cX9_grows 82 = .ok (.imul, 1) := by decide +kernel
theorem dX9_grows_83 : decode cX9_grows 83 = .ok (.bipush 10, 2) := by decide +kernel
theorem dX9_grows_85 : decode cX9_grows 85 = .ok (.iload 4, 2) := by decide +kernel
theorem dX9_grows_87 : decode cX9_grows 87 = .ok (.isub, 1) := by decide +kernel
theorem dX9_grows_88 : decode cX9_grows 88 = .ok (.imul, 1) := by decide +kernel
theorem dX9_grows_89 : decode cX9_grows 89 = .ok (.sipush 2000, 3) := by decide +kernel
theorem dX9_grows_92 : decode cX9_grows 92 = .ok (.idiv, 1) := by decide +kernel
theorem dX9_grows_93 : decode cX9_grows 93 = .ok (.iadd, 1) := by decide +kernel
theorem dX9_grows_94 : decode cX9_grows 94 = .ok (.iastore, 1) := by decide +kernel
theorem dX9_grows_95 : decode cX9_grows 95 = .ok (.iinc 5 1, 3) := by decide +kernel
theorem dX9_grows_98 : decode cX9_grows 98 = .ok (.goto (-75), 3) := by decide +kernel
theorem dX9_grows_101 : decode cX9_grows 101 = .ok (.return_, 1) := by decide +kernel
theorem dX9_game_0 : decode cX9_game 0 = .ok (.aload_n 0, 1) := by decide +kernel
theorem dX9_game_1 : decode cX9_game 1 = .ok (.iconst 0, 1) := by decide +kernel
theorem dX9_game_2 : decode cX9_game 2 = .ok (.putfield 137, 3) := by decide +kernel
theorem dX9_game_5 : decode cX9_game 5 = .ok (.iload_n 1, 1) := by decide +kernel
theorem dX9_game_6 : decode cX9_game 6 = .ok (.ifCond .lt 75, 3) := by decide +kernel
theorem dX9_game_9 : decode cX9_game 9 = .ok (.iload_n 1, 1) := by decide +kernel
theorem dX9_game_10 : decode cX9_game 10 = .ok (.bipush 15, 2) := by decide +kernel
theorem dX9_game_12 : decode cX9_game 12 = .ok (.if_icmp .gt 69, 3) := by decide +kernel
theorem dX9_game_15 : decode cX9_game 15 = .ok (.iload_n 2, 1) := by decide +kernel
theorem dX9_game_16 : decode cX9_game 16 = .ok (.ifCond .lt 65, 3) := by decide +kernel
theorem dX9_game_19 : decode cX9_game 19 = .ok (.iload_n 2, 1) := by decide +kernel
theorem dX9_game_20 : decode cX9_game 20 = .ok (.bipush 15, 2) := by decide +kernel
theorem dX9_game_22 : decode cX9_game 22 = .ok (.if_icmp .gt 59, 3) := by decide +kernel
theorem dX9_game_25 : decode cX9_game 25 = .ok (.iload_n 1, 1) := by decide +kernel
theorem dX9_game_26 : decode cX9_game 26 = .ok (.iload_n 2, 1) := by decide +kernel
theorem dX9_game_27 : decode cX9_game 27 = .ok (.if_icmp .eq 54, 3) := by decide +kernel
theorem dX9_game_30 : decode cX9_game 30 = .ok (.iload_n 3, 1) := by decide +kernel
theorem dX9_game_31 : decode cX9_game 31 = .ok (.ifCond .lt 50, 3) := by decide +kernel
theorem dX9_game_34 : decode cX9_game 34 = .ok (.iload_n 3, 1) := by decide +kernel
theorem dX9_game_35 : decode cX9_game 35 = .ok (.iconst 2, 1) := by decide +kernel
theorem dX9_game_36 : decode cX9_game 36 = .ok (.if_icmp .gt 45, 3) := by decide +kernel
theorem dX9_game_39 : decode cX9_game 39 = .ok (.iload 4, 2) := by decide +kernel
theorem dX9_game_41 : decode cX9_game 41 = .ok (.ifCond .lt 40, 3) := by decide +kernel
theorem dX9_game_44 : decode cX9_game 44 = .ok (.iload 4, 2) := by decide +kernel
theorem dX9_game_46 : decode cX9_game 46 = .ok (.bipush 9, 2) := by decide +kernel
theorem dX9_game_48 : decode cX9_game 48 = .ok (.if_icmp .gt 33, 3) := by decide +kernel
theorem dX9_game_51 : decode cX9_game 51 = .ok (.aload_n 0, 1) := by decide +kernel
theorem dX9_game_52 : decode cX9_game 52 = .ok (.iload 5, 2) := by decide +kernel
theorem dX9_game_54 : decode cX9_game 54 = .ok (.invokevirtual 249, 3) := by decide +kernel
theorem dX9_game_57 : decode cX9_game 57 = .ok (.ifCond .ne 24, 3) := by decide +kernel
theorem dX9_game_60 : decode cX9_game 60 = .ok (.iload 6, 2) := by decide +kernel
theorem dX9_game_62 : decode cX9_game 62 = .ok (.ifCond .le 19, 3) := by decide +kernel
theorem dX9_game_65 : decode cX9_game 65 = .ok (.iload 6, 2) := by decide +kernel
theorem dX9_game_67 : decode cX9_game 67 = .ok (.ldc 252, 2) := by decide +kernel
theorem dX9_game_69 : decode cX9_game 69 = .ok (.if_icmp .ge 12, 3) := by decide +kernel
theorem dX9_game_72 : decode cX9_game 72 = .ok (.aload_n 0, 1) := by decide +kernel
theorem dX9_game_73 : decode cX9_game 73 = .ok (.getfield 253, 3) := by decide +kernel
theorem dX9_game_76 : decode cX9_game 76 = .ok (.bipush 60, 2) := by decide +kernel
theorem dX9_game_78 : decode cX9_game 78 = .ok (.if_icmp .ne 5, 3) := by decide +kernel
theorem dX9_game_81 : decode cX9_game 81 = .ok (.iconst (-1), 1) := by decide +kernel
theorem dX9_game_82 : decode cX9_game 82 = .ok (.ireturn, 1) := by decide +kernel
theorem dX9_game_83 : decode cX9_game 83 = .ok (.aload_n 0, 1) := by decide +kernel
theorem dX9_game_84 : decode cX9_game 84 = .ok (.getfield 107, 3) := by decide +kernel
theorem dX9_game_87 : decode cX9_game 87 = .ok (.aload_n 0, 1) := by decide +kernel
theorem dX9_game_88 : decode cX9_game 88 = .ok (.getfield 253, 3) := by decide +kernel
theorem dX9_game_91 : decode cX9_game 91 = .ok (.iload_n 1, 1) := by decide +kernel
theorem dX9_game_92 : decode cX9_game 92 = .ok (.iastore, 1) := by decide +kernel
theorem dX9_game_93 : decode cX9_game 93 = .ok (.aload_n 0, 1) := by decide +kernel
theorem dX9_game_94 : decode cX9_game 94 = .ok (.getfield 110, 3) := by decide +kernel
theorem dX9_game_97 : decode cX9_game 97 = .ok (.aload_n 0, 1) := by decide +kernel
theorem dX9_game_98 : decode cX9_game 98 = .ok (.getfield 253, 3) := by decide +kernel
theorem dX9_game_101 : decode cX9_game 101 = .ok (.iload_n 2, 1) := by decide +kernel
theorem dX9_game_102 : decode cX9_game 102 = .ok (.iastore, 1) := by decide +kernel
theorem dX9_game_103 : decode cX9_game 103 = .ok (.aload_n 0, 1) := by decide +kernel
theorem dX9_game_104 : decode cX9_game 104 = .ok (.getfield 113, 3) := by decide +kernel
theorem dX9_game_107 : decode cX9_game 107 = .ok (.aload_n 0, 1) := by decide +kernel
theorem dX9_game_108 : decode cX9_game 108 = .ok (.getfield 253, 3) := by decide +kernel
theorem dX9_game_111 : decode cX9_game 111 = .ok (.iload_n 3, 1) := by decide +kernel
theorem dX9_game_112 : decode cX9_game 112 = .ok (.iastore, 1) := by decide +kernel
theorem dX9_game_113 : decode cX9_game 113 = .ok (.aload_n 0, 1) := by decide +kernel
theorem dX9_game_114 : decode cX9_game 114 = .ok (.getfield 116, 3) := by decide +kernel
theorem dX9_game_117 : decode cX9_game 117 = .ok (.aload_n 0, 1) := by decide +kernel
theorem dX9_game_118 : decode cX9_game 118 = .ok (.getfield 253, 3) := by decide +kernel
theorem dX9_game_121 : decode cX9_game 121 = .ok (.iload 4, 2) := by decide +kernel
theorem dX9_game_123 : decode cX9_game 123 = .ok (.iastore, 1) := by decide +kernel
theorem dX9_game_124 : decode cX9_game 124 = .ok (.aload_n 0, 1) := by decide +kernel
theorem dX9_game_125 : decode cX9_game 125 = .ok (.getfield 119, 3) := by decide +kernel
theorem dX9_game_128 : decode cX9_game 128 = .ok (.aload_n 0, 1) := by decide +kernel
theorem dX9_game_129 : decode cX9_game 129 = .ok (.getfield 253, 3) := by decide +kernel
theorem dX9_game_132 : decode cX9_game 132 = .ok (.iload 5, 2) := by decide +kernel
theorem dX9_game_134 : decode cX9_game 134 = .ok (.iastore, 1) := by decide +kernel
theorem dX9_game_135 : decode cX9_game 135 = .ok (.aload_n 0, 1) := by decide +kernel
theorem dX9_game_136 : decode cX9_game 136 = .ok (.getfield 122, 3) := by decide +kernel
theorem dX9_game_139 : decode cX9_game 139 = .ok (.aload_n 0, 1) := by decide +kernel
theorem dX9_game_140 : decode cX9_game 140 = .ok (.getfield 253, 3) := by decide +kernel
theorem dX9_game_143 : decode cX9_game 143 = .ok (.iload 6, 2) := by decide +kernel
theorem dX9_game_145 : decode cX9_game 145 = .ok (.iastore, 1) := by decide +kernel
theorem dX9_game_146 : decode cX9_game 146 = .ok (.aload_n 0, 1) := by decide +kernel
theorem dX9_game_147 : decode cX9_game 147 = .ok (.getfield 125, 3) := by decide +kernel
theorem dX9_game_150 : decode cX9_game 150 = .ok (.aload_n 0, 1) := by decide +kernel
theorem dX9_game_151 : decode cX9_game 151 = .ok (.getfield 253, 3) := by decide +kernel
theorem dX9_game_154 : decode cX9_game 154 = .ok (.iconst 0, 1) := by decide +kernel
theorem dX9_game_155 : decode cX9_game 155 = .ok (.iastore, 1) := by decide +kernel
theorem dX9_game_156 : decode cX9_game 156 = .ok (.aload_n 0, 1) := by decide +kernel
theorem dX9_game_157 : decode cX9_game 157 = .ok (.getfield 128, 3) := by decide +kernel
theorem dX9_game_160 : decode cX9_game 160 = .ok (.aload_n 0, 1) := by decide +kernel
theorem dX9_game_161 : decode cX9_game 161 = .ok (.getfield 253, 3) := by decide +kernel
theorem dX9_game_164 : decode cX9_game 164 = .ok (.iconst (-1), 1) := by decide +kernel
theorem dX9_game_165 : decode cX9_game 165 = .ok (.iastore, 1) := by decide +kernel
theorem dX9_game_166 : decode cX9_game 166 = .ok (.aload_n 0, 1) := by decide +kernel
theorem dX9_game_167 : decode cX9_game 167 = .ok (.dup, 1) := by decide +kernel
theorem dX9_game_168 : decode cX9_game 168 = .ok (.getfield 253, 3) := by decide +kernel
theorem dX9_game_171 : decode cX9_game 171 = .ok (.iconst 1, 1) := by decide +kernel
theorem dX9_game_172 : decode cX9_game 172 = .ok (.iadd, 1) := by decide +kernel
theorem dX9_game_173 : decode cX9_game 173 = .ok (.putfield 253, 3) := by decide +kernel
theorem dX9_game_176 : decode cX9_game 176 = .ok (.aload_n 0, 1) := by decide +kernel
theorem dX9_game_177 : decode cX9_game 177 = .ok (.getfield 253, 3) := by decide +kernel
theorem dX9_game_180 : decode cX9_game 180 = .ok (.iconst 1, 1) := by decide +kernel
theorem dX9_game_181 : decode cX9_game 181 = .ok (.isub, 1) := by decide +kernel
theorem dX9_game_182 : decode cX9_game 182 = .ok (.ireturn, 1) := by decide +kernel
theorem dX9_isGone_0 : decode cX9_isGone 0 = .ok (.iload_n 1, 1) := by decide +kernel
theorem dX9_isGone_1 : decode cX9_isGone 1 = .ok (.ifCond .lt 22, 3) := by decide +kernel
theorem dX9_isGone_4 : decode cX9_isGone 4 = .ok (.iload_n 1, 1) := by decide +kernel
theorem dX9_isGone_5 : decode cX9_isGone 5 = .ok (.bipush 50, 2) := by decide +kernel
theorem dX9_isGone_7 : decode cX9_isGone 7 = .ok (.if_icmp .gt 16, 3) := by decide +kernel
theorem dX9_isGone_10 : decode cX9_isGone 10 = .ok (.bipush 7, 2) := by decide +kernel
theorem dX9_isGone_12 : decode cX9_isGone 12 = .ok (.iload_n 1, 1) := by decide +kernel
theorem dX9_isGone_13 : decode cX9_isGone 13 = .ok (.iconst 1, 1) := by decide +kernel
theorem dX9_isGone_14 : decode cX9_isGone 14 = .ok (.iadd, 1) := by decide +kernel
theorem dX9_isGone_15 : decode cX9_isGone 15 = .ok (.imul, 1) := by decide +kernel
theorem dX9_isGone_16 : decode cX9_isGone 16 = .ok (.aload_n 0, 1) := by decide +kernel
theorem dX9_isGone_17 : decode cX9_isGone 17 = .ok (.getfield 239, 3) := by decide +kernel
theorem dX9_isGone_20 : decode cX9_isGone 20 = .ok (.if_icmp .gt 7, 3) := by decide +kernel
theorem dX9_isGone_23 : decode cX9_isGone 23 = .ok (.iconst 1, 1) := by decide +kernel
theorem dX9_isGone_24 : decode cX9_isGone 24 = .ok (.goto 4, 3) := by decide +kernel
theorem dX9_isGone_27 : decode cX9_isGone 27 = .ok (.iconst 0, 1) := by decide +kernel
theorem dX9_isGone_28 : decode cX9_isGone 28 = .ok (.ireturn, 1) := by decide +kernel
theorem dX9_isThere_0 : decode cX9_isThere 0 = .ok (.aload_n 0, 1) := by decide +kernel
theorem dX9_isThere_1 : decode cX9_isThere 1 = .ok (.getfield 125, 3) := by decide +kernel
theorem dX9_isThere_4 : decode cX9_isThere 4 = .ok (.iload_n 1, 1) := by decide +kernel
theorem dX9_isThere_5 : decode cX9_isThere 5 = .ok (.iaload, 1) := by decide +kernel
theorem dX9_isThere_6 : decode cX9_isThere 6 = .ok (.iconst 1, 1) := by decide +kernel
theorem dX9_isThere_7 : decode cX9_isThere 7 = .ok (.if_icmp .eq 13, 3) := by decide +kernel
theorem dX9_isThere_10 : decode cX9_isThere 10 = .ok (.aload_n 0, 1) := by decide +kernel
theorem dX9_isThere_11 : decode cX9_isThere 11 = .ok (.getfield 125, 3) := by decide +kernel
theorem dX9_isThere_14 : decode cX9_isThere 14 = .ok (.iload_n 1, 1) := by decide +kernel
theorem dX9_isThere_15 : decode cX9_isThere 15 = .ok (.iaload, 1) := by decide +kernel
theorem dX9_isThere_16 : decode cX9_isThere 16 = .ok (.iconst 2, 1) := by decide +kernel
theorem dX9_isThere_17 : decode cX9_isThere 17 = .ok (.if_icmp .ne 7, 3) := by decide +kernel
theorem dX9_isThere_20 : decode cX9_isThere 20 = .ok (.iconst 1, 1) := by decide +kernel
theorem dX9_isThere_21 : decode cX9_isThere 21 = .ok (.goto 4, 3) := by decide +kernel
theorem dX9_isThere_24 : decode cX9_isThere 24 = .ok (.iconst 0, 1) := by decide +kernel
theorem dX9_isThere_25 : decode cX9_isThere 25 = .ok (.ireturn, 1) := by decide +kernel
theorem dX9_gameAt_0 : decode cX9_gameAt 0 = .ok (.iconst (-1), 1) := by decide +kernel
theorem dX9_gameAt_1 : decode cX9_gameAt 1 = .ok (.istore_n 2, 1) := by decide +kernel
theorem dX9_gameAt_2 : decode cX9_gameAt 2 = .ok (.iconst 0, 1) := by decide +kernel
theorem dX9_gameAt_3 : decode cX9_gameAt 3 = .ok (.istore_n 3, 1) := by decide +kernel
theorem dX9_gameAt_4 : decode cX9_gameAt 4 = .ok (.iload_n 3, 1) := by decide +kernel
theorem dX9_gameAt_5 : decode cX9_gameAt 5 = .ok (.aload_n 0, 1) := by decide +kernel
theorem dX9_gameAt_6 : decode cX9_gameAt 6 = .ok (.getfield 253, 3) := by decide +kernel
theorem dX9_gameAt_9 : decode cX9_gameAt 9 = .ok (.if_icmp .ge 33, 3) := by decide +kernel
theorem dX9_gameAt_12 : decode cX9_gameAt 12 = .ok (.aload_n 0, 1) := by decide +kernel
theorem dX9_gameAt_13 : decode cX9_gameAt 13 = .ok (.iload_n 3, 1) := by decide +kernel
theorem dX9_gameAt_14 : decode cX9_gameAt 14 = .ok (.invokevirtual 256, 3) := by decide +kernel
theorem dX9_gameAt_17 : decode cX9_gameAt 17 = .ok (.ifCond .eq 17, 3) := by decide +kernel
theorem dX9_gameAt_20 : decode cX9_gameAt 20 = .ok (.aload_n 0, 1) := by decide +kernel
theorem dX9_gameAt_21 : decode cX9_gameAt 21 = .ok (.getfield 128, 3) := by decide +kernel
theorem dX9_gameAt_24 : decode cX9_gameAt 24 = .ok (.iload_n 3, 1) := by decide +kernel
theorem dX9_gameAt_25 : decode cX9_gameAt 25 = .ok (.iaload, 1) := by decide +kernel
theorem dX9_gameAt_26 : decode cX9_gameAt 26 = .ok (.iload_n 1, 1) := by decide +kernel
theorem dX9_gameAt_27 : decode cX9_gameAt 27 = .ok (.if_icmp .ne 7, 3) := by decide +kernel
theorem dX9_gameAt_30 : decode cX9_gameAt 30 = .ok (.iload_n 3, 1) := by decide +kernel
theorem dX9_gameAt_31 : decode cX9_gameAt 31 = .ok (.goto 4, 3) := by decide +kernel
theorem dX9_gameAt_34 : decode cX9_gameAt 34 = .ok (.iload_n 2, 1) := by decide +kernel
theorem dX9_gameAt_35 : decode cX9_gameAt 35 = .ok (.istore_n 2, 1) := by decide +kernel
theorem dX9_gameAt_36 : decode cX9_gameAt 36 = .ok (.iinc 3 1, 3) := by decide +kernel
theorem dX9_gameAt_39 : decode cX9_gameAt 39 = .ok (.goto (-35), 3) := by decide +kernel
theorem dX9_gameAt_42 : decode cX9_gameAt 42 = .ok (.iload_n 2, 1) := by decide +kernel
theorem dX9_gameAt_43 : decode cX9_gameAt 43 = .ok (.ireturn, 1) := by decide +kernel
theorem dX9_hasClub_0 : decode cX9_hasClub 0 = .ok (.aload_n 0, 1) := by decide +kernel
theorem dX9_hasClub_1 : decode cX9_hasClub 1 = .ok (.getfield 107, 3) := by decide +kernel
theorem dX9_hasClub_4 : decode cX9_hasClub 4 = .ok (.iload_n 1, 1) := by decide +kernel
theorem dX9_hasClub_5 : decode cX9_hasClub 5 = .ok (.iaload, 1) := by decide +kernel
theorem dX9_hasClub_6 : decode cX9_hasClub 6 = .ok (.iload_n 2, 1) := by decide +kernel
theorem dX9_hasClub_7 : decode cX9_hasClub 7 = .ok (.if_icmp .eq 13, 3) := by decide +kernel
theorem dX9_hasClub_10 : decode cX9_hasClub 10 = .ok (.aload_n 0, 1) := by decide +kernel
theorem dX9_hasClub_11 : decode cX9_hasClub 11 = .ok (.getfield 110, 3) := by decide +kernel
theorem dX9_hasClub_14 : decode cX9_hasClub 14 = .ok (.iload_n 1, 1) := by decide +kernel
theorem dX9_hasClub_15 : decode cX9_hasClub 15 = .ok (.iaload, 1) := by decide +kernel
theorem dX9_hasClub_16 : decode cX9_hasClub 16 = .ok (.iload_n 2, 1) := by decide +kernel
theorem dX9_hasClub_17 : decode cX9_hasClub 17 = .ok (.if_icmp .ne 7, 3) := by decide +kernel
theorem dX9_hasClub_20 : decode cX9_hasClub 20 = .ok (.iconst 1, 1) := by decide +kernel
theorem dX9_hasClub_21 : decode cX9_hasClub 21 = .ok (.goto 4, 3) := by decide +kernel
theorem dX9_hasClub_24 : decode cX9_hasClub 24 = .ok (.iconst 0, 1) := by decide +kernel
theorem dX9_hasClub_25 : decode cX9_hasClub 25 = .ok (.ireturn, 1) := by decide +kernel
theorem dX9_suits_0 : decode cX9_suits 0 = .ok (.aload_n 0, 1) := by decide +kernel
theorem dX9_suits_1 : decode cX9_suits 1 = .ok (.getfield 80, 3) := by decide +kernel
theorem dX9_suits_4 : decode cX9_suits 4 = .ok (.iload_n 2, 1) := by decide +kernel
theorem dX9_suits_5 : decode cX9_suits 5 = .ok (.bipush 6, 2) := by decide +kernel
theorem dX9_suits_7 : decode cX9_suits 7 = .ok (.irem, 1) := by decide +kernel
theorem dX9_suits_8 : decode cX9_suits 8 = .ok (.iaload, 1) := by decide +kernel
theorem dX9_suits_9 : decode cX9_suits 9 = .ok (.aload_n 0, 1) := by decide +kernel
theorem dX9_suits_10 : decode cX9_suits 10 = .ok (.getfield 113, 3) := by decide +kernel
theorem dX9_suits_13 : decode cX9_suits 13 = .ok (.iload_n 1, 1) := by decide +kernel
theorem dX9_suits_14 : decode cX9_suits 14 = .ok (.iaload, 1) := by decide +kernel
theorem dX9_suits_15 : decode cX9_suits 15 = .ok (.if_icmp .lt 11, 3) := by decide +kernel
theorem dX9_suits_18 : decode cX9_suits 18 = .ok (.aload_n 0, 1) := by decide +kernel
theorem dX9_suits_19 : decode cX9_suits 19 = .ok (.iload_n 2, 1) := by decide +kernel
theorem dX9_suits_20 : decode cX9_suits 20 = .ok (.invokevirtual 259, 3) := by decide +kernel
theorem dX9_suits_23 : decode cX9_suits 23 = .ok (.ifCond .lt 5, 3) := by decide +kernel
theorem dX9_suits_26 : decode cX9_suits 26 = .ok (.iconst 0, 1) := by decide +kernel
theorem dX9_suits_27 : decode cX9_suits 27 = .ok (.ireturn, 1) := by decide +kernel
theorem dX9_suits_28 : decode cX9_suits 28 = .ok (.iconst 1, 1) := by decide +kernel
theorem dX9_suits_29 : decode cX9_suits 29 = .ok (.istore_n 3, 1) := by decide +kernel
theorem dX9_suits_30 : decode cX9_suits 30 = .ok (.iconst 0, 1) := by decide +kernel
theorem dX9_suits_31 : decode cX9_suits 31 = .ok (.istore 4, 2) := by decide +kernel
theorem dX9_suits_33 : decode cX9_suits 33 = .ok (.iload 4, 2) := by decide +kernel
theorem dX9_suits_35 : decode cX9_suits 35 = .ok (.aload_n 0, 1) := by decide +kernel
theorem dX9_suits_36 : decode cX9_suits 36 = .ok (.getfield 253, 3) := by decide +kernel
theorem dX9_suits_39 : decode cX9_suits 39 = .ok (.if_icmp .ge 81, 3) := by decide +kernel
theorem dX9_suits_42 : decode cX9_suits 42 = .ok (.iload 4, 2) := by decide +kernel
theorem dX9_suits_44 : decode cX9_suits 44 = .ok (.iload_n 1, 1) := by decide +kernel
theorem dX9_suits_45 : decode cX9_suits 45 = .ok (.if_icmp .eq 69, 3) := by decide +kernel
theorem dX9_suits_48 : decode cX9_suits 48 = .ok (.aload_n 0, 1) := by decide +kernel
theorem dX9_suits_49 : decode cX9_suits 49 = .ok (.iload 4, 2) := by decide +kernel
theorem dX9_suits_51 : decode cX9_suits 51 = .ok (.invokevirtual 256, 3) := by decide +kernel
theorem dX9_suits_54 : decode cX9_suits 54 = .ok (.ifCond .eq 60, 3) := by decide +kernel
theorem dX9_suits_57 : decode cX9_suits 57 = .ok (.aload_n 0, 1) := by decide +kernel
theorem dX9_suits_58 : decode cX9_suits 58 = .ok (.getfield 128, 3) := by decide +kernel
theorem dX9_suits_61 : decode cX9_suits 61 = .ok (.iload 4, 2) := by decide +kernel
theorem dX9_suits_63 : decode cX9_suits 63 = .ok (.iaload, 1) := by decide +kernel
theorem dX9_suits_64 : decode cX9_suits 64 = .ok (.bipush 24, 2) := by decide +kernel
theorem dX9_suits_66 : decode cX9_suits 66 = .ok (.idiv, 1) := by decide +kernel
theorem dX9_suits_67 : decode cX9_suits 67 = .ok (.iload_n 2, 1) := by decide +kernel
theorem dX9_suits_68 : decode cX9_suits 68 = .ok (.bipush 24, 2) := by decide +kernel
theorem dX9_suits_70 : decode cX9_suits 70 = .ok (.idiv, 1) := by decide +kernel
theorem dX9_suits_71 : decode cX9_suits 71 = .ok (.if_icmp .ne 43, 3) := by decide +kernel
theorem dX9_suits_74 : decode cX9_suits 74 = .ok (.iload_n 3, 1) := by decide +kernel
theorem dX9_suits_75 : decode cX9_suits 75 = .ok (.ifCond .eq 37, 3) := by decide +kernel
theorem dX9_suits_78 : decode cX9_suits 78 = .ok (.aload_n 0, 1) := by decide +kernel
theorem dX9_suits_79 : decode cX9_suits 79 = .ok (.iload 4, 2) := by decide +kernel
theorem dX9_suits_81 : decode cX9_suits 81 = .ok (.aload_n 0, 1) := by decide +kernel
theorem dX9_suits_82 : decode cX9_suits 82 = .ok (.getfield 107, 3) := by decide +kernel
theorem dX9_suits_85 : decode cX9_suits 85 = .ok (.iload_n 1, 1) := by decide +kernel
theorem dX9_suits_86 : decode cX9_suits 86 = .ok (.iaload, 1) := by decide +kernel
theorem dX9_suits_87 : decode cX9_suits 87 = .ok (.invokevirtual 262, 3) := by decide +kernel
theorem dX9_suits_90 : decode cX9_suits 90 = .ok (.ifCond .ne 22, 3) := by decide +kernel
theorem dX9_suits_93 : decode cX9_suits 93 = .ok (.aload_n 0, 1) := by decide +kernel
theorem dX9_suits_94 : decode cX9_suits 94 = .ok (.iload 4, 2) := by decide +kernel
theorem dX9_suits_96 : decode cX9_suits 96 = .ok (.aload_n 0, 1) := by decide +kernel
theorem dX9_suits_97 : decode cX9_suits 97 = .ok (.getfield 110, 3) := by decide +kernel
theorem dX9_suits_100 : decode cX9_suits 100 = .ok (.iload_n 1, 1) := by decide +kernel
theorem dX9_suits_101 : decode cX9_suits 101 = .ok (.iaload, 1) := by decide +kernel
theorem dX9_suits_102 : decode cX9_suits 102 = .ok (.invokevirtual 262, 3) := by decide +kernel
theorem dX9_suits_105 : decode cX9_suits 105 = .ok (.ifCond .ne 7, 3) := by decide +kernel
theorem dX9_suits_108 : decode cX9_suits 108 = .ok (.iconst 1, 1) := by decide +kernel
theorem dX9_suits_109 : decode cX9_suits 109 = .ok (.goto 4, 3) := by decide +kernel
theorem dX9_suits_112 : decode cX9_suits 112 = .ok (.iconst 0, 1) := by decide +kernel
theorem dX9_suits_113 : decode cX9_suits 113 = .ok (.istore_n 3, 1) := by decide +kernel
theorem dX9_suits_114 : decode cX9_suits 114 = .ok (.iinc 4 1, 3) := by decide +kernel
theorem dX9_suits_117 : decode cX9_suits 117 = .ok (.goto (-84), 3) := by decide +kernel
theorem dX9_suits_120 : decode cX9_suits 120 = .ok (.iload_n 3, 1) := by decide +kernel
theorem dX9_suits_121 : decode cX9_suits 121 = .ok (.ireturn, 1) := by decide +kernel
theorem dX9_firstSlot_0 : decode cX9_firstSlot 0 = .ok (.bipush 7, 2) := by decide +kernel
theorem dX9_firstSlot_2 : decode cX9_firstSlot 2 = .ok (.aload_n 0, 1) := by decide +kernel
theorem dX9_firstSlot_3 : decode cX9_firstSlot 3 = .ok (.getfield 119, 3) := by decide +kernel
theorem dX9_firstSlot_6 : decode cX9_firstSlot 6 = .ok (.iload_n 1, 1) := by decide +kernel
theorem dX9_firstSlot_7 : decode cX9_firstSlot 7 = .ok (.iaload, 1) := by decide +kernel
theorem dX9_firstSlot_8 : decode cX9_firstSlot 8 = .ok (.imul, 1) := by decide +kernel
theorem dX9_firstSlot_9 : decode cX9_firstSlot 9 = .ok (.iload_n 2, 1) := by decide +kernel
theorem dX9_firstSlot_10 : decode cX9_firstSlot 10 = .ok (.if_icmp .le 15, 3) := by decide +kernel
theorem dX9_firstSlot_13 : decode cX9_firstSlot 13 = .ok (.bipush 7, 2) := by decide +kernel
theorem dX9_firstSlot_15 : decode cX9_firstSlot 15 = .ok (.aload_n 0, 1) := by decide +kernel
theorem dX9_firstSlot_16 : decode cX9_firstSlot 16 = .ok (.getfield 119, 3) := by decide +kernel
theorem dX9_firstSlot_19 : decode cX9_firstSlot 19 = .ok (.iload_n 1, 1) := by decide +kernel
theorem dX9_firstSlot_20 : decode cX9_firstSlot 20 = .ok (.iaload, 1) := by decide +kernel
theorem dX9_firstSlot_21 : decode cX9_firstSlot 21 = .ok (.imul, 1) := by decide +kernel
theorem dX9_firstSlot_22 : decode cX9_firstSlot 22 = .ok (.goto 4, 3) := by decide +kernel
theorem dX9_firstSlot_25 : decode cX9_firstSlot 25 = .ok (.iload_n 2, 1) := by decide +kernel
theorem dX9_firstSlot_26 : decode cX9_firstSlot 26 = .ok (.istore 5, 2) := by decide +kernel
theorem dX9_firstSlot_28 : decode cX9_firstSlot 28 = .ok (.iload 5, 2) := by decide +kernel
theorem dX9_firstSlot_30 : decode cX9_firstSlot 30 = .ok (.istore 6, 2) := by decide +kernel
theorem dX9_firstSlot_32 : decode cX9_firstSlot 32 = .ok (.iload 6, 2) := by decide +kernel
theorem dX9_firstSlot_34 : decode cX9_firstSlot 34 = .ok (.bipush 7, 2) := by decide +kernel
theorem dX9_firstSlot_36 : decode cX9_firstSlot 36 = .ok (.aload_n 0, 1) := by decide +kernel
theorem dX9_firstSlot_37 : decode cX9_firstSlot 37 = .ok (.getfield 119, 3) := by decide +kernel
theorem dX9_firstSlot_40 : decode cX9_firstSlot 40 = .ok (.iload_n 1, 1) := by decide +kernel
theorem dX9_firstSlot_41 : decode cX9_firstSlot 41 = .ok (.iaload, 1) := by decide +kernel
theorem dX9_firstSlot_42 : decode cX9_firstSlot 42 = .ok (.imul, 1) := by decide +kernel
theorem dX9_firstSlot_43 : decode cX9_firstSlot 43 = .ok (.bipush 7, 2) := by decide +kernel
theorem dX9_firstSlot_45 : decode cX9_firstSlot 45 = .ok (.iadd, 1) := by decide +kernel
theorem dX9_firstSlot_46 : decode cX9_firstSlot 46 = .ok (.if_icmp .ge 117, 3) := by decide +kernel
theorem dX9_firstSlot_49 : decode cX9_firstSlot 49 = .ok (.iconst 0, 1) := by decide +kernel
theorem dX9_firstSlot_50 : decode cX9_firstSlot 50 = .ok (.istore 7, 2) := by decide +kernel
theorem dX9_firstSlot_52 : decode cX9_firstSlot 52 = .ok (.iload 7, 2) := by decide +kernel
theorem dX9_firstSlot_54 : decode cX9_firstSlot 54 = .ok (.iconst 4, 1) := by decide +kernel
theorem dX9_firstSlot_55 : decode cX9_firstSlot 55 = .ok (.if_icmp .ge 102, 3) := by decide +kernel
theorem dX9_firstSlot_58 : decode cX9_firstSlot 58 = .ok (.iload_n 3, 1) := by decide +kernel
theorem dX9_firstSlot_59 : decode cX9_firstSlot 59 = .ok (.ifCond .eq 26, 3) := by decide +kernel
theorem dX9_firstSlot_62 : decode cX9_firstSlot 62 = .ok (.aload_n 0, 1) := by decide +kernel
theorem dX9_firstSlot_63 : decode cX9_firstSlot 63 = .ok (.getfield 122, 3) := by decide +kernel
theorem dX9_firstSlot_66 : decode cX9_firstSlot 66 = .ok (.iload_n 1, 1) := by decide +kernel
theorem dX9_firstSlot_67 : decode cX9_firstSlot 67 = .ok (.iaload, 1) := by decide +kernel
theorem dX9_firstSlot_68 : decode cX9_firstSlot 68 = .ok (.iconst 4, 1) := by decide +kernel
theorem dX9_firstSlot_69 : decode cX9_firstSlot 69 = .ok (.iload 6, 2) := by decide +kernel
theorem dX9_firstSlot_71 : decode cX9_firstSlot 71 = .ok (.bipush 7, 2) := by decide +kernel
theorem dX9_firstSlot_73 : decode cX9_firstSlot 73 = .ok (.irem, 1) := by decide +kernel
theorem dX9_firstSlot_74 : decode cX9_firstSlot 74 = .ok (.imul, 1) := by decide +kernel
theorem dX9_firstSlot_75 : decode cX9_firstSlot 75 = .ok (.iload 7, 2) := by decide +kernel
theorem dX9_firstSlot_77 : decode cX9_firstSlot 77 = .ok (.iadd, 1) := by decide +kernel
theorem dX9_firstSlot_78 : decode cX9_firstSlot 78 = .ok (.ishr, 1) := by decide +kernel
theorem dX9_firstSlot_79 : decode cX9_firstSlot 79 = .ok (.iconst 1, 1) := by decide +kernel
theorem dX9_firstSlot_80 : decode cX9_firstSlot 80 = .ok (.iand, 1) := by decide +kernel
theorem dX9_firstSlot_81 : decode cX9_firstSlot 81 = .ok (.iconst 1, 1) := by decide +kernel
theorem dX9_firstSlot_82 : decode cX9_firstSlot 82 = .ok (.if_icmp .ne 7, 3) := by decide +kernel
theorem dX9_firstSlot_85 : decode cX9_firstSlot 85 = .ok (.iconst 1, 1) := by decide +kernel
theorem dX9_firstSlot_86 : decode cX9_firstSlot 86 = .ok (.goto 4, 3) := by decide +kernel
theorem dX9_firstSlot_89 : decode cX9_firstSlot 89 = .ok (.iconst 0, 1) := by decide +kernel
theorem dX9_firstSlot_90 : decode cX9_firstSlot 90 = .ok (.istore 8, 2) := by decide +kernel
theorem dX9_firstSlot_92 : decode cX9_firstSlot 92 = .ok (.iconst 0, 1) := by decide +kernel
theorem dX9_firstSlot_93 : decode cX9_firstSlot 93 = .ok (.istore 9, 2) := by decide +kernel
theorem dX9_firstSlot_95 : decode cX9_firstSlot 95 = .ok (.iload 9, 2) := by decide +kernel
theorem dX9_firstSlot_97 : decode cX9_firstSlot 97 = .ok (.aload_n 0, 1) := by decide +kernel
theorem dX9_firstSlot_98 : decode cX9_firstSlot 98 = .ok (.getfield 236, 3) := by decide +kernel
theorem dX9_firstSlot_101 : decode cX9_firstSlot 101 = .ok (.if_icmp .ge 50, 3) := by decide +kernel
theorem dX9_firstSlot_104 : decode cX9_firstSlot 104 = .ok (.iload 8, 2) := by decide +kernel
theorem dX9_firstSlot_106 : decode cX9_firstSlot 106 = .ok (.ifCond .eq 45, 3) := by decide +kernel
theorem dX9_firstSlot_109 : decode cX9_firstSlot 109 = .ok (.bipush 24, 2) := by decide +kernel
theorem dX9_firstSlot_111 : decode cX9_firstSlot 111 = .ok (.iload 6, 2) := by decide +kernel
theorem dX9_firstSlot_113 : decode cX9_firstSlot 113 = .ok (.imul, 1) := by decide +kernel
theorem dX9_firstSlot_114 : decode cX9_firstSlot 114 = .ok (.bipush 6, 2) := by decide +kernel
theorem dX9_firstSlot_116 : decode cX9_firstSlot 116 = .ok (.iload 7, 2) := by decide +kernel
theorem dX9_firstSlot_118 : decode cX9_firstSlot 118 = .ok (.imul, 1) := by decide +kernel
theorem dX9_firstSlot_119 : decode cX9_firstSlot 119 = .ok (.iadd, 1) := by decide +kernel
theorem dX9_firstSlot_120 : decode cX9_firstSlot 120 = .ok (.iload 9, 2) := by decide +kernel
theorem dX9_firstSlot_122 : decode cX9_firstSlot 122 = .ok (.iadd, 1) := by decide +kernel
theorem dX9_firstSlot_123 : decode cX9_firstSlot 123 = .ok (.istore 10, 2) := by decide +kernel
theorem dX9_firstSlot_125 : decode cX9_firstSlot 125 = .ok (.iload 10, 2) := by decide +kernel
theorem dX9_firstSlot_127 : decode cX9_firstSlot 127 = .ok (.iload 4, 2) := by decide +kernel
theorem dX9_firstSlot_129 : decode cX9_firstSlot 129 = .ok (.if_icmp .eq 16, 3) := by decide +kernel
theorem dX9_firstSlot_132 : decode cX9_firstSlot 132 = .ok (.aload_n 0, 1) := by decide +kernel
theorem dX9_firstSlot_133 : decode cX9_firstSlot 133 = .ok (.iload_n 1, 1) := by decide +kernel
theorem dX9_firstSlot_134 : decode cX9_firstSlot 134 = .ok (.iload 10, 2) := by decide +kernel
theorem dX9_firstSlot_136 : decode cX9_firstSlot 136 = .ok (.invokevirtual 266, 3) := by decide +kernel
theorem dX9_firstSlot_139 : decode cX9_firstSlot 139 = .ok (.ifCond .eq 6, 3) := by decide +kernel
theorem dX9_firstSlot_142 : decode cX9_firstSlot 142 = .ok (.iload 10, 2) := by decide +kernel
theorem dX9_firstSlot_144 : decode cX9_firstSlot 144 = .ok (.ireturn, 1) := by decide +kernel
theorem dX9_firstSlot_145 : decode cX9_firstSlot 145 = .ok (.iinc 9 1, 3) := by decide +kernel
theorem dX9_firstSlot_148 : decode cX9_firstSlot 148 = .ok (.goto (-53), 3) := by decide +kernel
theorem dX9_firstSlot_151 : decode cX9_firstSlot 151 = .ok (.iinc 7 1, 3) := by decide +kernel
theorem dX9_firstSlot_154 : decode cX9_firstSlot 154 = .ok (.goto (-102), 3) := by decide +kernel
theorem dX9_firstSlot_157 : decode cX9_firstSlot 157 = .ok (.iinc 6 1, 3) := by decide +kernel
theorem dX9_firstSlot_160 : decode cX9_firstSlot 160 = .ok (.goto (-128), 3) := by decide +kernel
theorem dX9_firstSlot_163 : decode cX9_firstSlot 163 = .ok (.iconst (-1), 1) := by decide +kernel
theorem dX9_firstSlot_164 : decode cX9_firstSlot 164 = .ok (.ireturn, 1) := by decide +kernel
theorem dX9_lays_0 : decode cX9_lays 0 = .ok (.aload_n 0, 1) := by decide +kernel
theorem dX9_lays_1 : decode cX9_lays 1 = .ok (.getfield 125, 3) := by decide +kernel
theorem dX9_lays_4 : decode cX9_lays 4 = .ok (.iload_n 1, 1) := by decide +kernel
theorem dX9_lays_5 : decode cX9_lays 5 = .ok (.iconst 1, 1) := by decide +kernel
theorem dX9_lays_6 : decode cX9_lays 6 = .ok (.iastore, 1) := by decide +kernel
theorem dX9_lays_7 : decode cX9_lays 7 = .ok (.aload_n 0, 1) := by decide +kernel
theorem dX9_lays_8 : decode cX9_lays 8 = .ok (.getfield 128, 3) := by decide +kernel
theorem dX9_lays_11 : decode cX9_lays 11 = .ok (.iload_n 1, 1) := by decide +kernel
theorem dX9_lays_12 : decode cX9_lays 12 = .ok (.iload_n 2, 1) := by decide +kernel
theorem dX9_lays_13 : decode cX9_lays 13 = .ok (.iastore, 1) := by decide +kernel
theorem dX9_lays_14 : decode cX9_lays 14 = .ok (.return_, 1) := by decide +kernel
theorem dX9_laysOne_0 : decode cX9_laysOne 0 = .ok (.aload_n 0, 1) := by decide +kernel
theorem dX9_laysOne_1 : decode cX9_laysOne 1 = .ok (.iload_n 1, 1) := by decide +kernel
theorem dX9_laysOne_2 : decode cX9_laysOne 2 = .ok (.aload_n 0, 1) := by decide +kernel
theorem dX9_laysOne_3 : decode cX9_laysOne 3 = .ok (.getfield 239, 3) := by decide +kernel
theorem dX9_laysOne_6 : decode cX9_laysOne 6 = .ok (.iconst 1, 1) := by decide +kernel
theorem dX9_laysOne_7 : decode cX9_laysOne 7 = .ok (.iconst (-1), 1) := by decide +kernel
theorem dX9_laysOne_8 : decode cX9_laysOne 8 = .ok (.invokevirtual 269, 3) := by decide +kernel
theorem dX9_laysOne_11 : decode cX9_laysOne 11 = .ok (.istore_n 2, 1) := by decide +kernel
theorem dX9_laysOne_12 : decode cX9_laysOne 12 = .ok (.iload_n 2, 1) := by decide +kernel
theorem dX9_laysOne_13 : decode cX9_laysOne 13 = .ok (.ifCond .lt 11, 3) := by decide +kernel
theorem dX9_laysOne_16 : decode cX9_laysOne 16 = .ok (.aload_n 0, 1) := by decide +kernel
theorem dX9_laysOne_17 : decode cX9_laysOne 17 = .ok (.iload_n 1, 1) := by decide +kernel
theorem dX9_laysOne_18 : decode cX9_laysOne 18 = .ok (.iload_n 2, 1) := by decide +kernel
theorem dX9_laysOne_19 : decode cX9_laysOne 19 = .ok (.invokevirtual 273, 3) := by decide +kernel
theorem dX9_laysOne_22 : decode cX9_laysOne 22 = .ok (.iconst 1, 1) := by decide +kernel
theorem dX9_laysOne_23 : decode cX9_laysOne 23 = .ok (.ireturn, 1) := by decide +kernel
theorem dX9_laysOne_24 : decode cX9_laysOne 24 = .ok (.iconst 0, 1) := by decide +kernel
theorem dX9_laysOne_25 : decode cX9_laysOne 25 = .ok (.istore_n 3, 1) := by decide +kernel
theorem dX9_laysOne_26 : decode cX9_laysOne 26 = .ok (.iload_n 3, 1) := by decide +kernel
theorem dX9_laysOne_27 : decode cX9_laysOne 27 = .ok (.aload_n 0, 1) := by decide +kernel
theorem dX9_laysOne_28 : decode cX9_laysOne 28 = .ok (.getfield 253, 3) := by decide +kernel
theorem dX9_laysOne_31 : decode cX9_laysOne 31 = .ok (.if_icmp .ge 45, 3) := by decide +kernel
theorem dX9_laysOne_34 : decode cX9_laysOne 34 = .ok (.aload_n 0, 1) := by decide +kernel
theorem dX9_laysOne_35 : decode cX9_laysOne 35 = .ok (.getfield 125, 3) := by decide +kernel
theorem dX9_laysOne_38 : decode cX9_laysOne 38 = .ok (.iload_n 3, 1) := by decide +kernel
theorem dX9_laysOne_39 : decode cX9_laysOne 39 = .ok (.iaload, 1) := by decide +kernel
theorem dX9_laysOne_40 : decode cX9_laysOne 40 = .ok (.iconst 1, 1) := by decide +kernel
theorem dX9_laysOne_41 : decode cX9_laysOne 41 = .ok (.if_icmp .ne 29, 3) := by decide +kernel
theorem dX9_laysOne_44 : decode cX9_laysOne 44 = .ok (.aload_n 0, 1) := by decide +kernel
theorem dX9_laysOne_45 : decode cX9_laysOne 45 = .ok (.getfield 119, 3) := by decide +kernel
theorem dX9_laysOne_48 : decode cX9_laysOne 48 = .ok (.iload_n 3, 1) := by decide +kernel
theorem dX9_laysOne_49 : decode cX9_laysOne 49 = .ok (.iaload, 1) := by decide +kernel
theorem dX9_laysOne_50 : decode cX9_laysOne 50 = .ok (.aload_n 0, 1) := by decide +kernel
theorem dX9_laysOne_51 : decode cX9_laysOne 51 = .ok (.getfield 119, 3) := by decide +kernel
theorem dX9_laysOne_54 : decode cX9_laysOne 54 = .ok (.iload_n 1, 1) := by decide +kernel
theorem dX9_laysOne_55 : decode cX9_laysOne 55 = .ok (.iaload, 1) := by decide +kernel
theorem dX9_laysOne_56 : decode cX9_laysOne 56 = .ok (.if_icmp .ne 14, 3) := by decide +kernel
theorem dX9_laysOne_59 : decode cX9_laysOne 59 = .ok (.aload_n 0, 1) := by decide +kernel
theorem dX9_laysOne_60 : decode cX9_laysOne 60 = .ok (.iload_n 3, 1) := by decide +kernel
theorem dX9_laysOne_61 : decode cX9_laysOne 61 = .ok (.iload_n 1, 1) := by decide +kernel
theorem dX9_laysOne_62 : decode cX9_laysOne 62 = .ok (.invokevirtual 276, 3) := by decide +kernel
theorem dX9_laysOne_65 : decode cX9_laysOne 65 = .ok (.ifCond .eq 5, 3) := by decide +kernel
theorem dX9_laysOne_68 : decode cX9_laysOne 68 = .ok (.iconst 1, 1) := by decide +kernel
theorem dX9_laysOne_69 : decode cX9_laysOne 69 = .ok (.ireturn, 1) := by decide +kernel
theorem dX9_laysOne_70 : decode cX9_laysOne 70 = .ok (.iinc 3 1, 3) := by decide +kernel
theorem dX9_laysOne_73 : decode cX9_laysOne 73 = .ok (.goto (-47), 3) := by decide +kernel
theorem dX9_laysOne_76 : decode cX9_laysOne 76 = .ok (.iconst 0, 1) := by decide +kernel
theorem dX9_laysOne_77 : decode cX9_laysOne 77 = .ok (.ireturn, 1) := by decide +kernel
theorem dX9_givesWay_0 : decode cX9_givesWay 0 = .ok (.aload_n 0, 1) := by decide +kernel
theorem dX9_givesWay_1 : decode cX9_givesWay 1 = .ok (.getfield 128, 3) := by decide +kernel
theorem dX9_givesWay_4 : decode cX9_givesWay 4 = .ok (.iload_n 1, 1) := by decide +kernel
theorem dX9_givesWay_5 : decode cX9_givesWay 5 = .ok (.iaload, 1) := by decide +kernel
theorem dX9_givesWay_6 : decode cX9_givesWay 6 = .ok (.istore_n 3, 1) := by decide +kernel
theorem dX9_givesWay_7 : decode cX9_givesWay 7 = .ok (.aload_n 0, 1) := by decide +kernel
theorem dX9_givesWay_8 : decode cX9_givesWay 8 = .ok (.getfield 125, 3) := by decide +kernel
theorem dX9_givesWay_11 : decode cX9_givesWay 11 = .ok (.iload_n 1, 1) := by decide +kernel
theorem dX9_givesWay_12 : decode cX9_givesWay 12 = .ok (.iconst 0, 1) := by decide +kernel
theorem dX9_givesWay_13 : decode cX9_givesWay 13 = .ok (.iastore, 1) := by decide +kernel
theorem dX9_givesWay_14 : decode cX9_givesWay 14 = .ok (.aload_n 0, 1) := by decide +kernel
theorem dX9_givesWay_15 : decode cX9_givesWay 15 = .ok (.getfield 128, 3) := by decide +kernel
theorem dX9_givesWay_18 : decode cX9_givesWay 18 = .ok (.iload_n 1, 1) := by decide +kernel
theorem dX9_givesWay_19 : decode cX9_givesWay 19 = .ok (.iconst (-1), 1) := by decide +kernel
theorem dX9_givesWay_20 : decode cX9_givesWay 20 = .ok (.iastore, 1) := by decide +kernel
theorem dX9_givesWay_21 : decode cX9_givesWay 21 = .ok (.aload_n 0, 1) := by decide +kernel
theorem dX9_givesWay_22 : decode cX9_givesWay 22 = .ok (.iload_n 2, 1) := by decide +kernel
theorem dX9_givesWay_23 : decode cX9_givesWay 23 = .ok (.aload_n 0, 1) := by decide +kernel
theorem dX9_givesWay_24 : decode cX9_givesWay 24 = .ok (.getfield 239, 3) := by decide +kernel
theorem dX9_givesWay_27 : decode cX9_givesWay 27 = .ok (.iconst 1, 1) := by decide +kernel
theorem dX9_givesWay_28 : decode cX9_givesWay 28 = .ok (.iconst (-1), 1) := by decide +kernel
theorem dX9_givesWay_29 : decode cX9_givesWay 29 = .ok (.invokevirtual 269, 3) := by decide +kernel
theorem dX9_givesWay_32 : decode cX9_givesWay 32 = .ok (.istore 4, 2) := by decide +kernel
theorem dX9_givesWay_34 : decode cX9_givesWay 34 = .ok (.iload 4, 2) := by decide +kernel
theorem dX9_givesWay_36 : decode cX9_givesWay 36 = .ok (.ifCond .lt 51, 3) := by decide +kernel
theorem dX9_givesWay_39 : decode cX9_givesWay 39 = .ok (.aload_n 0, 1) := by decide +kernel
theorem dX9_givesWay_40 : decode cX9_givesWay 40 = .ok (.iload_n 2, 1) := by decide +kernel
theorem dX9_givesWay_41 : decode cX9_givesWay 41 = .ok (.iload 4, 2) := by decide +kernel
theorem dX9_givesWay_43 : decode cX9_givesWay 43 = .ok (.invokevirtual 273, 3) := by decide +kernel
theorem dX9_givesWay_46 : decode cX9_givesWay 46 = .ok (.aload_n 0, 1) := by decide +kernel
theorem dX9_givesWay_47 : decode cX9_givesWay 47 = .ok (.iload_n 1, 1) := by decide +kernel
theorem dX9_givesWay_48 : decode cX9_givesWay 48 = .ok (.aload_n 0, 1) := by decide +kernel
theorem dX9_givesWay_49 : decode cX9_givesWay 49 = .ok (.getfield 239, 3) := by decide +kernel
theorem dX9_givesWay_52 : decode cX9_givesWay 52 = .ok (.iconst 1, 1) := by decide +kernel
theorem dX9_givesWay_53 : decode cX9_givesWay 53 = .ok (.iload_n 3, 1) := by decide +kernel
theorem dX9_givesWay_54 : decode cX9_givesWay 54 = .ok (.invokevirtual 269, 3) := by decide +kernel
theorem dX9_givesWay_57 : decode cX9_givesWay 57 = .ok (.istore 5, 2) := by decide +kernel
theorem dX9_givesWay_59 : decode cX9_givesWay 59 = .ok (.iload 5, 2) := by decide +kernel
theorem dX9_givesWay_61 : decode cX9_givesWay 61 = .ok (.ifCond .lt 12, 3) := by decide +kernel
theorem dX9_givesWay_64 : decode cX9_givesWay 64 = .ok (.aload_n 0, 1) := by decide +kernel
theorem dX9_givesWay_65 : decode cX9_givesWay 65 = .ok (.iload_n 1, 1) := by decide +kernel
theorem dX9_givesWay_66 : decode cX9_givesWay 66 = .ok (.iload 5, 2) := by decide +kernel
theorem dX9_givesWay_68 : decode cX9_givesWay 68 = .ok (.invokevirtual 273, 3) := by decide +kernel
theorem dX9_givesWay_71 : decode cX9_givesWay 71 = .ok (.iconst 1, 1) := by decide +kernel
theorem dX9_givesWay_72 : decode cX9_givesWay 72 = .ok (.ireturn, 1) := by decide +kernel
theorem dX9_givesWay_73 : decode cX9_givesWay 73 = .ok (.aload_n 0, 1) := by decide +kernel
theorem dX9_givesWay_74 : decode cX9_givesWay 74 = .ok (.getfield 125, 3) := by decide +kernel
theorem dX9_givesWay_77 : decode cX9_givesWay 77 = .ok (.iload_n 2, 1) := by decide +kernel
theorem dX9_givesWay_78 : decode cX9_givesWay 78 = .ok (.iconst 0, 1) := by decide +kernel
theorem dX9_givesWay_79 : decode cX9_givesWay 79 = .ok (.iastore, 1) := by decide +kernel
theorem dX9_givesWay_80 : decode cX9_givesWay 80 = .ok (.aload_n 0, 1) := by decide +kernel
theorem dX9_givesWay_81 : decode cX9_givesWay 81 = .ok (.getfield 128, 3) := by decide +kernel
theorem dX9_givesWay_84 : decode cX9_givesWay 84 = .ok (.iload_n 2, 1) := by decide +kernel
theorem dX9_givesWay_85 : decode cX9_givesWay 85 = .ok (.iconst (-1), 1) := by decide +kernel
theorem dX9_givesWay_86 : decode cX9_givesWay 86 = .ok (.iastore, 1) := by decide +kernel
theorem dX9_givesWay_87 : decode cX9_givesWay 87 = .ok (.aload_n 0, 1) := by decide +kernel
theorem dX9_givesWay_88 : decode cX9_givesWay 88 = .ok (.iload_n 1, 1) := by decide +kernel
theorem dX9_givesWay_89 : decode cX9_givesWay 89 = .ok (.iload_n 3, 1) := by decide +kernel
theorem dX9_givesWay_90 : decode cX9_givesWay 90 = .ok (.invokevirtual 273, 3) := by decide +kernel
theorem dX9_givesWay_93 : decode cX9_givesWay 93 = .ok (.iconst 0, 1) := by decide +kernel
theorem dX9_givesWay_94 : decode cX9_givesWay 94 = .ok (.ireturn, 1) := by decide +kernel
theorem dX9_lay__0 : decode cX9_lay_ 0 = .ok (.aload_n 0, 1) := by decide +kernel
theorem dX9_lay__1 : decode cX9_lay_ 1 = .ok (.iconst 0, 1) := by decide +kernel
theorem dX9_lay__2 : decode cX9_lay_ 2 = .ok (.putfield 137, 3) := by decide +kernel
theorem dX9_lay__5 : decode cX9_lay_ 5 = .ok (.aload_n 0, 1) := by decide +kernel
theorem dX9_lay__6 : decode cX9_lay_ 6 = .ok (.iload_n 1, 1) := by decide +kernel
theorem dX9_lay__7 : decode cX9_lay_ 7 = .ok (.invokevirtual 249, 3) := by decide +kernel
theorem dX9_lay__10 : decode cX9_lay_ 10 = .ok (.ifCond .eq 5, 3) := by decide +kernel
theorem dX9_lay__13 : decode cX9_lay_ 13 = .ok (.iconst (-1), 1) := by decide +kernel
theorem dX9_lay__14 : decode cX9_lay_ 14 = .ok (.ireturn, 1) := by decide +kernel
theorem dX9_lay__15 : decode cX9_lay_ 15 = .ok (.iconst 0, 1) := by decide +kernel
theorem dX9_lay__16 : decode cX9_lay_ 16 = .ok (.istore_n 2, 1) := by decide +kernel
theorem dX9_lay__17 : decode cX9_lay_ 17 = .ok (.bipush 9, 2) := by decide +kernel
theorem dX9_lay__19 : decode cX9_lay_ 19 = .ok (.istore_n 3, 1) := by decide +kernel
theorem dX9_lay__20 : decode cX9_lay_ 20 = .ok (.iload_n 3, 1) := by decide +kernel
theorem dX9_lay__21 : decode cX9_lay_ 21 = .ok (.ifCond .lt 71, 3) := by decide +kernel
theorem dX9_lay__24 : decode cX9_lay_ 24 = .ok (.iconst 0, 1) := by decide +kernel
theorem dX9_lay__25 : decode cX9_lay_ 25 = .ok (.istore 4, 2) := by decide +kernel
theorem dX9_lay__27 : decode cX9_lay_ 27 = .ok (.iload 4, 2) := by decide +kernel
theorem dX9_lay__29 : decode cX9_lay_ 29 = .ok (.aload_n 0, 1) := by decide +kernel
theorem dX9_lay__30 : decode cX9_lay_ 30 = .ok (.getfield 253, 3) := by decide +kernel
theorem dX9_lay__33 : decode cX9_lay_ 33 = .ok (.if_icmp .ge 53, 3) := by decide +kernel
theorem dX9_lay__36 : decode cX9_lay_ 36 = .ok (.aload_n 0, 1) := by decide +kernel
theorem dX9_lay__37 : decode cX9_lay_ 37 = .ok (.getfield 125, 3) := by decide +kernel
theorem dX9_lay__40 : decode cX9_lay_ 40 = .ok (.iload 4, 2) := by decide +kernel
theorem dX9_lay__42 : decode cX9_lay_ 42 = .ok (.iaload, 1) := by decide +kernel
theorem dX9_lay__43 : decode cX9_lay_ 43 = .ok (.ifCond .ne 37, 3) := by decide +kernel
theorem dX9_lay__46 : decode cX9_lay_ 46 = .ok (.aload_n 0, 1) := by decide +kernel
theorem dX9_lay__47 : decode cX9_lay_ 47 = .ok (.getfield 119, 3) := by decide +kernel
theorem dX9_lay__50 : decode cX9_lay_ 50 = .ok (.iload 4, 2) := by decide +kernel
theorem dX9_lay__52 : decode cX9_lay_ 52 = .ok (.iaload, 1) := by decide +kernel
theorem dX9_lay__53 : decode cX9_lay_ 53 = .ok (.iload_n 1, 1) := by decide +kernel
theorem dX9_lay__54 : decode cX9_lay_ 54 = .ok (.if_icmp .ne 26, 3) := by decide +kernel
theorem dX9_lay__57 : decode cX9_lay_ 57 = .ok (.aload_n 0, 1) := by decide +kernel
theorem dX9_lay__58 : decode cX9_lay_ 58 = .ok (.getfield 116, 3) := by decide +kernel
theorem dX9_lay__61 : decode cX9_lay_ 61 = .ok (.iload 4, 2) := by decide +kernel
theorem dX9_lay__63 : decode cX9_lay_ 63 = .ok (.iaload, 1) := by decide +kernel
theorem dX9_lay__64 : decode cX9_lay_ 64 = .ok (.iload_n 3, 1) := by decide +kernel
theorem dX9_lay__65 : decode cX9_lay_ 65 = .ok (.if_icmp .ne 15, 3) := by decide +kernel
theorem dX9_lay__68 : decode cX9_lay_ 68 = .ok (.aload_n 0, 1) := by decide +kernel
theorem dX9_lay__69 : decode cX9_lay_ 69 = .ok (.iload 4, 2) := by decide +kernel
theorem dX9_lay__71 : decode cX9_lay_ 71 = .ok (.invokevirtual 279, 3) := by decide +kernel
theorem dX9_lay__74 : decode cX9_lay_ 74 = .ok (.ifCond .ne 6, 3) := by decide +kernel
theorem dX9_lay__77 : decode cX9_lay_ 77 = .ok (.iinc 2 1, 3) := by decide +kernel
theorem dX9_lay__80 : decode cX9_lay_ 80 = .ok (.iinc 4 1, 3) := by decide +kernel
theorem dX9_lay__83 : decode cX9_lay_ 83 = .ok (.goto (-56), 3) := by decide +kernel
theorem dX9_lay__86 : decode cX9_lay_ 86 = .ok (.iinc 3 (-1), 3) := by decide +kernel
theorem dX9_lay__89 : decode cX9_lay_ 89 = .ok (.goto (-69), 3) := by decide +kernel
theorem dX9_lay__92 : decode cX9_lay_ 92 = .ok (.iload_n 2, 1) := by decide +kernel
theorem dX9_lay__93 : decode cX9_lay_ 93 = .ok (.ireturn, 1) := by decide +kernel
theorem dX9_isShut_0 : decode cX9_isShut 0 = .ok (.iconst 0, 1) := by decide +kernel
theorem dX9_isShut_1 : decode cX9_isShut 1 = .ok (.istore_n 2, 1) := by decide +kernel
theorem dX9_isShut_2 : decode cX9_isShut 2 = .ok (.bipush 16, 2) := by decide +kernel
theorem dX9_isShut_4 : decode cX9_isShut 4 = .ok (.aload_n 0, 1) := by decide +kernel
theorem dX9_isShut_5 : decode cX9_isShut 5 = .ok (.getfield 198, 3) := by decide +kernel
theorem dX9_isShut_8 : decode cX9_isShut 8 = .ok (.imul, 1) := by decide +kernel
theorem dX9_isShut_9 : decode cX9_isShut 9 = .ok (.istore_n 3, 1) := by decide +kernel
theorem dX9_isShut_10 : decode cX9_isShut 10 = .ok (.iload_n 3, 1) := by decide +kernel
theorem dX9_isShut_11 : decode cX9_isShut 11 = .ok (.bipush 16, 2) := by decide +kernel
theorem dX9_isShut_13 : decode cX9_isShut 13 = .ok (.aload_n 0, 1) := by decide +kernel
theorem dX9_isShut_14 : decode cX9_isShut 14 = .ok (.getfield 198, 3) := by decide +kernel
theorem dX9_isShut_17 : decode cX9_isShut 17 = .ok (.imul, 1) := by decide +kernel
theorem dX9_isShut_18 : decode cX9_isShut 18 = .ok (.aload_n 0, 1) := by decide +kernel
theorem dX9_isShut_19 : decode cX9_isShut 19 = .ok (.getfield 50, 3) := by decide +kernel
theorem dX9_isShut_22 : decode cX9_isShut 22 = .ok (.aload_n 0, 1) := by decide +kernel
theorem dX9_isShut_23 : decode cX9_isShut 23 = .ok (.getfield 198, 3) := by decide +kernel
theorem dX9_isShut_26 : decode cX9_isShut 26 = .ok (.iaload, 1) := by decide +kernel
theorem dX9_isShut_27 : decode cX9_isShut 27 = .ok (.iadd, 1) := by decide +kernel
theorem dX9_isShut_28 : decode cX9_isShut 28 = .ok (.if_icmp .ge 51, 3) := by decide +kernel
theorem dX9_isShut_31 : decode cX9_isShut 31 = .ok (.iload_n 2, 1) := by decide +kernel
theorem dX9_isShut_32 : decode cX9_isShut 32 = .ok (.ifCond .ne 47, 3) := by decide +kernel
theorem dX9_isShut_35 : decode cX9_isShut 35 = .ok (.aload_n 0, 1) := by decide +kernel
theorem dX9_isShut_36 : decode cX9_isShut 36 = .ok (.getfield 53, 3) := by decide +kernel
theorem dX9_isShut_39 : decode cX9_isShut 39 = .ok (.iload_n 3, 1) := by decide +kernel
theorem dX9_isShut_40 : decode cX9_isShut 40 = .ok (.iaload, 1) := by decide +kernel
theorem dX9_isShut_41 : decode cX9_isShut 41 = .ok (.ifCond .lt 13, 3) := by decide +kernel
theorem dX9_isShut_44 : decode cX9_isShut 44 = .ok (.aload_n 0, 1) := by decide +kernel
theorem dX9_isShut_45 : decode cX9_isShut 45 = .ok (.getfield 53, 3) := by decide +kernel
theorem dX9_isShut_48 : decode cX9_isShut 48 = .ok (.iload_n 3, 1) := by decide +kernel
theorem dX9_isShut_49 : decode cX9_isShut 49 = .ok (.iaload, 1) := by decide +kernel
theorem dX9_isShut_50 : decode cX9_isShut 50 = .ok (.iload_n 1, 1) := by decide +kernel
theorem dX9_isShut_51 : decode cX9_isShut 51 = .ok (.if_icmp .ne 20, 3) := by decide +kernel
theorem dX9_isShut_54 : decode cX9_isShut 54 = .ok (.aload_n 0, 1) := by decide +kernel
theorem dX9_isShut_55 : decode cX9_isShut 55 = .ok (.aload_n 0, 1) := by decide +kernel
theorem dX9_isShut_56 : decode cX9_isShut 56 = .ok (.getfield 56, 3) := by decide +kernel
theorem dX9_isShut_59 : decode cX9_isShut 59 = .ok (.iload_n 3, 1) := by decide +kernel
theorem dX9_isShut_60 : decode cX9_isShut 60 = .ok (.iaload, 1) := by decide +kernel
theorem dX9_isShut_61 : decode cX9_isShut 61 = .ok (.invokevirtual 282, 3) := by decide +kernel
theorem dX9_isShut_64 : decode cX9_isShut 64 = .ok (.ifCond .eq 7, 3) := by decide +kernel
theorem dX9_isShut_67 : decode cX9_isShut 67 = .ok (.iconst 1, 1) := by decide +kernel
theorem dX9_isShut_68 : decode cX9_isShut 68 = .ok (.goto 4, 3) := by decide +kernel
theorem dX9_isShut_71 : decode cX9_isShut 71 = .ok (.iconst 0, 1) := by decide +kernel
theorem dX9_isShut_72 : decode cX9_isShut 72 = .ok (.istore_n 2, 1) := by decide +kernel
theorem dX9_isShut_73 : decode cX9_isShut 73 = .ok (.iinc 3 1, 3) := by decide +kernel
theorem dX9_isShut_76 : decode cX9_isShut 76 = .ok (.goto (-66), 3) := by decide +kernel
theorem dX9_isShut_79 : decode cX9_isShut 79 = .ok (.iload_n 2, 1) := by decide +kernel
theorem dX9_isShut_80 : decode cX9_isShut 80 = .ok (.ireturn, 1) := by decide +kernel
theorem dX9_hour_0 : decode cX9_hour 0 = .ok (.aload_n 0, 1) := by decide +kernel
theorem dX9_hour_1 : decode cX9_hour 1 = .ok (.bipush 24, 2) := by decide +kernel
theorem dX9_hour_3 : decode cX9_hour 3 = .ok (.aload_n 0, 1) := by decide +kernel
theorem dX9_hour_4 : decode cX9_hour 4 = .ok (.getfield 239, 3) := by decide +kernel
theorem dX9_hour_7 : decode cX9_hour 7 = .ok (.imul, 1) := by decide +kernel
theorem dX9_hour_8 : decode cX9_hour 8 = .ok (.bipush 6, 2) := by decide +kernel
theorem dX9_hour_10 : decode cX9_hour 10 = .ok (.iload_n 1, 1) := by decide +kernel
theorem dX9_hour_11 : decode cX9_hour 11 = .ok (.imul, 1) := by decide +kernel
theorem dX9_hour_12 : decode cX9_hour 12 = .ok (.iadd, 1) := by decide +kernel
theorem dX9_hour_13 : decode cX9_hour 13 = .ok (.iload_n 2, 1) := by decide +kernel
theorem dX9_hour_14 : decode cX9_hour 14 = .ok (.iadd, 1) := by decide +kernel
theorem dX9_hour_15 : decode cX9_hour 15 = .ok (.invokevirtual 259, 3) := by decide +kernel
theorem dX9_hour_18 : decode cX9_hour 18 = .ok (.istore 5, 2) := by decide +kernel
theorem dX9_hour_20 : decode cX9_hour 20 = .ok (.aload_n 0, 1) := by decide +kernel
theorem dX9_hour_21 : decode cX9_hour 21 = .ok (.getfield 74, 3) := by decide +kernel
theorem dX9_hour_24 : decode cX9_hour 24 = .ok (.iconst 0, 1) := by decide +kernel
theorem dX9_hour_25 : decode cX9_hour 25 = .ok (.iload 4, 2) := by decide +kernel
theorem dX9_hour_27 : decode cX9_hour 27 = .ok (.iastore, 1) := by decide +kernel
theorem dX9_hour_28 : decode cX9_hour 28 = .ok (.aload_n 0, 1) := by decide +kernel
theorem dX9_hour_29 : decode cX9_hour 29 = .ok (.getfield 74, 3) := by decide +kernel
theorem dX9_hour_32 : decode cX9_hour 32 = .ok (.iconst 1, 1) := by decide +kernel
theorem dX9_hour_33 : decode cX9_hour 33 = .ok (.iload_n 3, 1) := by decide +kernel
theorem dX9_hour_34 : decode cX9_hour 34 = .ok (.iastore, 1) := by decide +kernel
theorem dX9_hour_35 : decode cX9_hour 35 = .ok (.aload_n 0, 1) := by decide +kernel
theorem dX9_hour_36 : decode cX9_hour 36 = .ok (.getfield 74, 3) := by decide +kernel
theorem dX9_hour_39 : decode cX9_hour 39 = .ok (.iconst 2, 1) := by decide +kernel
theorem dX9_hour_40 : decode cX9_hour 40 = .ok (.aload_n 0, 1) := by decide +kernel
theorem dX9_hour_41 : decode cX9_hour 41 = .ok (.getfield 86, 3) := by decide +kernel
theorem dX9_hour_44 : decode cX9_hour 44 = .ok (.iload_n 2, 1) := by decide +kernel
theorem dX9_hour_45 : decode cX9_hour 45 = .ok (.invokestatic 285, 3) := by decide +kernel
theorem dX9_hour_48 : decode cX9_hour 48 = .ok (.iastore, 1) := by decide +kernel
theorem dX9_hour_49 : decode cX9_hour 49 = .ok (.aload_n 0, 1) := by decide +kernel
theorem dX9_hour_50 : decode cX9_hour 50 = .ok (.getfield 74, 3) := by decide +kernel
theorem dX9_hour_53 : decode cX9_hour 53 = .ok (.iconst 3, 1) := by decide +kernel
theorem dX9_hour_54 : decode cX9_hour 54 = .ok (.aload_n 0, 1) := by decide +kernel
theorem dX9_hour_55 : decode cX9_hour 55 = .ok (.getfield 86, 3) := by decide +kernel
theorem dX9_hour_58 : decode cX9_hour 58 = .ok (.iload_n 2, 1) := by decide +kernel
theorem dX9_hour_59 : decode cX9_hour 59 = .ok (.invokestatic 289, 3) := by decide +kernel
theorem dX9_hour_62 : decode cX9_hour 62 = .ok (.iastore, 1) := by decide +kernel
theorem dX9_hour_63 : decode cX9_hour 63 = .ok (.aload_n 0, 1) := by decide +kernel
theorem dX9_hour_64 : decode cX9_hour 64 = .ok (.getfield 74, 3) := by decide +kernel
theorem dX9_hour_67 : decode cX9_hour 67 = .ok (.iconst 4, 1) := by decide +kernel
theorem dX9_hour_68 : decode cX9_hour 68 = .ok (.aload_n 0, 1) := by decide +kernel
theorem dX9_hour_69 : decode cX9_hour 69 = .ok (.getfield 101, 3) := by decide +kernel
theorem dX9_hour_72 : decode cX9_hour 72 = .ok (.iload_n 2, 1) := by decide +kernel
theorem dX9_hour_73 : decode cX9_hour 73 = .ok (.iaload, 1) := by decide +kernel
theorem dX9_hour_74 : decode cX9_hour 74 = .ok (.iastore, 1) := by decide +kernel
theorem dX9_hour_75 : decode cX9_hour 75 = .ok (.aload_n 0, 1) := by decide +kernel
theorem dX9_hour_76 : decode cX9_hour 76 = .ok (.getfield 74, 3) := by decide +kernel
theorem dX9_hour_79 : decode cX9_hour 79 = .ok (.iconst 5, 1) := by decide +kernel
theorem dX9_hour_80 : decode cX9_hour 80 = .ok (.aload_n 0, 1) := by decide +kernel
theorem dX9_hour_81 : decode cX9_hour 81 = .ok (.getfield 239, 3) := by decide +kernel
theorem dX9_hour_84 : decode cX9_hour 84 = .ok (.bipush 7, 2) := by decide +kernel
theorem dX9_hour_86 : decode cX9_hour 86 = .ok (.irem, 1) := by decide +kernel
theorem dX9_hour_87 : decode cX9_hour 87 = .ok (.iastore, 1) := by decide +kernel
theorem dX9_hour_88 : decode cX9_hour 88 = .ok (.aload_n 0, 1) := by decide +kernel
theorem dX9_hour_89 : decode cX9_hour 89 = .ok (.getfield 74, 3) := by decide +kernel
theorem dX9_hour_92 : decode cX9_hour 92 = .ok (.bipush 6, 2) := by decide +kernel
theorem dX9_hour_94 : decode cX9_hour 94 = .ok (.iload_n 1, 1) := by decide +kernel
theorem dX9_hour_95 : decode cX9_hour 95 = .ok (.iastore, 1) := by decide +kernel
theorem dX9_hour_96 : decode cX9_hour 96 = .ok (.aload_n 0, 1) := by decide +kernel
theorem dX9_hour_97 : decode cX9_hour 97 = .ok (.getfield 74, 3) := by decide +kernel
theorem dX9_hour_100 : decode cX9_hour 100 = .ok (.bipush 7, 2) := by decide +kernel
theorem dX9_hour_102 : decode cX9_hour 102 = .ok (.iload 5, 2) := by decide +kernel
theorem dX9_hour_104 : decode cX9_hour 104 = .ok (.ifCond .ge 7, 3) := by decide +kernel
theorem dX9_hour_107 : decode cX9_hour 107 = .ok (.iconst (-1), 1) := by decide +kernel
theorem dX9_hour_108 : decode cX9_hour 108 = .ok (.goto 10, 3) := by decide +kernel
theorem dX9_hour_111 : decode cX9_hour 111 = .ok (.aload_n 0, 1) := by decide +kernel
theorem dX9_hour_112 : decode cX9_hour 112 = .ok (.getfield 113, 3) := by decide +kernel
theorem dX9_hour_115 : decode cX9_hour 115 = .ok (.iload 5, 2) := by decide +kernel
theorem dX9_hour_117 : decode cX9_hour 117 = .ok (.iaload, 1) := by decide +kernel
theorem dX9_hour_118 : decode cX9_hour 118 = .ok (.iastore, 1) := by decide +kernel
theorem dX9_hour_119 : decode cX9_hour 119 = .ok (.aload_n 0, 1) := by decide +kernel
theorem dX9_hour_120 : decode cX9_hour 120 = .ok (.iload_n 2, 1) := by decide +kernel
theorem dX9_hour_121 : decode cX9_hour 121 = .ok (.invokevirtual 292, 3) := by decide +kernel
theorem dX9_hour_124 : decode cX9_hour 124 = .ok (.ifCond .eq 59, 3) := by decide +kernel
theorem dX9_hour_127 : decode cX9_hour 127 = .ok (.aload_n 0, 1) := by decide +kernel
theorem dX9_hour_128 : decode cX9_hour 128 = .ok (.getfield 104, 3) := by decide +kernel
theorem dX9_hour_131 : decode cX9_hour 131 = .ok (.iload_n 2, 1) := by decide +kernel
theorem dX9_hour_132 : decode cX9_hour 132 = .ok (.dup2, 1) := by decide +kernel
theorem dX9_hour_133 : decode cX9_hour 133 = .ok (.iaload, 1) := by decide +kernel
theorem dX9_hour_134 : decode cX9_hour 134 = .ok (.iconst 1, 1) := by decide +kernel
theorem dX9_hour_135 : decode cX9_hour 135 = .ok (.iadd, 1) := by decide +kernel
theorem dX9_hour_136 : decode cX9_hour 136 = .ok (.iastore, 1) := by decide +kernel
theorem dX9_hour_137 : decode cX9_hour 137 = .ok (.iload 5, 2) := by decide +kernel
theorem dX9_hour_139 : decode cX9_hour 139 = .ok (.ifCond .lt 143, 3) := by decide +kernel
theorem dX9_hour_142 : decode cX9_hour 142 = .ok (.aload_n 0, 1) := by decide +kernel
theorem dX9_hour_143 : decode cX9_hour 143 = .ok (.getfield 134, 3) := by decide +kernel
theorem dX9_hour_146 : decode cX9_hour 146 = .ok (.aload_n 0, 1) := by decide +kernel
theorem dX9_hour_147 : decode cX9_hour 147 = .ok (.getfield 107, 3) := by decide +kernel
theorem dX9_hour_150 : decode cX9_hour 150 = .ok (.iload 5, 2) := by decide +kernel
theorem dX9_hour_152 : decode cX9_hour 152 = .ok (.iaload, 1) := by decide +kernel
theorem dX9_hour_153 : decode cX9_hour 153 = .ok (.dup2, 1) := by decide +kernel
theorem dX9_hour_154 : decode cX9_hour 154 = .ok (.iaload, 1) := by decide +kernel
theorem dX9_hour_155 : decode cX9_hour 155 = .ok (.iconst 1, 1) := by decide +kernel
theorem dX9_hour_156 : decode cX9_hour 156 = .ok (.iadd, 1) := by decide +kernel
theorem dX9_hour_157 : decode cX9_hour 157 = .ok (.iastore, 1) := by decide +kernel
theorem dX9_hour_158 : decode cX9_hour 158 = .ok (.aload_n 0, 1) := by decide +kernel
theorem dX9_hour_159 : decode cX9_hour 159 = .ok (.getfield 134, 3) := by decide +kernel
theorem dX9_hour_162 : decode cX9_hour 162 = .ok (.aload_n 0, 1) := by decide +kernel
theorem dX9_hour_163 : decode cX9_hour 163 = .ok (.getfield 110, 3) := by decide +kernel
theorem dX9_hour_166 : decode cX9_hour 166 = .ok (.iload 5, 2) := by decide +kernel
theorem dX9_hour_168 : decode cX9_hour 168 = .ok (.iaload, 1) := by decide +kernel
theorem dX9_hour_169 : decode cX9_hour 169 = .ok (.dup2, 1) := by decide +kernel
theorem dX9_hour_170 : decode cX9_hour 170 = .ok (.iaload, 1) := by decide +kernel
theorem dX9_hour_171 : decode cX9_hour 171 = .ok (.iconst 1, 1) := by decide +kernel
theorem dX9_hour_172 : decode cX9_hour 172 = .ok (.iadd, 1) := by decide +kernel
theorem dX9_hour_173 : decode cX9_hour 173 = .ok (.iastore, 1) := by decide +kernel
theorem dX9_hour_174 : decode cX9_hour 174 = .ok (.aload_n 0, 1) := by decide +kernel
theorem dX9_hour_175 : decode cX9_hour 175 = .ok (.iload 5, 2) := by decide +kernel
theorem dX9_hour_177 : decode cX9_hour 177 = .ok (.invokevirtual 295, 3) := by decide +kernel
theorem dX9_hour_180 : decode cX9_hour 180 = .ok (.goto 102, 3) := by decide +kernel
theorem dX9_hour_183 : decode cX9_hour 183 = .ok (.iload 5, 2) := by decide +kernel
theorem dX9_hour_185 : decode cX9_hour 185 = .ok (.ifCond .lt 97, 3) := by decide +kernel
theorem dX9_hour_188 : decode cX9_hour 188 = .ok (.aload_n 0, 1) := by decide +kernel
theorem dX9_hour_189 : decode cX9_hour 189 = .ok (.getfield 125, 3) := by decide +kernel
theorem dX9_hour_192 : decode cX9_hour 192 = .ok (.iload 5, 2) := by decide +kernel
theorem dX9_hour_194 : decode cX9_hour 194 = .ok (.iconst 2, 1) := by decide +kernel
theorem dX9_hour_195 : decode cX9_hour 195 = .ok (.iastore, 1) := by decide +kernel
theorem dX9_hour_196 : decode cX9_hour 196 = .ok (.aload_n 0, 1) := by decide +kernel
theorem dX9_hour_197 : decode cX9_hour 197 = .ok (.getfield 98, 3) := by decide +kernel
theorem dX9_hour_200 : decode cX9_hour 200 = .ok (.iload_n 2, 1) := by decide +kernel
theorem dX9_hour_201 : decode cX9_hour 201 = .ok (.dup2, 1) := by decide +kernel
theorem dX9_hour_202 : decode cX9_hour 202 = .ok (.iaload, 1) := by decide +kernel
theorem dX9_hour_203 : decode cX9_hour 203 = .ok (.iconst 1, 1) := by decide +kernel
theorem dX9_hour_204 : decode cX9_hour 204 = .ok (.iadd, 1) := by decide +kernel
theorem dX9_hour_205 : decode cX9_hour 205 = .ok (.iastore, 1) := by decide +kernel
theorem dX9_hour_206 : decode cX9_hour 206 = .ok (.aload_n 0, 1) := by decide +kernel
theorem dX9_hour_207 : decode cX9_hour 207 = .ok (.getfield 101, 3) := by decide +kernel
theorem dX9_hour_210 : decode cX9_hour 210 = .ok (.iload_n 2, 1) := by decide +kernel
theorem dX9_hour_211 : decode cX9_hour 211 = .ok (.dup2, 1) := by decide +kernel
theorem dX9_hour_212 : decode cX9_hour 212 = .ok (.iaload, 1) := by decide +kernel
theorem dX9_hour_213 : decode cX9_hour 213 = .ok (.iconst 1, 1) := by decide +kernel
theorem dX9_hour_214 : decode cX9_hour 214 = .ok (.iadd, 1) := by decide +kernel
theorem dX9_hour_215 : decode cX9_hour 215 = .ok (.iastore, 1) := by decide +kernel
theorem dX9_hour_216 : decode cX9_hour 216 = .ok (.aload_n 0, 1) := by decide +kernel
theorem dX9_hour_217 : decode cX9_hour 217 = .ok (.getfield 92, 3) := by decide +kernel
theorem dX9_hour_220 : decode cX9_hour 220 = .ok (.iload_n 2, 1) := by decide +kernel
theorem dX9_hour_221 : decode cX9_hour 221 = .ok (.dup2, 1) := by decide +kernel
theorem dX9_hour_222 : decode cX9_hour 222 = .ok (.iaload, 1) := by decide +kernel
theorem dX9_hour_223 : decode cX9_hour 223 = .ok (.aload_n 0, 1) := by decide +kernel
theorem dX9_hour_224 : decode cX9_hour 224 = .ok (.getfield 86, 3) := by decide +kernel
theorem dX9_hour_227 : decode cX9_hour 227 = .ok (.iload_n 2, 1) := by decide +kernel
theorem dX9_hour_228 : decode cX9_hour 228 = .ok (.aload_n 0, 1) := by decide +kernel
theorem dX9_hour_229 : decode cX9_hour 229 = .ok (.getfield 83, 3) := by decide +kernel
theorem dX9_hour_232 : decode cX9_hour 232 = .ok (.iload_n 2, 1) := by decide +kernel
theorem dX9_hour_233 : decode cX9_hour 233 = .ok (.iaload, 1) := by decide +kernel
theorem dX9_hour_234 : decode cX9_hour 234 = .ok (.aload_n 0, 1) := by decide +kernel
theorem dX9_hour_235 : decode cX9_hour 235 = .ok (.getfield 113, 3) := by decide +kernel
theorem dX9_hour_238 : decode cX9_hour 238 = .ok (.iload 5, 2) := by decide +kernel
theorem dX9_hour_240 : decode cX9_hour 240 = .ok (.iaload, 1) := by decide +kernel
theorem dX9_hour_241 : decode cX9_hour 241 = .ok (.iload 4, 2) := by decide +kernel
theorem dX9_hour_243 : decode cX9_hour 243 = .ok (.invokestatic 298, 3) := by decide +kernel
theorem dX9_hour_246 : decode cX9_hour 246 = .ok (.iadd, 1) := by decide +kernel
theorem dX9_hour_247 : decode cX9_hour 247 = .ok (.iastore, 1) := by decide +kernel
theorem dX9_hour_248 : decode cX9_hour 248 = .ok (.aload_n 0, 1) := by decide +kernel
theorem dX9_hour_249 : decode cX9_hour 249 = .ok (.getfield 95, 3) := by decide +kernel
theorem dX9_hour_252 : decode cX9_hour 252 = .ok (.iload_n 2, 1) := by decide +kernel
theorem dX9_hour_253 : decode cX9_hour 253 = .ok (.dup2, 1) := by decide +kernel
theorem dX9_hour_254 : decode cX9_hour 254 = .ok (.iaload, 1) := by decide +kernel
theorem dX9_hour_255 : decode cX9_hour 255 = .ok (.aload_n 0, 1) := by decide +kernel
theorem dX9_hour_256 : decode cX9_hour 256 = .ok (.getfield 89, 3) := by decide +kernel
theorem dX9_hour_259 : decode cX9_hour 259 = .ok (.iload_n 2, 1) := by decide +kernel
theorem dX9_hour_260 : decode cX9_hour 260 = .ok (.iconst 1, 1) := by decide +kernel
theorem dX9_hour_261 : decode cX9_hour 261 = .ok (.aload_n 0, 1) := by decide +kernel
theorem dX9_hour_262 : decode cX9_hour 262 = .ok (.getfield 83, 3) := by decide +kernel
theorem dX9_hour_265 : decode cX9_hour 265 = .ok (.iload_n 2, 1) := by decide +kernel
theorem dX9_hour_266 : decode cX9_hour 266 = .ok (.iaload, 1) := by decide +kernel
theorem dX9_hour_267 : decode cX9_hour 267 = .ok (.isub, 1) := by decide +kernel
theorem dX9_hour_268 : decode cX9_hour 268 = .ok (.aload_n 0, 1) := by decide +kernel
theorem dX9_hour_269 : decode cX9_hour 269 = .ok (.getfield 113, 3) := by decide +kernel
theorem dX9_hour_272 : decode cX9_hour 272 = .ok (.iload 5, 2) := by decide +kernel
theorem dX9_hour_274 : decode cX9_hour 274 = .ok (.iaload, 1) := by decide +kernel
theorem dX9_hour_275 : decode cX9_hour 275 = .ok (.iload 4, 2) := by decide +kernel
theorem dX9_hour_277 : decode cX9_hour 277 = .ok (.invokestatic 298, 3) := by decide +kernel
theorem dX9_hour_280 : decode cX9_hour 280 = .ok (.iadd, 1) := by decide +kernel
theorem dX9_hour_281 : decode cX9_hour 281 = .ok (.iastore, 1) := by decide +kernel
theorem dX9_hour_282 : decode cX9_hour 282 = .ok (.return_, 1) := by decide +kernel
theorem dX9_movesOn_0 : decode cX9_movesOn 0 = .ok (.aload_n 0, 1) := by decide +kernel
theorem dX9_movesOn_1 : decode cX9_movesOn 1 = .ok (.iload_n 1, 1) := by decide +kernel
theorem dX9_movesOn_2 : decode cX9_movesOn 2 = .ok (.aload_n 0, 1) := by decide +kernel
theorem dX9_movesOn_3 : decode cX9_movesOn 3 = .ok (.getfield 239, 3) := by decide +kernel
theorem dX9_movesOn_6 : decode cX9_movesOn 6 = .ok (.iconst 1, 1) := by decide +kernel
theorem dX9_movesOn_7 : decode cX9_movesOn 7 = .ok (.iadd, 1) := by decide +kernel
theorem dX9_movesOn_8 : decode cX9_movesOn 8 = .ok (.iconst 0, 1) := by decide +kernel
theorem dX9_movesOn_9 : decode cX9_movesOn 9 = .ok (.iconst (-1), 1) := by decide +kernel
theorem dX9_movesOn_10 : decode cX9_movesOn 10 = .ok (.invokevirtual 269, 3) := by decide +kernel
theorem dX9_movesOn_13 : decode cX9_movesOn 13 = .ok (.istore_n 2, 1) := by decide +kernel
theorem dX9_movesOn_14 : decode cX9_movesOn 14 = .ok (.iload_n 2, 1) := by decide +kernel
theorem dX9_movesOn_15 : decode cX9_movesOn 15 = .ok (.ifCond .lt 22, 3) := by decide +kernel
theorem dX9_movesOn_18 : decode cX9_movesOn 18 = .ok (.aload_n 0, 1) := by decide +kernel
theorem dX9_movesOn_19 : decode cX9_movesOn 19 = .ok (.iload_n 1, 1) := by decide +kernel
theorem dX9_movesOn_20 : decode cX9_movesOn 20 = .ok (.iload_n 2, 1) := by decide +kernel
theorem dX9_movesOn_21 : decode cX9_movesOn 21 = .ok (.invokevirtual 273, 3) := by decide +kernel
theorem dX9_movesOn_24 : decode cX9_movesOn 24 = .ok (.aload_n 0, 1) := by decide +kernel
theorem dX9_movesOn_25 : decode cX9_movesOn 25 = .ok (.getfield 131, 3) := by decide +kernel
theorem dX9_movesOn_28 : decode cX9_movesOn 28 = .ok (.iload_n 1, 1) := by decide +kernel
theorem dX9_movesOn_29 : decode cX9_movesOn 29 = .ok (.dup2, 1) := by decide +kernel
theorem dX9_movesOn_30 : decode cX9_movesOn 30 = .ok (.iaload, 1) := by decide +kernel
theorem dX9_movesOn_31 : decode cX9_movesOn 31 = .ok (.iconst 1, 1) := by decide +kernel
theorem dX9_movesOn_32 : decode cX9_movesOn 32 = .ok (.iadd, 1) := by decide +kernel
theorem dX9_movesOn_33 : decode cX9_movesOn 33 = .ok (.iastore, 1) := by decide +kernel
theorem dX9_movesOn_34 : decode cX9_movesOn 34 = .ok (.goto 17, 3) := by decide +kernel
theorem dX9_movesOn_37 : decode cX9_movesOn 37 = .ok (.aload_n 0, 1) := by decide +kernel
theorem dX9_movesOn_38 : decode cX9_movesOn 38 = .ok (.getfield 125, 3) := by decide +kernel
theorem dX9_movesOn_41 : decode cX9_movesOn 41 = .ok (.iload_n 1, 1) := by decide +kernel
theorem dX9_movesOn_42 : decode cX9_movesOn 42 = .ok (.iconst 3, 1) := by decide +kernel
theorem dX9_movesOn_43 : decode cX9_movesOn 43 = .ok (.iastore, 1) := by decide +kernel
theorem dX9_movesOn_44 : decode cX9_movesOn 44 = .ok (.aload_n 0, 1) := by decide +kernel
theorem dX9_movesOn_45 : decode cX9_movesOn 45 = .ok (.getfield 128, 3) := by decide +kernel
theorem dX9_movesOn_48 : decode cX9_movesOn 48 = .ok (.iload_n 1, 1) := by decide +kernel
theorem dX9_movesOn_49 : decode cX9_movesOn 49 = .ok (.iconst (-1), 1) := by decide +kernel
theorem dX9_movesOn_50 : decode cX9_movesOn 50 = .ok (.iastore, 1) := by decide +kernel
theorem dX9_movesOn_51 : decode cX9_movesOn 51 = .ok (.return_, 1) := by decide +kernel
theorem dX9_day_0 : decode cX9_day 0 = .ok (.aload_n 0, 1) := by decide +kernel
theorem dX9_day_1 : decode cX9_day 1 = .ok (.iconst 0, 1) := by decide +kernel
theorem dX9_day_2 : decode cX9_day 2 = .ok (.putfield 137, 3) := by decide +kernel
theorem dX9_day_5 : decode cX9_day 5 = .ok (.iload_n 1, 1) := by decide +kernel
theorem dX9_day_6 : decode cX9_day 6 = .ok (.ifCond .lt 29, 3) := by decide +kernel
theorem dX9_day_9 : decode cX9_day 9 = .ok (.iload_n 1, 1) := by decide +kernel
theorem dX9_day_10 : decode cX9_day 10 = .ok (.bipush 10, 2) := by decide +kernel
theorem dX9_day_12 : decode cX9_day 12 = .ok (.if_icmp .gt 23, 3) := by decide +kernel
theorem dX9_day_15 : decode cX9_day 15 = .ok (.iload_n 2, 1) := by decide +kernel
theorem dX9_day_16 : decode cX9_day 16 = .ok (.ifCond .lt 19, 3) := by decide +kernel
theorem dX9_day_19 : decode cX9_day 19 = .ok (.iload_n 2, 1) := by decide +kernel
theorem dX9_day_20 : decode cX9_day 20 = .ok (.bipush 10, 2) := by decide +kernel
theorem dX9_day_22 : decode cX9_day 22 = .ok (.if_icmp .gt 13, 3) := by decide +kernel
theorem dX9_day_25 : decode cX9_day 25 = .ok (.aload_n 0, 1) := by decide +kernel
theorem dX9_day_26 : decode cX9_day 26 = .ok (.getfield 239, 3) := by decide +kernel
theorem dX9_day_29 : decode cX9_day 29 = .ok (.sipush 357, 3) := by decide +kernel
theorem dX9_day_32 : decode cX9_day 32 = .ok (.if_icmp .ne 5, 3) := by decide +kernel
theorem dX9_day_35 : decode cX9_day 35 = .ok (.iconst (-1), 1) := by decide +kernel
theorem dX9_day_36 : decode cX9_day 36 = .ok (.ireturn, 1) := by decide +kernel
theorem dX9_day_37 : decode cX9_day 37 = .ok (.iconst 0, 1) := by decide +kernel
theorem dX9_day_38 : decode cX9_day 38 = .ok (.istore_n 3, 1) := by decide +kernel
theorem dX9_day_39 : decode cX9_day 39 = .ok (.iload_n 3, 1) := by decide +kernel
theorem dX9_day_40 : decode cX9_day 40 = .ok (.aload_n 0, 1) := by decide +kernel
theorem dX9_day_41 : decode cX9_day 41 = .ok (.getfield 236, 3) := by decide +kernel
theorem dX9_day_44 : decode cX9_day 44 = .ok (.if_icmp .ge 35, 3) := by decide +kernel
theorem dX9_day_47 : decode cX9_day 47 = .ok (.aload_n 0, 1) := by decide +kernel
theorem dX9_day_48 : decode cX9_day 48 = .ok (.getfield 101, 3) := by decide +kernel
theorem dX9_day_51 : decode cX9_day 51 = .ok (.iload_n 3, 1) := by decide +kernel
theorem dX9_day_52 : decode cX9_day 52 = .ok (.aload_n 0, 1) := by decide +kernel
theorem dX9_day_53 : decode cX9_day 53 = .ok (.getfield 239, 3) := by decide +kernel
theorem dX9_day_56 : decode cX9_day 56 = .ok (.bipush 7, 2) := by decide +kernel
theorem dX9_day_58 : decode cX9_day 58 = .ok (.irem, 1) := by decide +kernel
theorem dX9_day_59 : decode cX9_day 59 = .ok (.ifCond .ne 7, 3) := by decide +kernel
theorem dX9_day_62 : decode cX9_day 62 = .ok (.iconst 0, 1) := by decide +kernel
theorem dX9_day_63 : decode cX9_day 63 = .ok (.goto 9, 3) := by decide +kernel
theorem dX9_day_66 : decode cX9_day 66 = .ok (.aload_n 0, 1) := by decide +kernel
theorem dX9_day_67 : decode cX9_day 67 = .ok (.getfield 101, 3) := by decide +kernel
theorem dX9_day_70 : decode cX9_day 70 = .ok (.iload_n 3, 1) := by decide +kernel
theorem dX9_day_71 : decode cX9_day 71 = .ok (.iaload, 1) := by decide +kernel
theorem dX9_day_72 : decode cX9_day 72 = .ok (.iastore, 1) := by decide +kernel
end
section
theorem dX9_day_73 : decode cX9_day 73 = .ok (.iinc 3 1, 3) := by decide +kernel
theorem dX9_day_76 : decode cX9_day 76 = .ok (.goto (-37), 3) := by decide +kernel
theorem dX9_day_79 : decode cX9_day 79 = .ok (.iconst 0, 1) := by decide +kernel
theorem dX9_day_80 : decode cX9_day 80 = .ok (.istore_n 3, 1) := by decide +kernel
theorem dX9_day_81 : decode cX9_day 81 = .ok (.iload_n 3, 1) := by decide +kernel
theorem dX9_day_82 : decode cX9_day 82 = .ok (.iconst 4, 1) := by decide +kernel
theorem dX9_day_83 : decode cX9_day 83 = .ok (.if_icmp .ge 36, 3) := by decide +kernel
theorem dX9_day_86 : decode cX9_day 86 = .ok (.iconst 0, 1) := by decide +kernel
theorem dX9_day_87 : decode cX9_day 87 = .ok (.istore 4, 2) := by decide +kernel
theorem dX9_day_89 : decode cX9_day 89 = .ok (.iload 4, 2) := by decide +kernel
theorem dX9_day_91 : decode cX9_day 91 = .ok (.aload_n 0, 1) := by decide +kernel
theorem dX9_day_92 : decode cX9_day 92 = .ok (.getfield 236, 3) := by decide +kernel
theorem dX9_day_95 : decode cX9_day 95 = .ok (.if_icmp .ge 18, 3) := by decide +kernel
theorem dX9_day_98 : decode cX9_day 98 = .ok (.aload_n 0, 1) := by decide +kernel
theorem dX9_day_99 : decode cX9_day 99 = .ok (.iload_n 3, 1) := by decide +kernel
theorem dX9_day_100 : decode cX9_day 100 = .ok (.iload 4, 2) := by decide +kernel
theorem dX9_day_102 : decode cX9_day 102 = .ok (.iload_n 1, 1) := by decide +kernel
theorem dX9_day_103 : decode cX9_day 103 = .ok (.iload_n 2, 1) := by decide +kernel
theorem dX9_day_104 : decode cX9_day 104 = .ok (.invokevirtual 302, 3) := by decide +kernel
theorem dX9_day_107 : decode cX9_day 107 = .ok (.iinc 4 1, 3) := by decide +kernel
theorem dX9_day_110 : decode cX9_day 110 = .ok (.goto (-21), 3) := by decide +kernel
theorem dX9_day_113 : decode cX9_day 113 = .ok (.iinc 3 1, 3) := by decide +kernel
theorem dX9_day_116 : decode cX9_day 116 = .ok (.goto (-35), 3) := by decide +kernel
theorem dX9_day_119 : decode cX9_day 119 = .ok (.aload_n 0, 1) := by decide +kernel
theorem dX9_day_120 : decode cX9_day 120 = .ok (.aload_n 0, 1) := by decide +kernel
theorem dX9_day_121 : decode cX9_day 121 = .ok (.getfield 86, 3) := by decide +kernel
theorem dX9_day_124 : decode cX9_day 124 = .ok (.iload_n 1, 1) := by decide +kernel
theorem dX9_day_125 : decode cX9_day 125 = .ok (.iload_n 2, 1) := by decide +kernel
theorem dX9_day_126 : decode cX9_day 126 = .ok (.invokevirtual 306, 3) := by decide +kernel
theorem dX9_day_129 : decode cX9_day 129 = .ok (.aload_n 0, 1) := by decide +kernel
theorem dX9_day_130 : decode cX9_day 130 = .ok (.aload_n 0, 1) := by decide +kernel
theorem dX9_day_131 : decode cX9_day 131 = .ok (.getfield 89, 3) := by decide +kernel
theorem dX9_day_134 : decode cX9_day 134 = .ok (.iload_n 1, 1) := by decide +kernel
theorem dX9_day_135 : decode cX9_day 135 = .ok (.iload_n 2, 1) := by decide +kernel
theorem dX9_day_136 : decode cX9_day 136 = .ok (.invokevirtual 306, 3) := by decide +kernel
theorem dX9_day_139 : decode cX9_day 139 = .ok (.aload_n 0, 1) := by decide +kernel
theorem dX9_day_140 : decode cX9_day 140 = .ok (.dup, 1) := by decide +kernel
theorem dX9_day_141 : decode cX9_day 141 = .ok (.getfield 239, 3) := by decide +kernel
theorem dX9_day_144 : decode cX9_day 144 = .ok (.iconst 1, 1) := by decide +kernel
theorem dX9_day_145 : decode cX9_day 145 = .ok (.iadd, 1) := by decide +kernel
theorem dX9_day_146 : decode cX9_day 146 = .ok (.putfield 239, 3) := by decide +kernel
theorem dX9_day_149 : decode cX9_day 149 = .ok (.aload_n 0, 1) := by decide +kernel
theorem dX9_day_150 : decode cX9_day 150 = .ok (.getfield 239, 3) := by decide +kernel
theorem dX9_day_153 : decode cX9_day 153 = .ok (.iconst 1, 1) := by decide +kernel
theorem dX9_day_154 : decode cX9_day 154 = .ok (.isub, 1) := by decide +kernel
theorem dX9_day_155 : decode cX9_day 155 = .ok (.ireturn, 1) := by decide +kernel
theorem dX9_grass_0 : decode cX9_grass 0 = .ok (.aload_n 0, 1) := by decide +kernel
theorem dX9_grass_1 : decode cX9_grass 1 = .ok (.iconst 0, 1) := by decide +kernel
theorem dX9_grass_2 : decode cX9_grass 2 = .ok (.putfield 137, 3) := by decide +kernel
theorem dX9_grass_5 : decode cX9_grass 5 = .ok (.aload_n 0, 1) := by decide +kernel
theorem dX9_grass_6 : decode cX9_grass 6 = .ok (.iload_n 1, 1) := by decide +kernel
theorem dX9_grass_7 : decode cX9_grass 7 = .ok (.invokevirtual 242, 3) := by decide +kernel
theorem dX9_grass_10 : decode cX9_grass 10 = .ok (.ifCond .eq 21, 3) := by decide +kernel
theorem dX9_grass_13 : decode cX9_grass 13 = .ok (.iload_n 2, 1) := by decide +kernel
theorem dX9_grass_14 : decode cX9_grass 14 = .ok (.ifCond .lt 17, 3) := by decide +kernel
theorem dX9_grass_17 : decode cX9_grass 17 = .ok (.iload_n 2, 1) := by decide +kernel
theorem dX9_grass_18 : decode cX9_grass 18 = .ok (.iconst 3, 1) := by decide +kernel
theorem dX9_grass_19 : decode cX9_grass 19 = .ok (.if_icmp .gt 12, 3) := by decide +kernel
theorem dX9_grass_22 : decode cX9_grass 22 = .ok (.iload_n 3, 1) := by decide +kernel
theorem dX9_grass_23 : decode cX9_grass 23 = .ok (.ifCond .lt 8, 3) := by decide +kernel
theorem dX9_grass_26 : decode cX9_grass 26 = .ok (.iload_n 3, 1) := by decide +kernel
theorem dX9_grass_27 : decode cX9_grass 27 = .ok (.iconst 5, 1) := by decide +kernel
theorem dX9_grass_28 : decode cX9_grass 28 = .ok (.if_icmp .le 7, 3) := by decide +kernel
theorem dX9_grass_31 : decode cX9_grass 31 = .ok (.iconst (-1), 1) := by decide +kernel
theorem dX9_grass_32 : decode cX9_grass 32 = .ok (.goto 19, 3) := by decide +kernel
theorem dX9_grass_35 : decode cX9_grass 35 = .ok (.aload_n 0, 1) := by decide +kernel
theorem dX9_grass_36 : decode cX9_grass 36 = .ok (.getfield 86, 3) := by decide +kernel
theorem dX9_grass_39 : decode cX9_grass 39 = .ok (.bipush 24, 2) := by decide +kernel
theorem dX9_grass_41 : decode cX9_grass 41 = .ok (.iload_n 1, 1) := by decide +kernel
theorem dX9_grass_42 : decode cX9_grass 42 = .ok (.imul, 1) := by decide +kernel
theorem dX9_grass_43 : decode cX9_grass 43 = .ok (.bipush 6, 2) := by decide +kernel
theorem dX9_grass_45 : decode cX9_grass 45 = .ok (.iload_n 2, 1) := by decide +kernel
theorem dX9_grass_46 : decode cX9_grass 46 = .ok (.imul, 1) := by decide +kernel
theorem dX9_grass_47 : decode cX9_grass 47 = .ok (.iadd, 1) := by decide +kernel
theorem dX9_grass_48 : decode cX9_grass 48 = .ok (.iload_n 3, 1) := by decide +kernel
theorem dX9_grass_49 : decode cX9_grass 49 = .ok (.iadd, 1) := by decide +kernel
theorem dX9_grass_50 : decode cX9_grass 50 = .ok (.iaload, 1) := by decide +kernel
theorem dX9_grass_51 : decode cX9_grass 51 = .ok (.ireturn, 1) := by decide +kernel
theorem dX9_look_0 : decode cX9_look 0 = .ok (.aload_n 0, 1) := by decide +kernel
theorem dX9_look_1 : decode cX9_look 1 = .ok (.iload_n 1, 1) := by decide +kernel
theorem dX9_look_2 : decode cX9_look 2 = .ok (.ifCond .lt 24, 3) := by decide +kernel
theorem dX9_look_5 : decode cX9_look 5 = .ok (.iload_n 1, 1) := by decide +kernel
theorem dX9_look_6 : decode cX9_look 6 = .ok (.aload_n 0, 1) := by decide +kernel
theorem dX9_look_7 : decode cX9_look 7 = .ok (.getfield 253, 3) := by decide +kernel
theorem dX9_look_10 : decode cX9_look 10 = .ok (.if_icmp .ge 16, 3) := by decide +kernel
theorem dX9_look_13 : decode cX9_look 13 = .ok (.iload_n 2, 1) := by decide +kernel
theorem dX9_look_14 : decode cX9_look 14 = .ok (.ifCond .lt 12, 3) := by decide +kernel
theorem dX9_look_17 : decode cX9_look 17 = .ok (.iload_n 2, 1) := by decide +kernel
theorem dX9_look_18 : decode cX9_look 18 = .ok (.iconst 4, 1) := by decide +kernel
theorem dX9_look_19 : decode cX9_look 19 = .ok (.if_icmp .gt 7, 3) := by decide +kernel
theorem dX9_look_22 : decode cX9_look 22 = .ok (.iconst 0, 1) := by decide +kernel
theorem dX9_look_23 : decode cX9_look 23 = .ok (.goto 4, 3) := by decide +kernel
theorem dX9_look_26 : decode cX9_look 26 = .ok (.iconst 1, 1) := by decide +kernel
theorem dX9_look_27 : decode cX9_look 27 = .ok (.putfield 137, 3) := by decide +kernel
theorem dX9_look_30 : decode cX9_look 30 = .ok (.aload_n 0, 1) := by decide +kernel
theorem dX9_look_31 : decode cX9_look 31 = .ok (.getfield 137, 3) := by decide +kernel
theorem dX9_look_34 : decode cX9_look 34 = .ok (.ifCond .le 5, 3) := by decide +kernel
theorem dX9_look_37 : decode cX9_look 37 = .ok (.iconst 0, 1) := by decide +kernel
theorem dX9_look_38 : decode cX9_look 38 = .ok (.ireturn, 1) := by decide +kernel
theorem dX9_look_39 : decode cX9_look 39 = .ok (.iload_n 2, 1) := by decide +kernel
theorem dX9_look_40 : decode cX9_look 40 = .ok (.ifCond .ne 10, 3) := by decide +kernel
theorem dX9_look_43 : decode cX9_look 43 = .ok (.aload_n 0, 1) := by decide +kernel
theorem dX9_look_44 : decode cX9_look 44 = .ok (.getfield 125, 3) := by decide +kernel
theorem dX9_look_47 : decode cX9_look 47 = .ok (.iload_n 1, 1) := by decide +kernel
theorem dX9_look_48 : decode cX9_look 48 = .ok (.iaload, 1) := by decide +kernel
theorem dX9_look_49 : decode cX9_look 49 = .ok (.ireturn, 1) := by decide +kernel
theorem dX9_look_50 : decode cX9_look 50 = .ok (.iload_n 2, 1) := by decide +kernel
theorem dX9_look_51 : decode cX9_look 51 = .ok (.iconst 4, 1) := by decide +kernel
theorem dX9_look_52 : decode cX9_look 52 = .ok (.if_icmp .ne 10, 3) := by decide +kernel
theorem dX9_look_55 : decode cX9_look 55 = .ok (.aload_n 0, 1) := by decide +kernel
theorem dX9_look_56 : decode cX9_look 56 = .ok (.getfield 131, 3) := by decide +kernel
theorem dX9_look_59 : decode cX9_look 59 = .ok (.iload_n 1, 1) := by decide +kernel
theorem dX9_look_60 : decode cX9_look 60 = .ok (.iaload, 1) := by decide +kernel
theorem dX9_look_61 : decode cX9_look 61 = .ok (.ireturn, 1) := by decide +kernel
theorem dX9_look_62 : decode cX9_look 62 = .ok (.aload_n 0, 1) := by decide +kernel
theorem dX9_look_63 : decode cX9_look 63 = .ok (.getfield 128, 3) := by decide +kernel
theorem dX9_look_66 : decode cX9_look 66 = .ok (.iload_n 1, 1) := by decide +kernel
theorem dX9_look_67 : decode cX9_look 67 = .ok (.iaload, 1) := by decide +kernel
theorem dX9_look_68 : decode cX9_look 68 = .ok (.ifCond .ge 7, 3) := by decide +kernel
theorem dX9_look_71 : decode cX9_look 71 = .ok (.iconst (-1), 1) := by decide +kernel
theorem dX9_look_72 : decode cX9_look 72 = .ok (.goto 48, 3) := by decide +kernel
theorem dX9_look_75 : decode cX9_look 75 = .ok (.iload_n 2, 1) := by decide +kernel
theorem dX9_look_76 : decode cX9_look 76 = .ok (.iconst 1, 1) := by decide +kernel
theorem dX9_look_77 : decode cX9_look 77 = .ok (.if_icmp .ne 15, 3) := by decide +kernel
theorem dX9_look_80 : decode cX9_look 80 = .ok (.aload_n 0, 1) := by decide +kernel
theorem dX9_look_81 : decode cX9_look 81 = .ok (.getfield 128, 3) := by decide +kernel
theorem dX9_look_84 : decode cX9_look 84 = .ok (.iload_n 1, 1) := by decide +kernel
theorem dX9_look_85 : decode cX9_look 85 = .ok (.iaload, 1) := by decide +kernel
theorem dX9_look_86 : decode cX9_look 86 = .ok (.bipush 24, 2) := by decide +kernel
theorem dX9_look_88 : decode cX9_look 88 = .ok (.idiv, 1) := by decide +kernel
theorem dX9_look_89 : decode cX9_look 89 = .ok (.goto 31, 3) := by decide +kernel
theorem dX9_look_92 : decode cX9_look 92 = .ok (.iload_n 2, 1) := by decide +kernel
theorem dX9_look_93 : decode cX9_look 93 = .ok (.iconst 2, 1) := by decide +kernel
theorem dX9_look_94 : decode cX9_look 94 = .ok (.if_icmp .ne 17, 3) := by decide +kernel
theorem dX9_look_97 : decode cX9_look 97 = .ok (.aload_n 0, 1) := by decide +kernel
theorem dX9_look_98 : decode cX9_look 98 = .ok (.getfield 128, 3) := by decide +kernel
theorem dX9_look_101 : decode cX9_look 101 = .ok (.iload_n 1, 1) := by decide +kernel
theorem dX9_look_102 : decode cX9_look 102 = .ok (.iaload, 1) := by decide +kernel
theorem dX9_look_103 : decode cX9_look 103 = .ok (.bipush 6, 2) := by decide +kernel
theorem dX9_look_105 : decode cX9_look 105 = .ok (.idiv, 1) := by decide +kernel
theorem dX9_look_106 : decode cX9_look 106 = .ok (.iconst 4, 1) := by decide +kernel
theorem dX9_look_107 : decode cX9_look 107 = .ok (.irem, 1) := by decide +kernel
theorem dX9_look_108 : decode cX9_look 108 = .ok (.goto 12, 3) := by decide +kernel
theorem dX9_look_111 : decode cX9_look 111 = .ok (.aload_n 0, 1) := by decide +kernel
theorem dX9_look_112 : decode cX9_look 112 = .ok (.getfield 128, 3) := by decide +kernel
theorem dX9_look_115 : decode cX9_look 115 = .ok (.iload_n 1, 1) := by decide +kernel
theorem dX9_look_116 : decode cX9_look 116 = .ok (.iaload, 1) := by decide +kernel
theorem dX9_look_117 : decode cX9_look 117 = .ok (.bipush 6, 2) := by decide +kernel
theorem dX9_look_119 : decode cX9_look 119 = .ok (.irem, 1) := by decide +kernel
theorem dX9_look_120 : decode cX9_look 120 = .ok (.ireturn, 1) := by decide +kernel
theorem dX9_at_0 : decode cX9_at 0 = .ok (.aload_n 0, 1) := by decide +kernel
theorem dX9_at_1 : decode cX9_at 1 = .ok (.iconst 0, 1) := by decide +kernel
theorem dX9_at_2 : decode cX9_at 2 = .ok (.putfield 137, 3) := by decide +kernel
theorem dX9_at_5 : decode cX9_at 5 = .ok (.iload_n 1, 1) := by decide +kernel
theorem dX9_at_6 : decode cX9_at 6 = .ok (.ifCond .lt 27, 3) := by decide +kernel
theorem dX9_at_9 : decode cX9_at 9 = .ok (.iload_n 1, 1) := by decide +kernel
theorem dX9_at_10 : decode cX9_at 10 = .ok (.sipush 356, 3) := by decide +kernel
theorem dX9_at_13 : decode cX9_at 13 = .ok (.if_icmp .gt 20, 3) := by decide +kernel
theorem dX9_at_16 : decode cX9_at 16 = .ok (.iload_n 2, 1) := by decide +kernel
theorem dX9_at_17 : decode cX9_at 17 = .ok (.ifCond .lt 16, 3) := by decide +kernel
theorem dX9_at_20 : decode cX9_at 20 = .ok (.iload_n 2, 1) := by decide +kernel
theorem dX9_at_21 : decode cX9_at 21 = .ok (.iconst 3, 1) := by decide +kernel
theorem dX9_at_22 : decode cX9_at 22 = .ok (.if_icmp .gt 11, 3) := by decide +kernel
theorem dX9_at_25 : decode cX9_at 25 = .ok (.aload_n 0, 1) := by decide +kernel
theorem dX9_at_26 : decode cX9_at 26 = .ok (.iload_n 3, 1) := by decide +kernel
theorem dX9_at_27 : decode cX9_at 27 = .ok (.invokevirtual 242, 3) := by decide +kernel
theorem dX9_at_30 : decode cX9_at 30 = .ok (.ifCond .ne 7, 3) := by decide +kernel
theorem dX9_at_33 : decode cX9_at 33 = .ok (.iconst (-1), 1) := by decide +kernel
theorem dX9_at_34 : decode cX9_at 34 = .ok (.goto 18, 3) := by decide +kernel
theorem dX9_at_37 : decode cX9_at 37 = .ok (.aload_n 0, 1) := by decide +kernel
theorem dX9_at_38 : decode cX9_at 38 = .ok (.bipush 24, 2) := by decide +kernel
theorem dX9_at_40 : decode cX9_at 40 = .ok (.iload_n 1, 1) := by decide +kernel
theorem dX9_at_41 : decode cX9_at 41 = .ok (.imul, 1) := by decide +kernel
theorem dX9_at_42 : decode cX9_at 42 = .ok (.bipush 6, 2) := by decide +kernel
theorem dX9_at_44 : decode cX9_at 44 = .ok (.iload_n 2, 1) := by decide +kernel
theorem dX9_at_45 : decode cX9_at 45 = .ok (.imul, 1) := by decide +kernel
theorem dX9_at_46 : decode cX9_at 46 = .ok (.iadd, 1) := by decide +kernel
theorem dX9_at_47 : decode cX9_at 47 = .ok (.iload_n 3, 1) := by decide +kernel
theorem dX9_at_48 : decode cX9_at 48 = .ok (.iadd, 1) := by decide +kernel
theorem dX9_at_49 : decode cX9_at 49 = .ok (.invokevirtual 259, 3) := by decide +kernel
theorem dX9_at_52 : decode cX9_at 52 = .ok (.ireturn, 1) := by decide +kernel
theorem dX9_gamesOf_0 : decode cX9_gamesOf 0 = .ok (.iconst 0, 1) := by decide +kernel
theorem dX9_gamesOf_1 : decode cX9_gamesOf 1 = .ok (.istore_n 3, 1) := by decide +kernel
theorem dX9_gamesOf_2 : decode cX9_gamesOf 2 = .ok (.iconst 0, 1) := by decide +kernel
theorem dX9_gamesOf_3 : decode cX9_gamesOf 3 = .ok (.istore 4, 2) := by decide +kernel
theorem dX9_gamesOf_5 : decode cX9_gamesOf 5 = .ok (.iload 4, 2) := by decide +kernel
theorem dX9_gamesOf_7 : decode cX9_gamesOf 7 = .ok (.aload_n 0, 1) := by decide +kernel
theorem dX9_gamesOf_8 : decode cX9_gamesOf 8 = .ok (.getfield 253, 3) := by decide +kernel
theorem dX9_gamesOf_11 : decode cX9_gamesOf 11 = .ok (.if_icmp .ge 38, 3) := by decide +kernel
theorem dX9_gamesOf_14 : decode cX9_gamesOf 14 = .ok (.iload_n 3, 1) := by decide +kernel
theorem dX9_gamesOf_15 : decode cX9_gamesOf 15 = .ok (.aload_n 0, 1) := by decide +kernel
theorem dX9_gamesOf_16 : decode cX9_gamesOf 16 = .ok (.getfield 125, 3) := by decide +kernel
theorem dX9_gamesOf_19 : decode cX9_gamesOf 19 = .ok (.iload 4, 2) := by decide +kernel
theorem dX9_gamesOf_21 : decode cX9_gamesOf 21 = .ok (.iaload, 1) := by decide +kernel
theorem dX9_gamesOf_22 : decode cX9_gamesOf 22 = .ok (.iload_n 2, 1) := by decide +kernel
theorem dX9_gamesOf_23 : decode cX9_gamesOf 23 = .ok (.if_icmp .ne 17, 3) := by decide +kernel
theorem dX9_gamesOf_26 : decode cX9_gamesOf 26 = .ok (.aload_n 0, 1) := by decide +kernel
theorem dX9_gamesOf_27 : decode cX9_gamesOf 27 = .ok (.iload 4, 2) := by decide +kernel
theorem dX9_gamesOf_29 : decode cX9_gamesOf 29 = .ok (.iload_n 1, 1) := by decide +kernel
theorem dX9_gamesOf_30 : decode cX9_gamesOf 30 = .ok (.invokevirtual 262, 3) := by decide +kernel
theorem dX9_gamesOf_33 : decode cX9_gamesOf 33 = .ok (.ifCond .eq 7, 3) := by decide +kernel
theorem dX9_gamesOf_36 : decode cX9_gamesOf 36 = .ok (.iconst 1, 1) := by decide +kernel
theorem dX9_gamesOf_37 : decode cX9_gamesOf 37 = .ok (.goto 4, 3) := by decide +kernel
theorem dX9_gamesOf_40 : decode cX9_gamesOf 40 = .ok (.iconst 0, 1) := by decide +kernel
theorem dX9_gamesOf_41 : decode cX9_gamesOf 41 = .ok (.iadd, 1) := by decide +kernel
theorem dX9_gamesOf_42 : decode cX9_gamesOf 42 = .ok (.istore_n 3, 1) := by decide +kernel
theorem dX9_gamesOf_43 : decode cX9_gamesOf 43 = .ok (.iinc 4 1, 3) := by decide +kernel
theorem dX9_gamesOf_46 : decode cX9_gamesOf 46 = .ok (.goto (-41), 3) := by decide +kernel
theorem dX9_gamesOf_49 : decode cX9_gamesOf 49 = .ok (.iload_n 3, 1) := by decide +kernel
theorem dX9_gamesOf_50 : decode cX9_gamesOf 50 = .ok (.ireturn, 1) := by decide +kernel
theorem dX9_club_0 : decode cX9_club 0 = .ok (.aload_n 0, 1) := by decide +kernel
theorem dX9_club_1 : decode cX9_club 1 = .ok (.iconst 0, 1) := by decide +kernel
theorem dX9_club_2 : decode cX9_club 2 = .ok (.putfield 137, 3) := by decide +kernel
theorem dX9_club_5 : decode cX9_club 5 = .ok (.iload_n 1, 1) := by decide +kernel
theorem dX9_club_6 : decode cX9_club 6 = .ok (.ifCond .lt 9, 3) := by decide +kernel
theorem dX9_club_9 : decode cX9_club 9 = .ok (.iload_n 1, 1) := by decide +kernel
theorem dX9_club_10 : decode cX9_club 10 = .ok (.bipush 15, 2) := by decide +kernel
theorem dX9_club_12 : decode cX9_club 12 = .ok (.if_icmp .le 5, 3) := by decide +kernel
theorem dX9_club_15 : decode cX9_club 15 = .ok (.iconst (-1), 1) := by decide +kernel
theorem dX9_club_16 : decode cX9_club 16 = .ok (.ireturn, 1) := by decide +kernel
theorem dX9_club_17 : decode cX9_club 17 = .ok (.iload_n 2, 1) := by decide +kernel
theorem dX9_club_18 : decode cX9_club 18 = .ok (.ifCond .ne 12, 3) := by decide +kernel
theorem dX9_club_21 : decode cX9_club 21 = .ok (.aload_n 0, 1) := by decide +kernel
theorem dX9_club_22 : decode cX9_club 22 = .ok (.iload_n 1, 1) := by decide +kernel
theorem dX9_club_23 : decode cX9_club 23 = .ok (.iconst 2, 1) := by decide +kernel
theorem dX9_club_24 : decode cX9_club 24 = .ok (.invokevirtual 310, 3) := by decide +kernel
theorem dX9_club_27 : decode cX9_club 27 = .ok (.goto 32, 3) := by decide +kernel
theorem dX9_club_30 : decode cX9_club 30 = .ok (.iload_n 2, 1) := by decide +kernel
theorem dX9_club_31 : decode cX9_club 31 = .ok (.iconst 1, 1) := by decide +kernel
theorem dX9_club_32 : decode cX9_club 32 = .ok (.if_icmp .ne 12, 3) := by decide +kernel
theorem dX9_club_35 : decode cX9_club 35 = .ok (.aload_n 0, 1) := by decide +kernel
theorem dX9_club_36 : decode cX9_club 36 = .ok (.getfield 134, 3) := by decide +kernel
theorem dX9_club_39 : decode cX9_club 39 = .ok (.iload_n 1, 1) := by decide +kernel
theorem dX9_club_40 : decode cX9_club 40 = .ok (.iaload, 1) := by decide +kernel
theorem dX9_club_41 : decode cX9_club 41 = .ok (.goto 18, 3) := by decide +kernel
theorem dX9_club_44 : decode cX9_club 44 = .ok (.iload_n 2, 1) := by decide +kernel
theorem dX9_club_45 : decode cX9_club 45 = .ok (.iconst 2, 1) := by decide +kernel
theorem dX9_club_46 : decode cX9_club 46 = .ok (.if_icmp .ne 12, 3) := by decide +kernel
theorem dX9_club_49 : decode cX9_club 49 = .ok (.aload_n 0, 1) := by decide +kernel
theorem dX9_club_50 : decode cX9_club 50 = .ok (.iload_n 1, 1) := by decide +kernel
theorem dX9_club_51 : decode cX9_club 51 = .ok (.iconst 3, 1) := by decide +kernel
theorem dX9_club_52 : decode cX9_club 52 = .ok (.invokevirtual 310, 3) := by decide +kernel
theorem dX9_club_55 : decode cX9_club 55 = .ok (.goto 4, 3) := by decide +kernel
theorem dX9_club_58 : decode cX9_club 58 = .ok (.iconst (-1), 1) := by decide +kernel
theorem dX9_club_59 : decode cX9_club 59 = .ok (.ireturn, 1) := by decide +kernel
theorem dX9_field_0 : decode cX9_field 0 = .ok (.aload_n 0, 1) := by decide +kernel
theorem dX9_field_1 : decode cX9_field 1 = .ok (.iconst 0, 1) := by decide +kernel
theorem dX9_field_2 : decode cX9_field 2 = .ok (.putfield 137, 3) := by decide +kernel
theorem dX9_field_5 : decode cX9_field 5 = .ok (.aload_n 0, 1) := by decide +kernel
theorem dX9_field_6 : decode cX9_field 6 = .ok (.iload_n 1, 1) := by decide +kernel
theorem dX9_field_7 : decode cX9_field 7 = .ok (.invokevirtual 242, 3) := by decide +kernel
theorem dX9_field_10 : decode cX9_field 10 = .ok (.ifCond .ne 5, 3) := by decide +kernel
theorem dX9_field_13 : decode cX9_field 13 = .ok (.iconst (-1), 1) := by decide +kernel
theorem dX9_field_14 : decode cX9_field 14 = .ok (.ireturn, 1) := by decide +kernel
theorem dX9_field_15 : decode cX9_field 15 = .ok (.iload_n 2, 1) := by decide +kernel
theorem dX9_field_16 : decode cX9_field 16 = .ok (.tableswitch 86 0 5 #[40, 47, 56, 65, 72, 79], 40) := by decide +kernel
theorem dX9_field_56 : decode cX9_field 56 = .ok (.aload_n 0, 1) := by decide +kernel
theorem dX9_field_57 : decode cX9_field 57 = .ok (.getfield 83, 3) := by decide +kernel
theorem dX9_field_60 : decode cX9_field 60 = .ok (.iload_n 1, 1) := by decide +kernel
theorem dX9_field_61 : decode cX9_field 61 = .ok (.iaload, 1) := by decide +kernel
theorem dX9_field_62 : decode cX9_field 62 = .ok (.ireturn, 1) := by decide +kernel
theorem dX9_field_63 : decode cX9_field 63 = .ok (.aload_n 0, 1) := by decide +kernel
theorem dX9_field_64 : decode cX9_field 64 = .ok (.getfield 86, 3) := by decide +kernel
theorem dX9_field_67 : decode cX9_field 67 = .ok (.iload_n 1, 1) := by decide +kernel
theorem dX9_field_68 : decode cX9_field 68 = .ok (.invokestatic 285, 3) := by decide +kernel
theorem dX9_field_71 : decode cX9_field 71 = .ok (.ireturn, 1) := by decide +kernel
theorem dX9_field_72 : decode cX9_field 72 = .ok (.aload_n 0, 1) := by decide +kernel
theorem dX9_field_73 : decode cX9_field 73 = .ok (.getfield 86, 3) := by decide +kernel
theorem dX9_field_76 : decode cX9_field 76 = .ok (.iload_n 1, 1) := by decide +kernel
theorem dX9_field_77 : decode cX9_field 77 = .ok (.invokestatic 289, 3) := by decide +kernel
theorem dX9_field_80 : decode cX9_field 80 = .ok (.ireturn, 1) := by decide +kernel
theorem dX9_field_81 : decode cX9_field 81 = .ok (.aload_n 0, 1) := by decide +kernel
theorem dX9_field_82 : decode cX9_field 82 = .ok (.getfield 98, 3) := by decide +kernel
theorem dX9_field_85 : decode cX9_field 85 = .ok (.iload_n 1, 1) := by decide +kernel
theorem dX9_field_86 : decode cX9_field 86 = .ok (.iaload, 1) := by decide +kernel
theorem dX9_field_87 : decode cX9_field 87 = .ok (.ireturn, 1) := by decide +kernel
theorem dX9_field_88 : decode cX9_field 88 = .ok (.aload_n 0, 1) := by decide +kernel
theorem dX9_field_89 : decode cX9_field 89 = .ok (.getfield 104, 3) := by decide +kernel
theorem dX9_field_92 : decode cX9_field 92 = .ok (.iload_n 1, 1) := by decide +kernel
theorem dX9_field_93 : decode cX9_field 93 = .ok (.iaload, 1) := by decide +kernel
theorem dX9_field_94 : decode cX9_field 94 = .ok (.ireturn, 1) := by decide +kernel
theorem dX9_field_95 : decode cX9_field 95 = .ok (.aload_n 0, 1) := by decide +kernel
theorem dX9_field_96 : decode cX9_field 96 = .ok (.getfield 92, 3) := by decide +kernel
theorem dX9_field_99 : decode cX9_field 99 = .ok (.iload_n 1, 1) := by decide +kernel
theorem dX9_field_100 : decode cX9_field 100 = .ok (.iaload, 1) := by decide +kernel
theorem dX9_field_101 : decode cX9_field 101 = .ok (.ireturn, 1) := by decide +kernel
theorem dX9_field_102 : decode cX9_field 102 = .ok (.iconst (-1), 1) := by decide +kernel
theorem dX9_field_103 : decode cX9_field 103 = .ok (.ireturn, 1) := by decide +kernel
theorem dX9_would_0 : decode cX9_would 0 = .ok (.aload_n 0, 1) := by decide +kernel
theorem dX9_would_1 : decode cX9_would 1 = .ok (.iconst 0, 1) := by decide +kernel
theorem dX9_would_2 : decode cX9_would 2 = .ok (.putfield 137, 3) := by decide +kernel
theorem dX9_would_5 : decode cX9_would 5 = .ok (.aload_n 0, 1) := by decide +kernel
theorem dX9_would_6 : decode cX9_would 6 = .ok (.iload_n 1, 1) := by decide +kernel
theorem dX9_would_7 : decode cX9_would 7 = .ok (.invokevirtual 242, 3) := by decide +kernel
theorem dX9_would_10 : decode cX9_would 10 = .ok (.ifCond .ne 5, 3) := by decide +kernel
theorem dX9_would_13 : decode cX9_would 13 = .ok (.iconst (-1), 1) := by decide +kernel
theorem dX9_would_14 : decode cX9_would 14 = .ok (.ireturn, 1) := by decide +kernel
theorem dX9_would_15 : decode cX9_would 15 = .ok (.iload_n 2, 1) := by decide +kernel
theorem dX9_would_16 : decode cX9_would 16 = .ok (.ifCond .ne 14, 3) := by decide +kernel
theorem dX9_would_19 : decode cX9_would 19 = .ok (.aload_n 0, 1) := by decide +kernel
theorem dX9_would_20 : decode cX9_would 20 = .ok (.getfield 89, 3) := by decide +kernel
theorem dX9_would_23 : decode cX9_would 23 = .ok (.iload_n 1, 1) := by decide +kernel
theorem dX9_would_24 : decode cX9_would 24 = .ok (.invokestatic 285, 3) := by decide +kernel
theorem dX9_would_27 : decode cX9_would 27 = .ok (.goto 34, 3) := by decide +kernel
theorem dX9_would_30 : decode cX9_would 30 = .ok (.iload_n 2, 1) := by decide +kernel
theorem dX9_would_31 : decode cX9_would 31 = .ok (.iconst 1, 1) := by decide +kernel
theorem dX9_would_32 : decode cX9_would 32 = .ok (.if_icmp .ne 14, 3) := by decide +kernel
theorem dX9_would_35 : decode cX9_would 35 = .ok (.aload_n 0, 1) := by decide +kernel
theorem dX9_would_36 : decode cX9_would 36 = .ok (.getfield 89, 3) := by decide +kernel
theorem dX9_would_39 : decode cX9_would 39 = .ok (.iload_n 1, 1) := by decide +kernel
theorem dX9_would_40 : decode cX9_would 40 = .ok (.invokestatic 289, 3) := by decide +kernel
theorem dX9_would_43 : decode cX9_would 43 = .ok (.goto 18, 3) := by decide +kernel
theorem dX9_would_46 : decode cX9_would 46 = .ok (.iload_n 2, 1) := by decide +kernel
theorem dX9_would_47 : decode cX9_would 47 = .ok (.iconst 2, 1) := by decide +kernel
theorem dX9_would_48 : decode cX9_would 48 = .ok (.if_icmp .ne 12, 3) := by decide +kernel
theorem dX9_would_51 : decode cX9_would 51 = .ok (.aload_n 0, 1) := by decide +kernel
theorem dX9_would_52 : decode cX9_would 52 = .ok (.getfield 95, 3) := by decide +kernel
theorem dX9_would_55 : decode cX9_would 55 = .ok (.iload_n 1, 1) := by decide +kernel
theorem dX9_would_56 : decode cX9_would 56 = .ok (.iaload, 1) := by decide +kernel
theorem dX9_would_57 : decode cX9_would 57 = .ok (.goto 4, 3) := by decide +kernel
theorem dX9_would_60 : decode cX9_would 60 = .ok (.iconst (-1), 1) := by decide +kernel
theorem dX9_would_61 : decode cX9_would 61 = .ok (.ireturn, 1) := by decide +kernel
theorem dX9_gamesThat_0 : decode cX9_gamesThat 0 = .ok (.iconst 0, 1) := by decide +kernel
theorem dX9_gamesThat_1 : decode cX9_gamesThat 1 = .ok (.istore_n 2, 1) := by decide +kernel
theorem dX9_gamesThat_2 : decode cX9_gamesThat 2 = .ok (.iconst 0, 1) := by decide +kernel
theorem dX9_gamesThat_3 : decode cX9_gamesThat 3 = .ok (.istore_n 3, 1) := by decide +kernel
theorem dX9_gamesThat_4 : decode cX9_gamesThat 4 = .ok (.iload_n 3, 1) := by decide +kernel
theorem dX9_gamesThat_5 : decode cX9_gamesThat 5 = .ok (.aload_n 0, 1) := by decide +kernel
theorem dX9_gamesThat_6 : decode cX9_gamesThat 6 = .ok (.getfield 253, 3) := by decide +kernel
theorem dX9_gamesThat_9 : decode cX9_gamesThat 9 = .ok (.if_icmp .ge 27, 3) := by decide +kernel
theorem dX9_gamesThat_12 : decode cX9_gamesThat 12 = .ok (.iload_n 2, 1) := by decide +kernel
theorem dX9_gamesThat_13 : decode cX9_gamesThat 13 = .ok (.aload_n 0, 1) := by decide +kernel
theorem dX9_gamesThat_14 : decode cX9_gamesThat 14 = .ok (.getfield 125, 3) := by decide +kernel
theorem dX9_gamesThat_17 : decode cX9_gamesThat 17 = .ok (.iload_n 3, 1) := by decide +kernel
theorem dX9_gamesThat_18 : decode cX9_gamesThat 18 = .ok (.iaload, 1) := by decide +kernel
theorem dX9_gamesThat_19 : decode cX9_gamesThat 19 = .ok (.iload_n 1, 1) := by decide +kernel
theorem dX9_gamesThat_20 : decode cX9_gamesThat 20 = .ok (.if_icmp .ne 7, 3) := by decide +kernel
theorem dX9_gamesThat_23 : decode cX9_gamesThat 23 = .ok (.iconst 1, 1) := by decide +kernel
theorem dX9_gamesThat_24 : decode cX9_gamesThat 24 = .ok (.goto 4, 3) := by decide +kernel
theorem dX9_gamesThat_27 : decode cX9_gamesThat 27 = .ok (.iconst 0, 1) := by decide +kernel
theorem dX9_gamesThat_28 : decode cX9_gamesThat 28 = .ok (.iadd, 1) := by decide +kernel
theorem dX9_gamesThat_29 : decode cX9_gamesThat 29 = .ok (.istore_n 2, 1) := by decide +kernel
theorem dX9_gamesThat_30 : decode cX9_gamesThat 30 = .ok (.iinc 3 1, 3) := by decide +kernel
theorem dX9_gamesThat_33 : decode cX9_gamesThat 33 = .ok (.goto (-29), 3) := by decide +kernel
theorem dX9_gamesThat_36 : decode cX9_gamesThat 36 = .ok (.iload_n 2, 1) := by decide +kernel
theorem dX9_gamesThat_37 : decode cX9_gamesThat 37 = .ok (.ireturn, 1) := by decide +kernel
theorem dX9_count_0 : decode cX9_count 0 = .ok (.aload_n 0, 1) := by decide +kernel
theorem dX9_count_1 : decode cX9_count 1 = .ok (.iconst 0, 1) := by decide +kernel
theorem dX9_count_2 : decode cX9_count 2 = .ok (.putfield 137, 3) := by decide +kernel
theorem dX9_count_5 : decode cX9_count 5 = .ok (.iconst 0, 1) := by decide +kernel
theorem dX9_count_6 : decode cX9_count 6 = .ok (.istore_n 2, 1) := by decide +kernel
theorem dX9_count_7 : decode cX9_count 7 = .ok (.iconst 0, 1) := by decide +kernel
theorem dX9_count_8 : decode cX9_count 8 = .ok (.istore_n 3, 1) := by decide +kernel
theorem dX9_count_9 : decode cX9_count 9 = .ok (.iload_n 3, 1) := by decide +kernel
theorem dX9_count_10 : decode cX9_count 10 = .ok (.aload_n 0, 1) := by decide +kernel
theorem dX9_count_11 : decode cX9_count 11 = .ok (.getfield 236, 3) := by decide +kernel
theorem dX9_count_14 : decode cX9_count 14 = .ok (.if_icmp .ge 18, 3) := by decide +kernel
theorem dX9_count_17 : decode cX9_count 17 = .ok (.iload_n 2, 1) := by decide +kernel
theorem dX9_count_18 : decode cX9_count 18 = .ok (.aload_n 0, 1) := by decide +kernel
theorem dX9_count_19 : decode cX9_count 19 = .ok (.getfield 104, 3) := by decide +kernel
theorem dX9_count_22 : decode cX9_count 22 = .ok (.iload_n 3, 1) := by decide +kernel
theorem dX9_count_23 : decode cX9_count 23 = .ok (.iaload, 1) := by decide +kernel
theorem dX9_count_24 : decode cX9_count 24 = .ok (.iadd, 1) := by decide +kernel
theorem dX9_count_25 : decode cX9_count 25 = .ok (.istore_n 2, 1) := by decide +kernel
theorem dX9_count_26 : decode cX9_count 26 = .ok (.iinc 3 1, 3) := by decide +kernel
theorem dX9_count_29 : decode cX9_count 29 = .ok (.goto (-20), 3) := by decide +kernel
theorem dX9_count_32 : decode cX9_count 32 = .ok (.iload_n 1, 1) := by decide +kernel
theorem dX9_count_33 : decode cX9_count 33 = .ok (.tableswitch 111 0 9 #[55, 60, 65, 70, 76, 82, 88, 94, 104, 109], 55) := by decide +kernel
theorem dX9_count_88 : decode cX9_count 88 = .ok (.aload_n 0, 1) := by decide +kernel
theorem dX9_count_89 : decode cX9_count 89 = .ok (.getfield 236, 3) := by decide +kernel
theorem dX9_count_92 : decode cX9_count 92 = .ok (.ireturn, 1) := by decide +kernel
theorem dX9_count_93 : decode cX9_count 93 = .ok (.aload_n 0, 1) := by decide +kernel
theorem dX9_count_94 : decode cX9_count 94 = .ok (.getfield 253, 3) := by decide +kernel
theorem dX9_count_97 : decode cX9_count 97 = .ok (.ireturn, 1) := by decide +kernel
theorem dX9_count_98 : decode cX9_count 98 = .ok (.aload_n 0, 1) := by decide +kernel
theorem dX9_count_99 : decode cX9_count 99 = .ok (.getfield 239, 3) := by decide +kernel
theorem dX9_count_102 : decode cX9_count 102 = .ok (.ireturn, 1) := by decide +kernel
theorem dX9_count_103 : decode cX9_count 103 = .ok (.aload_n 0, 1) := by decide +kernel
theorem dX9_count_104 : decode cX9_count 104 = .ok (.iconst 0, 1) := by decide +kernel
theorem dX9_count_105 : decode cX9_count 105 = .ok (.invokevirtual 314, 3) := by decide +kernel
theorem dX9_count_108 : decode cX9_count 108 = .ok (.ireturn, 1) := by decide +kernel
theorem dX9_count_109 : decode cX9_count 109 = .ok (.aload_n 0, 1) := by decide +kernel
theorem dX9_count_110 : decode cX9_count 110 = .ok (.iconst 1, 1) := by decide +kernel
theorem dX9_count_111 : decode cX9_count 111 = .ok (.invokevirtual 314, 3) := by decide +kernel
theorem dX9_count_114 : decode cX9_count 114 = .ok (.ireturn, 1) := by decide +kernel
theorem dX9_count_115 : decode cX9_count 115 = .ok (.aload_n 0, 1) := by decide +kernel
theorem dX9_count_116 : decode cX9_count 116 = .ok (.iconst 2, 1) := by decide +kernel
theorem dX9_count_117 : decode cX9_count 117 = .ok (.invokevirtual 314, 3) := by decide +kernel
theorem dX9_count_120 : decode cX9_count 120 = .ok (.ireturn, 1) := by decide +kernel
theorem dX9_count_121 : decode cX9_count 121 = .ok (.aload_n 0, 1) := by decide +kernel
theorem dX9_count_122 : decode cX9_count 122 = .ok (.iconst 3, 1) := by decide +kernel
theorem dX9_count_123 : decode cX9_count 123 = .ok (.invokevirtual 314, 3) := by decide +kernel
theorem dX9_count_126 : decode cX9_count 126 = .ok (.ireturn, 1) := by decide +kernel
theorem dX9_count_127 : decode cX9_count 127 = .ok (.aload_n 0, 1) := by decide +kernel
theorem dX9_count_128 : decode cX9_count 128 = .ok (.getfield 50, 3) := by decide +kernel
theorem dX9_count_131 : decode cX9_count 131 = .ok (.aload_n 0, 1) := by decide +kernel
theorem dX9_count_132 : decode cX9_count 132 = .ok (.getfield 198, 3) := by decide +kernel
theorem dX9_count_135 : decode cX9_count 135 = .ok (.iaload, 1) := by decide +kernel
theorem dX9_count_136 : decode cX9_count 136 = .ok (.ireturn, 1) := by decide +kernel
theorem dX9_count_137 : decode cX9_count 137 = .ok (.aload_n 0, 1) := by decide +kernel
theorem dX9_count_138 : decode cX9_count 138 = .ok (.getfield 145, 3) := by decide +kernel
theorem dX9_count_141 : decode cX9_count 141 = .ok (.ireturn, 1) := by decide +kernel
theorem dX9_count_142 : decode cX9_count 142 = .ok (.iload_n 2, 1) := by decide +kernel
theorem dX9_count_143 : decode cX9_count 143 = .ok (.ireturn, 1) := by decide +kernel
theorem dX9_count_144 : decode cX9_count 144 = .ok (.iconst (-1), 1) := by decide +kernel
theorem dX9_count_145 : decode cX9_count 145 = .ok (.ireturn, 1) := by decide +kernel
theorem dL_look_0 : decode cL_look 0 = .ok (.aload_n 3, 1) := by decide +kernel
theorem dL_look_1 : decode cL_look 1 = .ok (.iconst 0, 1) := by decide +kernel
theorem dL_look_2 : decode cL_look 2 = .ok (.aload_n 0, 1) := by decide +kernel
theorem dL_look_3 : decode cL_look 3 = .ok (.iload_n 1, 1) := by decide +kernel
theorem dL_look_4 : decode cL_look 4 = .ok (.iload_n 2, 1) := by decide +kernel
theorem dL_look_5 : decode cL_look 5 = .ok (.invokevirtual 7, 3) := by decide +kernel
theorem dL_look_8 : decode cL_look 8 = .ok (.i2l, 1) := by decide +kernel
theorem dL_look_9 : decode cL_look 9 = .ok (.lastore, 1) := by decide +kernel
theorem dL_look_10 : decode cL_look 10 = .ok (.goto 7, 3) := by decide +kernel
theorem dL_look_13 : decode cL_look 13 = .ok (.astore 4, 2) := by decide +kernel
theorem dL_look_15 : decode cL_look 15 = .ok (.iconst 1, 1) := by decide +kernel
theorem dL_look_16 : decode cL_look 16 = .ok (.ireturn, 1) := by decide +kernel
theorem dL_look_17 : decode cL_look 17 = .ok (.iconst 0, 1) := by decide +kernel
theorem dL_look_18 : decode cL_look 18 = .ok (.ireturn, 1) := by decide +kernel
theorem dL_law_0 : decode cL_law 0 = .ok (.new 8, 3) := by decide +kernel
theorem dL_law_3 : decode cL_law 3 = .ok (.dup, 1) := by decide +kernel
theorem dL_law_4 : decode cL_law 4 = .ok (.invokespecial 15, 3) := by decide +kernel
theorem dL_law_7 : decode cL_law 7 = .ok (.astore_n 1, 1) := by decide +kernel
theorem dL_law_8 : decode cL_law 8 = .ok (.new 16, 3) := by decide +kernel
theorem dL_law_11 : decode cL_law 11 = .ok (.dup, 1) := by decide +kernel
theorem dL_law_12 : decode cL_law 12 = .ok (.invokespecial 18, 3) := by decide +kernel
theorem dL_law_15 : decode cL_law 15 = .ok (.astore_n 2, 1) := by decide +kernel
theorem dL_law_16 : decode cL_law 16 = .ok (.iconst 1, 1) := by decide +kernel
theorem dL_law_17 : decode cL_law 17 = .ok (.newarray .long, 2) := by decide +kernel
theorem dL_law_19 : decode cL_law 19 = .ok (.astore_n 3, 1) := by decide +kernel
theorem dL_law_20 : decode cL_law 20 = .ok (.iconst 0, 1) := by decide +kernel
theorem dL_law_21 : decode cL_law 21 = .ok (.istore 4, 2) := by decide +kernel
theorem dL_law_23 : decode cL_law 23 = .ok (.iload 4, 2) := by decide +kernel
theorem dL_law_25 : decode cL_law 25 = .ok (.aload_n 0, 1) := by decide +kernel
theorem dL_law_26 : decode cL_law 26 = .ok (.arraylength, 1) := by decide +kernel
theorem dL_law_27 : decode cL_law 27 = .ok (.bipush 7, 2) := by decide +kernel
theorem dL_law_29 : decode cL_law 29 = .ok (.isub, 1) := by decide +kernel
theorem dL_law_30 : decode cL_law 30 = .ok (.if_icmp .gt 761, 3) := by decide +kernel
theorem dL_law_33 : decode cL_law 33 = .ok (.aload_n 0, 1) := by decide +kernel
theorem dL_law_34 : decode cL_law 34 = .ok (.iload 4, 2) := by decide +kernel
theorem dL_law_36 : decode cL_law 36 = .ok (.iaload, 1) := by decide +kernel
theorem dL_law_37 : decode cL_law 37 = .ok (.bipush 15, 2) := by decide +kernel
theorem dL_law_39 : decode cL_law 39 = .ok (.iand, 1) := by decide +kernel
theorem dL_law_40 : decode cL_law 40 = .ok (.tableswitch 745 0 13 #[72, 109, 196, 221, 368, 381, 418, 443, 492, 560, 609, 646, 683, 720], 72) := by decide +kernel
theorem dL_law_112 : decode cL_law 112 = .ok (.aload_n 1, 1) := by decide +kernel
theorem dL_law_113 : decode cL_law 113 = .ok (.aload_n 0, 1) := by decide +kernel
theorem dL_law_114 : decode cL_law 114 = .ok (.iload 4, 2) := by decide +kernel
theorem dL_law_116 : decode cL_law 116 = .ok (.iconst 1, 1) := by decide +kernel
theorem dL_law_117 : decode cL_law 117 = .ok (.iadd, 1) := by decide +kernel
theorem dL_law_118 : decode cL_law 118 = .ok (.iaload, 1) := by decide +kernel
theorem dL_law_119 : decode cL_law 119 = .ok (.aload_n 0, 1) := by decide +kernel
theorem dL_law_120 : decode cL_law 120 = .ok (.iload 4, 2) := by decide +kernel
theorem dL_law_122 : decode cL_law 122 = .ok (.iconst 2, 1) := by decide +kernel
theorem dL_law_123 : decode cL_law 123 = .ok (.iadd, 1) := by decide +kernel
theorem dL_law_124 : decode cL_law 124 = .ok (.iaload, 1) := by decide +kernel
theorem dL_law_125 : decode cL_law 125 = .ok (.invokevirtual 19, 3) := by decide +kernel
theorem dL_law_128 : decode cL_law 128 = .ok (.aload_n 2, 1) := by decide +kernel
theorem dL_law_129 : decode cL_law 129 = .ok (.aload_n 0, 1) := by decide +kernel
theorem dL_law_130 : decode cL_law 130 = .ok (.iload 4, 2) := by decide +kernel
theorem dL_law_132 : decode cL_law 132 = .ok (.iconst 1, 1) := by decide +kernel
theorem dL_law_133 : decode cL_law 133 = .ok (.iadd, 1) := by decide +kernel
theorem dL_law_134 : decode cL_law 134 = .ok (.iaload, 1) := by decide +kernel
theorem dL_law_135 : decode cL_law 135 = .ok (.aload_n 0, 1) := by decide +kernel
theorem dL_law_136 : decode cL_law 136 = .ok (.iload 4, 2) := by decide +kernel
theorem dL_law_138 : decode cL_law 138 = .ok (.iconst 2, 1) := by decide +kernel
theorem dL_law_139 : decode cL_law 139 = .ok (.iadd, 1) := by decide +kernel
theorem dL_law_140 : decode cL_law 140 = .ok (.iaload, 1) := by decide +kernel
theorem dL_law_141 : decode cL_law 141 = .ok (.invokevirtual 22, 3) := by decide +kernel
theorem dL_law_144 : decode cL_law 144 = .ok (.if_icmp .eq 641, 3) := by decide +kernel
theorem dL_law_147 : decode cL_law 147 = .ok (.iconst 0, 1) := by decide +kernel
theorem dL_law_148 : decode cL_law 148 = .ok (.ireturn, 1) := by decide +kernel
theorem dL_law_149 : decode cL_law 149 = .ok (.aload_n 1, 1) := by decide +kernel
theorem dL_law_150 : decode cL_law 150 = .ok (.aload_n 0, 1) := by decide +kernel
theorem dL_law_151 : decode cL_law 151 = .ok (.iload 4, 2) := by decide +kernel
theorem dL_law_153 : decode cL_law 153 = .ok (.iconst 1, 1) := by decide +kernel
theorem dL_law_154 : decode cL_law 154 = .ok (.iadd, 1) := by decide +kernel
theorem dL_law_155 : decode cL_law 155 = .ok (.iaload, 1) := by decide +kernel
theorem dL_law_156 : decode cL_law 156 = .ok (.aload_n 0, 1) := by decide +kernel
theorem dL_law_157 : decode cL_law 157 = .ok (.iload 4, 2) := by decide +kernel
theorem dL_law_159 : decode cL_law 159 = .ok (.iconst 2, 1) := by decide +kernel
theorem dL_law_160 : decode cL_law 160 = .ok (.iadd, 1) := by decide +kernel
theorem dL_law_161 : decode cL_law 161 = .ok (.iaload, 1) := by decide +kernel
theorem dL_law_162 : decode cL_law 162 = .ok (.aload_n 0, 1) := by decide +kernel
theorem dL_law_163 : decode cL_law 163 = .ok (.iload 4, 2) := by decide +kernel
theorem dL_law_165 : decode cL_law 165 = .ok (.iconst 3, 1) := by decide +kernel
theorem dL_law_166 : decode cL_law 166 = .ok (.iadd, 1) := by decide +kernel
theorem dL_law_167 : decode cL_law 167 = .ok (.iaload, 1) := by decide +kernel
theorem dL_law_168 : decode cL_law 168 = .ok (.aload_n 0, 1) := by decide +kernel
theorem dL_law_169 : decode cL_law 169 = .ok (.iload 4, 2) := by decide +kernel
theorem dL_law_171 : decode cL_law 171 = .ok (.iconst 4, 1) := by decide +kernel
theorem dL_law_172 : decode cL_law 172 = .ok (.iadd, 1) := by decide +kernel
theorem dL_law_173 : decode cL_law 173 = .ok (.iaload, 1) := by decide +kernel
theorem dL_law_174 : decode cL_law 174 = .ok (.aload_n 0, 1) := by decide +kernel
theorem dL_law_175 : decode cL_law 175 = .ok (.iload 4, 2) := by decide +kernel
theorem dL_law_177 : decode cL_law 177 = .ok (.iconst 5, 1) := by decide +kernel
theorem dL_law_178 : decode cL_law 178 = .ok (.iadd, 1) := by decide +kernel
theorem dL_law_179 : decode cL_law 179 = .ok (.iaload, 1) := by decide +kernel
theorem dL_law_180 : decode cL_law 180 = .ok (.aload_n 0, 1) := by decide +kernel
theorem dL_law_181 : decode cL_law 181 = .ok (.iload 4, 2) := by decide +kernel
theorem dL_law_183 : decode cL_law 183 = .ok (.bipush 6, 2) := by decide +kernel
theorem dL_law_185 : decode cL_law 185 = .ok (.iadd, 1) := by decide +kernel
theorem dL_law_186 : decode cL_law 186 = .ok (.iaload, 1) := by decide +kernel
theorem dL_law_187 : decode cL_law 187 = .ok (.invokevirtual 23, 3) := by decide +kernel
theorem dL_law_190 : decode cL_law 190 = .ok (.aload_n 2, 1) := by decide +kernel
theorem dL_law_191 : decode cL_law 191 = .ok (.aload_n 0, 1) := by decide +kernel
theorem dL_law_192 : decode cL_law 192 = .ok (.iload 4, 2) := by decide +kernel
theorem dL_law_194 : decode cL_law 194 = .ok (.iconst 1, 1) := by decide +kernel
theorem dL_law_195 : decode cL_law 195 = .ok (.iadd, 1) := by decide +kernel
theorem dL_law_196 : decode cL_law 196 = .ok (.iaload, 1) := by decide +kernel
theorem dL_law_197 : decode cL_law 197 = .ok (.aload_n 0, 1) := by decide +kernel
theorem dL_law_198 : decode cL_law 198 = .ok (.iload 4, 2) := by decide +kernel
theorem dL_law_200 : decode cL_law 200 = .ok (.iconst 2, 1) := by decide +kernel
theorem dL_law_201 : decode cL_law 201 = .ok (.iadd, 1) := by decide +kernel
theorem dL_law_202 : decode cL_law 202 = .ok (.iaload, 1) := by decide +kernel
theorem dL_law_203 : decode cL_law 203 = .ok (.aload_n 0, 1) := by decide +kernel
theorem dL_law_204 : decode cL_law 204 = .ok (.iload 4, 2) := by decide +kernel
theorem dL_law_206 : decode cL_law 206 = .ok (.iconst 3, 1) := by decide +kernel
theorem dL_law_207 : decode cL_law 207 = .ok (.iadd, 1) := by decide +kernel
theorem dL_law_208 : decode cL_law 208 = .ok (.iaload, 1) := by decide +kernel
theorem dL_law_209 : decode cL_law 209 = .ok (.aload_n 0, 1) := by decide +kernel
theorem dL_law_210 : decode cL_law 210 = .ok (.iload 4, 2) := by decide +kernel
theorem dL_law_212 : decode cL_law 212 = .ok (.iconst 4, 1) := by decide +kernel
theorem dL_law_213 : decode cL_law 213 = .ok (.iadd, 1) := by decide +kernel
theorem dL_law_214 : decode cL_law 214 = .ok (.iaload, 1) := by decide +kernel
theorem dL_law_215 : decode cL_law 215 = .ok (.aload_n 0, 1) := by decide +kernel
theorem dL_law_216 : decode cL_law 216 = .ok (.iload 4, 2) := by decide +kernel
theorem dL_law_218 : decode cL_law 218 = .ok (.iconst 5, 1) := by decide +kernel
theorem dL_law_219 : decode cL_law 219 = .ok (.iadd, 1) := by decide +kernel
theorem dL_law_220 : decode cL_law 220 = .ok (.iaload, 1) := by decide +kernel
theorem dL_law_221 : decode cL_law 221 = .ok (.aload_n 0, 1) := by decide +kernel
theorem dL_law_222 : decode cL_law 222 = .ok (.iload 4, 2) := by decide +kernel
theorem dL_law_224 : decode cL_law 224 = .ok (.bipush 6, 2) := by decide +kernel
theorem dL_law_226 : decode cL_law 226 = .ok (.iadd, 1) := by decide +kernel
theorem dL_law_227 : decode cL_law 227 = .ok (.iaload, 1) := by decide +kernel
theorem dL_law_228 : decode cL_law 228 = .ok (.invokevirtual 27, 3) := by decide +kernel
theorem dL_law_231 : decode cL_law 231 = .ok (.if_icmp .eq 554, 3) := by decide +kernel
theorem dL_law_234 : decode cL_law 234 = .ok (.iconst 0, 1) := by decide +kernel
theorem dL_law_235 : decode cL_law 235 = .ok (.ireturn, 1) := by decide +kernel
theorem dL_law_236 : decode cL_law 236 = .ok (.aload_n 1, 1) := by decide +kernel
theorem dL_law_237 : decode cL_law 237 = .ok (.aload_n 0, 1) := by decide +kernel
theorem dL_law_238 : decode cL_law 238 = .ok (.iload 4, 2) := by decide +kernel
theorem dL_law_240 : decode cL_law 240 = .ok (.iconst 1, 1) := by decide +kernel
theorem dL_law_241 : decode cL_law 241 = .ok (.iadd, 1) := by decide +kernel
theorem dL_law_242 : decode cL_law 242 = .ok (.iaload, 1) := by decide +kernel
theorem dL_law_243 : decode cL_law 243 = .ok (.invokevirtual 28, 3) := by decide +kernel
theorem dL_law_246 : decode cL_law 246 = .ok (.aload_n 2, 1) := by decide +kernel
theorem dL_law_247 : decode cL_law 247 = .ok (.aload_n 0, 1) := by decide +kernel
theorem dL_law_248 : decode cL_law 248 = .ok (.iload 4, 2) := by decide +kernel
theorem dL_law_250 : decode cL_law 250 = .ok (.iconst 1, 1) := by decide +kernel
theorem dL_law_251 : decode cL_law 251 = .ok (.iadd, 1) := by decide +kernel
theorem dL_law_252 : decode cL_law 252 = .ok (.iaload, 1) := by decide +kernel
theorem dL_law_253 : decode cL_law 253 = .ok (.invokevirtual 32, 3) := by decide +kernel
theorem dL_law_256 : decode cL_law 256 = .ok (.if_icmp .eq 529, 3) := by decide +kernel
theorem dL_law_259 : decode cL_law 259 = .ok (.iconst 0, 1) := by decide +kernel
theorem dL_law_260 : decode cL_law 260 = .ok (.ireturn, 1) := by decide +kernel
theorem dL_law_261 : decode cL_law 261 = .ok (.aload_n 1, 1) := by decide +kernel
theorem dL_law_262 : decode cL_law 262 = .ok (.aload_n 0, 1) := by decide +kernel
theorem dL_law_263 : decode cL_law 263 = .ok (.iload 4, 2) := by decide +kernel
theorem dL_law_265 : decode cL_law 265 = .ok (.iconst 1, 1) := by decide +kernel
theorem dL_law_266 : decode cL_law 266 = .ok (.iadd, 1) := by decide +kernel
theorem dL_law_267 : decode cL_law 267 = .ok (.iaload, 1) := by decide +kernel
theorem dL_law_268 : decode cL_law 268 = .ok (.i2l, 1) := by decide +kernel
theorem dL_law_269 : decode cL_law 269 = .ok (.bipush 32, 2) := by decide +kernel
theorem dL_law_271 : decode cL_law 271 = .ok (.lshl, 1) := by decide +kernel
theorem dL_law_272 : decode cL_law 272 = .ok (.aload_n 0, 1) := by decide +kernel
theorem dL_law_273 : decode cL_law 273 = .ok (.iload 4, 2) := by decide +kernel
theorem dL_law_275 : decode cL_law 275 = .ok (.iconst 2, 1) := by decide +kernel
theorem dL_law_276 : decode cL_law 276 = .ok (.iadd, 1) := by decide +kernel
theorem dL_law_277 : decode cL_law 277 = .ok (.iaload, 1) := by decide +kernel
theorem dL_law_278 : decode cL_law 278 = .ok (.i2l, 1) := by decide +kernel
theorem dL_law_279 : decode cL_law 279 = .ok (.ldc2_w 33, 3) := by decide +kernel
theorem dL_law_282 : decode cL_law 282 = .ok (.land, 1) := by decide +kernel
theorem dL_law_283 : decode cL_law 283 = .ok (.lor, 1) := by decide +kernel
theorem dL_law_284 : decode cL_law 284 = .ok (.aload_n 0, 1) := by decide +kernel
theorem dL_law_285 : decode cL_law 285 = .ok (.iload 4, 2) := by decide +kernel
theorem dL_law_287 : decode cL_law 287 = .ok (.iconst 3, 1) := by decide +kernel
theorem dL_law_288 : decode cL_law 288 = .ok (.iadd, 1) := by decide +kernel
theorem dL_law_289 : decode cL_law 289 = .ok (.iaload, 1) := by decide +kernel
theorem dL_law_290 : decode cL_law 290 = .ok (.i2l, 1) := by decide +kernel
theorem dL_law_291 : decode cL_law 291 = .ok (.bipush 32, 2) := by decide +kernel
theorem dL_law_293 : decode cL_law 293 = .ok (.lshl, 1) := by decide +kernel
theorem dL_law_294 : decode cL_law 294 = .ok (.aload_n 0, 1) := by decide +kernel
theorem dL_law_295 : decode cL_law 295 = .ok (.iload 4, 2) := by decide +kernel
theorem dL_law_297 : decode cL_law 297 = .ok (.iconst 4, 1) := by decide +kernel
theorem dL_law_298 : decode cL_law 298 = .ok (.iadd, 1) := by decide +kernel
theorem dL_law_299 : decode cL_law 299 = .ok (.iaload, 1) := by decide +kernel
theorem dL_law_300 : decode cL_law 300 = .ok (.i2l, 1) := by decide +kernel
theorem dL_law_301 : decode cL_law 301 = .ok (.ldc2_w 33, 3) := by decide +kernel
theorem dL_law_304 : decode cL_law 304 = .ok (.land, 1) := by decide +kernel
theorem dL_law_305 : decode cL_law 305 = .ok (.lor, 1) := by decide +kernel
theorem dL_law_306 : decode cL_law 306 = .ok (.aload_n 0, 1) := by decide +kernel
theorem dL_law_307 : decode cL_law 307 = .ok (.iload 4, 2) := by decide +kernel
theorem dL_law_309 : decode cL_law 309 = .ok (.iconst 5, 1) := by decide +kernel
theorem dL_law_310 : decode cL_law 310 = .ok (.iadd, 1) := by decide +kernel
theorem dL_law_311 : decode cL_law 311 = .ok (.iaload, 1) := by decide +kernel
theorem dL_law_312 : decode cL_law 312 = .ok (.i2l, 1) := by decide +kernel
theorem dL_law_313 : decode cL_law 313 = .ok (.bipush 32, 2) := by decide +kernel
theorem dL_law_315 : decode cL_law 315 = .ok (.lshl, 1) := by decide +kernel
theorem dL_law_316 : decode cL_law 316 = .ok (.aload_n 0, 1) := by decide +kernel
theorem dL_law_317 : decode cL_law 317 = .ok (.iload 4, 2) := by decide +kernel
theorem dL_law_319 : decode cL_law 319 = .ok (.bipush 6, 2) := by decide +kernel
theorem dL_law_321 : decode cL_law 321 = .ok (.iadd, 1) := by decide +kernel
theorem dL_law_322 : decode cL_law 322 = .ok (.iaload, 1) := by decide +kernel
theorem dL_law_323 : decode cL_law 323 = .ok (.i2l, 1) := by decide +kernel
theorem dL_law_324 : decode cL_law 324 = .ok (.ldc2_w 33, 3) := by decide +kernel
theorem dL_law_327 : decode cL_law 327 = .ok (.land, 1) := by decide +kernel
theorem dL_law_328 : decode cL_law 328 = .ok (.lor, 1) := by decide +kernel
theorem dL_law_329 : decode cL_law 329 = .ok (.invokevirtual 35, 3) := by decide +kernel
theorem dL_law_332 : decode cL_law 332 = .ok (.aload_n 2, 1) := by decide +kernel
theorem dL_law_333 : decode cL_law 333 = .ok (.aload_n 0, 1) := by decide +kernel
theorem dL_law_334 : decode cL_law 334 = .ok (.iload 4, 2) := by decide +kernel
theorem dL_law_336 : decode cL_law 336 = .ok (.iconst 1, 1) := by decide +kernel
theorem dL_law_337 : decode cL_law 337 = .ok (.iadd, 1) := by decide +kernel
theorem dL_law_338 : decode cL_law 338 = .ok (.iaload, 1) := by decide +kernel
theorem dL_law_339 : decode cL_law 339 = .ok (.i2l, 1) := by decide +kernel
theorem dL_law_340 : decode cL_law 340 = .ok (.bipush 32, 2) := by decide +kernel
theorem dL_law_342 : decode cL_law 342 = .ok (.lshl, 1) := by decide +kernel
theorem dL_law_343 : decode cL_law 343 = .ok (.aload_n 0, 1) := by decide +kernel
theorem dL_law_344 : decode cL_law 344 = .ok (.iload 4, 2) := by decide +kernel
theorem dL_law_346 : decode cL_law 346 = .ok (.iconst 2, 1) := by decide +kernel
theorem dL_law_347 : decode cL_law 347 = .ok (.iadd, 1) := by decide +kernel
theorem dL_law_348 : decode cL_law 348 = .ok (.iaload, 1) := by decide +kernel
theorem dL_law_349 : decode cL_law 349 = .ok (.i2l, 1) := by decide +kernel
theorem dL_law_350 : decode cL_law 350 = .ok (.ldc2_w 33, 3) := by decide +kernel
theorem dL_law_353 : decode cL_law 353 = .ok (.land, 1) := by decide +kernel
theorem dL_law_354 : decode cL_law 354 = .ok (.lor, 1) := by decide +kernel
theorem dL_law_355 : decode cL_law 355 = .ok (.aload_n 0, 1) := by decide +kernel
theorem dL_law_356 : decode cL_law 356 = .ok (.iload 4, 2) := by decide +kernel
theorem dL_law_358 : decode cL_law 358 = .ok (.iconst 3, 1) := by decide +kernel
theorem dL_law_359 : decode cL_law 359 = .ok (.iadd, 1) := by decide +kernel
theorem dL_law_360 : decode cL_law 360 = .ok (.iaload, 1) := by decide +kernel
theorem dL_law_361 : decode cL_law 361 = .ok (.i2l, 1) := by decide +kernel
theorem dL_law_362 : decode cL_law 362 = .ok (.bipush 32, 2) := by decide +kernel
theorem dL_law_364 : decode cL_law 364 = .ok (.lshl, 1) := by decide +kernel
theorem dL_law_365 : decode cL_law 365 = .ok (.aload_n 0, 1) := by decide +kernel
theorem dL_law_366 : decode cL_law 366 = .ok (.iload 4, 2) := by decide +kernel
theorem dL_law_368 : decode cL_law 368 = .ok (.iconst 4, 1) := by decide +kernel
theorem dL_law_369 : decode cL_law 369 = .ok (.iadd, 1) := by decide +kernel
theorem dL_law_370 : decode cL_law 370 = .ok (.iaload, 1) := by decide +kernel
theorem dL_law_371 : decode cL_law 371 = .ok (.i2l, 1) := by decide +kernel
theorem dL_law_372 : decode cL_law 372 = .ok (.ldc2_w 33, 3) := by decide +kernel
theorem dL_law_375 : decode cL_law 375 = .ok (.land, 1) := by decide +kernel
theorem dL_law_376 : decode cL_law 376 = .ok (.lor, 1) := by decide +kernel
theorem dL_law_377 : decode cL_law 377 = .ok (.aload_n 0, 1) := by decide +kernel
theorem dL_law_378 : decode cL_law 378 = .ok (.iload 4, 2) := by decide +kernel
theorem dL_law_380 : decode cL_law 380 = .ok (.iconst 5, 1) := by decide +kernel
theorem dL_law_381 : decode cL_law 381 = .ok (.iadd, 1) := by decide +kernel
theorem dL_law_382 : decode cL_law 382 = .ok (.iaload, 1) := by decide +kernel
theorem dL_law_383 : decode cL_law 383 = .ok (.i2l, 1) := by decide +kernel
theorem dL_law_384 : decode cL_law 384 = .ok (.bipush 32, 2) := by decide +kernel
theorem dL_law_386 : decode cL_law 386 = .ok (.lshl, 1) := by decide +kernel
theorem dL_law_387 : decode cL_law 387 = .ok (.aload_n 0, 1) := by decide +kernel
theorem dL_law_388 : decode cL_law 388 = .ok (.iload 4, 2) := by decide +kernel
theorem dL_law_390 : decode cL_law 390 = .ok (.bipush 6, 2) := by decide +kernel
theorem dL_law_392 : decode cL_law 392 = .ok (.iadd, 1) := by decide +kernel
theorem dL_law_393 : decode cL_law 393 = .ok (.iaload, 1) := by decide +kernel
theorem dL_law_394 : decode cL_law 394 = .ok (.i2l, 1) := by decide +kernel
theorem dL_law_395 : decode cL_law 395 = .ok (.ldc2_w 33, 3) := by decide +kernel
theorem dL_law_398 : decode cL_law 398 = .ok (.land, 1) := by decide +kernel
theorem dL_law_399 : decode cL_law 399 = .ok (.lor, 1) := by decide +kernel
theorem dL_law_400 : decode cL_law 400 = .ok (.invokevirtual 39, 3) := by decide +kernel
theorem dL_law_403 : decode cL_law 403 = .ok (.if_icmp .eq 382, 3) := by decide +kernel
theorem dL_law_406 : decode cL_law 406 = .ok (.iconst 0, 1) := by decide +kernel
theorem dL_law_407 : decode cL_law 407 = .ok (.ireturn, 1) := by decide +kernel
theorem dL_law_408 : decode cL_law 408 = .ok (.aload_n 1, 1) := by decide +kernel
theorem dL_law_409 : decode cL_law 409 = .ok (.invokevirtual 40, 3) := by decide +kernel
theorem dL_law_412 : decode cL_law 412 = .ok (.aload_n 2, 1) := by decide +kernel
theorem dL_law_413 : decode cL_law 413 = .ok (.invokevirtual 44, 3) := by decide +kernel
theorem dL_law_416 : decode cL_law 416 = .ok (.if_icmp .eq 369, 3) := by decide +kernel
theorem dL_law_419 : decode cL_law 419 = .ok (.iconst 0, 1) := by decide +kernel
theorem dL_law_420 : decode cL_law 420 = .ok (.ireturn, 1) := by decide +kernel
theorem dL_law_421 : decode cL_law 421 = .ok (.aload_n 1, 1) := by decide +kernel
theorem dL_law_422 : decode cL_law 422 = .ok (.aload_n 0, 1) := by decide +kernel
theorem dL_law_423 : decode cL_law 423 = .ok (.iload 4, 2) := by decide +kernel
theorem dL_law_425 : decode cL_law 425 = .ok (.iconst 1, 1) := by decide +kernel
theorem dL_law_426 : decode cL_law 426 = .ok (.iadd, 1) := by decide +kernel
theorem dL_law_427 : decode cL_law 427 = .ok (.iaload, 1) := by decide +kernel
theorem dL_law_428 : decode cL_law 428 = .ok (.aload_n 0, 1) := by decide +kernel
theorem dL_law_429 : decode cL_law 429 = .ok (.iload 4, 2) := by decide +kernel
theorem dL_law_431 : decode cL_law 431 = .ok (.iconst 2, 1) := by decide +kernel
theorem dL_law_432 : decode cL_law 432 = .ok (.iadd, 1) := by decide +kernel
theorem dL_law_433 : decode cL_law 433 = .ok (.iaload, 1) := by decide +kernel
theorem dL_law_434 : decode cL_law 434 = .ok (.invokevirtual 45, 3) := by decide +kernel
theorem dL_law_437 : decode cL_law 437 = .ok (.aload_n 2, 1) := by decide +kernel
theorem dL_law_438 : decode cL_law 438 = .ok (.aload_n 0, 1) := by decide +kernel
theorem dL_law_439 : decode cL_law 439 = .ok (.iload 4, 2) := by decide +kernel
theorem dL_law_441 : decode cL_law 441 = .ok (.iconst 1, 1) := by decide +kernel
theorem dL_law_442 : decode cL_law 442 = .ok (.iadd, 1) := by decide +kernel
theorem dL_law_443 : decode cL_law 443 = .ok (.iaload, 1) := by decide +kernel
theorem dL_law_444 : decode cL_law 444 = .ok (.aload_n 0, 1) := by decide +kernel
theorem dL_law_445 : decode cL_law 445 = .ok (.iload 4, 2) := by decide +kernel
theorem dL_law_447 : decode cL_law 447 = .ok (.iconst 2, 1) := by decide +kernel
theorem dL_law_448 : decode cL_law 448 = .ok (.iadd, 1) := by decide +kernel
theorem dL_law_449 : decode cL_law 449 = .ok (.iaload, 1) := by decide +kernel
theorem dL_law_450 : decode cL_law 450 = .ok (.invokevirtual 48, 3) := by decide +kernel
theorem dL_law_453 : decode cL_law 453 = .ok (.if_icmp .eq 332, 3) := by decide +kernel
theorem dL_law_456 : decode cL_law 456 = .ok (.iconst 0, 1) := by decide +kernel
theorem dL_law_457 : decode cL_law 457 = .ok (.ireturn, 1) := by decide +kernel
theorem dL_law_458 : decode cL_law 458 = .ok (.aload_n 1, 1) := by decide +kernel
theorem dL_law_459 : decode cL_law 459 = .ok (.aload_n 0, 1) := by decide +kernel
theorem dL_law_460 : decode cL_law 460 = .ok (.iload 4, 2) := by decide +kernel
theorem dL_law_462 : decode cL_law 462 = .ok (.iconst 1, 1) := by decide +kernel
theorem dL_law_463 : decode cL_law 463 = .ok (.iadd, 1) := by decide +kernel
theorem dL_law_464 : decode cL_law 464 = .ok (.iaload, 1) := by decide +kernel
theorem dL_law_465 : decode cL_law 465 = .ok (.invokevirtual 49, 3) := by decide +kernel
theorem dL_law_468 : decode cL_law 468 = .ok (.aload_n 2, 1) := by decide +kernel
theorem dL_law_469 : decode cL_law 469 = .ok (.aload_n 0, 1) := by decide +kernel
theorem dL_law_470 : decode cL_law 470 = .ok (.iload 4, 2) := by decide +kernel
theorem dL_law_472 : decode cL_law 472 = .ok (.iconst 1, 1) := by decide +kernel
theorem dL_law_473 : decode cL_law 473 = .ok (.iadd, 1) := by decide +kernel
theorem dL_law_474 : decode cL_law 474 = .ok (.iaload, 1) := by decide +kernel
theorem dL_law_475 : decode cL_law 475 = .ok (.invokevirtual 52, 3) := by decide +kernel
theorem dL_law_478 : decode cL_law 478 = .ok (.if_icmp .eq 307, 3) := by decide +kernel
theorem dL_law_481 : decode cL_law 481 = .ok (.iconst 0, 1) := by decide +kernel
theorem dL_law_482 : decode cL_law 482 = .ok (.ireturn, 1) := by decide +kernel
theorem dL_law_483 : decode cL_law 483 = .ok (.aload_n 1, 1) := by decide +kernel
theorem dL_law_484 : decode cL_law 484 = .ok (.aload_n 0, 1) := by decide +kernel
theorem dL_law_485 : decode cL_law 485 = .ok (.iload 4, 2) := by decide +kernel
theorem dL_law_487 : decode cL_law 487 = .ok (.iconst 1, 1) := by decide +kernel
theorem dL_law_488 : decode cL_law 488 = .ok (.iadd, 1) := by decide +kernel
theorem dL_law_489 : decode cL_law 489 = .ok (.iaload, 1) := by decide +kernel
theorem dL_law_490 : decode cL_law 490 = .ok (.aload_n 0, 1) := by decide +kernel
theorem dL_law_491 : decode cL_law 491 = .ok (.iload 4, 2) := by decide +kernel
theorem dL_law_493 : decode cL_law 493 = .ok (.iconst 2, 1) := by decide +kernel
theorem dL_law_494 : decode cL_law 494 = .ok (.iadd, 1) := by decide +kernel
theorem dL_law_495 : decode cL_law 495 = .ok (.iaload, 1) := by decide +kernel
theorem dL_law_496 : decode cL_law 496 = .ok (.aload_n 0, 1) := by decide +kernel
theorem dL_law_497 : decode cL_law 497 = .ok (.iload 4, 2) := by decide +kernel
theorem dL_law_499 : decode cL_law 499 = .ok (.iconst 3, 1) := by decide +kernel
theorem dL_law_500 : decode cL_law 500 = .ok (.iadd, 1) := by decide +kernel
theorem dL_law_501 : decode cL_law 501 = .ok (.iaload, 1) := by decide +kernel
theorem dL_law_502 : decode cL_law 502 = .ok (.invokevirtual 53, 3) := by decide +kernel
theorem dL_law_505 : decode cL_law 505 = .ok (.aload_n 2, 1) := by decide +kernel
theorem dL_law_506 : decode cL_law 506 = .ok (.aload_n 0, 1) := by decide +kernel
theorem dL_law_507 : decode cL_law 507 = .ok (.iload 4, 2) := by decide +kernel
theorem dL_law_509 : decode cL_law 509 = .ok (.iconst 1, 1) := by decide +kernel
theorem dL_law_510 : decode cL_law 510 = .ok (.iadd, 1) := by decide +kernel
theorem dL_law_511 : decode cL_law 511 = .ok (.iaload, 1) := by decide +kernel
theorem dL_law_512 : decode cL_law 512 = .ok (.aload_n 0, 1) := by decide +kernel
theorem dL_law_513 : decode cL_law 513 = .ok (.iload 4, 2) := by decide +kernel
theorem dL_law_515 : decode cL_law 515 = .ok (.iconst 2, 1) := by decide +kernel
theorem dL_law_516 : decode cL_law 516 = .ok (.iadd, 1) := by decide +kernel
theorem dL_law_517 : decode cL_law 517 = .ok (.iaload, 1) := by decide +kernel
theorem dL_law_518 : decode cL_law 518 = .ok (.aload_n 0, 1) := by decide +kernel
theorem dL_law_519 : decode cL_law 519 = .ok (.iload 4, 2) := by decide +kernel
theorem dL_law_521 : decode cL_law 521 = .ok (.iconst 3, 1) := by decide +kernel
theorem dL_law_522 : decode cL_law 522 = .ok (.iadd, 1) := by decide +kernel
theorem dL_law_523 : decode cL_law 523 = .ok (.iaload, 1) := by decide +kernel
theorem dL_law_524 : decode cL_law 524 = .ok (.invokevirtual 57, 3) := by decide +kernel
theorem dL_law_527 : decode cL_law 527 = .ok (.if_icmp .eq 258, 3) := by decide +kernel
theorem dL_law_530 : decode cL_law 530 = .ok (.iconst 0, 1) := by decide +kernel
theorem dL_law_531 : decode cL_law 531 = .ok (.ireturn, 1) := by decide +kernel
theorem dL_law_532 : decode cL_law 532 = .ok (.aload_n 1, 1) := by decide +kernel
theorem dL_law_533 : decode cL_law 533 = .ok (.aload_n 0, 1) := by decide +kernel
theorem dL_law_534 : decode cL_law 534 = .ok (.iload 4, 2) := by decide +kernel
theorem dL_law_536 : decode cL_law 536 = .ok (.iconst 1, 1) := by decide +kernel
theorem dL_law_537 : decode cL_law 537 = .ok (.iadd, 1) := by decide +kernel
theorem dL_law_538 : decode cL_law 538 = .ok (.iaload, 1) := by decide +kernel
theorem dL_law_539 : decode cL_law 539 = .ok (.aload_n 0, 1) := by decide +kernel
theorem dL_law_540 : decode cL_law 540 = .ok (.iload 4, 2) := by decide +kernel
theorem dL_law_542 : decode cL_law 542 = .ok (.iconst 2, 1) := by decide +kernel
theorem dL_law_543 : decode cL_law 543 = .ok (.iadd, 1) := by decide +kernel
theorem dL_law_544 : decode cL_law 544 = .ok (.iaload, 1) := by decide +kernel
theorem dL_law_545 : decode cL_law 545 = .ok (.aload_n 3, 1) := by decide +kernel
theorem dL_law_546 : decode cL_law 546 = .ok (.invokestatic 58, 3) := by decide +kernel
theorem dL_law_549 : decode cL_law 549 = .ok (.istore 5, 2) := by decide +kernel
theorem dL_law_551 : decode cL_law 551 = .ok (.aload_n 2, 1) := by decide +kernel
theorem dL_law_552 : decode cL_law 552 = .ok (.aload_n 0, 1) := by decide +kernel
theorem dL_law_553 : decode cL_law 553 = .ok (.iload 4, 2) := by decide +kernel
theorem dL_law_555 : decode cL_law 555 = .ok (.iconst 1, 1) := by decide +kernel
theorem dL_law_556 : decode cL_law 556 = .ok (.iadd, 1) := by decide +kernel
theorem dL_law_557 : decode cL_law 557 = .ok (.iaload, 1) := by decide +kernel
theorem dL_law_558 : decode cL_law 558 = .ok (.aload_n 0, 1) := by decide +kernel
theorem dL_law_559 : decode cL_law 559 = .ok (.iload 4, 2) := by decide +kernel
theorem dL_law_561 : decode cL_law 561 = .ok (.iconst 2, 1) := by decide +kernel
theorem dL_law_562 : decode cL_law 562 = .ok (.iadd, 1) := by decide +kernel
theorem dL_law_563 : decode cL_law 563 = .ok (.iaload, 1) := by decide +kernel
theorem dL_law_564 : decode cL_law 564 = .ok (.invokevirtual 63, 3) := by decide +kernel
theorem dL_law_567 : decode cL_law 567 = .ok (.istore 6, 2) := by decide +kernel
theorem dL_law_569 : decode cL_law 569 = .ok (.aload_n 2, 1) := by decide +kernel
theorem dL_law_570 : decode cL_law 570 = .ok (.invokevirtual 64, 3) := by decide +kernel
theorem dL_law_573 : decode cL_law 573 = .ok (.iload 5, 2) := by decide +kernel
theorem dL_law_575 : decode cL_law 575 = .ok (.if_icmp .eq 5, 3) := by decide +kernel
theorem dL_law_578 : decode cL_law 578 = .ok (.iconst 0, 1) := by decide +kernel
theorem dL_law_579 : decode cL_law 579 = .ok (.ireturn, 1) := by decide +kernel
theorem dL_law_580 : decode cL_law 580 = .ok (.iload 5, 2) := by decide +kernel
theorem dL_law_582 : decode cL_law 582 = .ok (.ifCond .ne 15, 3) := by decide +kernel
theorem dL_law_585 : decode cL_law 585 = .ok (.aload_n 3, 1) := by decide +kernel
theorem dL_law_586 : decode cL_law 586 = .ok (.iconst 0, 1) := by decide +kernel
theorem dL_law_587 : decode cL_law 587 = .ok (.laload, 1) := by decide +kernel
theorem dL_law_588 : decode cL_law 588 = .ok (.iload 6, 2) := by decide +kernel
theorem dL_law_590 : decode cL_law 590 = .ok (.i2l, 1) := by decide +kernel
theorem dL_law_591 : decode cL_law 591 = .ok (.lcmp, 1) := by decide +kernel
theorem dL_law_592 : decode cL_law 592 = .ok (.ifCond .eq 5, 3) := by decide +kernel
theorem dL_law_595 : decode cL_law 595 = .ok (.iconst 0, 1) := by decide +kernel
theorem dL_law_596 : decode cL_law 596 = .ok (.ireturn, 1) := by decide +kernel
theorem dL_law_597 : decode cL_law 597 = .ok (.goto 188, 3) := by decide +kernel
theorem dL_law_600 : decode cL_law 600 = .ok (.aload_n 1, 1) := by decide +kernel
theorem dL_law_601 : decode cL_law 601 = .ok (.aload_n 0, 1) := by decide +kernel
theorem dL_law_602 : decode cL_law 602 = .ok (.iload 4, 2) := by decide +kernel
theorem dL_law_604 : decode cL_law 604 = .ok (.iconst 1, 1) := by decide +kernel
theorem dL_law_605 : decode cL_law 605 = .ok (.iadd, 1) := by decide +kernel
theorem dL_law_606 : decode cL_law 606 = .ok (.iaload, 1) := by decide +kernel
theorem dL_law_607 : decode cL_law 607 = .ok (.aload_n 0, 1) := by decide +kernel
theorem dL_law_608 : decode cL_law 608 = .ok (.iload 4, 2) := by decide +kernel
theorem dL_law_610 : decode cL_law 610 = .ok (.iconst 2, 1) := by decide +kernel
theorem dL_law_611 : decode cL_law 611 = .ok (.iadd, 1) := by decide +kernel
theorem dL_law_612 : decode cL_law 612 = .ok (.iaload, 1) := by decide +kernel
theorem dL_law_613 : decode cL_law 613 = .ok (.aload_n 0, 1) := by decide +kernel
theorem dL_law_614 : decode cL_law 614 = .ok (.iload 4, 2) := by decide +kernel
theorem dL_law_616 : decode cL_law 616 = .ok (.iconst 3, 1) := by decide +kernel
theorem dL_law_617 : decode cL_law 617 = .ok (.iadd, 1) := by decide +kernel
theorem dL_law_618 : decode cL_law 618 = .ok (.iaload, 1) := by decide +kernel
theorem dL_law_619 : decode cL_law 619 = .ok (.invokevirtual 67, 3) := by decide +kernel
theorem dL_law_622 : decode cL_law 622 = .ok (.aload_n 2, 1) := by decide +kernel
theorem dL_law_623 : decode cL_law 623 = .ok (.aload_n 0, 1) := by decide +kernel
theorem dL_law_624 : decode cL_law 624 = .ok (.iload 4, 2) := by decide +kernel
theorem dL_law_626 : decode cL_law 626 = .ok (.iconst 1, 1) := by decide +kernel
theorem dL_law_627 : decode cL_law 627 = .ok (.iadd, 1) := by decide +kernel
theorem dL_law_628 : decode cL_law 628 = .ok (.iaload, 1) := by decide +kernel
theorem dL_law_629 : decode cL_law 629 = .ok (.aload_n 0, 1) := by decide +kernel
theorem dL_law_630 : decode cL_law 630 = .ok (.iload 4, 2) := by decide +kernel
theorem dL_law_632 : decode cL_law 632 = .ok (.iconst 2, 1) := by decide +kernel
theorem dL_law_633 : decode cL_law 633 = .ok (.iadd, 1) := by decide +kernel
theorem dL_law_634 : decode cL_law 634 = .ok (.iaload, 1) := by decide +kernel
theorem dL_law_635 : decode cL_law 635 = .ok (.aload_n 0, 1) := by decide +kernel
theorem dL_law_636 : decode cL_law 636 = .ok (.iload 4, 2) := by decide +kernel
theorem dL_law_638 : decode cL_law 638 = .ok (.iconst 3, 1) := by decide +kernel
theorem dL_law_639 : decode cL_law 639 = .ok (.iadd, 1) := by decide +kernel
theorem dL_law_640 : decode cL_law 640 = .ok (.iaload, 1) := by decide +kernel
theorem dL_law_641 : decode cL_law 641 = .ok (.invokevirtual 70, 3) := by decide +kernel
theorem dL_law_644 : decode cL_law 644 = .ok (.if_icmp .eq 141, 3) := by decide +kernel
theorem dL_law_647 : decode cL_law 647 = .ok (.iconst 0, 1) := by decide +kernel
theorem dL_law_648 : decode cL_law 648 = .ok (.ireturn, 1) := by decide +kernel
theorem dL_law_649 : decode cL_law 649 = .ok (.aload_n 1, 1) := by decide +kernel
theorem dL_law_650 : decode cL_law 650 = .ok (.aload_n 0, 1) := by decide +kernel
theorem dL_law_651 : decode cL_law 651 = .ok (.iload 4, 2) := by decide +kernel
theorem dL_law_653 : decode cL_law 653 = .ok (.iconst 1, 1) := by decide +kernel
theorem dL_law_654 : decode cL_law 654 = .ok (.iadd, 1) := by decide +kernel
theorem dL_law_655 : decode cL_law 655 = .ok (.iaload, 1) := by decide +kernel
theorem dL_law_656 : decode cL_law 656 = .ok (.aload_n 0, 1) := by decide +kernel
theorem dL_law_657 : decode cL_law 657 = .ok (.iload 4, 2) := by decide +kernel
theorem dL_law_659 : decode cL_law 659 = .ok (.iconst 2, 1) := by decide +kernel
theorem dL_law_660 : decode cL_law 660 = .ok (.iadd, 1) := by decide +kernel
theorem dL_law_661 : decode cL_law 661 = .ok (.iaload, 1) := by decide +kernel
theorem dL_law_662 : decode cL_law 662 = .ok (.invokevirtual 71, 3) := by decide +kernel
theorem dL_law_665 : decode cL_law 665 = .ok (.aload_n 2, 1) := by decide +kernel
theorem dL_law_666 : decode cL_law 666 = .ok (.aload_n 0, 1) := by decide +kernel
theorem dL_law_667 : decode cL_law 667 = .ok (.iload 4, 2) := by decide +kernel
theorem dL_law_669 : decode cL_law 669 = .ok (.iconst 1, 1) := by decide +kernel
theorem dL_law_670 : decode cL_law 670 = .ok (.iadd, 1) := by decide +kernel
theorem dL_law_671 : decode cL_law 671 = .ok (.iaload, 1) := by decide +kernel
theorem dL_law_672 : decode cL_law 672 = .ok (.aload_n 0, 1) := by decide +kernel
theorem dL_law_673 : decode cL_law 673 = .ok (.iload 4, 2) := by decide +kernel
theorem dL_law_675 : decode cL_law 675 = .ok (.iconst 2, 1) := by decide +kernel
theorem dL_law_676 : decode cL_law 676 = .ok (.iadd, 1) := by decide +kernel
theorem dL_law_677 : decode cL_law 677 = .ok (.iaload, 1) := by decide +kernel
theorem dL_law_678 : decode cL_law 678 = .ok (.invokevirtual 74, 3) := by decide +kernel
theorem dL_law_681 : decode cL_law 681 = .ok (.if_icmp .eq 104, 3) := by decide +kernel
theorem dL_law_684 : decode cL_law 684 = .ok (.iconst 0, 1) := by decide +kernel
theorem dL_law_685 : decode cL_law 685 = .ok (.ireturn, 1) := by decide +kernel
theorem dL_law_686 : decode cL_law 686 = .ok (.aload_n 1, 1) := by decide +kernel
theorem dL_law_687 : decode cL_law 687 = .ok (.aload_n 0, 1) := by decide +kernel
theorem dL_law_688 : decode cL_law 688 = .ok (.iload 4, 2) := by decide +kernel
theorem dL_law_690 : decode cL_law 690 = .ok (.iconst 1, 1) := by decide +kernel
theorem dL_law_691 : decode cL_law 691 = .ok (.iadd, 1) := by decide +kernel
theorem dL_law_692 : decode cL_law 692 = .ok (.iaload, 1) := by decide +kernel
theorem dL_law_693 : decode cL_law 693 = .ok (.aload_n 0, 1) := by decide +kernel
theorem dL_law_694 : decode cL_law 694 = .ok (.iload 4, 2) := by decide +kernel
theorem dL_law_696 : decode cL_law 696 = .ok (.iconst 2, 1) := by decide +kernel
theorem dL_law_697 : decode cL_law 697 = .ok (.iadd, 1) := by decide +kernel
theorem dL_law_698 : decode cL_law 698 = .ok (.iaload, 1) := by decide +kernel
theorem dL_law_699 : decode cL_law 699 = .ok (.invokevirtual 75, 3) := by decide +kernel
theorem dL_law_702 : decode cL_law 702 = .ok (.aload_n 2, 1) := by decide +kernel
theorem dL_law_703 : decode cL_law 703 = .ok (.aload_n 0, 1) := by decide +kernel
theorem dL_law_704 : decode cL_law 704 = .ok (.iload 4, 2) := by decide +kernel
theorem dL_law_706 : decode cL_law 706 = .ok (.iconst 1, 1) := by decide +kernel
theorem dL_law_707 : decode cL_law 707 = .ok (.iadd, 1) := by decide +kernel
theorem dL_law_708 : decode cL_law 708 = .ok (.iaload, 1) := by decide +kernel
theorem dL_law_709 : decode cL_law 709 = .ok (.aload_n 0, 1) := by decide +kernel
theorem dL_law_710 : decode cL_law 710 = .ok (.iload 4, 2) := by decide +kernel
theorem dL_law_712 : decode cL_law 712 = .ok (.iconst 2, 1) := by decide +kernel
theorem dL_law_713 : decode cL_law 713 = .ok (.iadd, 1) := by decide +kernel
theorem dL_law_714 : decode cL_law 714 = .ok (.iaload, 1) := by decide +kernel
theorem dL_law_715 : decode cL_law 715 = .ok (.invokevirtual 78, 3) := by decide +kernel
theorem dL_law_718 : decode cL_law 718 = .ok (.if_icmp .eq 67, 3) := by decide +kernel
theorem dL_law_721 : decode cL_law 721 = .ok (.iconst 0, 1) := by decide +kernel
theorem dL_law_722 : decode cL_law 722 = .ok (.ireturn, 1) := by decide +kernel
theorem dL_law_723 : decode cL_law 723 = .ok (.aload_n 1, 1) := by decide +kernel
theorem dL_law_724 : decode cL_law 724 = .ok (.aload_n 0, 1) := by decide +kernel
theorem dL_law_725 : decode cL_law 725 = .ok (.iload 4, 2) := by decide +kernel
theorem dL_law_727 : decode cL_law 727 = .ok (.iconst 1, 1) := by decide +kernel
theorem dL_law_728 : decode cL_law 728 = .ok (.iadd, 1) := by decide +kernel
theorem dL_law_729 : decode cL_law 729 = .ok (.iaload, 1) := by decide +kernel
theorem dL_law_730 : decode cL_law 730 = .ok (.aload_n 0, 1) := by decide +kernel
theorem dL_law_731 : decode cL_law 731 = .ok (.iload 4, 2) := by decide +kernel
theorem dL_law_733 : decode cL_law 733 = .ok (.iconst 2, 1) := by decide +kernel
theorem dL_law_734 : decode cL_law 734 = .ok (.iadd, 1) := by decide +kernel
theorem dL_law_735 : decode cL_law 735 = .ok (.iaload, 1) := by decide +kernel
theorem dL_law_736 : decode cL_law 736 = .ok (.invokevirtual 79, 3) := by decide +kernel
theorem dL_law_739 : decode cL_law 739 = .ok (.aload_n 2, 1) := by decide +kernel
theorem dL_law_740 : decode cL_law 740 = .ok (.aload_n 0, 1) := by decide +kernel
theorem dL_law_741 : decode cL_law 741 = .ok (.iload 4, 2) := by decide +kernel
theorem dL_law_743 : decode cL_law 743 = .ok (.iconst 1, 1) := by decide +kernel
theorem dL_law_744 : decode cL_law 744 = .ok (.iadd, 1) := by decide +kernel
theorem dL_law_745 : decode cL_law 745 = .ok (.iaload, 1) := by decide +kernel
theorem dL_law_746 : decode cL_law 746 = .ok (.aload_n 0, 1) := by decide +kernel
theorem dL_law_747 : decode cL_law 747 = .ok (.iload 4, 2) := by decide +kernel
theorem dL_law_749 : decode cL_law 749 = .ok (.iconst 2, 1) := by decide +kernel
theorem dL_law_750 : decode cL_law 750 = .ok (.iadd, 1) := by decide +kernel
theorem dL_law_751 : decode cL_law 751 = .ok (.iaload, 1) := by decide +kernel
theorem dL_law_752 : decode cL_law 752 = .ok (.invokevirtual 82, 3) := by decide +kernel
theorem dL_law_755 : decode cL_law 755 = .ok (.if_icmp .eq 30, 3) := by decide +kernel
theorem dL_law_758 : decode cL_law 758 = .ok (.iconst 0, 1) := by decide +kernel
theorem dL_law_759 : decode cL_law 759 = .ok (.ireturn, 1) := by decide +kernel
theorem dL_law_760 : decode cL_law 760 = .ok (.aload_n 1, 1) := by decide +kernel
theorem dL_law_761 : decode cL_law 761 = .ok (.aload_n 0, 1) := by decide +kernel
theorem dL_law_762 : decode cL_law 762 = .ok (.iload 4, 2) := by decide +kernel
theorem dL_law_764 : decode cL_law 764 = .ok (.iconst 1, 1) := by decide +kernel
theorem dL_law_765 : decode cL_law 765 = .ok (.iadd, 1) := by decide +kernel
theorem dL_law_766 : decode cL_law 766 = .ok (.iaload, 1) := by decide +kernel
theorem dL_law_767 : decode cL_law 767 = .ok (.invokevirtual 83, 3) := by decide +kernel
theorem dL_law_770 : decode cL_law 770 = .ok (.aload_n 2, 1) := by decide +kernel
theorem dL_law_771 : decode cL_law 771 = .ok (.aload_n 0, 1) := by decide +kernel
theorem dL_law_772 : decode cL_law 772 = .ok (.iload 4, 2) := by decide +kernel
theorem dL_law_774 : decode cL_law 774 = .ok (.iconst 1, 1) := by decide +kernel
theorem dL_law_775 : decode cL_law 775 = .ok (.iadd, 1) := by decide +kernel
theorem dL_law_776 : decode cL_law 776 = .ok (.iaload, 1) := by decide +kernel
theorem dL_law_777 : decode cL_law 777 = .ok (.invokevirtual 86, 3) := by decide +kernel
theorem dL_law_780 : decode cL_law 780 = .ok (.if_icmp .eq 5, 3) := by decide +kernel
theorem dL_law_783 : decode cL_law 783 = .ok (.iconst 0, 1) := by decide +kernel
theorem dL_law_784 : decode cL_law 784 = .ok (.ireturn, 1) := by decide +kernel
theorem dL_law_785 : decode cL_law 785 = .ok (.iinc 4 7, 3) := by decide +kernel
theorem dL_law_788 : decode cL_law 788 = .ok (.goto (-765), 3) := by decide +kernel
theorem dL_law_791 : decode cL_law 791 = .ok (.iconst 1, 1) := by decide +kernel
theorem dL_law_792 : decode cL_law 792 = .ok (.ireturn, 1) := by decide +kernel
end
section
/-! Z: an abstract heap (kinds, ints, longs, references, by small numbers), and a judgement over it -/
abbrev ZX : Type := String × ByteArray × Nat × Option FieldType × String × Nat × Nat × Bool
abbrev ZH : Type := Nat × (Nat → Nat × Nat) × (Nat → Nat → Int32) × (Nat → Nat → Int64) × (Nat → Nat → Option Nat)
abbrev ZG : Type := (Nat → Nat) × (Nat → Nat)
def zTB : List Cond := lw_tbl.filter goodWord
theorem zTB_of {w : Cond} (h : w ∈ lw_tbl) (hg : goodWord w = true) : w ∈ zTB := List.mem_filter.mpr ⟨h, hg⟩
theorem zTB_in {w : Cond} (h : w ∈ zTB) : w ∈ lw_tbl := (List.mem_filter.mp h).1
theorem zTB_good {w : Cond} (h : w ∈ zTB) : goodWord w = true := (List.mem_filter.mp h).2
def zc (g : ZG) (v : Value) : Value := match v with
  | .ref a => .ref (g.1 a)
  | .float k => .ref (g.2 k.toNat)
  | w => w
theorem zc_rf (g : ZG) (o : Option Nat) : zc g (va_rf o) = va_rf (o.map g.1) := by cases o <;> rfl
def zu {α : Type} (I : Nat → Nat → α) (a k : Nat) (v : α) : Nat → Nat → α := fun b => if b = a then va_up (I a) k v else I b
theorem zu_at {α : Type} (I : Nat → Nat → α) (a k : Nat) (v : α) : zu I a k v a = va_up (I a) k v := by simp [zu]
theorem zu_ne {α : Type} (I : Nat → Nat → α) {a b : Nat} (k : Nat) (v : α) (h : b ≠ a) : zu I a k v b = I b := by simp [zu, h]
theorem zu_apply {α : Type} (I : Nat → Nat → α) (a k : Nat) (v : α) (b j : Nat) : zu I a k v b j = if b = a ∧ j = k then v else I b j := by
  by_cases hb : b = a
  · subst hb
    by_cases hj : j = k
    · simp [zu, va_up, hj]
    · simp [zu, va_up, hj]
  · simp [zu, hb]
def zT (c : Nat) : List Bool := match c with
  | 0 => [true, true]
  | 1 => [false, false, false, false, false, false, false, false, false, false]
  | 2 => [true, true, false, false, false]
  | 3 => [true, true, false, false]
  | 4 => [true, true, true, true, false, false, false]
  | 5 => [true, false]
  | 6 => [true, true, true, false]
  | 7 => [true, false, false]
  | 8 => [true, true, true, true, true, true, true, true, true, true, true, true, true, false, false, false]
  | _ => [false, true, false, false, true, true, true, false, false, true, true, true, true, true, true, false, false, false, false, true, true, true, true, true, false, true, true, true, true, true, true, true, true, true, false, false, true, true, true, true, true, true, true, true, true, true]
def zFg (g : ZG) (f : Nat → Int32) (r : Nat → Option Nat) : Nat → List Bool → List Value
  | _, [] => []
  | k, true :: ts => va_rf ((r k).map g.1) :: zFg g f r (k + 1) ts
  | k, false :: ts => .int (f k) :: zFg g f r (k + 1) ts
theorem zFg_len (g : ZG) (f : Nat → Int32) (r : Nat → Option Nat) : ∀ (ts : List Bool) (k : Nat), (zFg g f r k ts).length = ts.length
  | [], _ => rfl
  | true :: ts, k => by simp [zFg, zFg_len g f r ts]
  | false :: ts, k => by simp [zFg, zFg_len g f r ts]
theorem zFg_i (g : ZG) (f : Nat → Int32) (r : Nat → Option Nat) : ∀ (ts : List Bool) (k j : Nat), ts[j]? = some false → (zFg g f r k ts)[j]? = some (.int (f (k + j)))
  | [], _, j, h => by simp at h
  | b :: ts, k, 0, h => by
    simp only [List.getElem?_cons_zero, Option.some.injEq] at h
    subst h
    simp [zFg]
  | b :: ts, k, j + 1, h => by
    rw [List.getElem?_cons_succ] at h
    have ih := zFg_i g f r ts (k + 1) j h
    rw [show k + (j + 1) = k + 1 + j by omega]
    cases b <;> simpa [zFg] using ih
theorem zFg_r (g : ZG) (f : Nat → Int32) (r : Nat → Option Nat) : ∀ (ts : List Bool) (k j : Nat), ts[j]? = some true → (zFg g f r k ts)[j]? = some (va_rf ((r (k + j)).map g.1))
  | [], _, j, h => by simp at h
  | b :: ts, k, 0, h => by
    simp only [List.getElem?_cons_zero, Option.some.injEq] at h
    subst h
    simp [zFg]
  | b :: ts, k, j + 1, h => by
    rw [List.getElem?_cons_succ] at h
    have ih := zFg_r g f r ts (k + 1) j h
    rw [show k + (j + 1) = k + 1 + j by omega]
    cases b <;> simpa [zFg] using ih
theorem zFg_congr (g : ZG) {f f' : Nat → Int32} {r r' : Nat → Option Nat} : ∀ (ts : List Bool) (k : Nat), (∀ j, k ≤ j → f j = f' j) → (∀ j, k ≤ j → r j = r' j) → zFg g f r k ts = zFg g f' r' k ts
  | [], _, _, _ => rfl
  | true :: ts, k, h1, h2 => by
    simp only [zFg]
    rw [h2 k (Nat.le_refl _), zFg_congr g ts (k + 1) (fun j hj => h1 j (by omega)) (fun j hj => h2 j (by omega))]
  | false :: ts, k, h1, h2 => by
    simp only [zFg]
    rw [h1 k (Nat.le_refl _), zFg_congr g ts (k + 1) (fun j hj => h1 j (by omega)) (fun j hj => h2 j (by omega))]
theorem zFg_setI (g : ZG) (f : Nat → Int32) (r : Nat → Option Nat) (v : Int32) : ∀ (ts : List Bool) (k j : Nat), ts[j]? = some false → (zFg g f r k ts).set j (.int v) = zFg g (va_up f (k + j) v) r k ts
  | [], _, j, h => by simp at h
  | b :: ts, k, 0, h => by
    simp only [List.getElem?_cons_zero, Option.some.injEq] at h
    subst h
    simp only [zFg, List.set_cons_zero, Nat.add_zero]
    rw [show va_up f k v k = v by simp [va_up]]
    rw [zFg_congr g ts (k + 1) (f := f) (f' := va_up f k v) (r := r) (r' := r) (fun j hj => by simp [va_up, show j ≠ k by omega]) (fun _ _ => rfl)]
  | b :: ts, k, j + 1, h => by
    rw [List.getElem?_cons_succ] at h
    have ih := zFg_setI g f r v ts (k + 1) j h
    rw [show k + (j + 1) = k + 1 + j by omega]
    cases b
    · simp only [zFg, List.set_cons_succ, ih]
      rw [show va_up f (k + 1 + j) v k = f k by simp [va_up, show k ≠ k + 1 + j by omega]]
    · simp only [zFg, List.set_cons_succ, ih]
theorem zFg_setR (g : ZG) (f : Nat → Int32) (r : Nat → Option Nat) (v : Option Nat) : ∀ (ts : List Bool) (k j : Nat), ts[j]? = some true → (zFg g f r k ts).set j (va_rf (v.map g.1)) = zFg g f (va_up r (k + j) v) k ts
  | [], _, j, h => by simp at h
  | b :: ts, k, 0, h => by
    simp only [List.getElem?_cons_zero, Option.some.injEq] at h
    subst h
    simp only [zFg, List.set_cons_zero, Nat.add_zero]
    rw [show va_up r k v k = v by simp [va_up]]
    rw [zFg_congr g ts (k + 1) (f := f) (f' := f) (r := r) (r' := va_up r k v) (fun _ _ => rfl) (fun j hj => by simp [va_up, show j ≠ k by omega])]
  | b :: ts, k, j + 1, h => by
    rw [List.getElem?_cons_succ] at h
    have ih := zFg_setR g f r v ts (k + 1) j h
    rw [show k + (j + 1) = k + 1 + j by omega]
    cases b
    · simp only [zFg, List.set_cons_succ, ih]
    · simp only [zFg, List.set_cons_succ, ih]
      rw [show va_up r (k + 1 + j) v k = r k by simp [va_up, show k ≠ k + 1 + j by omega]]
def zE (tc : Nat → ClassId) (g : ZG) (h : ZH) (a : Nat) : va_E := match (h.2.1 a).1 with
  | 0 => .inl (tc 0, (h.2.1 a).2, .inl (h.2.2.1 a))
  | 1 => .inl (tc 1, (h.2.1 a).2, .inr (.inl (h.2.2.2.1 a)))
  | 2 => .inl (tc 2, (h.2.1 a).2, .inl (h.2.2.1 a))
  | 3 => .inl (tc 3, (h.2.1 a).2, .inr (.inr (.inr (.inr (fun j => (h.2.2.2.2 a j).map g.1)))))
  | 4 => .inl (tc 4, (h.2.1 a).2, .inr (.inr (.inr (.inr (fun j => (h.2.2.2.2 a j).map g.1)))))
  | c + 5 => .inr (c, zFg g (h.2.2.1 a) (h.2.2.2.2 a) 0 (zT c))
def zW (tc : Nat → ClassId) (g : ZG) (h : ZH) : va_W := (List.range h.1).map (fun a => (g.1 a, zE tc g h a))
theorem zW_at {tc : Nat → ClassId} {g : ZG} {h : ZH} {a : Nat} (ha : a < h.1) : (zW tc g h)[a]? = some (g.1 a, zE tc g h a) := by
  simp [zW, List.getElem?_map, List.getElem?_range ha]
theorem zW_len {tc : Nat → ClassId} {g : ZG} {h : ZH} : (zW tc g h).length = h.1 := by simp [zW]
theorem zW_set {tc : Nat → ClassId} {g : ZG} {h h' : ZH} {a : Nat} {e : va_E} (ha : a < h.1) (hn : h'.1 = h.1) (ho : ∀ b, b ≠ a → zE tc g h' b = zE tc g h b) (he : zE tc g h' a = e) : (zW tc g h).set a (g.1 a, e) = zW tc g h' := by
  apply List.ext_getElem?
  intro k
  by_cases hk : k < h.1
  · rw [zW_at (h := h') (by rw [hn]; exact hk)]
    by_cases hka : k = a
    · subst hka
      rw [List.getElem?_set_self (by rw [zW_len]; exact ha), he]
    · rw [List.getElem?_set_ne (Ne.symm hka), zW_at hk, ho k hka]
  · rw [List.getElem?_eq_none (by rw [List.length_set, zW_len]; omega), List.getElem?_eq_none (by rw [zW_len, hn]; omega)]
theorem zW_push {tc : Nat → ClassId} {g : ZG} {h h' : ZH} (hn : h'.1 = h.1 + 1) (ho : ∀ b, b < h.1 → zE tc g h' b = zE tc g h b) : zW tc g h ++ [(g.1 h.1, zE tc g h' h.1)] = zW tc g h' := by
  unfold zW
  rw [hn, List.range_succ, List.map_append]
  congr 1
  apply List.map_congr_left
  intro b hb
  rw [ho b (List.mem_range.mp hb)]
def zty (tc : Nat → ClassId) : List (ClassId × FieldType) := [(tc 0, .int), (tc 1, .long), (tc 2, .char), (tc 3, .object RX2), (tc 4, .object RX1)]
def zHp (D : va_G) (tc : Nat → ClassId) (g : ZG) (h : ZH) (H : Heap) : Prop := va_P D vwCl (zW tc g h) H ∧ ∀ i : Nat, g.1 (h.1 + i) = H.size + i
def zlv (lg : Bool) (nL : Nat) (g : ZG) (ls : Nat → Option Value) (lsA : Array Slot) : Prop := lsA.size = nL ∧ lv_wf lsA ∧ (∀ (i : Nat) (v : Value), ls i = some v → lsA[i]? = some (.val (zc g v))) ∧ (lg = false → ∀ (i : Nat) (v : Value), ls i = some v → (zc g v).category = 1)
end
section
def zS0 (j : Nat) : Int32 := ([1, 1, 1, 1, 1, 1, 3, 1, 2, 2, 1, 3, 3, 1, 2, 2, 1, 3, 1, 1, 1, 1, 1, 1] : List Int32).getD j 0
def zS1 (j : Nat) : Int32 := ([1, 1, 3, 3, 1, 1, 1, 1, 2, 2, 1, 1, 1, 1, 2, 2, 1, 1, 1, 1, 3, 3, 1, 1] : List Int32).getD j 0
def zSx (i : Nat) : Nat × String := ([(64, "all"), (66, "and"), (68, "wet"), (70, "day"), (72, "age"), (74, "shut"), (76, "when"), (78, "warm"), (80, "mean"), (82, "hour"), (56, "least"), (62, "played")] : List (Nat × String)).getD i (0, "")
def zLen : List Nat := [3, 3, 3, 3, 3, 4, 4, 4, 4, 4, 5, 6]
def zByt : List (List Int32) := [[97, 108, 108], [97, 110, 100], [119, 101, 116], [100, 97, 121], [97, 103, 101], [115, 104, 117, 116], [119, 104, 101, 110], [119, 97, 114, 109], [109, 101, 97, 110], [104, 111, 117, 114], [108, 101, 97, 115, 116], [112, 108, 97, 121, 101, 100]]
def zNest : List (Nat × MethodName) := [(41, yX0_init), (48, yX5_init), (53, yX6_init), (69, yX4_init)]
/-- what lies outside the zone: two static rows, the String constants -/
def zG (g : ZG) (A : Nat → Prop) (s : State) (H : Heap) : Prop :=
  va_Z RX7 "STANDING_0" "[I" (.ref (g.2 100)) A s H ∧ va_T .int (g.2 100) 24 (fun j => .int (zS0 j)) A s H ∧ va_Z RX7 "STANDING_1" "[I" (.ref (g.2 101)) A s H ∧ va_T .int (g.2 101) 24 (fun j => .int (zS1 j)) A s H ∧ (∃ adV : Nat → Nat, vk_S 12 zLen zByt g.2 adV A s H) ∧ (∀ i : Nat, i < 12 → vk_R RX6 (zSx i).1 (zSx i).2 (g.2 i) s) ∧ ∀ q ∈ zNest, va_Nw (.methodLinkNest RX8 q.1 q.2 RX8) s
theorem zG.kept {g : ZG} {A : Nat → Prop} {s : State} {H H1 : Heap} (h : zG g A s H) (hq : ∀ a : Nat, a < H.size → ¬ A a → H1[a]? = H[a]?) : zG g A s H1 := by
  obtain ⟨h1, h2, h3, h4, ⟨adV, h5⟩, h6, h7⟩ := h
  exact ⟨h1.kept hq, h2.kept hq, h3.kept hq, h4.kept hq, ⟨adV, h5.kept hq⟩, h6, h7⟩
theorem zG.narrow {g : ZG} {A B : Nat → Prop} {s : State} {H : Heap} (h : zG g A s H) (hAB : ∀ q, B q → A q) : zG g B s H := by
  obtain ⟨h1, h2, h3, h4, ⟨adV, h5⟩, h6, h7⟩ := h
  exact ⟨h1.narrow hAB, h2.narrow hAB, h3.narrow hAB, h4.narrow hAB, ⟨adV, h5.narrow hAB⟩, h6, h7⟩
theorem zG.warm {g : ZG} {A : Nat → Prop} {s U : State} {H : Heap} (hW : s.WarmedH U.vm) (h : zG g A s H) : zG g A U H := by
  obtain ⟨h1, h2, h3, h4, ⟨adV, h5⟩, h6, h7⟩ := h
  exact ⟨h1.moved hW.alike, h2.moved hW.alike, h3.moved hW.alike, h4.moved hW.alike, ⟨adV, h5.moved hW.alike⟩, fun i hi => (h6 i hi).warm hW, fun q hq => va_Nw.warmM hW (h7 q hq)⟩
theorem zG.same {g : ZG} {A : Nat → Prop} {s U : State} {H : Heap} (hv : U.vm = s.vm) (h : zG g A s H) : zG g A U H := by
  obtain ⟨h1, h2, h3, h4, ⟨adV, h5⟩, h6, h7⟩ := h
  have ha : s.vm.Alike U.vm := by rw [hv]; exact Vm.Alike.refl _
  exact ⟨h1.moved ha, h2.moved ha, h3.moved ha, h4.moved ha, ⟨adV, h5.moved ha⟩, fun i hi => (h6 i hi).same hv, fun q hq => va_Nw.same rfl hv.symm (h7 q hq)⟩
/-- the end of a method -/
def zPost (D : va_G) (tc : Nat → ClassId) (g : ZG) (A : Nat → Prop) (Q : Option Value → ZH → Prop) : Array Value → State → Outcome → State → Prop := fun _ st o t =>
  (∃ (r : Option Value) (h : ZH), o = .returned (r.map (zc g)) ∧ Q r h ∧ zHp D tc g h t.heap ∧ va_K D vwCl (zty tc) t ∧ va_D A (zW tc g h)) ∧ va_F A st t
/-- the machine stands in a method of X, over the heap h -/
def zAt (X : ZX) (mc ms : Nat) (ls : Nat → Option Value) (h : ZH) (p : Program) (Rm : Room) (s : State) (m : MethodId) (args : Array Value) (meth : Method) (c : Code) (H : Heap) (locs : List Loc) (cells slots : Nat) (D : va_G) (tc : Nat → ClassId) (g : ZG) (A : Nat → Prop) (MC MS : Nat) (lsA : Array Slot) : Prop :=
  (p.tables.exec = Jvm.exec ∧ c.code = X.2.1 ∧ meth.sig.returnType = X.2.2.2.1 ∧ c.maxLocals = X.2.2.1 ∧ s.vm.findClass X.1 = some m.cls ∧ (∀ w ∈ zTB, w.before args s = true) ∧ meth.locks = false ∧ meth.name = X.2.2.2.2.1) ∧
  (X.2.2.2.2.2.1 ≤ Rm.frames ∧ X.2.2.2.2.2.2.1 ≤ Rm.locals ∧ cells + mc ≤ MC ∧ MC ≤ Rm.cells ∧ slots + ms ≤ MS ∧ MS ≤ Rm.slots) ∧
  (va_K D vwCl (zty tc) s ∧ zG g A s s.heap ∧ ∀ q, s.heap.size ≤ q → A q) ∧
  (zHp D tc g h H ∧ va_D A (zW tc g h) ∧ va_S A s.heap H locs) ∧ zlv X.2.2.2.2.2.2.2 X.2.2.1 g ls lsA
def Zf (X : ZX) (mc ms : Nat) (pc : Nat) (ls : Nat → Option Value) (st : List Value) (h : ZH) (Q : Option Value → ZH → Prop) : Prop :=
  ∀ (p : Program) (l : Launch) (e : Env) (Rm : Room) (s : State) (m : MethodId) (args : Array Value) (below : List Frame) (meth : Method) (c : Code) (H : Heap) (locs : List Loc) (cells slots : Nat) (D : va_G) (tc : Nat → ClassId) (g : ZG) (A : Nat → Prop) (MC MS : Nat) (lsA : Array Slot),
    zAt X mc ms ls h p Rm s m args meth c H locs cells slots D tc g A MC MS lsA → W p l e Rm s m args below meth c H locs cells slots (MQ below (zPost D tc g A Q) args s MC MS A) (F0 m pc lsA (st.map (zc g)))
def zws (y : MethodName) (cc : ByteArray) (nL : Nat) (ret : Option FieldType) : List Cond := Cond.code y cc nL ret :: zTB
/-- a method's contract over the abstract heap -/
def Zm (y : MethodName) (cc : ByteArray) (nL : Nat) (ret : Option FieldType) (fr lo mc ms : Nat) (as : List Value) (h : ZH) (Q : Option Value → ZH → Prop) : Prop :=
  ∀ (l : Launch) (D : va_G) (tc : Nat → ClassId) (g : ZG) (sz : Nat),
    Met l y (zws y cc nL ret) ({ frames := fr, cells := mc, slots := ms, locals := lo })
      (va_Pc (as.map (zc g)) (fun U => U.heap.size = sz ∧ zHp D tc g h U.heap ∧ va_K D vwCl (zty tc) U ∧ va_D (fun _ => True) (zW tc g h) ∧ zG g (va_A (zW tc g h) sz) U U.heap))
      (zPost D tc g (va_A (zW tc g h) sz) Q) mc ms (va_A (zW tc g h) sz)
def zargs (as : List Value) : Nat → Option Value := fun i => (lv_args 0 as).lookup i
theorem z_look {g : ZG} : ∀ (as : List Value) (k i : Nat) (v : Value), (∀ w ∈ as, (zc g w).category = w.category) → (lv_args k as).lookup i = some v → (i, zc g v) ∈ lv_args k (as.map (zc g))
  | [], k, i, v, _, h => by simp [lv_args] at h
  | a :: as, k, i, v, hc, h => by
    have h0 := hc a List.mem_cons_self
    simp only [lv_args, List.lookup_cons] at h
    simp only [List.map_cons, lv_args]
    by_cases hi : i = k
    · subst hi
      simp at h
      subst h
      exact List.mem_cons_self
    · have : (i == k) = false := by simpa using hi
      rw [this] at h
      simp only at h
      rw [h0]
      exact List.mem_cons_of_mem _ (z_look as _ i v (fun w hw => hc w (List.mem_cons_of_mem _ hw)) h)
theorem z_cat (g : ZG) (v : Value) : (zc g v).category = v.category := by cases v <;> rfl
theorem z_args_cat {as : List Value} (hc : ∀ w ∈ as, w.category = 1) : ∀ (k i : Nat) (v : Value), (lv_args k as).lookup i = some v → v.category = 1 := by
  induction as with
  | nil => intro k i v h; simp [lv_args] at h
  | cons a as ih =>
    intro k i v h
    simp only [lv_args, List.lookup_cons] at h
    by_cases hi : i = k
    · subst hi
      simp at h
      subst h
      exact hc _ List.mem_cons_self
    · have : (i == k) = false := by simpa using hi
      rw [this] at h
      exact ih (fun w hw => hc w (List.mem_cons_of_mem _ hw)) _ i v h
theorem Zm_of {y : MethodName} {cc : ByteArray} {nL : Nat} {ret : Option FieldType} {fr lo mc ms : Nat} {lg : Bool} {as : List Value} {h : ZH} {Q : Option Value → ZH → Prop} (hy : plainName y.cls = true) (hcat : lg = false → ∀ w ∈ as, w.category = 1) (hlen : ∀ g : ZG, (lg_sl (as.map (zc g))).length ≤ nL)
    (body : Zf (y.cls, cc, nL, ret, y.name, fr, lo, lg) mc ms 0 (zargs as) [] h Q) : Zm y cc nL ret fr lo mc ms as h Q := by
  intro l D tc g sz
  refine Met.ofW (cc := cc) (maxL := nL) (ret := ret) hy rfl ?_
  intro p e s m args below meth c s₁ B hml hv
  obtain ⟨rfl, hsz, hHp, hK, hD0, hG⟩ := hv
  subst hsz
  have hts := atoms_spec (ws := zws y cc nL ret) B.pre
  rw [lg_entry_eq]
  have hl := lv_entry (as.map (zc g)) (n := nL) (hlen g)
  refine body p l e _ s m _ below meth c s.heap [] 0 0 D tc g (va_A (zW tc g h) s.heap.size) mc ms _ ⟨⟨B.exec, B.bytes, B.returns, hml, findClass_of_methodNamed B.named, fun w hw => hts w (List.mem_cons_of_mem _ hw), B.notSynchronized, (name_of_methodNamed B.named B.method).1⟩, ⟨Nat.le_refl _, Nat.le_refl _, by omega, Nat.le_refl _, by omega, Nat.le_refl _⟩, ⟨hK, hG, fun q hq => Or.inr hq⟩, ⟨hHp, hD0.self, va_S.rf⟩, ?_⟩
  refine ⟨hl.1, hl.2.1, fun i v hi => hl.2.2 (i, zc g v) (z_look as 0 i v (fun w _ => z_cat g w) hi), fun hlg i v hi => ?_⟩
  rw [z_cat]
  exact z_args_cat (hcat hlg) 0 i v hi
end
section
section ZR
variable {X : ZX} {mc ms pc : Nat} {ls : Nat → Option Value} {st : List Value} {h : ZH} {Q : Option Value → ZH → Prop}
theorem z_iconst {n : Int} {v : Int32} (hd : decode X.2.1 pc = .ok (.iconst n, 1) ) (hv : Int32.ofInt n = v) (kk : Zf X mc ms (pc + 1) ls (.int v :: st) h Q) : Zf X mc ms pc ls (st) h Q := fun p l e Rm s m args below meth c H locs cells slots D tc g A MC MS lsA C => lv_iconst C.1.1 C.1.2.1 hd hv (kk p l e Rm s m args below meth c H locs cells slots D tc g A MC MS lsA C)
theorem z_bipush {n : Int} {v : Int32} (hd : decode X.2.1 pc = .ok (.bipush n, 2) ) (hv : (Int8.ofInt n).toInt32 = v) (kk : Zf X mc ms (pc + 2) ls (.int v :: st) h Q) : Zf X mc ms pc ls (st) h Q := fun p l e Rm s m args below meth c H locs cells slots D tc g A MC MS lsA C => lv_bipush C.1.1 C.1.2.1 hd hv (kk p l e Rm s m args below meth c H locs cells slots D tc g A MC MS lsA C)
theorem z_sipush {n : Int} {v : Int32} (hd : decode X.2.1 pc = .ok (.sipush n, 3) ) (hv : (Int16.ofInt n).toInt32 = v) (kk : Zf X mc ms (pc + 3) ls (.int v :: st) h Q) : Zf X mc ms pc ls (st) h Q := fun p l e Rm s m args below meth c H locs cells slots D tc g A MC MS lsA C => lv_sipush C.1.1 C.1.2.1 hd hv (kk p l e Rm s m args below meth c H locs cells slots D tc g A MC MS lsA C)
theorem z_lconst {n : Fin 2} {v : Int64} (hd : decode X.2.1 pc = .ok (.lconst n, 1) ) (hv : Int64.ofNat (n : Nat) = v) (kk : Zf X mc ms (pc + 1) ls (.long v :: st) h Q) : Zf X mc ms pc ls (st) h Q := fun p l e Rm s m args below meth c H locs cells slots D tc g A MC MS lsA C => lv_lconst C.1.1 C.1.2.1 hd hv (kk p l e Rm s m args below meth c H locs cells slots D tc g A MC MS lsA C)
theorem z_iload_n {k : Fin 4} {i : Nat} {x : Int32} (hd : decode X.2.1 pc = .ok (.iload_n k, 1) ) (hi : (k : Nat) = i) (hl : ls i = some (.int x)) (kk : Zf X mc ms (pc + 1) ls (.int x :: st) h Q) : Zf X mc ms pc ls (st) h Q := fun p l e Rm s m args below meth c H locs cells slots D tc g A MC MS lsA C => lv_iload_n C.1.1 C.1.2.1 hd hi (C.2.2.2.2.2.2.1 _ _ hl) (kk p l e Rm s m args below meth c H locs cells slots D tc g A MC MS lsA C)
theorem z_iload {i : Nat} {x : Int32} (hd : decode X.2.1 pc = .ok (.iload i, 2) ) (hl : ls i = some (.int x)) (kk : Zf X mc ms (pc + 2) ls (.int x :: st) h Q) : Zf X mc ms pc ls (st) h Q := fun p l e Rm s m args below meth c H locs cells slots D tc g A MC MS lsA C => lv_iload C.1.1 C.1.2.1 hd (C.2.2.2.2.2.2.1 _ _ hl) (kk p l e Rm s m args below meth c H locs cells slots D tc g A MC MS lsA C)
theorem z_lload_n {k : Fin 4} {i : Nat} {x : Int64} (hd : decode X.2.1 pc = .ok (.lload_n k, 1) ) (hi : (k : Nat) = i) (hl : ls i = some (.long x)) (kk : Zf X mc ms (pc + 1) ls (.long x :: st) h Q) : Zf X mc ms pc ls (st) h Q := fun p l e Rm s m args below meth c H locs cells slots D tc g A MC MS lsA C => lv_lload_n C.1.1 C.1.2.1 hd hi (C.2.2.2.2.2.2.1 _ _ hl) (kk p l e Rm s m args below meth c H locs cells slots D tc g A MC MS lsA C)
theorem z_lload {i : Nat} {x : Int64} (hd : decode X.2.1 pc = .ok (.lload i, 2) ) (hl : ls i = some (.long x)) (kk : Zf X mc ms (pc + 2) ls (.long x :: st) h Q) : Zf X mc ms pc ls (st) h Q := fun p l e Rm s m args below meth c H locs cells slots D tc g A MC MS lsA C => lv_lload C.1.1 C.1.2.1 hd (C.2.2.2.2.2.2.1 _ _ hl) (kk p l e Rm s m args below meth c H locs cells slots D tc g A MC MS lsA C)
theorem z_iadd {x y : Int32} (hd : decode X.2.1 pc = .ok (.iadd, 1) ) (kk : Zf X mc ms (pc + 1) ls (.int (x + y) :: st) h Q) : Zf X mc ms pc ls (.int y :: .int x :: st) h Q := fun p l e Rm s m args below meth c H locs cells slots D tc g A MC MS lsA C => lv_iadd C.1.1 C.1.2.1 hd  (kk p l e Rm s m args below meth c H locs cells slots D tc g A MC MS lsA C)
theorem z_isub {x y : Int32} (hd : decode X.2.1 pc = .ok (.isub, 1) ) (kk : Zf X mc ms (pc + 1) ls (.int (x - y) :: st) h Q) : Zf X mc ms pc ls (.int y :: .int x :: st) h Q := fun p l e Rm s m args below meth c H locs cells slots D tc g A MC MS lsA C => lv_isub C.1.1 C.1.2.1 hd  (kk p l e Rm s m args below meth c H locs cells slots D tc g A MC MS lsA C)
theorem z_imul {x y : Int32} (hd : decode X.2.1 pc = .ok (.imul, 1) ) (kk : Zf X mc ms (pc + 1) ls (.int (x * y) :: st) h Q) : Zf X mc ms pc ls (.int y :: .int x :: st) h Q := fun p l e Rm s m args below meth c H locs cells slots D tc g A MC MS lsA C => lv_imul C.1.1 C.1.2.1 hd  (kk p l e Rm s m args below meth c H locs cells slots D tc g A MC MS lsA C)
theorem z_iand {x y : Int32} (hd : decode X.2.1 pc = .ok (.iand, 1) ) (kk : Zf X mc ms (pc + 1) ls (.int (x &&& y) :: st) h Q) : Zf X mc ms pc ls (.int y :: .int x :: st) h Q := fun p l e Rm s m args below meth c H locs cells slots D tc g A MC MS lsA C => lv_iand C.1.1 C.1.2.1 hd  (kk p l e Rm s m args below meth c H locs cells slots D tc g A MC MS lsA C)
theorem z_ior {x y : Int32} (hd : decode X.2.1 pc = .ok (.ior, 1) ) (kk : Zf X mc ms (pc + 1) ls (.int (x ||| y) :: st) h Q) : Zf X mc ms pc ls (.int y :: .int x :: st) h Q := fun p l e Rm s m args below meth c H locs cells slots D tc g A MC MS lsA C => lv_ior C.1.1 C.1.2.1 hd  (kk p l e Rm s m args below meth c H locs cells slots D tc g A MC MS lsA C)
theorem z_ixor {x y : Int32} (hd : decode X.2.1 pc = .ok (.ixor, 1) ) (kk : Zf X mc ms (pc + 1) ls (.int (x ^^^ y) :: st) h Q) : Zf X mc ms pc ls (.int y :: .int x :: st) h Q := fun p l e Rm s m args below meth c H locs cells slots D tc g A MC MS lsA C => lv_ixor C.1.1 C.1.2.1 hd  (kk p l e Rm s m args below meth c H locs cells slots D tc g A MC MS lsA C)
theorem z_idiv {x y : Int32} (hd : decode X.2.1 pc = .ok (.idiv, 1) ) (hne : ¬ y = 0) (kk : Zf X mc ms (pc + 1) ls (.int (x / y) :: st) h Q) : Zf X mc ms pc ls (.int y :: .int x :: st) h Q := fun p l e Rm s m args below meth c H locs cells slots D tc g A MC MS lsA C => lv_idiv C.1.1 C.1.2.1 hd hne (kk p l e Rm s m args below meth c H locs cells slots D tc g A MC MS lsA C)
theorem z_irem {x y : Int32} (hd : decode X.2.1 pc = .ok (.irem, 1) ) (hne : ¬ y = 0) (kk : Zf X mc ms (pc + 1) ls (.int (x - x / y * y) :: st) h Q) : Zf X mc ms pc ls (.int y :: .int x :: st) h Q := fun p l e Rm s m args below meth c H locs cells slots D tc g A MC MS lsA C => lv_irem C.1.1 C.1.2.1 hd hne (kk p l e Rm s m args below meth c H locs cells slots D tc g A MC MS lsA C)
theorem z_ineg {x : Int32} (hd : decode X.2.1 pc = .ok (.ineg, 1) ) (kk : Zf X mc ms (pc + 1) ls (.int (-x) :: st) h Q) : Zf X mc ms pc ls (.int x :: st) h Q := fun p l e Rm s m args below meth c H locs cells slots D tc g A MC MS lsA C => lv_ineg C.1.1 C.1.2.1 hd  (kk p l e Rm s m args below meth c H locs cells slots D tc g A MC MS lsA C)
theorem z_ladd {x y : Int64} (hd : decode X.2.1 pc = .ok (.ladd, 1) ) (kk : Zf X mc ms (pc + 1) ls (.long (x + y) :: st) h Q) : Zf X mc ms pc ls (.long y :: .long x :: st) h Q := fun p l e Rm s m args below meth c H locs cells slots D tc g A MC MS lsA C => lv_ladd C.1.1 C.1.2.1 hd  (kk p l e Rm s m args below meth c H locs cells slots D tc g A MC MS lsA C)
theorem z_lsub {x y : Int64} (hd : decode X.2.1 pc = .ok (.lsub, 1) ) (kk : Zf X mc ms (pc + 1) ls (.long (x - y) :: st) h Q) : Zf X mc ms pc ls (.long y :: .long x :: st) h Q := fun p l e Rm s m args below meth c H locs cells slots D tc g A MC MS lsA C => lv_lsub C.1.1 C.1.2.1 hd  (kk p l e Rm s m args below meth c H locs cells slots D tc g A MC MS lsA C)
theorem z_lmul {x y : Int64} (hd : decode X.2.1 pc = .ok (.lmul, 1) ) (kk : Zf X mc ms (pc + 1) ls (.long (x * y) :: st) h Q) : Zf X mc ms pc ls (.long y :: .long x :: st) h Q := fun p l e Rm s m args below meth c H locs cells slots D tc g A MC MS lsA C => lv_lmul C.1.1 C.1.2.1 hd  (kk p l e Rm s m args below meth c H locs cells slots D tc g A MC MS lsA C)
theorem z_land {x y : Int64} (hd : decode X.2.1 pc = .ok (.land, 1) ) (kk : Zf X mc ms (pc + 1) ls (.long (x &&& y) :: st) h Q) : Zf X mc ms pc ls (.long y :: .long x :: st) h Q := fun p l e Rm s m args below meth c H locs cells slots D tc g A MC MS lsA C => lv_land C.1.1 C.1.2.1 hd  (kk p l e Rm s m args below meth c H locs cells slots D tc g A MC MS lsA C)
theorem z_lor {x y : Int64} (hd : decode X.2.1 pc = .ok (.lor, 1) ) (kk : Zf X mc ms (pc + 1) ls (.long (x ||| y) :: st) h Q) : Zf X mc ms pc ls (.long y :: .long x :: st) h Q := fun p l e Rm s m args below meth c H locs cells slots D tc g A MC MS lsA C => lv_lor C.1.1 C.1.2.1 hd  (kk p l e Rm s m args below meth c H locs cells slots D tc g A MC MS lsA C)
theorem z_lxor {x y : Int64} (hd : decode X.2.1 pc = .ok (.lxor, 1) ) (kk : Zf X mc ms (pc + 1) ls (.long (x ^^^ y) :: st) h Q) : Zf X mc ms pc ls (.long y :: .long x :: st) h Q := fun p l e Rm s m args below meth c H locs cells slots D tc g A MC MS lsA C => lv_lxor C.1.1 C.1.2.1 hd  (kk p l e Rm s m args below meth c H locs cells slots D tc g A MC MS lsA C)
theorem z_ishl {x y : Int32} (hd : decode X.2.1 pc = .ok (.ishl, 1) ) (kk : Zf X mc ms (pc + 1) ls (.int (x <<< (y &&& 31)) :: st) h Q) : Zf X mc ms pc ls (.int y :: .int x :: st) h Q := fun p l e Rm s m args below meth c H locs cells slots D tc g A MC MS lsA C => lv_ishl C.1.1 C.1.2.1 hd  (kk p l e Rm s m args below meth c H locs cells slots D tc g A MC MS lsA C)
theorem z_ishr {x y : Int32} (hd : decode X.2.1 pc = .ok (.ishr, 1) ) (kk : Zf X mc ms (pc + 1) ls (.int (x >>> (y &&& 31)) :: st) h Q) : Zf X mc ms pc ls (.int y :: .int x :: st) h Q := fun p l e Rm s m args below meth c H locs cells slots D tc g A MC MS lsA C => lv_ishr C.1.1 C.1.2.1 hd  (kk p l e Rm s m args below meth c H locs cells slots D tc g A MC MS lsA C)
theorem z_i2l {x : Int32} {v : Int64} (hd : decode X.2.1 pc = .ok (.i2l, 1) ) (hv : x.toInt64 = v) (kk : Zf X mc ms (pc + 1) ls (.long v :: st) h Q) : Zf X mc ms pc ls (.int x :: st) h Q := fun p l e Rm s m args below meth c H locs cells slots D tc g A MC MS lsA C => lv_i2l C.1.1 C.1.2.1 hd hv (kk p l e Rm s m args below meth c H locs cells slots D tc g A MC MS lsA C)
theorem z_l2i {x : Int64} {v : Int32} (hd : decode X.2.1 pc = .ok (.l2i, 1) ) (hv : x.toInt32 = v) (kk : Zf X mc ms (pc + 1) ls (.int v :: st) h Q) : Zf X mc ms pc ls (.long x :: st) h Q := fun p l e Rm s m args below meth c H locs cells slots D tc g A MC MS lsA C => lv_l2i C.1.1 C.1.2.1 hd hv (kk p l e Rm s m args below meth c H locs cells slots D tc g A MC MS lsA C)
theorem z_i2c {x : Int32} {v : Int32} (hd : decode X.2.1 pc = .ok (.i2c, 1) ) (hv : (x.toUInt32 % 65536).toInt32 = v) (kk : Zf X mc ms (pc + 1) ls (.int v :: st) h Q) : Zf X mc ms pc ls (.int x :: st) h Q := fun p l e Rm s m args below meth c H locs cells slots D tc g A MC MS lsA C => lv_i2c C.1.1 C.1.2.1 hd hv (kk p l e Rm s m args below meth c H locs cells slots D tc g A MC MS lsA C)
theorem z_iushr {x y v : Int32} (hd : decode X.2.1 pc = .ok (.iushr, 1) ) (hv : (x.toUInt32 >>> (y.toUInt32 &&& Int32.toUInt32 31)).toInt32 = v) (kk : Zf X mc ms (pc + 1) ls (.int v :: st) h Q) : Zf X mc ms pc ls (.int y :: .int x :: st) h Q := fun p l e Rm s m args below meth c H locs cells slots D tc g A MC MS lsA C => lv_iushr C.1.1 C.1.2.1 hd hv (kk p l e Rm s m args below meth c H locs cells slots D tc g A MC MS lsA C)
theorem z_lushr {x v : Int64} {y : Int32} (hd : decode X.2.1 pc = .ok (.lushr, 1) ) (hv : (x.toUInt64 >>> (y.toInt64.toUInt64 &&& Int64.toUInt64 63)).toInt64 = v) (kk : Zf X mc ms (pc + 1) ls (.long v :: st) h Q) : Zf X mc ms pc ls (.int y :: .long x :: st) h Q := fun p l e Rm s m args below meth c H locs cells slots D tc g A MC MS lsA C => lv_lushr C.1.1 C.1.2.1 hd hv (kk p l e Rm s m args below meth c H locs cells slots D tc g A MC MS lsA C)
theorem z_lshl {x v : Int64} {y : Int32} (hd : decode X.2.1 pc = .ok (.lshl, 1) ) (hv : x <<< (y.toInt64 &&& 63) = v) (kk : Zf X mc ms (pc + 1) ls (.long v :: st) h Q) : Zf X mc ms pc ls (.int y :: .long x :: st) h Q := fun p l e Rm s m args below meth c H locs cells slots D tc g A MC MS lsA C => lv_lshl C.1.1 C.1.2.1 hd hv (kk p l e Rm s m args below meth c H locs cells slots D tc g A MC MS lsA C)
theorem z_lshr {x v : Int64} {y : Int32} (hd : decode X.2.1 pc = .ok (.lshr, 1) ) (hv : x >>> (y.toInt64 &&& 63) = v) (kk : Zf X mc ms (pc + 1) ls (.long v :: st) h Q) : Zf X mc ms pc ls (.int y :: .long x :: st) h Q := fun p l e Rm s m args below meth c H locs cells slots D tc g A MC MS lsA C => lv_lshr C.1.1 C.1.2.1 hd hv (kk p l e Rm s m args below meth c H locs cells slots D tc g A MC MS lsA C)
theorem z_aload_n {k : Fin 4} {i x : Nat} (hd : decode X.2.1 pc = .ok (.aload_n k, 1)) (hi : (k : Nat) = i) (hl : ls i = some (.ref x)) (kk : Zf X mc ms (pc + 1) ls (.ref x :: st) h Q) : Zf X mc ms pc ls st h Q := fun p l e Rm s m args below meth c H locs cells slots D tc g A MC MS lsA C => lv_aload_n C.1.1 C.1.2.1 hd hi (C.2.2.2.2.2.2.1 _ _ hl) (kk p l e Rm s m args below meth c H locs cells slots D tc g A MC MS lsA C)
theorem z_aload_nF {k : Fin 4} {i : Nat} {x : UInt32} (hd : decode X.2.1 pc = .ok (.aload_n k, 1)) (hi : (k : Nat) = i) (hl : ls i = some (.float x)) (kk : Zf X mc ms (pc + 1) ls (.float x :: st) h Q) : Zf X mc ms pc ls st h Q := fun p l e Rm s m args below meth c H locs cells slots D tc g A MC MS lsA C => lv_aload_n C.1.1 C.1.2.1 hd hi (C.2.2.2.2.2.2.1 _ _ hl) (kk p l e Rm s m args below meth c H locs cells slots D tc g A MC MS lsA C)
theorem z_aload {i x : Nat} (hd : decode X.2.1 pc = .ok (.aload i, 2)) (hl : ls i = some (.ref x)) (kk : Zf X mc ms (pc + 2) ls (.ref x :: st) h Q) : Zf X mc ms pc ls st h Q := fun p l e Rm s m args below meth c H locs cells slots D tc g A MC MS lsA C => lv_aload C.1.1 C.1.2.1 hd (C.2.2.2.2.2.2.1 _ _ hl) (kk p l e Rm s m args below meth c H locs cells slots D tc g A MC MS lsA C)
theorem z_aloadF {i : Nat} {x : UInt32} (hd : decode X.2.1 pc = .ok (.aload i, 2)) (hl : ls i = some (.float x)) (kk : Zf X mc ms (pc + 2) ls (.float x :: st) h Q) : Zf X mc ms pc ls st h Q := fun p l e Rm s m args below meth c H locs cells slots D tc g A MC MS lsA C => lv_aload C.1.1 C.1.2.1 hd (C.2.2.2.2.2.2.1 _ _ hl) (kk p l e Rm s m args below meth c H locs cells slots D tc g A MC MS lsA C)
theorem z_dup {v : Value} (hd : decode X.2.1 pc = .ok (.dup, 1)) (hv : v.category = 1) (kk : Zf X mc ms (pc + 1) ls (v :: v :: st) h Q) : Zf X mc ms pc ls (v :: st) h Q := fun p l e Rm s m args below meth c H locs cells slots D tc g A MC MS lsA C => lv_dup C.1.1 C.1.2.1 hd ((z_cat _ _).trans hv) (kk p l e Rm s m args below meth c H locs cells slots D tc g A MC MS lsA C)
theorem z_pop {v : Value} (hd : decode X.2.1 pc = .ok (.pop, 1)) (hv : v.category = 1) (kk : Zf X mc ms (pc + 1) ls st h Q) : Zf X mc ms pc ls (v :: st) h Q := fun p l e Rm s m args below meth c H locs cells slots D tc g A MC MS lsA C => lv_pop C.1.1 C.1.2.1 hd ((z_cat _ _).trans hv) (kk p l e Rm s m args below meth c H locs cells slots D tc g A MC MS lsA C)
theorem z_dup_x1 {v w : Value} (hd : decode X.2.1 pc = .ok (.dup_x1, 1)) (hv : v.category = 1) (hw : w.category = 1) (kk : Zf X mc ms (pc + 1) ls (v :: w :: v :: st) h Q) : Zf X mc ms pc ls (v :: w :: st) h Q := fun p l e Rm s m args below meth c H locs cells slots D tc g A MC MS lsA C => lv_dup_x1 C.1.1 C.1.2.1 hd ((z_cat _ _).trans hv) ((z_cat _ _).trans hw) (kk p l e Rm s m args below meth c H locs cells slots D tc g A MC MS lsA C)
theorem z_dup2 {v w : Value} (hd : decode X.2.1 pc = .ok (.dup2, 1)) (hv : v.category = 1) (hw : w.category = 1) (kk : Zf X mc ms (pc + 1) ls (v :: w :: v :: w :: st) h Q) : Zf X mc ms pc ls (v :: w :: st) h Q := fun p l e Rm s m args below meth c H locs cells slots D tc g A MC MS lsA C => lv_dup2_11 C.1.1 C.1.2.1 hd ((z_cat _ _).trans hv) ((z_cat _ _).trans hw) (kk p l e Rm s m args below meth c H locs cells slots D tc g A MC MS lsA C)
theorem z_lcmp {x y : Int64} (hd : decode X.2.1 pc = .ok (.lcmp, 1)) (kk : Zf X mc ms (pc + 1) ls (.int (lg_cmp x y) :: st) h Q) : Zf X mc ms pc ls (.long y :: .long x :: st) h Q := fun p l e Rm s m args below meth c H locs cells slots D tc g A MC MS lsA C => W.lcmp C.1.1 C.1.2.1 hd (kk p l e Rm s m args below meth c H locs cells slots D tc g A MC MS lsA C)
theorem z_if_eq {x : Int32} {off : Int} (tgt : Nat) (hd : decode X.2.1 pc = .ok (.ifCond .eq off, 3)) (ht : (pc : Int) + off = (tgt : Int)) (kt : x = 0 → Zf X mc ms tgt ls st h Q) (kf : ¬ x = 0 → Zf X mc ms (pc + 3) ls st h Q) : Zf X mc ms pc ls (.int x :: st) h Q := fun p l e Rm s m args below meth c H locs cells slots D tc g A MC MS lsA C => lv_if_eq C.1.1 C.1.2.1 hd ht (fun z => kt z p l e Rm s m args below meth c H locs cells slots D tc g A MC MS lsA C) (fun z => kf z p l e Rm s m args below meth c H locs cells slots D tc g A MC MS lsA C)
theorem z_icmp_eq {x y : Int32} {off : Int} (tgt : Nat) (hd : decode X.2.1 pc = .ok (.if_icmp .eq off, 3)) (ht : (pc : Int) + off = (tgt : Int)) (kt : x = y → Zf X mc ms tgt ls st h Q) (kf : ¬ x = y → Zf X mc ms (pc + 3) ls st h Q) : Zf X mc ms pc ls (.int y :: .int x :: st) h Q := fun p l e Rm s m args below meth c H locs cells slots D tc g A MC MS lsA C => lv_icmp_eq C.1.1 C.1.2.1 hd ht (fun z => kt z p l e Rm s m args below meth c H locs cells slots D tc g A MC MS lsA C) (fun z => kf z p l e Rm s m args below meth c H locs cells slots D tc g A MC MS lsA C)
theorem z_if_ne {x : Int32} {off : Int} (tgt : Nat) (hd : decode X.2.1 pc = .ok (.ifCond .ne off, 3)) (ht : (pc : Int) + off = (tgt : Int)) (kt : ¬ x = 0 → Zf X mc ms tgt ls st h Q) (kf : x = 0 → Zf X mc ms (pc + 3) ls st h Q) : Zf X mc ms pc ls (.int x :: st) h Q := fun p l e Rm s m args below meth c H locs cells slots D tc g A MC MS lsA C => lv_if_ne C.1.1 C.1.2.1 hd ht (fun z => kt z p l e Rm s m args below meth c H locs cells slots D tc g A MC MS lsA C) (fun z => kf z p l e Rm s m args below meth c H locs cells slots D tc g A MC MS lsA C)
theorem z_icmp_ne {x y : Int32} {off : Int} (tgt : Nat) (hd : decode X.2.1 pc = .ok (.if_icmp .ne off, 3)) (ht : (pc : Int) + off = (tgt : Int)) (kt : ¬ x = y → Zf X mc ms tgt ls st h Q) (kf : x = y → Zf X mc ms (pc + 3) ls st h Q) : Zf X mc ms pc ls (.int y :: .int x :: st) h Q := fun p l e Rm s m args below meth c H locs cells slots D tc g A MC MS lsA C => lv_icmp_ne C.1.1 C.1.2.1 hd ht (fun z => kt z p l e Rm s m args below meth c H locs cells slots D tc g A MC MS lsA C) (fun z => kf z p l e Rm s m args below meth c H locs cells slots D tc g A MC MS lsA C)
theorem z_if_lt {x : Int32} {off : Int} (tgt : Nat) (hd : decode X.2.1 pc = .ok (.ifCond .lt off, 3)) (ht : (pc : Int) + off = (tgt : Int)) (kt : x < 0 → Zf X mc ms tgt ls st h Q) (kf : ¬ x < 0 → Zf X mc ms (pc + 3) ls st h Q) : Zf X mc ms pc ls (.int x :: st) h Q := fun p l e Rm s m args below meth c H locs cells slots D tc g A MC MS lsA C => lv_if_lt C.1.1 C.1.2.1 hd ht (fun z => kt z p l e Rm s m args below meth c H locs cells slots D tc g A MC MS lsA C) (fun z => kf z p l e Rm s m args below meth c H locs cells slots D tc g A MC MS lsA C)
theorem z_icmp_lt {x y : Int32} {off : Int} (tgt : Nat) (hd : decode X.2.1 pc = .ok (.if_icmp .lt off, 3)) (ht : (pc : Int) + off = (tgt : Int)) (kt : x < y → Zf X mc ms tgt ls st h Q) (kf : ¬ x < y → Zf X mc ms (pc + 3) ls st h Q) : Zf X mc ms pc ls (.int y :: .int x :: st) h Q := fun p l e Rm s m args below meth c H locs cells slots D tc g A MC MS lsA C => lv_icmp_lt C.1.1 C.1.2.1 hd ht (fun z => kt z p l e Rm s m args below meth c H locs cells slots D tc g A MC MS lsA C) (fun z => kf z p l e Rm s m args below meth c H locs cells slots D tc g A MC MS lsA C)
theorem z_if_ge {x : Int32} {off : Int} (tgt : Nat) (hd : decode X.2.1 pc = .ok (.ifCond .ge off, 3)) (ht : (pc : Int) + off = (tgt : Int)) (kt : 0 ≤ x → Zf X mc ms tgt ls st h Q) (kf : ¬ 0 ≤ x → Zf X mc ms (pc + 3) ls st h Q) : Zf X mc ms pc ls (.int x :: st) h Q := fun p l e Rm s m args below meth c H locs cells slots D tc g A MC MS lsA C => lv_if_ge C.1.1 C.1.2.1 hd ht (fun z => kt z p l e Rm s m args below meth c H locs cells slots D tc g A MC MS lsA C) (fun z => kf z p l e Rm s m args below meth c H locs cells slots D tc g A MC MS lsA C)
theorem z_icmp_ge {x y : Int32} {off : Int} (tgt : Nat) (hd : decode X.2.1 pc = .ok (.if_icmp .ge off, 3)) (ht : (pc : Int) + off = (tgt : Int)) (kt : y ≤ x → Zf X mc ms tgt ls st h Q) (kf : ¬ y ≤ x → Zf X mc ms (pc + 3) ls st h Q) : Zf X mc ms pc ls (.int y :: .int x :: st) h Q := fun p l e Rm s m args below meth c H locs cells slots D tc g A MC MS lsA C => lv_icmp_ge C.1.1 C.1.2.1 hd ht (fun z => kt z p l e Rm s m args below meth c H locs cells slots D tc g A MC MS lsA C) (fun z => kf z p l e Rm s m args below meth c H locs cells slots D tc g A MC MS lsA C)
theorem z_if_gt {x : Int32} {off : Int} (tgt : Nat) (hd : decode X.2.1 pc = .ok (.ifCond .gt off, 3)) (ht : (pc : Int) + off = (tgt : Int)) (kt : 0 < x → Zf X mc ms tgt ls st h Q) (kf : ¬ 0 < x → Zf X mc ms (pc + 3) ls st h Q) : Zf X mc ms pc ls (.int x :: st) h Q := fun p l e Rm s m args below meth c H locs cells slots D tc g A MC MS lsA C => lv_if_gt C.1.1 C.1.2.1 hd ht (fun z => kt z p l e Rm s m args below meth c H locs cells slots D tc g A MC MS lsA C) (fun z => kf z p l e Rm s m args below meth c H locs cells slots D tc g A MC MS lsA C)
theorem z_icmp_gt {x y : Int32} {off : Int} (tgt : Nat) (hd : decode X.2.1 pc = .ok (.if_icmp .gt off, 3)) (ht : (pc : Int) + off = (tgt : Int)) (kt : y < x → Zf X mc ms tgt ls st h Q) (kf : ¬ y < x → Zf X mc ms (pc + 3) ls st h Q) : Zf X mc ms pc ls (.int y :: .int x :: st) h Q := fun p l e Rm s m args below meth c H locs cells slots D tc g A MC MS lsA C => lv_icmp_gt C.1.1 C.1.2.1 hd ht (fun z => kt z p l e Rm s m args below meth c H locs cells slots D tc g A MC MS lsA C) (fun z => kf z p l e Rm s m args below meth c H locs cells slots D tc g A MC MS lsA C)
theorem z_if_le {x : Int32} {off : Int} (tgt : Nat) (hd : decode X.2.1 pc = .ok (.ifCond .le off, 3)) (ht : (pc : Int) + off = (tgt : Int)) (kt : x ≤ 0 → Zf X mc ms tgt ls st h Q) (kf : ¬ x ≤ 0 → Zf X mc ms (pc + 3) ls st h Q) : Zf X mc ms pc ls (.int x :: st) h Q := fun p l e Rm s m args below meth c H locs cells slots D tc g A MC MS lsA C => lv_if_le C.1.1 C.1.2.1 hd ht (fun z => kt z p l e Rm s m args below meth c H locs cells slots D tc g A MC MS lsA C) (fun z => kf z p l e Rm s m args below meth c H locs cells slots D tc g A MC MS lsA C)
theorem z_icmp_le {x y : Int32} {off : Int} (tgt : Nat) (hd : decode X.2.1 pc = .ok (.if_icmp .le off, 3)) (ht : (pc : Int) + off = (tgt : Int)) (kt : x ≤ y → Zf X mc ms tgt ls st h Q) (kf : ¬ x ≤ y → Zf X mc ms (pc + 3) ls st h Q) : Zf X mc ms pc ls (.int y :: .int x :: st) h Q := fun p l e Rm s m args below meth c H locs cells slots D tc g A MC MS lsA C => lv_icmp_le C.1.1 C.1.2.1 hd ht (fun z => kt z p l e Rm s m args below meth c H locs cells slots D tc g A MC MS lsA C) (fun z => kf z p l e Rm s m args below meth c H locs cells slots D tc g A MC MS lsA C)
theorem z_goto {off : Int} (tgt : Nat) (hd : decode X.2.1 pc = .ok (.goto off, 3)) (ht : (pc : Int) + off = (tgt : Int)) (kk : Zf X mc ms tgt ls st h Q) : Zf X mc ms pc ls st h Q := fun p l e Rm s m args below meth c H locs cells slots D tc g A MC MS lsA C => lv_goto C.1.1 C.1.2.1 hd ht (kk p l e Rm s m args below meth c H locs cells slots D tc g A MC MS lsA C)
theorem z_tableIn {dflt lo hi : Int} {offs : Array Int} {len : Nat} {x : Int32} {off : Int} (tgt : Nat) (hd : decode X.2.1 pc = .ok (.tableswitch dflt lo hi offs, len)) (h1 : ¬ x.toInt < lo) (h2 : ¬ hi < x.toInt) (ho : offs[(x.toInt - lo).toNat]? = some off) (ht : (pc : Int) + off = (tgt : Int)) (kk : Zf X mc ms tgt ls st h Q) : Zf X mc ms pc ls (.int x :: st) h Q := fun p l e Rm s m args below meth c H locs cells slots D tc g A MC MS lsA C => lv_tableIn C.1.1 C.1.2.1 hd h1 h2 ho ht (kk p l e Rm s m args below meth c H locs cells slots D tc g A MC MS lsA C)
theorem z_tableOut {dflt lo hi : Int} {offs : Array Int} {len : Nat} {x : Int32} (tgt : Nat) (hd : decode X.2.1 pc = .ok (.tableswitch dflt lo hi offs, len)) (h1 : x.toInt < lo ∨ hi < x.toInt) (ht : (pc : Int) + dflt = (tgt : Int)) (kk : Zf X mc ms tgt ls st h Q) : Zf X mc ms pc ls (.int x :: st) h Q := fun p l e Rm s m args below meth c H locs cells slots D tc g A MC MS lsA C => lv_tableOut C.1.1 C.1.2.1 hd h1 ht (kk p l e Rm s m args below meth c H locs cells slots D tc g A MC MS lsA C)
theorem z_lookup {dflt : Int} {ps : Array (Int × Int)} {len : Nat} {x : Int32} {off : Int} (tgt : Nat) (hd : decode X.2.1 pc = .ok (.lookupswitch dflt ps, len)) (hp : (ps.toList.zip (ps.toList.drop 1)).all (fun (a, next) => a.1 < next.1) = true) (ho : Op.lookupswitch.offset ps.toList dflt x.toInt = off) (ht : (pc : Int) + off = (tgt : Int)) (kk : Zf X mc ms tgt ls st h Q) : Zf X mc ms pc ls (.int x :: st) h Q := fun p l e Rm s m args below meth c H locs cells slots D tc g A MC MS lsA C => lv_lookup C.1.1 C.1.2.1 hd hp ho ht (kk p l e Rm s m args below meth c H locs cells slots D tc g A MC MS lsA C)
theorem z_ldc {index : Nat} {v : Int32} (hd : decode X.2.1 pc = .ok (.ldc index, 2)) (hw : Cond.constant X.1 index v ∈ zTB) (kk : Zf X mc ms (pc + 2) ls (.int v :: st) h Q) : Zf X mc ms pc ls st h Q := fun p l e Rm s m args below meth c H locs cells slots D tc g A MC MS lsA C => lv_ldc C.1.1 C.1.2.1 C.1.2.2.2.2.1 (C.1.2.2.2.2.2.1 _ hw) hd (kk p l e Rm s m args below meth c H locs cells slots D tc g A MC MS lsA C)
theorem z_ldc2 {index : Nat} {v : Int64} (hd : decode X.2.1 pc = .ok (.ldc2_w index, 3)) (hw : Cond.constantLong X.1 index v ∈ zTB) (kk : Zf X mc ms (pc + 3) ls (.long v :: st) h Q) : Zf X mc ms pc ls st h Q := fun p l e Rm s m args below meth c H locs cells slots D tc g A MC MS lsA C => lv_ldc2 C.1.1 C.1.2.1 C.1.2.2.2.2.1 (C.1.2.2.2.2.2.1 _ hw) hd (kk p l e Rm s m args below meth c H locs cells slots D tc g A MC MS lsA C)
theorem z_topi {x : Int32} (kk : ∀ y : Int32, y = x → Zf X mc ms pc ls (.int y :: st) h Q) : Zf X mc ms pc ls (.int x :: st) h Q := kk x rfl
theorem z_topl {x : Int64} (kk : ∀ y : Int64, y = x → Zf X mc ms pc ls (.long y :: st) h Q) : Zf X mc ms pc ls (.long x :: st) h Q := kk x rfl
theorem z_top {x y : Value} (e : x = y) (kk : Zf X mc ms pc ls (y :: st) h Q) : Zf X mc ms pc ls (x :: st) h Q := by rw [e]; exact kk
theorem z_st {s2 : List Value} (e : st = s2) (kk : Zf X mc ms pc ls s2 h Q) : Zf X mc ms pc ls st h Q := by rw [e]; exact kk
theorem z_hp {h2 : ZH} (e : h = h2) (kk : Zf X mc ms pc ls st h2 Q) : Zf X mc ms pc ls st h Q := by rw [e]; exact kk
end ZR
end
section
/-! stores into locals; the heap; calls; ends -/
def zlst (g : ZG) (nL : Nat) (ls : Nat → Option Value) : List (Nat × Value) := (List.range nL).filterMap (fun i => (ls i).map (fun v => (i, zc g v)))
theorem zlst_mem {g : ZG} {nL i : Nat} {ls : Nat → Option Value} {v : Value} (hi : i < nL) (h : ls i = some v) : (i, zc g v) ∈ zlst g nL ls := by
  refine List.mem_filterMap.mpr ⟨i, List.mem_range.mpr hi, ?_⟩
  rw [h]; rfl
theorem zlst_has {lg : Bool} {g : ZG} {nL : Nat} {ls : Nat → Option Value} {lsA : Array Slot} (h : zlv lg nL g ls lsA) : lv_has lsA nL (zlst g nL ls) := by
  refine ⟨h.1, h.2.1, fun q hq => ?_⟩
  obtain ⟨i, -, hi⟩ := List.mem_filterMap.mp hq
  cases hv : ls i with
  | none => rw [hv] at hi; cases hi
  | some v =>
    rw [hv] at hi
    cases hi
    exact h.2.2.1 i v hv
theorem zlv_lt {lg : Bool} {g : ZG} {nL i : Nat} {ls : Nat → Option Value} {lsA : Array Slot} {v : Value} (h : zlv lg nL g ls lsA) (hi : ls i = some v) : i < nL := by
  rw [← h.1]; exact lv_lt (h.2.2.1 i v hi)
/-- a value of one slot put into place i: no long stands right before it -/
theorem zlv_put1 {lg : Bool} {g : ZG} {nL i : Nat} {ls : Nat → Option Value} {lsA lsB : Array Slot} {x : Value} {lv' : List (Nat × Value)} (h : zlv lg nL g ls lsA) (hx : x.category = 1) (hp : ∀ (j : Nat) (w : Value), j + 1 = i → ls j = some w → w.category = 1)
    (hl : (i, zc g x) :: (zlst g nL ls).filter (fun q => !(q.1 == i) && !(q.1 + 1 == i && q.2.category == 2)) = lv') (hB : lv_has lsB nL lv') : zlv lg nL g (va_up ls i (some x)) lsB := by
  subst hl
  refine ⟨hB.1, hB.2.1, fun j v hj => ?_, fun hlg j v hj => ?_⟩
  · by_cases hji : j = i
    · subst hji
      rw [va_up_self] at hj
      cases hj
      exact hB.2.2 (j, zc g x) List.mem_cons_self
    · rw [va_up_ne _ _ hji] at hj
      refine hB.2.2 (j, zc g v) (List.mem_cons_of_mem _ (List.mem_filter.mpr ⟨zlst_mem (zlv_lt h hj) hj, ?_⟩))
      have h1 : (j == i) = false := by simpa using hji
      simp only [h1, Bool.not_false, Bool.true_and, Bool.not_eq_true', Bool.and_eq_false_iff]
      by_cases h2 : j + 1 = i
      · right
        rw [z_cat, hp j v h2 hj]; rfl
      · left
        simpa using h2
  · by_cases hji : j = i
    · subst hji
      rw [va_up_self] at hj
      cases hj
      rw [z_cat]; exact hx
    · rw [va_up_ne _ _ hji] at hj
      exact h.2.2.2 hlg j v hj
theorem zlv_put2 {lg : Bool} {g : ZG} {nL i : Nat} {ls : Nat → Option Value} {lsA lsB : Array Slot} {x : Value} {lv' : List (Nat × Value)} (h : zlv lg nL g ls lsA) (hlg : lg = true) (hp : ∀ (j : Nat) (w : Value), j + 1 = i → ls j = some w → w.category = 1) (hn : ls (i + 1) = none)
    (hl : (i, zc g x) :: (zlst g nL ls).filter (fun q => !(q.1 == i) && (!(q.1 == i + 1) && !(q.1 + 1 == i && q.2.category == 2))) = lv') (hB : lv_has lsB nL lv') : zlv lg nL g (va_up ls i (some x)) lsB := by
  subst hl
  refine ⟨hB.1, hB.2.1, fun j v hj => ?_, fun hf => by rw [hlg] at hf; cases hf⟩
  by_cases hji : j = i
  · subst hji
    rw [va_up_self] at hj
    cases hj
    exact hB.2.2 (j, zc g x) List.mem_cons_self
  · rw [va_up_ne _ _ hji] at hj
    refine hB.2.2 (j, zc g v) (List.mem_cons_of_mem _ (List.mem_filter.mpr ⟨zlst_mem (zlv_lt h hj) hj, ?_⟩))
    have h1 : (j == i) = false := by simpa using hji
    have h3 : (j == i + 1) = false := by
      by_cases e : j = i + 1
      · rw [e, hn] at hj; cases hj
      · simpa using e
    simp only [h1, h3, Bool.not_false, Bool.true_and, Bool.not_eq_true', Bool.and_eq_false_iff]
    by_cases h2 : j + 1 = i
    · right
      rw [z_cat, hp j v h2 hj]; rfl
    · left
      simpa using h2
section ZS
variable {X : ZX} {mc ms pc : Nat} {ls : Nat → Option Value} {st : List Value} {h : ZH} {Q : Option Value → ZH → Prop}
theorem zAt.lv {p : Program} {Rm : Room} {s : State} {m : MethodId} {args : Array Value} {meth : Method} {c : Code} {H : Heap} {locs : List Loc} {cells slots : Nat} {D : va_G} {tc : Nat → ClassId} {g : ZG} {A : Nat → Prop} {MC MS : Nat} {lsA lsB : Array Slot} {ls2 : Nat → Option Value}
    (C : zAt X mc ms ls h p Rm s m args meth c H locs cells slots D tc g A MC MS lsA) (hB : zlv X.2.2.2.2.2.2.2 X.2.2.1 g ls2 lsB) : zAt X mc ms ls2 h p Rm s m args meth c H locs cells slots D tc g A MC MS lsB := ⟨C.1, C.2.1, C.2.2.1, C.2.2.2.1, hB⟩
theorem z_istoreL {i : Nat} {x : Int32} (hd : decode X.2.1 pc = .ok (.istore i, 2)) (hn : i < X.2.2.1) (hp : ∀ (j : Nat) (w : Value), j + 1 = i → ls j = some w → w.category = 1) (kk : Zf X mc ms (pc + 2) (va_up ls i (some (.int x))) st h Q) : Zf X mc ms pc ls (.int x :: st) h Q :=
  fun p l e Rm s m args below meth c H locs cells slots D tc g A MC MS lsA C => lv_istore C.1.1 C.1.2.1 hd (zlst_has C.2.2.2.2) hn rfl (fun lsB hB => kk p l e Rm s m args below meth c H locs cells slots D tc g A MC MS lsB (C.lv (zlv_put1 C.2.2.2.2 (x := .int x) rfl hp rfl hB)))
theorem z_istore_nL {k : Fin 4} {i : Nat} {x : Int32} (hd : decode X.2.1 pc = .ok (.istore_n k, 1)) (hi : (k : Nat) = i) (hn : i < X.2.2.1) (hp : ∀ (j : Nat) (w : Value), j + 1 = i → ls j = some w → w.category = 1) (kk : Zf X mc ms (pc + 1) (va_up ls i (some (.int x))) st h Q) : Zf X mc ms pc ls (.int x :: st) h Q :=
  fun p l e Rm s m args below meth c H locs cells slots D tc g A MC MS lsA C => lv_istore_n C.1.1 C.1.2.1 hd hi (zlst_has C.2.2.2.2) hn rfl (fun lsB hB => kk p l e Rm s m args below meth c H locs cells slots D tc g A MC MS lsB (C.lv (zlv_put1 C.2.2.2.2 (x := .int x) rfl hp rfl hB)))
theorem z_lstoreL {i : Nat} {x : Int64} (hd : decode X.2.1 pc = .ok (.lstore i, 2)) (hg : X.2.2.2.2.2.2.2 = true) (hn : i + 1 < X.2.2.1) (hp : ∀ (j : Nat) (w : Value), j + 1 = i → ls j = some w → w.category = 1) (hq : ls (i + 1) = none) (kk : Zf X mc ms (pc + 2) (va_up ls i (some (.long x))) st h Q) : Zf X mc ms pc ls (.long x :: st) h Q :=
  fun p l e Rm s m args below meth c H locs cells slots D tc g A MC MS lsA C => lv_lstore C.1.1 C.1.2.1 hd (zlst_has C.2.2.2.2) hn rfl (fun lsB hB => kk p l e Rm s m args below meth c H locs cells slots D tc g A MC MS lsB (C.lv (zlv_put2 C.2.2.2.2 (x := .long x) hg hp hq rfl hB)))
theorem z_astoreL {i : Nat} {x : Nat} (hd : decode X.2.1 pc = .ok (.astore i, 2)) (hn : i < X.2.2.1) (hp : ∀ (j : Nat) (w : Value), j + 1 = i → ls j = some w → w.category = 1) (kk : Zf X mc ms (pc + 2) (va_up ls i (some (.ref x))) st h Q) : Zf X mc ms pc ls (.ref x :: st) h Q :=
  fun p l e Rm s m args below meth c H locs cells slots D tc g A MC MS lsA C => lv_astore C.1.1 C.1.2.1 hd (zlst_has C.2.2.2.2) hn rfl (fun lsB hB => kk p l e Rm s m args below meth c H locs cells slots D tc g A MC MS lsB (C.lv (zlv_put1 C.2.2.2.2 (x := .ref x) rfl hp rfl hB)))
theorem z_astore_nL {k : Fin 4} {i : Nat} {x : Nat} (hd : decode X.2.1 pc = .ok (.astore_n k, 1)) (hi : (k : Nat) = i) (hn : i < X.2.2.1) (hp : ∀ (j : Nat) (w : Value), j + 1 = i → ls j = some w → w.category = 1) (kk : Zf X mc ms (pc + 1) (va_up ls i (some (.ref x))) st h Q) : Zf X mc ms pc ls (.ref x :: st) h Q :=
  fun p l e Rm s m args below meth c H locs cells slots D tc g A MC MS lsA C => lv_astore_n C.1.1 C.1.2.1 hd hi (zlst_has C.2.2.2.2) hn rfl (fun lsB hB => kk p l e Rm s m args below meth c H locs cells slots D tc g A MC MS lsB (C.lv (zlv_put1 C.2.2.2.2 (x := .ref x) rfl hp rfl hB)))
theorem z_iincL {i : Nat} {n : Int} {x : Int32} (hd : decode X.2.1 pc = .ok (.iinc i n, 3)) (hl : ls i = some (.int x)) (hp : ∀ (j : Nat) (w : Value), j + 1 = i → ls j = some w → w.category = 1) (kk : Zf X mc ms (pc + 3) (va_up ls i (some (.int (x + Int32.ofInt n)))) st h Q) : Zf X mc ms pc ls st h Q :=
  fun p l e Rm s m args below meth c H locs cells slots D tc g A MC MS lsA C => by
    obtain ⟨k, hk⟩ := List.getElem?_of_mem (zlst_mem (g := g) (zlv_lt C.2.2.2.2 hl) hl)
    exact lv_iinc C.1.1 C.1.2.1 hd (zlst_has C.2.2.2.2) hk rfl (zlv_lt C.2.2.2.2 hl) rfl (fun lsB hB => kk p l e Rm s m args below meth c H locs cells slots D tc g A MC MS lsB (C.lv (zlv_put1 C.2.2.2.2 (x := .int (x + Int32.ofInt n)) rfl hp rfl hB)))
/-- a method without longs: what may stand right before -/
theorem z_nl {R : Prop} (hg : X.2.2.2.2.2.2.2 = false) (kk : (∀ (j : Nat) (w : Value), ls j = some w → w.category = 1) → Zf X mc ms pc ls st h Q) : Zf X mc ms pc ls st h Q :=
  fun p l e Rm s m args below meth c H locs cells slots D tc g A MC MS lsA C => kk (fun j w hj => by rw [← z_cat g]; exact C.2.2.2.2.2.2.2 hg j w hj) p l e Rm s m args below meth c H locs cells slots D tc g A MC MS lsA C
theorem z_istore {i : Nat} {x : Int32} (hd : decode X.2.1 pc = .ok (.istore i, 2)) (hn : i < X.2.2.1) (hg : X.2.2.2.2.2.2.2 = false) (kk : Zf X mc ms (pc + 2) (va_up ls i (some (.int x))) st h Q) : Zf X mc ms pc ls (.int x :: st) h Q := z_nl (R := True) hg (fun w => z_istoreL hd hn (fun j v _ hj => w j v hj) kk)
theorem z_istore_n {k : Fin 4} {i : Nat} {x : Int32} (hd : decode X.2.1 pc = .ok (.istore_n k, 1)) (hi : (k : Nat) = i) (hn : i < X.2.2.1) (hg : X.2.2.2.2.2.2.2 = false) (kk : Zf X mc ms (pc + 1) (va_up ls i (some (.int x))) st h Q) : Zf X mc ms pc ls (.int x :: st) h Q := z_nl (R := True) hg (fun w => z_istore_nL hd hi hn (fun j v _ hj => w j v hj) kk)
theorem z_astore {i : Nat} {x : Nat} (hd : decode X.2.1 pc = .ok (.astore i, 2)) (hn : i < X.2.2.1) (hg : X.2.2.2.2.2.2.2 = false) (kk : Zf X mc ms (pc + 2) (va_up ls i (some (.ref x))) st h Q) : Zf X mc ms pc ls (.ref x :: st) h Q := z_nl (R := True) hg (fun w => z_astoreL hd hn (fun j v _ hj => w j v hj) kk)
theorem z_astore_n {k : Fin 4} {i : Nat} {x : Nat} (hd : decode X.2.1 pc = .ok (.astore_n k, 1)) (hi : (k : Nat) = i) (hn : i < X.2.2.1) (hg : X.2.2.2.2.2.2.2 = false) (kk : Zf X mc ms (pc + 1) (va_up ls i (some (.ref x))) st h Q) : Zf X mc ms pc ls (.ref x :: st) h Q := z_nl (R := True) hg (fun w => z_astore_nL hd hi hn (fun j v _ hj => w j v hj) kk)
theorem z_iinc {i : Nat} {n : Int} {x : Int32} (hd : decode X.2.1 pc = .ok (.iinc i n, 3)) (hl : ls i = some (.int x)) (hg : X.2.2.2.2.2.2.2 = false) (kk : Zf X mc ms (pc + 3) (va_up ls i (some (.int (x + Int32.ofInt n)))) st h Q) : Zf X mc ms pc ls st h Q := z_nl (R := True) hg (fun w => z_iincL hd hl (fun j v _ hj => w j v hj) kk)
end ZS
end
section
/-! the heap's rows -/
def zCl (ci : Nat) (C : String) (T : u_T) (N : Nat) (ty : Nat → FieldType) : Prop := vwCl[ci]? = some (C, T, N) ∧ (∀ w ∈ u_ws C T N, w ∈ zTB) ∧ (∀ k, k < N → parseFieldDescriptor (T k).2.2.1 = some (ty k)) ∧ (∀ a, a < N → ∀ b, b < N → a ≠ b → (T a).2.1 ≠ (T b).2.1) ∧ (zT ci).length = N
/-- field k of class ci, by entry index of own: b tells whether it is a reference -/
def zFd (own : String) (index ci k : Nat) (b fin : Bool) : Prop := ∃ (C : String) (T : u_T) (N : Nat) (ty : Nat → FieldType), zCl ci C T N ty ∧ k < N ∧ (zT ci)[k]? = some b ∧ Cond.fieldLink own index (T k).1 (T k).2.1 (T k).2.2.1 ∈ zTB ∧ (T k).2.2.2 = fin ∧ (b = false → ty k = .int) ∧ (b = true → ∀ q : Option Nat, narrow (ty k) (va_rf q) = va_rf q ∧ fits (ty k) (va_rf q) = true) ∧ (fin = true → (T k).1 = own)
theorem zE_i {tc : Nat → ClassId} {g : ZG} {n : Nat} {K : Nat → Nat × Nat} {I : Nat → Nat → Int32} {L : Nat → Nat → Int64} {R : Nat → Nat → Option Nat} {a z : Nat} (hk : K a = (0, z)) : zE tc g (n, K, I, L, R) a = .inl (tc 0, z, .inl (I a)) := by simp [zE, hk]
theorem zE_l {tc : Nat → ClassId} {g : ZG} {n : Nat} {K : Nat → Nat × Nat} {I : Nat → Nat → Int32} {L : Nat → Nat → Int64} {R : Nat → Nat → Option Nat} {a z : Nat} (hk : K a = (1, z)) : zE tc g (n, K, I, L, R) a = .inl (tc 1, z, .inr (.inl (L a))) := by simp [zE, hk]
theorem zE_c {tc : Nat → ClassId} {g : ZG} {n : Nat} {K : Nat → Nat × Nat} {I : Nat → Nat → Int32} {L : Nat → Nat → Int64} {R : Nat → Nat → Option Nat} {a z : Nat} (hk : K a = (2, z)) : zE tc g (n, K, I, L, R) a = .inl (tc 2, z, .inl (I a)) := by simp [zE, hk]
theorem zE_p {tc : Nat → ClassId} {g : ZG} {n : Nat} {K : Nat → Nat × Nat} {I : Nat → Nat → Int32} {L : Nat → Nat → Int64} {R : Nat → Nat → Option Nat} {a z : Nat} (hk : K a = (3, z)) : zE tc g (n, K, I, L, R) a = .inl (tc 3, z, .inr (.inr (.inr (.inr (fun j => (R a j).map g.1))))) := by simp [zE, hk]
theorem zE_q {tc : Nat → ClassId} {g : ZG} {n : Nat} {K : Nat → Nat × Nat} {I : Nat → Nat → Int32} {L : Nat → Nat → Int64} {R : Nat → Nat → Option Nat} {a z : Nat} (hk : K a = (4, z)) : zE tc g (n, K, I, L, R) a = .inl (tc 4, z, .inr (.inr (.inr (.inr (fun j => (R a j).map g.1))))) := by simp [zE, hk]
theorem zE_o {tc : Nat → ClassId} {g : ZG} {n : Nat} {K : Nat → Nat × Nat} {I : Nat → Nat → Int32} {L : Nat → Nat → Int64} {R : Nat → Nat → Option Nat} {a c z : Nat} (hk : K a = (c + 5, z)) : zE tc g (n, K, I, L, R) a = .inr (c, zFg g (I a) (R a) 0 (zT c)) := by simp [zE, hk]
theorem zE_I {tc : Nat → ClassId} {g : ZG} {n : Nat} {K : Nat → Nat × Nat} {I : Nat → Nat → Int32} {L : Nat → Nat → Int64} {R : Nat → Nat → Option Nat} {a b k : Nat} {v : Int32} (hb : b ≠ a) : zE tc g (n, K, zu I a k v, L, R) b = zE tc g (n, K, I, L, R) b := by simp only [zE, zu_ne _ _ _ hb]
theorem zE_L {tc : Nat → ClassId} {g : ZG} {n : Nat} {K : Nat → Nat × Nat} {I : Nat → Nat → Int32} {L : Nat → Nat → Int64} {R : Nat → Nat → Option Nat} {a b k : Nat} {v : Int64} (hb : b ≠ a) : zE tc g (n, K, I, zu L a k v, R) b = zE tc g (n, K, I, L, R) b := by simp only [zE, zu_ne _ _ _ hb]
theorem zE_R {tc : Nat → ClassId} {g : ZG} {n : Nat} {K : Nat → Nat × Nat} {I : Nat → Nat → Int32} {L : Nat → Nat → Int64} {R : Nat → Nat → Option Nat} {a b k : Nat} {v : Option Nat} (hb : b ≠ a) : zE tc g (n, K, I, L, zu R a k v) b = zE tc g (n, K, I, L, R) b := by simp only [zE, zu_ne _ _ _ hb]
section ZHR
variable {X : ZX} {mc ms pc : Nat} {ls : Nat → Option Value} {st : List Value} {Q : Option Value → ZH → Prop} {n : Nat} {K : Nat → Nat × Nat} {I : Nat → Nat → Int32} {L : Nat → Nat → Int64} {R : Nat → Nat → Option Nat}
theorem z_getI {index ci k a z : Nat} {fin : Bool} (hf : zFd X.1 index ci k false fin) (hd : decode X.2.1 pc = .ok (.getfield index, 3)) (ha : a < n) (hk : K a = (ci + 5, z)) (kk : Zf X mc ms (pc + 3) ls (.int (I a k) :: st) (n, K, I, L, R) Q) : Zf X mc ms pc ls (.ref a :: st) (n, K, I, L, R) Q := by
  intro p l e Rm s m args below meth c H locs cells slots D tc g A MC MS lsA C
  obtain ⟨cC, T, N, ty, ⟨hc, hin, hty, hnm, hlen⟩, hkN, hb, hlink, hfin, -⟩ := hf
  have he : (zW tc g (n, K, I, L, R))[a]? = some (g.1 a, .inr (ci, zFg g (I a) (R a) 0 (zT ci))) := by rw [zW_at ha, zE_o hk]
  have hv := zFg_i g (I a) (R a) (zT ci) 0 k hb
  rw [Nat.zero_add] at hv
  exact va_get (C := cC) (T := T) (N := N) C.1.1 C.1.2.1 C.1.2.2.2.2.2.1 hin C.1.2.2.2.2.1 C.2.2.1.1 C.2.2.2.1.1.1 a he hc k hkN (C.1.2.2.2.2.2.1 _ hlink) (fun _ h => h) hv hd (kk p l e Rm s m args below meth c H locs cells slots D tc g A MC MS lsA C)
theorem z_getR {index ci k a b z : Nat} {fin : Bool} (hf : zFd X.1 index ci k true fin) (hd : decode X.2.1 pc = .ok (.getfield index, 3)) (ha : a < n) (hk : K a = (ci + 5, z)) (hr : R a k = some b) (kk : Zf X mc ms (pc + 3) ls (.ref b :: st) (n, K, I, L, R) Q) : Zf X mc ms pc ls (.ref a :: st) (n, K, I, L, R) Q := by
  intro p l e Rm s m args below meth c H locs cells slots D tc g A MC MS lsA C
  obtain ⟨cC, T, N, ty, ⟨hc, hin, hty, hnm, hlen⟩, hkN, hb, hlink, hfin, -⟩ := hf
  have he : (zW tc g (n, K, I, L, R))[a]? = some (g.1 a, .inr (ci, zFg g (I a) (R a) 0 (zT ci))) := by rw [zW_at ha, zE_o hk]
  have hv := zFg_r g (I a) (R a) (zT ci) 0 k hb
  rw [Nat.zero_add, hr] at hv
  exact va_get (C := cC) (T := T) (N := N) C.1.1 C.1.2.1 C.1.2.2.2.2.2.1 hin C.1.2.2.2.2.1 C.2.2.1.1 C.2.2.2.1.1.1 a he hc k hkN (C.1.2.2.2.2.2.1 _ hlink) (fun _ h => h) hv hd (kk p l e Rm s m args below meth c H locs cells slots D tc g A MC MS lsA C)
/-- putfield: a field that isn't final, or a final one in its constructor -/
theorem z_wput {p : Program} {l : Launch} {e : Env} {Rm : Room} {s : State} {m : MethodId} {args : Array Value} {below : List Frame} {meth : Method} {c : Code} {H : Heap} {locs : List Loc} {cells slots : Nat} {Qs : State → Prop} {D : va_G} {tys : List (ClassId × FieldType)} {ws : va_W} {A : Nat → Prop} {cc : ByteArray} {lsA : Array Slot} {rest : List Value} {own : String} {index ci k a q0 : Nat} {b fin : Bool} {fs : List Value} {v : Value}
    (hexec : p.tables.exec = Jvm.exec) (hb : c.code = cc) (hts : ∀ w ∈ zTB, w.before args s = true) (hown : s.vm.findClass own = some m.cls) (hK : va_K D vwCl tys s) (hP : va_P D vwCl ws H) (hD : va_D A ws) (hS0 : va_S A s.heap H locs) (he : ws[q0]? = some (a, .inr (ci, fs))) (hl : fs.length = (zT ci).length)
    (hf : zFd own index ci k b fin) (hnit : fin = true → meth.name = "<init>") (hv : (b = false ∧ ∃ x : Int32, v = .int x) ∨ (b = true ∧ ∃ q : Option Nat, v = va_rf q)) (hdg : decode cc pc = .ok (.putfield index, 3))
    (kk : ∀ (H1 : Heap) (locs1 : List Loc), H1.size = H.size → va_P D vwCl (ws.set q0 (a, .inr (ci, fs.set k v))) H1 → va_D A (ws.set q0 (a, .inr (ci, fs.set k v))) → va_S A s.heap H1 locs1 → W p l e Rm s m args below meth c H1 locs1 cells slots Qs (F0 m (pc + 3) lsA rest)) : W p l e Rm s m args below meth c H locs cells slots Qs (F0 m pc lsA (v :: .ref a :: rest)) := by
  obtain ⟨cC, T, N, ty, ⟨hc, hin, hty, hnm, hlen⟩, hkN, hbk, hlink, hfin, hti, htr, hdecl⟩ := hf
  have hlk := hts _ hlink
  have hnf : narrow (ty k) v = v ∧ fits (ty k) v = true := by
    rcases hv with ⟨e1, x, rfl⟩ | ⟨e1, q, rfl⟩
    · rw [hti e1]; exact ⟨rfl, rfl⟩
    · exact htr e1 q
  have hkl : k < fs.length := by rw [hl, hlen]; exact hkN
  have hap := va_apart (own := own) hts hin ty hty hnm hK hc
  obtain ⟨r, h1, cell, q1, q2, q3, q4⟩ := hP q0 _ he
  have hr : r = (cC, T, N) := Option.some.inj (h1.symm.trans hc)
  subst hr
  obtain ⟨hS, hfc, kC, hkC, hkind⟩ := hK.1 ci _ hc
  obtain ⟨cf, kf, fi, f, hi, hsl⟩ := hS k hkN
  have hlay := hts _ (hin _ (u_in_lay hkN))
  unfold u_lay at hlay
  have hst := (u_facts hfc hkC (u_lays hts hin hkN) hi).1
  cases hfb : fin with
  | false =>
    rw [hfb] at hfin
    rw [if_neg (by rw [hfin]; decide)] at hlay
    have h6 := u_store hfc hkC hkind hlay hi (hty k hkN) hnf.1 hnf.2
    refine W.putK hexec hb (f := f) ⟨hown, hlk, ⟨_, _, _, hi⟩, hst⟩ (by rw [q2]; exact h6) q1 q3 (by rw [hsl]; exact k2_hasslot (q4 k hkN)) rfl rfl hdg fun H' e1 e2 e3 => ?_
    rw [hsl] at e1 ⊢
    exact kk H' _ e2 (hP.set hD he ⟨_, hc, t_OB.to (V := updV (vp_V fs) k v) ⟨_, e1, q2, q3, t_set q4 hap hkN v⟩ (fun j _ => vp_updV_set hkl v j)⟩ e3) (hD.set he) (hS0.put e2 e3 (hD.2 q0 _ he))
  | true =>
    rw [hfb] at hfin
    rw [if_pos hfin] at hlay
    have hcf : m.cls = cf := by
      obtain ⟨_, _, c', _, _, _, -, -, hf', -, -, -, hown2, -⟩ := Cond.laysFinal_spec hlay
      have e1 : c' = cf := by have := hi.symm.trans hf'; simp at this; exact this.1.symm
      rw [hdecl hfb] at hown2
      rw [← e1]; exact Option.some.inj (hown.symm.trans hown2)
    have h6 := u_fits hfc hkC hkind (Or.inr hlay) hi (hty k hkN) hnf.1 hnf.2
    refine W.putFinK hexec hb hown hlk hi hst hcf (hnit hfb) (by rw [q2]; exact h6) q1 q3 (by rw [hsl]; exact k2_hasslot (q4 k hkN)) rfl rfl hdg fun H' e1 e2 e3 => ?_
    rw [hsl] at e1 ⊢
    exact kk H' _ e2 (hP.set hD he ⟨_, hc, t_OB.to (V := updV (vp_V fs) k v) ⟨_, e1, q2, q3, t_set q4 hap hkN v⟩ (fun j _ => vp_updV_set hkl v j)⟩ e3) (hD.set he) (hS0.put e2 e3 (hD.2 q0 _ he))
theorem zAt.hp {h h2 : ZH} {p : Program} {Rm : Room} {s : State} {m : MethodId} {args : Array Value} {meth : Method} {c : Code} {H H1 : Heap} {locs locs1 : List Loc} {cells slots : Nat} {D : va_G} {tc : Nat → ClassId} {g : ZG} {A : Nat → Prop} {MC MS : Nat} {lsA : Array Slot}
    (C : zAt X mc ms ls h p Rm s m args meth c H locs cells slots D tc g A MC MS lsA) (hn : h2.1 = h.1) (hz : H1.size = H.size) (hP : va_P D vwCl (zW tc g h2) H1) (hD : va_D A (zW tc g h2)) (hS : va_S A s.heap H1 locs1) : zAt X mc ms ls h2 p Rm s m args meth c H1 locs1 cells slots D tc g A MC MS lsA :=
  ⟨C.1, C.2.1, C.2.2.1, ⟨⟨hP, fun i => by rw [hn, hz]; exact C.2.2.2.1.1.2 i⟩, hD, hS⟩, C.2.2.2.2⟩
theorem z_putI {index ci k a z : Nat} {fin : Bool} {x : Int32} (hf : zFd X.1 index ci k false fin) (hd : decode X.2.1 pc = .ok (.putfield index, 3)) (hi : fin = true → X.2.2.2.2.1 = "<init>") (ha : a < n) (hk : K a = (ci + 5, z)) (kk : Zf X mc ms (pc + 3) ls st (n, K, zu I a k x, L, R) Q) : Zf X mc ms pc ls (.int x :: .ref a :: st) (n, K, I, L, R) Q := by
  intro p l e Rm s m args below meth c H locs cells slots D tc g A MC MS lsA C
  have he : (zW tc g (n, K, I, L, R))[a]? = some (g.1 a, .inr (ci, zFg g (I a) (R a) 0 (zT ci))) := by rw [zW_at ha, zE_o hk]
  have hb : (zT ci)[k]? = some false := by obtain ⟨_, _, _, _, _, _, hb, _⟩ := hf; exact hb
  refine z_wput (v := .int x) C.1.1 C.1.2.1 C.1.2.2.2.2.2.1 C.1.2.2.2.2.1 C.2.2.1.1 C.2.2.2.1.1.1 C.2.2.2.1.2.1 C.2.2.2.1.2.2 he (zFg_len _ _ _ _ _) hf (fun q => C.1.2.2.2.2.2.2.2.trans (hi q)) (Or.inl ⟨rfl, x, rfl⟩) hd (fun H1 locs1 hz hP hD hS => ?_)
  rw [zFg_setI g (I a) (R a) x (zT ci) 0 k hb, Nat.zero_add, zW_set (h := (n, K, I, L, R)) (h' := (n, K, zu I a k x, L, R)) (e := .inr (ci, zFg g (va_up (I a) k x) (R a) 0 (zT ci))) ha rfl (fun b hb => zE_I hb) (by rw [zE_o hk, zu_at])] at hP hD
  exact kk p l e Rm s m args below meth c H1 locs1 cells slots D tc g A MC MS lsA (C.hp rfl hz hP hD hS)
theorem z_putR {index ci k a b z : Nat} {fin : Bool} (hf : zFd X.1 index ci k true fin) (hd : decode X.2.1 pc = .ok (.putfield index, 3)) (hi : fin = true → X.2.2.2.2.1 = "<init>") (ha : a < n) (hk : K a = (ci + 5, z)) (kk : Zf X mc ms (pc + 3) ls st (n, K, I, L, zu R a k (some b)) Q) : Zf X mc ms pc ls (.ref b :: .ref a :: st) (n, K, I, L, R) Q := by
  intro p l e Rm s m args below meth c H locs cells slots D tc g A MC MS lsA C
  have he : (zW tc g (n, K, I, L, R))[a]? = some (g.1 a, .inr (ci, zFg g (I a) (R a) 0 (zT ci))) := by rw [zW_at ha, zE_o hk]
  have hb : (zT ci)[k]? = some true := by obtain ⟨_, _, _, _, _, _, hb, _⟩ := hf; exact hb
  refine z_wput (v := va_rf ((some b).map g.1)) C.1.1 C.1.2.1 C.1.2.2.2.2.2.1 C.1.2.2.2.2.1 C.2.2.1.1 C.2.2.2.1.1.1 C.2.2.2.1.2.1 C.2.2.2.1.2.2 he (zFg_len _ _ _ _ _) hf (fun q => C.1.2.2.2.2.2.2.2.trans (hi q)) (Or.inr ⟨rfl, _, rfl⟩) hd (fun H1 locs1 hz hP hD hS => ?_)
  rw [zFg_setR g (I a) (R a) (some b) (zT ci) 0 k hb, Nat.zero_add, zW_set (h := (n, K, I, L, R)) (h' := (n, K, I, L, zu R a k (some b))) (e := .inr (ci, zFg g (I a) (va_up (R a) k (some b)) 0 (zT ci))) ha rfl (fun b hb => zE_R hb) (by rw [zE_o hk, zu_at])] at hP hD
  exact kk p l e Rm s m args below meth c H1 locs1 cells slots D tc g A MC MS lsA (C.hp rfl hz hP hD hS)
theorem z_iald {a z : Nat} {i : Int32} (hd : decode X.2.1 pc = .ok (.iaload, 1)) (ha : a < n) (hk : K a = (0, z)) (hi : vp_in i z) (kk : Zf X mc ms (pc + 1) ls (.int (I a i.toNatClampNeg) :: st) (n, K, I, L, R) Q) : Zf X mc ms pc ls (.int i :: .ref a :: st) (n, K, I, L, R) Q :=
  fun p l e Rm s m args below meth c H locs cells slots D tc g A MC MS lsA C => va_iald C.1.1 C.1.2.1 C.2.2.1.1 C.2.2.2.1.1.1 a 0 (by rw [zW_at ha, zE_i hk]) rfl hi hd (kk p l e Rm s m args below meth c H locs cells slots D tc g A MC MS lsA C)
theorem z_lald {a z : Nat} {i : Int32} (hd : decode X.2.1 pc = .ok (.laload, 1)) (ha : a < n) (hk : K a = (1, z)) (hi : vp_in i z) (kk : Zf X mc ms (pc + 1) ls (.long (L a i.toNatClampNeg) :: st) (n, K, I, L, R) Q) : Zf X mc ms pc ls (.int i :: .ref a :: st) (n, K, I, L, R) Q :=
  fun p l e Rm s m args below meth c H locs cells slots D tc g A MC MS lsA C => va_lald C.1.1 C.1.2.1 C.2.2.1.1 C.2.2.2.1.1.1 a 1 (by rw [zW_at ha, zE_l hk]) rfl hi hd (kk p l e Rm s m args below meth c H locs cells slots D tc g A MC MS lsA C)
theorem z_cald {a z : Nat} {i : Int32} (hd : decode X.2.1 pc = .ok (.caload, 1)) (ha : a < n) (hk : K a = (2, z)) (hi : vp_in i z) (kk : Zf X mc ms (pc + 1) ls (.int (I a i.toNatClampNeg) :: st) (n, K, I, L, R) Q) : Zf X mc ms pc ls (.int i :: .ref a :: st) (n, K, I, L, R) Q :=
  fun p l e Rm s m args below meth c H locs cells slots D tc g A MC MS lsA C => va_cald C.1.1 C.1.2.1 C.2.2.1.1 C.2.2.2.1.1.1 a 2 (by rw [zW_at ha, zE_c hk]) rfl hi hd (kk p l e Rm s m args below meth c H locs cells slots D tc g A MC MS lsA C)
theorem z_aaldP {a b z : Nat} {i : Int32} (hd : decode X.2.1 pc = .ok (.aaload, 1)) (ha : a < n) (hk : K a = (3, z)) (hi : vp_in i z) (hr : R a i.toNatClampNeg = some b) (kk : Zf X mc ms (pc + 1) ls (.ref b :: st) (n, K, I, L, R) Q) : Zf X mc ms pc ls (.int i :: .ref a :: st) (n, K, I, L, R) Q :=
  fun p l e Rm s m args below meth c H locs cells slots D tc g A MC MS lsA C => va_aldq C.1.1 C.1.2.1 C.2.2.1.1 C.2.2.2.1.1.1 a 3 (by rw [zW_at ha, zE_p hk]) rfl hi hd (by rw [hr]; exact kk p l e Rm s m args below meth c H locs cells slots D tc g A MC MS lsA C)
theorem z_aaldQ {a b z : Nat} {i : Int32} (hd : decode X.2.1 pc = .ok (.aaload, 1)) (ha : a < n) (hk : K a = (4, z)) (hi : vp_in i z) (hr : R a i.toNatClampNeg = some b) (kk : Zf X mc ms (pc + 1) ls (.ref b :: st) (n, K, I, L, R) Q) : Zf X mc ms pc ls (.int i :: .ref a :: st) (n, K, I, L, R) Q :=
  fun p l e Rm s m args below meth c H locs cells slots D tc g A MC MS lsA C => va_aldq C.1.1 C.1.2.1 C.2.2.1.1 C.2.2.2.1.1.1 a 4 (by rw [zW_at ha, zE_q hk]) rfl hi hd (by rw [hr]; exact kk p l e Rm s m args below meth c H locs cells slots D tc g A MC MS lsA C)
theorem z_alenI {a z : Nat} {v : Int32} (hd : decode X.2.1 pc = .ok (.arraylength, 1)) (ha : a < n) (hk : K a = (0, z)) (hv : Int32.ofNat z = v) (kk : Zf X mc ms (pc + 1) ls (.int v :: st) (n, K, I, L, R) Q) : Zf X mc ms pc ls (.ref a :: st) (n, K, I, L, R) Q :=
  fun p l e Rm s m args below meth c H locs cells slots D tc g A MC MS lsA C => va_alen C.1.1 C.1.2.1 C.2.2.1.1 C.2.2.2.1.1.1 a 0 (by rw [zW_at ha, zE_i hk]) rfl hv hd (kk p l e Rm s m args below meth c H locs cells slots D tc g A MC MS lsA C)
theorem z_alenC {a z : Nat} {v : Int32} (hd : decode X.2.1 pc = .ok (.arraylength, 1)) (ha : a < n) (hk : K a = (2, z)) (hv : Int32.ofNat z = v) (kk : Zf X mc ms (pc + 1) ls (.int v :: st) (n, K, I, L, R) Q) : Zf X mc ms pc ls (.ref a :: st) (n, K, I, L, R) Q :=
  fun p l e Rm s m args below meth c H locs cells slots D tc g A MC MS lsA C => va_alen C.1.1 C.1.2.1 C.2.2.1.1 C.2.2.2.1.1.1 a 2 (by rw [zW_at ha, zE_c hk]) rfl hv hd (kk p l e Rm s m args below meth c H locs cells slots D tc g A MC MS lsA C)
theorem z_alenP {a z : Nat} {v : Int32} (hd : decode X.2.1 pc = .ok (.arraylength, 1)) (ha : a < n) (hk : K a = (3, z)) (hv : Int32.ofNat z = v) (kk : Zf X mc ms (pc + 1) ls (.int v :: st) (n, K, I, L, R) Q) : Zf X mc ms pc ls (.ref a :: st) (n, K, I, L, R) Q :=
  fun p l e Rm s m args below meth c H locs cells slots D tc g A MC MS lsA C => va_alen C.1.1 C.1.2.1 C.2.2.1.1 C.2.2.2.1.1.1 a 3 (by rw [zW_at ha, zE_p hk]) rfl hv hd (kk p l e Rm s m args below meth c H locs cells slots D tc g A MC MS lsA C)
theorem z_alenQ {a z : Nat} {v : Int32} (hd : decode X.2.1 pc = .ok (.arraylength, 1)) (ha : a < n) (hk : K a = (4, z)) (hv : Int32.ofNat z = v) (kk : Zf X mc ms (pc + 1) ls (.int v :: st) (n, K, I, L, R) Q) : Zf X mc ms pc ls (.ref a :: st) (n, K, I, L, R) Q :=
  fun p l e Rm s m args below meth c H locs cells slots D tc g A MC MS lsA C => va_alen C.1.1 C.1.2.1 C.2.2.1.1 C.2.2.2.1.1.1 a 4 (by rw [zW_at ha, zE_q hk]) rfl hv hd (kk p l e Rm s m args below meth c H locs cells slots D tc g A MC MS lsA C)
/-- an array's cell put anew -/
theorem z_wast {h h2 : ZH} {p : Program} {Rm : Room} {s : State} {m : MethodId} {args : Array Value} {meth : Method} {c : Code} {H H1 : Heap} {locs : List Loc} {cells slots : Nat} {D : va_G} {tc : Nat → ClassId} {g : ZG} {A : Nat → Prop} {MC MS a j : Nat} {lsA : Array Slot} {e : va_E}
    (C : zAt X mc ms ls h p Rm s m args meth c H locs cells slots D tc g A MC MS lsA) (ha : a < h.1) (hn : h2.1 = h.1) (ho : ∀ b, b ≠ a → zE tc g h2 b = zE tc g h b) (he : zE tc g h2 a = e) (hat : va_at D vwCl (g.1 a, e) H1) (z : H1.size = H.size) (oq : ∀ q : Nat, q ≠ g.1 a → H1[q]? = H[q]?) : zAt X mc ms ls h2 p Rm s m args meth c H1 (locs ++ [⟨g.1 a, j⟩]) cells slots D tc g A MC MS lsA := by
  have hw : (zW tc g h)[a]? = some (g.1 a, zE tc g h a) := zW_at ha
  have hP := C.2.2.2.1.1.1.set C.2.2.2.1.2.1 hw hat oq
  have hD := C.2.2.2.1.2.1.set (e := e) hw
  rw [zW_set ha hn ho he] at hP hD
  exact C.hp hn z hP hD (C.2.2.2.1.2.2.put z oq (C.2.2.2.1.2.1.2 a _ hw))
theorem z_iast {a z : Nat} {i x : Int32} (hd : decode X.2.1 pc = .ok (.iastore, 1)) (ha : a < n) (hk : K a = (0, z)) (hi : vp_in i z) (kk : Zf X mc ms (pc + 1) ls st (n, K, zu I a i.toNatClampNeg x, L, R) Q) : Zf X mc ms pc ls (.int x :: .int i :: .ref a :: st) (n, K, I, L, R) Q := by
  intro p l e Rm s m args below meth c H locs cells slots D tc g A MC MS lsA C
  have hw : (zW tc g (n, K, I, L, R))[a]? = some (g.1 a, .inl (tc 0, z, .inl (I a))) := by rw [zW_at ha, zE_i hk]
  refine W.iast C.1.1 C.1.2.1 (C.2.2.2.1.1.1 a _ hw) ((C.2.2.1.1.2 0 (tc 0, .int) rfl).1 z (fun j => .int (I a j))) (fun q => by cases q) (by show ¬ (i < 0 ∨ (arrV _ _ _).slots.size ≤ _); rw [arrV_size]; exact hi) rfl rfl hd fun H1 e1 z1 oq => ?_
  refine kk p l e Rm s m args below meth c H1 _ cells slots D tc g A MC MS lsA (z_wast (e := .inl (tc 0, z, .inl (va_up (I a) i.toNatClampNeg x))) C ha rfl (fun b hb => zE_I hb) (by rw [zE_i hk, zu_at]) ?_ z1 oq)
  show H1[g.1 a]? = some (vp_cell _ _)
  rw [e1, vp_cell_i, vp_cell_i, arrV_store]
  congr 2
  funext q
  by_cases hq : q = i.toNatClampNeg
  · subst hq
    simp [updV, va_up]
  · simp [updV, va_up, hq]
theorem z_cast {a z : Nat} {i x : Int32} (hd : decode X.2.1 pc = .ok (.castore, 1)) (ha : a < n) (hk : K a = (2, z)) (hi : vp_in i z) (kk : Zf X mc ms (pc + 1) ls st (n, K, zu I a i.toNatClampNeg (vp_nar .char x), L, R) Q) : Zf X mc ms pc ls (.int x :: .int i :: .ref a :: st) (n, K, I, L, R) Q := by
  intro p l e Rm s m args below meth c H locs cells slots D tc g A MC MS lsA C
  have hw : (zW tc g (n, K, I, L, R))[a]? = some (g.1 a, .inl (tc 2, z, .inl (I a))) := by rw [zW_at ha, zE_c hk]
  refine W.cast C.1.1 C.1.2.1 (C.2.2.2.1.1.1 a _ hw) ((C.2.2.1.1.2 2 (tc 2, .char) rfl).1 z (fun j => .int (I a j))) (fun q => by cases q) (by show ¬ (i < 0 ∨ (arrV _ _ _).slots.size ≤ _); rw [arrV_size]; exact hi) rfl rfl hd fun H1 e1 z1 oq => ?_
  refine kk p l e Rm s m args below meth c H1 _ cells slots D tc g A MC MS lsA (z_wast (e := .inl (tc 2, z, .inl (va_up (I a) i.toNatClampNeg (vp_nar .char x)))) C ha rfl (fun b hb => zE_I hb) (by rw [zE_c hk, zu_at]) ?_ z1 oq)
  show H1[g.1 a]? = some (vp_cell _ _)
  rw [e1, vp_cell_i, vp_cell_i, arrV_store]
  congr 2
  funext q
  by_cases hq : q = i.toNatClampNeg
  · subst hq
    simp [updV, va_up, vp_nar]
    try rfl
  · simp [updV, va_up, hq]
theorem z_last {a z : Nat} {i : Int32} {x : Int64} (hd : decode X.2.1 pc = .ok (.lastore, 1)) (ha : a < n) (hk : K a = (1, z)) (hi : vp_in i z) (kk : Zf X mc ms (pc + 1) ls st (n, K, I, zu L a i.toNatClampNeg x, R) Q) : Zf X mc ms pc ls (.long x :: .int i :: .ref a :: st) (n, K, I, L, R) Q := by
  intro p l e Rm s m args below meth c H locs cells slots D tc g A MC MS lsA C
  have hw : (zW tc g (n, K, I, L, R))[a]? = some (g.1 a, .inl (tc 1, z, .inr (.inl (L a)))) := by rw [zW_at ha, zE_l hk]
  refine W.last C.1.1 C.1.2.1 (C.2.2.2.1.1.1 a _ hw) ((C.2.2.1.1.2 1 (tc 1, .long) rfl).1 z (fun j => .long (L a j))) (fun q => by cases q) (by show ¬ (i < 0 ∨ (arrV _ _ _).slots.size ≤ _); rw [arrV_size]; exact hi) rfl rfl hd fun H1 e1 z1 oq => ?_
  refine kk p l e Rm s m args below meth c H1 _ cells slots D tc g A MC MS lsA (z_wast (e := .inl (tc 1, z, .inr (.inl (va_up (L a) i.toNatClampNeg x)))) C ha rfl (fun b hb => zE_L hb) (by rw [zE_l hk, zu_at]) ?_ z1 oq)
  show H1[g.1 a]? = some (vp_cell _ _)
  rw [e1, vp_cell_l, vp_cell_l, arrV_store]
  congr 2
  funext q
  by_cases hq : q = i.toNatClampNeg
  · subst hq
    simp [updV, va_up]
  · simp [updV, va_up, hq]
/-- a reference into a row of objects: t0 the row's type, ci the object's class -/
theorem z_waast {p : Program} {l : Launch} {e : Env} {Rm : Room} {s : State} {m : MethodId} {args : Array Value} {below : List Frame} {meth : Method} {c : Code} {H : Heap} {locs : List Loc} {cells slots : Nat} {D : va_G} {tc : Nat → ClassId} {g : ZG} {A : Nat → Prop} {MC MS : Nat} {lsA : Array Slot} {a b z y t0 ci : Nat} {cA : ClassId} {r : vw_C} {i : Int32} {Qs : State → Prop} {rest : List Value}
    (C : zAt X mc ms ls (n, K, I, L, R) p Rm s m args meth c H locs cells slots D tc g A MC MS lsA) (hd : decode X.2.1 pc = .ok (.aastore, 1)) (ha : a < n) (hb : b < n) (ht : (zty tc)[t0]? = some (cA, .object r.1)) (hea : zE tc g (n, K, I, L, R) a = .inl (cA, z, .inr (.inr (.inr (.inr (fun j => (R a j).map g.1)))))) (heb : zE tc g (n, K, I, L, R) b = .inr (ci, zFg g (I b) (R b) 0 (zT ci)))
    (hea2 : zE tc g (n, K, I, L, zu R a i.toNatClampNeg (some b)) a = .inl (cA, z, .inr (.inr (.inr (.inr (fun j => ((zu R a i.toNatClampNeg (some b)) a j).map g.1)))))) (hc : vwCl[ci]? = some r) (hi : vp_in i z)
    (kk : ∀ (H1 : Heap) (locs1 : List Loc), zAt X mc ms ls (n, K, I, L, zu R a i.toNatClampNeg (some b)) p Rm s m args meth c H1 locs1 cells slots D tc g A MC MS lsA → W p l e Rm s m args below meth c H1 locs1 cells slots Qs (F0 m (pc + 1) lsA rest)) : W p l e Rm s m args below meth c H locs cells slots Qs (F0 m pc lsA (.ref (g.1 b) :: .int i :: .ref (g.1 a) :: rest)) := by
  have hlt : i.toNatClampNeg < z := Nat.not_le.mp fun q => hi (Or.inr q)
  have h0 : ¬ i < 0 := fun q => hi (Or.inl q)
  have hK := C.2.2.1.1
  have hP := C.2.2.2.1.1.1
  have hwa : (zW tc g (n, K, I, L, R))[a]? = some (g.1 a, .inl (cA, z, .inr (.inr (.inr (.inr (fun j => (R a j).map g.1)))))) := by rw [zW_at ha, hea]
  have hwb : (zW tc g (n, K, I, L, R))[b]? = some (g.1 b, .inr (ci, zFg g (I b) (R b) 0 (zT ci))) := by rw [zW_at hb, heb]
  obtain ⟨r', hr', cellV, g1, g2, g3, -⟩ := hP b _ hwb
  have hcls := (hK.1 ci r hc).2
  obtain ⟨kA, comp, k1, k2, k3, -⟩ := (hK.2 t0 _ ht).2
  have hcomp : comp = D.1 ci := Option.some.inj (k3.symm.trans hcls.1)
  subst hcomp
  obtain ⟨kC, hkC, -⟩ := hcls.2
  refine W.aast C.1.1 C.1.2.1 (hP a _ hwa) (fun q h => by cases h) (fun h => by cases h) k1 k2 rfl hkC ⟨h0, by show _ < (arrV _ _ _).slots.size; rw [arrV_size]; exact hlt⟩ g1 (fun q h => by rw [g3] at h; cases h) (by rw [g2]; exact hkC) (by rw [g2]; exact va_assign hcls) rfl rfl hd fun H1 e1 z1 oq => ?_
  refine kk H1 _ (z_wast C ha rfl (fun b hb => zE_R hb) hea2 ?_ z1 oq)
  show H1[g.1 a]? = some (vp_cell _ _)
  rw [e1, vp_cell_q, vp_cell_q, arrV_store]
  congr 2
  funext q
  by_cases hq : q = i.toNatClampNeg
  · subst hq
    simp [updV, zu, va_up, va_rf]
  · simp [updV, zu, va_up, hq]
theorem z_aastP {a b z y : Nat} {i : Int32} (hd : decode X.2.1 pc = .ok (.aastore, 1)) (ha : a < n) (hk : K a = (3, z)) (hb : b < n) (hkb : K b = (7, y)) (hi : vp_in i z) (kk : Zf X mc ms (pc + 1) ls st (n, K, I, L, zu R a i.toNatClampNeg (some b)) Q) : Zf X mc ms pc ls (.ref b :: .int i :: .ref a :: st) (n, K, I, L, R) Q :=
  fun p l e Rm s m args below meth c H locs cells slots D tc g A MC MS lsA C => z_waast (y := y) (t0 := 3) (ci := 2) (r := (RX2, TX2, 5)) C hd ha hb rfl (zE_p hk) (zE_o hkb) (zE_p hk) rfl hi (fun H1 locs1 C1 => kk p l e Rm s m args below meth c H1 locs1 cells slots D tc g A MC MS lsA C1)
theorem z_aastQ {a b z y : Nat} {i : Int32} (hd : decode X.2.1 pc = .ok (.aastore, 1)) (ha : a < n) (hk : K a = (4, z)) (hb : b < n) (hkb : K b = (6, y)) (hi : vp_in i z) (kk : Zf X mc ms (pc + 1) ls st (n, K, I, L, zu R a i.toNatClampNeg (some b)) Q) : Zf X mc ms pc ls (.ref b :: .int i :: .ref a :: st) (n, K, I, L, R) Q :=
  fun p l e Rm s m args below meth c H locs cells slots D tc g A MC MS lsA C => z_waast (y := y) (t0 := 4) (ci := 1) (r := (RX1, TX1, 10)) C hd ha hb rfl (zE_q hk) (zE_o hkb) (zE_q hk) rfl hi (fun H1 locs1 C1 => kk p l e Rm s m args below meth c H1 locs1 cells slots D tc g A MC MS lsA C1)
end ZHR
end
section
/-! ends, calls, makings -/
section ZE1
variable {X : ZX} {mc ms pc : Nat} {ls : Nat → Option Value} {st : List Value} {h : ZH} {Q : Option Value → ZH → Prop}
theorem zAt.end {p : Program} {Rm : Room} {s : State} {m : MethodId} {args : Array Value} {meth : Method} {c : Code} {H : Heap} {locs : List Loc} {cells slots : Nat} {D : va_G} {tc : Nat → ClassId} {g : ZG} {A : Nat → Prop} {MC MS : Nat} {lsA : Array Slot} (C : zAt X mc ms ls h p Rm s m args meth c H locs cells slots D tc g A MC MS lsA) {r : Option Value} (hq : Q r h) : ∀ t : State, t.heap = H → s.WarmedH t.vm → zPost D tc g A Q args s (.returned (r.map (zc g))) t := fun t ht hW =>
  ⟨⟨r, h, rfl, hq, ⟨by rw [ht]; exact C.2.2.2.1.1.1, by rw [ht]; exact C.2.2.2.1.1.2⟩, va_K.moved hW.alike C.2.2.1.1, C.2.2.2.1.2.1⟩, C.2.2.2.1.2.2.F ht⟩
theorem z_iret {v : Int32} (hd : decode X.2.1 pc = .ok (.ireturn, 1)) (hr : X.2.2.2.1 = some .int) (hq : Q (some (.int v)) h) : Zf X mc ms pc ls [.int v] h Q := by
  intro p l e Rm s m args below meth c H locs cells slots D tc g A MC MS lsA C
  have h1 := C.2.1.2.2.1
  have h2 := C.2.1.2.2.2.2.1
  refine W.widen (k := MC) (n := MS) (by omega) (by omega) ?_
  exact W.iret C.1.1 C.1.2.1 (C.1.2.2.1.trans hr) (C.end hq) C.2.2.2.1.2.2.2.2 hd C.1.2.2.2.2.2.2.1
theorem z_zret {v : Int32} (hd : decode X.2.1 pc = .ok (.ireturn, 1)) (hr : X.2.2.2.1 = some .boolean) (hv : v = 0 ∨ v = 1) (hq : Q (some (.int v)) h) : Zf X mc ms pc ls [.int v] h Q := by
  intro p l e Rm s m args below meth c H locs cells slots D tc g A MC MS lsA C
  have h1 := C.2.1.2.2.1
  have h2 := C.2.1.2.2.2.2.1
  refine W.widen (k := MC) (n := MS) (by omega) (by omega) ?_
  exact W.zret (ty := .boolean) C.1.1 C.1.2.1 (C.1.2.2.1.trans hr) (by rcases hv with rfl | rfl <;> rfl) (C.end hq) C.2.2.2.1.2.2.2.2 hd C.1.2.2.2.2.2.2.1
theorem z_vret (hd : decode X.2.1 pc = .ok (.return_, 1)) (hr : X.2.2.2.1 = none) (hq : Q none h) : Zf X mc ms pc ls [] h Q := by
  intro p l e Rm s m args below meth c H locs cells slots D tc g A MC MS lsA C
  have h1 := C.2.1.2.2.1
  have h2 := C.2.1.2.2.2.2.1
  refine W.widen (k := MC) (n := MS) (by omega) (by omega) ?_
  exact W.vret C.1.1 C.1.2.1 (C.1.2.2.1.trans hr) (C.end hq) C.2.2.2.1.2.2.2.2 hd C.1.2.2.2.2.2.2.1
/-- calls -/
def zInv (own : String) (index : Nat) (y : MethodName) (cc : ByteArray) (nL : Nat) (ret : Option FieldType) (na : Nat) : Prop := Cond.methodLink own index y ∈ zTB ∧ Cond.code y cc nL ret ∈ zTB ∧ Cond.initialized y.cls ∈ zTB ∧ (y.cls ≠ "java/lang/invoke/MethodHandle" ∧ y.cls ≠ "java/lang/invoke/VarHandle" ∧ (parseMethodDescriptor y.desc).map (fun d => d.parameters.length) = some na)
def zIns (y : MethodName) : Prop := Cond.instanceMethod y ∈ zTB ∧ Cond.selects y.cls y y ∈ zTB
theorem zGood {y : MethodName} {cc : ByteArray} {nL : Nat} {ret : Option FieldType} (hc : Cond.code y cc nL ret ∈ zTB) : GoodIn zTB (zws y cc nL ret) := fun w hw => by
  rcases List.mem_cons.mp hw with rfl | h
  · exact ⟨hc, good_of_word (zTB_good hc)⟩
  · exact ⟨h, good_of_word (zTB_good h)⟩
theorem zAt.sub {p : Program} {Rm : Room} {s : State} {m : MethodId} {args : Array Value} {meth : Method} {c : Code} {H : Heap} {locs : List Loc} {cells slots : Nat} {D : va_G} {tc : Nat → ClassId} {g : ZG} {A : Nat → Prop} {MC MS : Nat} {lsA : Array Slot} (C : zAt X mc ms ls h p Rm s m args meth c H locs cells slots D tc g A MC MS lsA) : ∀ q, va_A (zW tc g h) H.size q → A q := by
  intro q hq
  rcases hq with ⟨k, e, hk⟩ | hq
  · exact C.2.2.2.1.2.1.2 k (q, e) hk
  · exact C.2.2.1.2.2 q (Nat.le_trans C.2.2.2.1.2.2.1 hq)
theorem zBlind {D : va_G} {tc : Nat → ClassId} {g : ZG} {h : ZH} {sz : Nat} {av : List Value} : FrameBlind (va_Pc av (fun U => U.heap.size = sz ∧ zHp D tc g h U.heap ∧ va_K D vwCl (zty tc) U ∧ va_D (fun _ => True) (zW tc g h) ∧ zG g (va_A (zW tc g h) sz) U U.heap)) := by
  intro a U gf mk q
  obtain ⟨q0, q1, qP, qK, qD, qG⟩ := q
  exact ⟨q0, q1, qP, va_K.moved (u := U) (U := U.calling gf mk a) (Vm.Alike.refl U.vm) qK, qD, zG.same (U := U.calling gf mk a) rfl qG⟩
theorem zAt.pre {p : Program} {Rm : Room} {s : State} {m : MethodId} {args : Array Value} {meth : Method} {c : Code} {H : Heap} {locs : List Loc} {cells slots : Nat} {D : va_G} {tc : Nat → ClassId} {g : ZG} {A : Nat → Prop} {MC MS : Nat} {lsA : Array Slot} (C : zAt X mc ms ls h p Rm s m args meth c H locs cells slots D tc g A MC MS lsA) (U : State) (hU : U.heap = H) (hW : s.WarmedH U.vm) : U.heap.size = H.size ∧ zHp D tc g h U.heap ∧ va_K D vwCl (zty tc) U ∧ va_D (fun _ => True) (zW tc g h) ∧ zG g (va_A (zW tc g h) H.size) U U.heap := by
  refine ⟨by rw [hU], by rw [hU]; exact C.2.2.2.1.1, va_K.moved hW.alike C.2.2.1.1, C.2.2.2.1.2.1.weaken (fun _ _ _ _ => trivial), ?_⟩
  rw [hU]
  exact zG.warm hW ((C.2.2.1.2.1.kept C.2.2.2.1.2.2.2.1).narrow C.sub)
theorem z_after {p : Program} {l : Launch} {e : Env} {Rm : Room} {s : State} {m : MethodId} {args : Array Value} {below : List Frame} {meth : Method} {c : Code} {H : Heap} {locs : List Loc} {cells slots : Nat} {D : va_G} {tc : Nat → ClassId} {g : ZG} {A : Nat → Prop} {MC MS mc' ms' mc2 ms2 : Nat} {lsA : Array Slot} {st0 : List Value} {a : Array Value} {Qy : Option Value → ZH → Prop}
    (C : zAt X mc ms ls h p Rm s m args meth c H locs cells slots D tc g A MC MS lsA) (hm : mc2 + mc' ≤ mc) (hs : ms2 + ms' ≤ ms) (hr : va_Run p l e Rm s m args below meth c H locs cells slots mc' ms' (F0 m pc lsA st0) (st.map (zc g)) (zPost D tc g (va_A (zW tc g h) H.size) Qy a) (va_A (zW tc g h) H.size))
    (kk : ∀ (r : Option Value) (h2 : ZH), Qy r h2 → Zf X mc2 ms2 (pc + 3) ls (r.toList ++ st) h2 Q) : W p l e Rm s m args below meth c H locs cells slots (MQ below (zPost D tc g A Q) args s MC MS A) (F0 m pc lsA st0) := by
  intro T hT Xs
  obtain ⟨v, st₀, t, T', L, h0, X', hL, e1, e2, ⟨⟨r, h2, hv, hq, hHp, hK1, hD1⟩, hz, hkp⟩, stp⟩ := hr T hT Xs
  have hv' : v = r.map (zc g) := by injection hv
  subst hv'
  rw [h0] at hz hkp
  have hsub := C.sub
  have g1 := C.2.1.2.2.1
  have g2 := C.2.1.2.2.2.2.1
  have C2 : zAt X mc2 ms2 ls h2 p Rm s m args meth c T'.heap (locs ++ L) (cells + mc') (slots + ms') D tc g A MC MS lsA := by
    refine ⟨C.1, ⟨C.2.1.1, C.2.1.2.1, by omega, C.2.1.2.2.2.1, by omega, C.2.1.2.2.2.2.2⟩, C.2.2.1, ⟨by rw [e1]; exact hHp, hD1.weaken (fun k q _ hA => hsub q.1 hA), ?_⟩, C.2.2.2.2⟩
    have hS := C.2.2.2.1.2.2
    refine ⟨Nat.le_trans hS.1 (by rw [e1]; exact hz), fun q h1 h3 => ?_, fun q hq => ?_⟩
    · rw [e1, hkp q (Nat.lt_of_lt_of_le h1 hS.1) (fun w => h3 (hsub q w))]
      exact hS.2.1 q h1 h3
    · rcases List.mem_append.mp hq with w | w
      · exact hS.2.2 q w
      · exact hsub _ (hL q w)
  obtain ⟨t2, a1, b1⟩ := kk r h2 hq p l e Rm s m args below meth c T'.heap (locs ++ L) (cells + mc') (slots + ms') D tc g A MC MS lsA C2 T' rfl X'
  refine ⟨t2, stp t2 ?_, b1⟩
  have he : (r.map (zc g)).toList ++ st.map (zc g) = (r.toList ++ st).map (zc g) := by cases r <;> rfl
  rw [he]
  exact a1
theorem z_room {g : ZG} {m : MethodId} {lsA : Array Slot} {s0 : List Value} (hst : (st.map Value.category).sum ≤ 8) : 2 * (F0 m pc lsA s0).monitorRoom + ((st.map (zc g)).map fun v => v.category).sum ≤ 8 := by
  refine lv_room ?_
  rw [List.map_map]
  have : ((fun v : Value => v.category) ∘ zc g) = Value.category := funext (fun v => z_cat g v)
  rw [this]
  exact hst
theorem z_callS {index na mc' ms' mc2 ms2 fr lo : Nat} {y : MethodName} {cc : ByteArray} {nL : Nat} {ret : Option FieldType} {as : List Value} {Qy : Option Value → ZH → Prop} {s0 : List Value} (hi : zInv X.1 index y cc nL ret na) (hy : Cond.static y ∈ zTB) (hm : Zm y cc nL ret fr lo mc' ms' as h Qy) (hd : decode X.2.1 pc = .ok (.invokestatic index, 3)) (hs0 : s0 = as.reverse ++ st) (hna : as.length = na) (hfr : fr + 1 ≤ X.2.2.2.2.2.1) (hlo : 8 + (nL + 11) + lo ≤ X.2.2.2.2.2.2.1) (hst : (st.map Value.category).sum ≤ 8) (hmc : mc2 + mc' ≤ mc) (hms : ms2 + ms' ≤ ms)
    (kk : ∀ (r : Option Value) (h2 : ZH), Qy r h2 → Zf X mc2 ms2 (pc + 3) ls (r.toList ++ st) h2 Q) : Zf X mc ms pc ls s0 h Q := by
  intro p l e Rm s m args below meth c H locs cells slots D tc g A MC MS lsA C
  subst hs0
  have hts := C.1.2.2.2.2.2.1
  have g1 := C.2.1.2.2.1
  have g2 := C.2.1.2.2.2.2.1
  have g3 := C.2.1.2.2.2.1
  have g4 := C.2.1.2.2.2.2.2
  have g5 := C.2.1.1
  have g6 := C.2.1.2.1
  obtain ⟨h1, h2, h3, h4⟩ := hi
  refine z_after (mc' := mc') (ms' := ms') (a := (as.map (zc g)).toArray) C hmc hms (va_runS (As := as.map (zc g)) (rest := st.map (zc g)) ⟨C.1.1, C.1.2.1, C.1.2.2.2.1, C.1.2.2.2.2.1, hts⟩ (hm l D tc g H.size) ⟨callB_of na hts (zGood h2) rfl rfl rfl (hts _ h3) (hts _ h1) h4 ⟨by show fr + 1 ≤ _; omega, by show 8 + (nL + 11) + lo ≤ _; omega⟩, hts _ hy⟩ ⟨zBlind, fun U hU hW => ⟨rfl, C.pre U hU hW⟩⟩ rfl (by rw [List.length_map]; exact hna) C.2.2.2.2.1 (by simp [List.map_append, List.map_reverse]) (z_room hst) hd ⟨by omega, by omega⟩) kk
theorem z_callV {index na mc' ms' mc2 ms2 fr lo a ci : Nat} {y : MethodName} {cc : ByteArray} {nL : Nat} {ret : Option FieldType} {as : List Value} {Qy : Option Value → ZH → Prop} {s0 : List Value} {T : u_T} {N : Nat} (hi : zInv X.1 index y cc nL ret na) (hy : zIns y) (hm : Zm y cc nL ret fr lo mc' ms' (.ref a :: as) h Qy) (hd : decode X.2.1 pc = .ok (.invokevirtual index, 3)) (ha : a < h.1) (hk : (h.2.1 a).1 = ci + 5) (hc : vwCl[ci]? = some (y.cls, T, N)) (hs0 : s0 = as.reverse ++ .ref a :: st) (hna : as.length = na) (hfr : fr + 1 ≤ X.2.2.2.2.2.1) (hlo : 8 + (nL + 11) + lo ≤ X.2.2.2.2.2.2.1) (hst : (st.map Value.category).sum ≤ 8) (hmc : mc2 + mc' ≤ mc) (hms : ms2 + ms' ≤ ms)
    (kk : ∀ (r : Option Value) (h2 : ZH), Qy r h2 → Zf X mc2 ms2 (pc + 3) ls (r.toList ++ st) h2 Q) : Zf X mc ms pc ls s0 h Q := by
  intro p l e Rm s m args below meth c H locs cells slots D tc g A MC MS lsA C
  subst hs0
  have hts := C.1.2.2.2.2.2.1
  have g1 := C.2.1.2.2.1
  have g2 := C.2.1.2.2.2.2.1
  have g3 := C.2.1.2.2.2.1
  have g4 := C.2.1.2.2.2.2.2
  have g5 := C.2.1.1
  have g6 := C.2.1.2.1
  obtain ⟨h1, h2, h3, h4⟩ := hi
  have he : (zW tc g h)[a]? = some (g.1 a, .inr (ci, zFg g (h.2.2.1 a) (h.2.2.2.2 a) 0 (zT ci))) := by
    rw [zW_at ha]
    obtain ⟨n, K, I, L, R⟩ := h
    rw [zE_o (c := ci) (z := (K a).2) (Prod.ext hk rfl)]
  refine z_after (mc' := mc') (ms' := ms') (a := (Value.ref (g.1 a) :: as.map (zc g)).toArray) C hmc hms (va_runV (C := y.cls) (b := g.1 a) (As := as.map (zc g)) (rest := st.map (zc g)) ⟨C.1.1, C.1.2.1, C.1.2.2.2.1, C.1.2.2.2.2.1, hts⟩ (hm l D tc g H.size) ⟨callB_of na hts (zGood h2) rfl rfl rfl (hts _ h3) (hts _ h1) h4 ⟨by show fr + 1 ≤ _; omega, by show 8 + (nL + 11) + lo ≤ _; omega⟩, hts _ hy.1, hts _ hy.2⟩ ⟨zBlind, va_recv C.2.2.1.1 C.2.2.2.1.1.1 hc he, fun U hU hW => ⟨rfl, C.pre U hU hW⟩⟩ rfl (by rw [List.length_map]; exact hna) C.2.2.2.2.1 (by simp [List.map_append, List.map_reverse, zc]) (z_room hst) hd ⟨by omega, by omega⟩) kk
theorem z_callI {index na mc' ms' mc2 ms2 fr lo a : Nat} {y : MethodName} {cc : ByteArray} {nL : Nat} {as : List Value} {Qy : Option Value → ZH → Prop} {s0 : List Value} (hi : zInv X.1 index y cc nL none na) (hy : Cond.instanceMethod y ∈ zTB) (hyn : y.name = "<init>") (hm : Zm y cc nL none fr lo mc' ms' (.ref a :: as) h Qy) (hd : decode X.2.1 pc = .ok (.invokespecial index, 3)) (hs0 : s0 = as.reverse ++ .ref a :: st) (hna : as.length = na) (hfr : fr + 1 ≤ X.2.2.2.2.2.1) (hlo : 8 + (nL + 11) + lo ≤ X.2.2.2.2.2.2.1) (hst : (st.map Value.category).sum ≤ 8) (hmc : mc2 + mc' ≤ mc) (hms : ms2 + ms' ≤ ms)
    (kk : ∀ (r : Option Value) (h2 : ZH), Qy r h2 → Zf X mc2 ms2 (pc + 3) ls (r.toList ++ st) h2 Q) : Zf X mc ms pc ls s0 h Q := by
  intro p l e Rm s m args below meth c H locs cells slots D tc g A MC MS lsA C
  subst hs0
  have hts := C.1.2.2.2.2.2.1
  have g1 := C.2.1.2.2.1
  have g2 := C.2.1.2.2.2.2.1
  have g3 := C.2.1.2.2.2.1
  have g4 := C.2.1.2.2.2.2.2
  have g5 := C.2.1.1
  have g6 := C.2.1.2.1
  obtain ⟨h1, h2, h3, h4⟩ := hi
  refine z_after (mc' := mc') (ms' := ms') (a := (Value.ref (g.1 a) :: as.map (zc g)).toArray) C hmc hms (va_runI (b := g.1 a) (As := as.map (zc g)) (rest := st.map (zc g)) ⟨C.1.1, C.1.2.1, C.1.2.2.2.1, C.1.2.2.2.2.1, hts⟩ (hm l D tc g H.size) ⟨callB_of na hts (zGood h2) rfl rfl rfl (hts _ h3) (hts _ h1) h4 ⟨by show fr + 1 ≤ _; omega, by show 8 + (nL + 11) + lo ≤ _; omega⟩, hyn, hts _ hy⟩ ⟨zBlind, fun U hU hW => ⟨rfl, C.pre U hU hW⟩⟩ rfl (by rw [List.length_map]; exact hna) C.2.2.2.2.1 (by simp [List.map_append, List.map_reverse, zc]) (z_room hst) hd ⟨by omega, by omega⟩) kk
end ZE1
end
section
/-! the JDK's small ones, makings, statics -/
section ZM1
variable {X : ZX} {mc ms pc : Nat} {ls : Nat → Option Value} {st : List Value} {h : ZH} {Q : Option Value → ZH → Prop}
theorem z_rm {g : ZG} (hst : (st.map Value.category).sum ≤ 8) : ((st.map (zc g)).map fun v => v.category).sum ≤ 8 := by
  rw [List.map_map]
  have : ((fun v : Value => v.category) ∘ zc g) = Value.category := funext (fun v => z_cat g v)
  rw [this]
  exact hst
theorem z_mmax {index : Nat} {x y : Int32} (hd : decode X.2.1 pc = .ok (.invokestatic index, 3)) (w1 : Cond.methodLink X.1 index Lib.Math.max.name ∈ zTB) (w2 : Cond.static Lib.Math.max.name ∈ zTB) (w3 : Cond.initialized "java/lang/Math" ∈ zTB) (w4 : Cond.code Lib.Math.max.name Lib.Math.max.code 2 (some .int) ∈ zTB) (hfr : 1 ≤ X.2.2.2.2.2.1) (hlo : 21 ≤ X.2.2.2.2.2.2.1) (hst : (st.map Value.category).sum ≤ 8) (kk : Zf X mc ms (pc + 3) ls (.int (if x < y then y else x) :: st) h Q) : Zf X mc ms pc ls (.int y :: .int x :: st) h Q := by
  intro p l e Rm s m args below meth c H locs cells slots D tc g A MC MS lsA C
  have hts := C.1.2.2.2.2.2.1
  have g1 := C.2.1.2.2.1
  have g2 := C.2.1.2.2.2.2.1
  have g3 := C.2.1.2.2.2.1
  have g4 := C.2.1.2.2.2.2.2
  have g5 := C.2.1.1
  have g6 := C.2.1.2.1
  have g7 := z_rm (g := g) hst
  exact va_mmax C.1.1 C.1.2.1 (C.1.2.2.2.1.trans C.2.2.2.2.1.symm) C.1.2.2.2.2.1 (hts _ w1) (hts _ w2) (hts _ w3) (hts _ w4) (by omega) (by omega) (by omega) (by omega) hd (kk p l e Rm s m args below meth c H locs cells slots D tc g A MC MS lsA C)
theorem z_mmin {index : Nat} {x y : Int32} (hd : decode X.2.1 pc = .ok (.invokestatic index, 3)) (w1 : Cond.methodLink X.1 index Lib.Math.min.name ∈ zTB) (w2 : Cond.static Lib.Math.min.name ∈ zTB) (w3 : Cond.initialized "java/lang/Math" ∈ zTB) (w4 : Cond.code Lib.Math.min.name Lib.Math.min.code 2 (some .int) ∈ zTB) (hfr : 1 ≤ X.2.2.2.2.2.1) (hlo : 21 ≤ X.2.2.2.2.2.2.1) (hst : (st.map Value.category).sum ≤ 8) (kk : Zf X mc ms (pc + 3) ls (.int (if y < x then y else x) :: st) h Q) : Zf X mc ms pc ls (.int y :: .int x :: st) h Q := by
  intro p l e Rm s m args below meth c H locs cells slots D tc g A MC MS lsA C
  have hts := C.1.2.2.2.2.2.1
  have g1 := C.2.1.2.2.1
  have g2 := C.2.1.2.2.2.2.1
  have g3 := C.2.1.2.2.2.1
  have g4 := C.2.1.2.2.2.2.2
  have g5 := C.2.1.1
  have g6 := C.2.1.2.1
  have g7 := z_rm (g := g) hst
  exact va_mmin C.1.1 C.1.2.1 (C.1.2.2.2.1.trans C.2.2.2.2.1.symm) C.1.2.2.2.2.1 (hts _ w1) (hts _ w2) (hts _ w3) (hts _ w4) (by omega) (by omega) (by omega) (by omega) hd (kk p l e Rm s m args below meth c H locs cells slots D tc g A MC MS lsA C)
theorem z_mabs {index : Nat} {x : Int32} (hd : decode X.2.1 pc = .ok (.invokestatic index, 3)) (w1 : Cond.methodLink X.1 index Lib.Math.abs.name ∈ zTB) (w2 : Cond.static Lib.Math.abs.name ∈ zTB) (w3 : Cond.initialized "java/lang/Math" ∈ zTB) (w4 : Cond.code Lib.Math.abs.name Lib.Math.abs.code 1 (some .int) ∈ zTB) (hfr : 1 ≤ X.2.2.2.2.2.1) (hlo : 21 ≤ X.2.2.2.2.2.2.1) (hst : (st.map Value.category).sum ≤ 8) (kk : Zf X mc ms (pc + 3) ls (.int (if 0 ≤ x then x else 0 - x) :: st) h Q) : Zf X mc ms pc ls (.int x :: st) h Q := by
  intro p l e Rm s m args below meth c H locs cells slots D tc g A MC MS lsA C
  have hts := C.1.2.2.2.2.2.1
  have g1 := C.2.1.2.2.1
  have g2 := C.2.1.2.2.2.2.1
  have g3 := C.2.1.2.2.2.1
  have g4 := C.2.1.2.2.2.2.2
  have g5 := C.2.1.1
  have g6 := C.2.1.2.1
  have g7 := z_rm (g := g) hst
  exact va_mabs C.1.1 C.1.2.1 (C.1.2.2.2.1.trans C.2.2.2.2.1.symm) C.1.2.2.2.2.1 (hts _ w1) (hts _ w2) (hts _ w3) (hts _ w4) (by omega) (by omega) (by omega) (by omega) hd (kk p l e Rm s m args below meth c H locs cells slots D tc g A MC MS lsA C)
theorem z_objInit {index a : Nat} (hd : decode X.2.1 pc = .ok (.invokespecial index, 3)) (w1 : Cond.methodLink X.1 index Lib.objectInit ∈ zTB) (w2 : Cond.instanceMethod Lib.objectInit ∈ zTB) (w3 : Cond.code Lib.objectInit ⟨#[0xb1]⟩ 1 none ∈ zTB) (hfr : 1 ≤ X.2.2.2.2.2.1) (hlo : 20 ≤ X.2.2.2.2.2.2.1) (hst : (st.map Value.category).sum ≤ 8) (kk : Zf X mc ms (pc + 3) ls st h Q) : Zf X mc ms pc ls (.ref a :: st) h Q := by
  intro p l e Rm s m args below meth c H locs cells slots D tc g A MC MS lsA C
  have hts := C.1.2.2.2.2.2.1
  have g5 := C.2.1.1
  have g6 := C.2.1.2.1
  have g7 := z_rm (g := g) hst
  exact W.objInit C.1.1 C.1.2.1 C.1.2.2.2.2.1 (hts _ w1) (hts _ w2) (hts _ w3) rfl (C.2.2.2.2.1.trans C.1.2.2.2.1.symm) rfl hd (by omega) (by show 2 * 0 + _ + 12 ≤ _; omega) (kk p l e Rm s m args below meth c H locs cells slots D tc g A MC MS lsA C)
/-- getstatic of Turf's two rows -/
theorem z_gets {index k : Nat} (hk : k < 2) (hd : decode X.2.1 pc = .ok (.getstatic index, 3)) (w1 : Cond.fieldLink X.1 index RX7 (if k = 0 then "STANDING_0" else "STANDING_1") "[I" ∈ zTB) (kk : Zf X mc ms (pc + 3) ls (.float (UInt32.ofNat (100 + k)) :: st) h Q) : Zf X mc ms pc ls st h Q := by
  intro p l e Rm s m args below meth c H locs cells slots D tc g A MC MS lsA C
  have hts := C.1.2.2.2.2.2.1
  obtain ⟨z0, -, z1, -⟩ := C.2.2.1.2.1
  rcases (show k = 0 ∨ k = 1 by omega) with rfl | rfl
  · exact va_gets C.1.1 C.1.2.1 z0 C.2.2.2.1.2.2 C.1.2.2.2.2.1 (hts _ w1) (fun _ h => h) hd (kk p l e Rm s m args below meth c H locs cells slots D tc g A MC MS lsA C)
  · exact va_gets C.1.1 C.1.2.1 z1 C.2.2.2.1.2.2 C.1.2.2.2.2.1 (hts _ w1) (fun _ h => h) hd (kk p l e Rm s m args below meth c H locs cells slots D tc g A MC MS lsA C)
theorem z_tald {k : Nat} {i : Int32} (hk : k < 2) (hd : decode X.2.1 pc = .ok (.iaload, 1)) (hi : vp_in i 24) (kk : Zf X mc ms (pc + 1) ls (.int (if k = 0 then zS0 i.toNatClampNeg else zS1 i.toNatClampNeg) :: st) h Q) : Zf X mc ms pc ls (.int i :: .float (UInt32.ofNat (100 + k)) :: st) h Q := by
  intro p l e Rm s m args below meth c H locs cells slots D tc g A MC MS lsA C
  obtain ⟨-, z0, -, z1, -⟩ := C.2.2.1.2.1
  rcases (show k = 0 ∨ k = 1 by omega) with rfl | rfl
  · exact va_ti C.1.1 C.1.2.1 z0 C.2.2.2.1.2.2 hi rfl hd (kk p l e Rm s m args below meth c H locs cells slots D tc g A MC MS lsA C)
  · exact va_ti C.1.1 C.1.2.1 z1 C.2.2.2.1.2.2 hi rfl hd (kk p l e Rm s m args below meth c H locs cells slots D tc g A MC MS lsA C)
theorem z_ldcS {index i : Nat} (hi : i < 12) (hx : (zSx i).1 = index) (ho : X.1 = RX6) (hd : decode X.2.1 pc = .ok (.ldc index, 2)) (kk : Zf X mc ms (pc + 2) ls (.float (UInt32.ofNat i) :: st) h Q) : Zf X mc ms pc ls st h Q := by
  intro p l e Rm s m args below meth c H locs cells slots D tc g A MC MS lsA C
  obtain ⟨-, -, -, -, -, z6, -⟩ := C.2.2.1.2.1
  have hw := z6 i hi
  rw [hx, ← ho] at hw
  have hu : (UInt32.ofNat i).toNat = i := by
    rw [UInt32.toNat_ofNat']
    omega
  refine va_ldcS (q := g.2 i) C.1.1 C.1.2.1 C.1.2.2.2.2.1 hw hd ?_
  have := kk p l e Rm s m args below meth c H locs cells slots D tc g A MC MS lsA C
  simp only [List.map_cons, zc, hu] at this
  exact this
end ZM1
section ZM2
variable {X : ZX} {mc ms pc : Nat} {ls : Nat → Option Value} {st : List Value} {Q : Option Value → ZH → Prop} {n : Nat} {K : Nat → Nat × Nat} {I : Nat → Nat → Int32} {L : Nat → Nat → Int64} {R : Nat → Nat → Option Nat}
theorem zE_new {tc : Nat → ClassId} {g : ZG} {k : Nat × Nat} {f : Nat → Int32} {f2 : Nat → Int64} {f3 : Nat → Option Nat} {b : Nat} (hb : b < n) : zE tc g (n + 1, va_up K n k, va_up I n f, va_up L n f2, va_up R n f3) b = zE tc g (n, K, I, L, R) b := by
  have : b ≠ n := by omega
  simp only [zE, va_up_ne _ _ this]
/-- a cell more -/
theorem zAt.push {h2 : ZH} {p : Program} {Rm : Room} {s : State} {m : MethodId} {args : Array Value} {meth : Method} {c : Code} {H H1 : Heap} {locs : List Loc} {cells slots mc2 ms2 w : Nat} {D : va_G} {tc : Nat → ClassId} {g : ZG} {A : Nat → Prop} {MC MS : Nat} {lsA : Array Slot} {k : Nat × Nat} {f : Nat → Int32} {f2 : Nat → Int64} {f3 : Nat → Option Nat}
    (C : zAt X mc ms ls (n, K, I, L, R) p Rm s m args meth c H locs cells slots D tc g A MC MS lsA) (hh : h2 = (n + 1, va_up K n k, va_up I n f, va_up L n f2, va_up R n f3)) (z1 : H1.size = H.size + 1) (o1 : ∀ q, q < H.size → H1[q]? = H[q]?) (hat : va_at D vwCl (H.size, zE tc g h2 n) H1) (hm : mc2 + 1 ≤ mc) (hs : ms2 + w ≤ ms) : zAt X mc2 ms2 ls h2 p Rm s m args meth c H1 locs (cells + 1) (slots + w) D tc g A MC MS lsA := by
  subst hh
  have hP := C.2.2.2.1.1.1
  have hD := C.2.2.2.1.2.1
  have hS := C.2.2.2.1.2.2
  have g0 : g.1 n = H.size := C.2.2.2.1.1.2 0
  have g1 := C.2.1.2.2.1
  have g2 := C.2.1.2.2.2.2.1
  have hk : ∀ (k : Nat) (x : Nat × va_E), (zW tc g (n, K, I, L, R))[k]? = some x → H1[x.1]? = H[x.1]? := fun k x hx => o1 x.1 ((hP k x hx).lt)
  have hw := zW_push (tc := tc) (g := g) (h := (n, K, I, L, R)) (h' := (n + 1, va_up K n k, va_up I n f, va_up L n f2, va_up R n f3)) rfl (fun b hb => zE_new hb)
  refine ⟨C.1, ⟨C.2.1.1, C.2.1.2.1, by omega, C.2.1.2.2.2.1, by omega, C.2.1.2.2.2.2.2⟩, C.2.2.1, ⟨⟨?_, fun i => ?_⟩, ?_, ?_⟩, C.2.2.2.2⟩
  · rw [← hw]
    refine (hP.kept hk).app (fun k x hx => ?_)
    have hz : k < 1 := (List.getElem?_eq_some_iff.mp hx).1
    rw [show k = 0 by omega] at hx
    cases hx
    show va_at D vwCl (g.1 n, _) H1
    rw [g0]
    exact hat
  · show g.1 (n + 1 + i) = _
    rw [z1, show n + 1 + i = n + (1 + i) by omega]
    have h9 : g.1 (n + (1 + i)) = H.size + (1 + i) := C.2.2.2.1.1.2 (1 + i)
    rw [h9]
    omega
  · rw [← hw]
    exact hD.push hP g0 (by show A (g.1 n); rw [g0]; exact C.2.2.1.2.2 _ hS.1)
  · exact ⟨Nat.le_trans hS.1 (by omega), fun x h1 h2 => (o1 x (Nat.lt_of_lt_of_le h1 hS.1)).trans (hS.2.1 x h1 h2), hS.2.2⟩
/-- new of class ci -/
def zNw (own : String) (index ci : Nat) (w : Nat) : Prop := ∃ (C : String) (T : u_T) (ty : Nat → FieldType), zCl ci C T w ty ∧ Cond.classLink own index C ∈ zTB ∧ Cond.instantiable C w ∈ zTB ∧ Cond.initialized C ∈ zTB ∧ ∀ k, k < w → defaultValue (ty k) = if (zT ci)[k]? = some true then .null else .int 0
theorem z_new {index ci w mc2 ms2 : Nat} (hw : zNw X.1 index ci w) (hd : decode X.2.1 pc = .ok (.new index, 3)) (hm : mc2 + 1 ≤ mc) (hs : ms2 + w ≤ ms) (kk : Zf X mc2 ms2 (pc + 3) ls (.ref n :: st) (n + 1, va_up K n (ci + 5, 0), va_up I n (fun _ => 0), va_up L n (fun _ => 0), va_up R n (fun _ => none)) Q) : Zf X mc ms pc ls st (n, K, I, L, R) Q := by
  intro p l e Rm s m args below meth c H locs cells slots D tc g A MC MS lsA C
  obtain ⟨cC, T, ty, ⟨hc, hin, hty, hnm, hlen⟩, w1, w2, w3, hdf⟩ := hw
  have hts := C.1.2.2.2.2.2.1
  have g1 := C.2.1.2.2.1
  have g2 := C.2.1.2.2.2.2.1
  have g3 := C.2.1.2.2.2.1
  have g4 := C.2.1.2.2.2.2.2
  have hKn := C.2.2.1.1.1 ci _ hc
  have g0 : g.1 n = H.size := C.2.2.2.1.1.2 0
  refine W.newcK C.1.1 C.1.2.1 C.1.2.2.2.2.1 (hts _ w1) (hts _ w2) (hts _ w3) rfl hd (by omega) (by omega) hKn.2.1 rfl fun H1 kC hkC e1 z1 o1 => ?_
  have C2 := C.push (h2 := (n + 1, va_up K n (ci + 5, 0), va_up I n (fun _ => 0), va_up L n (fun _ => 0), va_up R n (fun _ => none))) (H1 := H1) (mc2 := mc2) (ms2 := ms2) (w := w) rfl z1 o1 (by
    rw [zE_o (c := ci) (z := 0) (va_up_self _ _ _), va_up_self, va_up_self]
    refine ⟨_, hc, (u_born ty hts hin hKn hkC e1 hty).to (fun j hj => ?_)⟩
    rw [hdf j hj]
    have hjl : j < (zT ci).length := by rw [hlen]; exact hj
    show _ = (zFg g (fun _ => 0) (fun _ => none) 0 (zT ci)).getD j .null
    rw [List.getD_eq_getElem?_getD]
    cases hb : (zT ci)[j]? with
    | none => rw [List.getElem?_eq_none_iff] at hb; omega
    | some b =>
      cases b with
      | true => rw [zFg_r _ _ _ _ _ _ hb]; rfl
      | false => rw [zFg_i _ _ _ _ _ _ hb]; rfl) hm hs
  have h9 := kk p l e Rm s m args below meth c H1 locs (cells + 1) (slots + w) D tc g A MC MS lsA C2
  simp only [List.map_cons, zc, g0] at h9
  exact h9
theorem z_newI {mc2 ms2 : Nat} {x : Int32} {N : Nat} (w1 : Cond.arrayClass .int ∈ zTB) (hd : decode X.2.1 pc = .ok (.newarray .int, 2)) (hx : ¬ x < 0) (hN : x.toNatClampNeg = N) (hb : N ≤ 100000) (hm : mc2 + 1 ≤ mc) (hs : ms2 + N ≤ ms) (kk : Zf X mc2 ms2 (pc + 2) ls (.ref n :: st) (n + 1, va_up K n (0, N), va_up I n (fun _ => 0), va_up L n (fun _ => 0), va_up R n (fun _ => none)) Q) : Zf X mc ms pc ls (.int x :: st) (n, K, I, L, R) Q := by
  intro p l e Rm s m args below meth c H locs cells slots D tc g A MC MS lsA C
  have hts := C.1.2.2.2.2.2.1
  have g1 := C.2.1.2.2.1
  have g2 := C.2.1.2.2.2.2.1
  have g3 := C.2.1.2.2.2.1
  have g4 := C.2.1.2.2.2.2.2
  have g0 : g.1 n = H.size := C.2.2.2.1.1.2 0
  refine va_newaK (atype := .int) (N := N) C.1.1 C.1.2.1 (hts _ w1) rfl hd rfl hx hN (by show N * componentBytes .int ≤ _; simp only [componentBytes]; omega) (by omega) (by omega) rfl fun H1 cA e1 z1 o1 hAr hNm => ?_
  have hcA : cA = tc 0 := by
    have h0 : s.vm.findClass ("[" ++ (FieldType.int).toString) = some (tc 0) := (C.2.2.1.1.2 0 (tc 0, .int) rfl).2
    exact Option.some.inj (hNm.symm.trans h0)
  subst hcA
  have C2 := C.push (h2 := (n + 1, va_up K n (0, N), va_up I n (fun _ => 0), va_up L n (fun _ => 0), va_up R n (fun _ => none))) (H1 := H1) (mc2 := mc2) (ms2 := ms2) (w := N) rfl z1 o1 (by
    rw [zE_i (z := N) (va_up_self _ _ _), va_up_self]
    exact e1) hm hs
  have h9 := kk p l e Rm s m args below meth c H1 locs (cells + 1) (slots + N) D tc g A MC MS lsA C2
  simp only [List.map_cons, zc, g0] at h9
  exact h9
theorem z_newJ {mc2 ms2 : Nat} {x : Int32} {N : Nat} (w1 : Cond.arrayClass .long ∈ zTB) (hd : decode X.2.1 pc = .ok (.newarray .long, 2)) (hx : ¬ x < 0) (hN : x.toNatClampNeg = N) (hb : N ≤ 100000) (hm : mc2 + 1 ≤ mc) (hs : ms2 + N ≤ ms) (kk : Zf X mc2 ms2 (pc + 2) ls (.ref n :: st) (n + 1, va_up K n (1, N), va_up I n (fun _ => 0), va_up L n (fun _ => 0), va_up R n (fun _ => none)) Q) : Zf X mc ms pc ls (.int x :: st) (n, K, I, L, R) Q := by
  intro p l e Rm s m args below meth c H locs cells slots D tc g A MC MS lsA C
  have hts := C.1.2.2.2.2.2.1
  have g1 := C.2.1.2.2.1
  have g2 := C.2.1.2.2.2.2.1
  have g3 := C.2.1.2.2.2.1
  have g4 := C.2.1.2.2.2.2.2
  have g0 : g.1 n = H.size := C.2.2.2.1.1.2 0
  refine va_newaK (atype := .long) (N := N) C.1.1 C.1.2.1 (hts _ w1) rfl hd rfl hx hN (by show N * componentBytes .long ≤ _; simp only [componentBytes]; omega) (by omega) (by omega) rfl fun H1 cA e1 z1 o1 hAr hNm => ?_
  have hcA : cA = tc 1 := by
    have h0 : s.vm.findClass ("[" ++ (FieldType.long).toString) = some (tc 1) := (C.2.2.1.1.2 1 (tc 1, .long) rfl).2
    exact Option.some.inj (hNm.symm.trans h0)
  subst hcA
  have C2 := C.push (h2 := (n + 1, va_up K n (1, N), va_up I n (fun _ => 0), va_up L n (fun _ => 0), va_up R n (fun _ => none))) (H1 := H1) (mc2 := mc2) (ms2 := ms2) (w := N) rfl z1 o1 (by
    rw [zE_l (z := N) (va_up_self _ _ _), va_up_self]
    exact e1) hm hs
  have h9 := kk p l e Rm s m args below meth c H1 locs (cells + 1) (slots + N) D tc g A MC MS lsA C2
  simp only [List.map_cons, zc, g0] at h9
  exact h9
theorem z_newC {mc2 ms2 : Nat} {x : Int32} {N : Nat} (w1 : Cond.arrayClass .char ∈ zTB) (hd : decode X.2.1 pc = .ok (.newarray .char, 2)) (hx : ¬ x < 0) (hN : x.toNatClampNeg = N) (hb : N ≤ 100000) (hm : mc2 + 1 ≤ mc) (hs : ms2 + N ≤ ms) (kk : Zf X mc2 ms2 (pc + 2) ls (.ref n :: st) (n + 1, va_up K n (2, N), va_up I n (fun _ => 0), va_up L n (fun _ => 0), va_up R n (fun _ => none)) Q) : Zf X mc ms pc ls (.int x :: st) (n, K, I, L, R) Q := by
  intro p l e Rm s m args below meth c H locs cells slots D tc g A MC MS lsA C
  have hts := C.1.2.2.2.2.2.1
  have g1 := C.2.1.2.2.1
  have g2 := C.2.1.2.2.2.2.1
  have g3 := C.2.1.2.2.2.1
  have g4 := C.2.1.2.2.2.2.2
  have g0 : g.1 n = H.size := C.2.2.2.1.1.2 0
  refine va_newaK (atype := .char) (N := N) C.1.1 C.1.2.1 (hts _ w1) rfl hd rfl hx hN (by show N * componentBytes .char ≤ _; simp only [componentBytes]; omega) (by omega) (by omega) rfl fun H1 cA e1 z1 o1 hAr hNm => ?_
  have hcA : cA = tc 2 := by
    have h0 : s.vm.findClass ("[" ++ (FieldType.char).toString) = some (tc 2) := (C.2.2.1.1.2 2 (tc 2, .char) rfl).2
    exact Option.some.inj (hNm.symm.trans h0)
  subst hcA
  have C2 := C.push (h2 := (n + 1, va_up K n (2, N), va_up I n (fun _ => 0), va_up L n (fun _ => 0), va_up R n (fun _ => none))) (H1 := H1) (mc2 := mc2) (ms2 := ms2) (w := N) rfl z1 o1 (by
    rw [zE_c (z := N) (va_up_self _ _ _), va_up_self]
    exact e1) hm hs
  have h9 := kk p l e Rm s m args below meth c H1 locs (cells + 1) (slots + N) D tc g A MC MS lsA C2
  simp only [List.map_cons, zc, g0] at h9
  exact h9
theorem z_newP {mc2 ms2 index : Nat} {x : Int32} {N : Nat} (w1 : Cond.classLink X.1 index RX2 ∈ zTB) (w2 : Cond.arrayOver (.object RX2) ∈ zTB) (hd : decode X.2.1 pc = .ok (.anewarray index, 3)) (hx : ¬ x < 0) (hN : x.toNatClampNeg = N) (hb : N ≤ 100000) (hm : mc2 + 1 ≤ mc) (hs : ms2 + N ≤ ms) (kk : Zf X mc2 ms2 (pc + 3) ls (.ref n :: st) (n + 1, va_up K n (3, N), va_up I n (fun _ => 0), va_up L n (fun _ => 0), va_up R n (fun _ => none)) Q) : Zf X mc ms pc ls (.int x :: st) (n, K, I, L, R) Q := by
  intro p l e Rm s m args below meth c H locs cells slots D tc g A MC MS lsA C
  have hts := C.1.2.2.2.2.2.1
  have g1 := C.2.1.2.2.1
  have g2 := C.2.1.2.2.2.2.1
  have g3 := C.2.1.2.2.2.1
  have g4 := C.2.1.2.2.2.2.2
  have g0 : g.1 n = H.size := C.2.2.2.1.1.2 0
  subst hN
  refine W.anew C.1.1 C.1.2.1 C.1.2.2.2.2.1 (hts _ w1) (hts _ w2) rfl hd rfl hx (by omega) (by omega) (by omega) fun cA kA comp f1 f2 f3 f4 => ?_
  have hcA : cA = tc 3 := by
    obtain ⟨kA', comp', -, -, -, h0⟩ := (C.2.2.1.1.2 3 (tc 3, .object RX2) rfl).2
    exact Option.some.inj (f1.symm.trans h0)
  subst hcA
  generalize hH1 : H.push ({ cls := tc 3, slots := Array.replicate x.toNatClampNeg .null, vm := .none } : Cell) = H1
  have z1 : H1.size = H.size + 1 := by rw [← hH1, Array.size_push]
  have e1 : H1[H.size]? = some (arrV (tc 3) x.toNatClampNeg (fun _ => .null)) := by rw [← hH1, Array.getElem?_push_size, ← arrV_new]
  have o1 : ∀ q : Nat, q < H.size → H1[q]? = H[q]? := fun q hq => by rw [← hH1, Array.getElem?_push, if_neg (Nat.ne_of_lt hq)]
  have C2 := C.push (h2 := (n + 1, va_up K n (3, x.toNatClampNeg), va_up I n (fun _ => 0), va_up L n (fun _ => 0), va_up R n (fun _ => none))) (H1 := H1) (mc2 := mc2) (ms2 := ms2) (w := x.toNatClampNeg) rfl z1 o1 (by
    rw [zE_p (z := x.toNatClampNeg) (va_up_self _ _ _), va_up_self]
    exact e1) hm hs
  have h9 := kk p l e Rm s m args below meth c H1 locs (cells + 1) (slots + x.toNatClampNeg) D tc g A MC MS lsA C2
  simp only [List.map_cons, zc, g0] at h9
  exact h9
theorem z_newQ {mc2 ms2 index : Nat} {x : Int32} {N : Nat} (w1 : Cond.classLink X.1 index RX1 ∈ zTB) (w2 : Cond.arrayOver (.object RX1) ∈ zTB) (hd : decode X.2.1 pc = .ok (.anewarray index, 3)) (hx : ¬ x < 0) (hN : x.toNatClampNeg = N) (hb : N ≤ 100000) (hm : mc2 + 1 ≤ mc) (hs : ms2 + N ≤ ms) (kk : Zf X mc2 ms2 (pc + 3) ls (.ref n :: st) (n + 1, va_up K n (4, N), va_up I n (fun _ => 0), va_up L n (fun _ => 0), va_up R n (fun _ => none)) Q) : Zf X mc ms pc ls (.int x :: st) (n, K, I, L, R) Q := by
  intro p l e Rm s m args below meth c H locs cells slots D tc g A MC MS lsA C
  have hts := C.1.2.2.2.2.2.1
  have g1 := C.2.1.2.2.1
  have g2 := C.2.1.2.2.2.2.1
  have g3 := C.2.1.2.2.2.1
  have g4 := C.2.1.2.2.2.2.2
  have g0 : g.1 n = H.size := C.2.2.2.1.1.2 0
  subst hN
  refine W.anew C.1.1 C.1.2.1 C.1.2.2.2.2.1 (hts _ w1) (hts _ w2) rfl hd rfl hx (by omega) (by omega) (by omega) fun cA kA comp f1 f2 f3 f4 => ?_
  have hcA : cA = tc 4 := by
    obtain ⟨kA', comp', -, -, -, h0⟩ := (C.2.2.1.1.2 4 (tc 4, .object RX1) rfl).2
    exact Option.some.inj (f1.symm.trans h0)
  subst hcA
  generalize hH1 : H.push ({ cls := tc 4, slots := Array.replicate x.toNatClampNeg .null, vm := .none } : Cell) = H1
  have z1 : H1.size = H.size + 1 := by rw [← hH1, Array.size_push]
  have e1 : H1[H.size]? = some (arrV (tc 4) x.toNatClampNeg (fun _ => .null)) := by rw [← hH1, Array.getElem?_push_size, ← arrV_new]
  have o1 : ∀ q : Nat, q < H.size → H1[q]? = H[q]? := fun q hq => by rw [← hH1, Array.getElem?_push, if_neg (Nat.ne_of_lt hq)]
  have C2 := C.push (h2 := (n + 1, va_up K n (4, x.toNatClampNeg), va_up I n (fun _ => 0), va_up L n (fun _ => 0), va_up R n (fun _ => none))) (H1 := H1) (mc2 := mc2) (ms2 := ms2) (w := x.toNatClampNeg) rfl z1 o1 (by
    rw [zE_q (z := x.toNatClampNeg) (va_up_self _ _ _), va_up_self]
    exact e1) hm hs
  have h9 := kk p l e Rm s m args below meth c H1 locs (cells + 1) (slots + x.toNatClampNeg) D tc g A MC MS lsA C2
  simp only [List.map_cons, zc, g0] at h9
  exact h9
/-- a constructor of a nest mate that is private -/
theorem z_callIN {h : ZH} {index na mc' ms' mc2 ms2 fr lo a : Nat} {y : MethodName} {cc : ByteArray} {nL : Nat} {as : List Value} {Qy : Option Value → ZH → Prop} {s0 : List Value} (ho : X.1 = RX8) (hq : (index, y) ∈ zNest) (w2 : Cond.code y cc nL none ∈ zTB) (w3 : Cond.initialized y.cls ∈ zTB) (w4 : y.cls ≠ "java/lang/invoke/MethodHandle" ∧ y.cls ≠ "java/lang/invoke/VarHandle" ∧ (parseMethodDescriptor y.desc).map (fun d => d.parameters.length) = some na) (hy : Cond.instanceMethod y ∈ zTB) (hyn : y.name = "<init>") (hm : Zm y cc nL none fr lo mc' ms' (.ref a :: as) h Qy) (hd : decode X.2.1 pc = .ok (.invokespecial index, 3)) (hs0 : s0 = as.reverse ++ .ref a :: st) (hna : as.length = na) (hfr : fr + 1 ≤ X.2.2.2.2.2.1) (hlo : 8 + (nL + 11) + lo ≤ X.2.2.2.2.2.2.1) (hst : (st.map Value.category).sum ≤ 8) (hmc : mc2 + mc' ≤ mc) (hms : ms2 + ms' ≤ ms)
    (kk : ∀ (r : Option Value) (h2 : ZH), Qy r h2 → Zf X mc2 ms2 (pc + 3) ls (r.toList ++ st) h2 Q) : Zf X mc ms pc ls s0 h Q := by
  intro p l e Rm s m args below meth c H locs cells slots D tc g A MC MS lsA C
  subst hs0
  have hts := C.1.2.2.2.2.2.1
  have g1 := C.2.1.2.2.1
  have g2 := C.2.1.2.2.2.2.1
  have g3 := C.2.1.2.2.2.1
  have g4 := C.2.1.2.2.2.2.2
  have g5 := C.2.1.1
  have g6 := C.2.1.2.1
  obtain ⟨-, -, -, -, -, -, z7⟩ := C.2.2.1.2.1
  have hnl := z7 _ hq
  simp only [← ho] at hnl
  refine z_after (mc' := mc') (ms' := ms') (a := (Value.ref (g.1 a) :: as.map (zc g)).toArray) C hmc hms (va_runIN (b := g.1 a) (As := as.map (zc g)) (rest := st.map (zc g)) ⟨C.1.1, C.1.2.1, C.1.2.2.2.1, C.1.2.2.2.2.1, hts⟩ (hm l D tc g H.size) ⟨va_cnB na hts (zGood w2) rfl rfl rfl hnl (hts _ w3) w4 ⟨by show fr + 1 ≤ _; omega, by show 8 + (nL + 11) + lo ≤ _; omega⟩, hyn, hts _ hy⟩ ⟨zBlind, fun U hU hW => ⟨rfl, C.pre U hU hW⟩⟩ rfl (by rw [List.length_map]; exact hna) C.2.2.2.2.1 (by simp [List.map_append, List.map_reverse, zc]) (z_room hst) hd ⟨by omega, by omega⟩) kk
end ZM2
end
section
/-- a final field of another class, read alone -/
def zFg2 (own : String) (index ci k : Nat) (b : Bool) : Prop := ∃ (C : String) (T : u_T) (N : Nat) (ty : Nat → FieldType), zCl ci C T N ty ∧ k < N ∧ (zT ci)[k]? = some b ∧ Cond.fieldLink own index (T k).1 (T k).2.1 (T k).2.2.1 ∈ zTB
theorem zC0 : zCl 0 RX0 TX0 2 tyX0 := ⟨rfl, fun w hw => zTB_of ((by decide +kernel : ∀ w ∈ u_ws RX0 TX0 2, w ∈ lw_tbl) w hw) ((by decide +kernel : ∀ w ∈ u_ws RX0 TX0 2, goodWord w = true) w hw), tyX0_ok, nmX0, rfl⟩
theorem zC1 : zCl 1 RX1 TX1 10 tyX1 := ⟨rfl, fun w hw => zTB_of ((by decide +kernel : ∀ w ∈ u_ws RX1 TX1 10, w ∈ lw_tbl) w hw) ((by decide +kernel : ∀ w ∈ u_ws RX1 TX1 10, goodWord w = true) w hw), tyX1_ok, nmX1, rfl⟩
theorem zC2 : zCl 2 RX2 TX2 5 tyX2 := ⟨rfl, fun w hw => zTB_of ((by decide +kernel : ∀ w ∈ u_ws RX2 TX2 5, w ∈ lw_tbl) w hw) ((by decide +kernel : ∀ w ∈ u_ws RX2 TX2 5, goodWord w = true) w hw), tyX2_ok, nmX2, rfl⟩
theorem zC3 : zCl 3 RX3 TX3 4 tyX3 := ⟨rfl, fun w hw => zTB_of ((by decide +kernel : ∀ w ∈ u_ws RX3 TX3 4, w ∈ lw_tbl) w hw) ((by decide +kernel : ∀ w ∈ u_ws RX3 TX3 4, goodWord w = true) w hw), tyX3_ok, nmX3, rfl⟩
theorem zC4 : zCl 4 RX4 TX4 7 tyX4 := ⟨rfl, fun w hw => zTB_of ((by decide +kernel : ∀ w ∈ u_ws RX4 TX4 7, w ∈ lw_tbl) w hw) ((by decide +kernel : ∀ w ∈ u_ws RX4 TX4 7, goodWord w = true) w hw), tyX4_ok, nmX4, rfl⟩
theorem zC5 : zCl 5 RX5 TX5 2 tyX5 := ⟨rfl, fun w hw => zTB_of ((by decide +kernel : ∀ w ∈ u_ws RX5 TX5 2, w ∈ lw_tbl) w hw) ((by decide +kernel : ∀ w ∈ u_ws RX5 TX5 2, goodWord w = true) w hw), tyX5_ok, nmX5, rfl⟩
theorem zC6 : zCl 6 RX6 TX6 4 tyX6 := ⟨rfl, fun w hw => zTB_of ((by decide +kernel : ∀ w ∈ u_ws RX6 TX6 4, w ∈ lw_tbl) w hw) ((by decide +kernel : ∀ w ∈ u_ws RX6 TX6 4, goodWord w = true) w hw), tyX6_ok, nmX6, rfl⟩
theorem zC7 : zCl 7 RX7 TX7 3 tyX7 := ⟨rfl, fun w hw => zTB_of ((by decide +kernel : ∀ w ∈ u_ws RX7 TX7 3, w ∈ lw_tbl) w hw) ((by decide +kernel : ∀ w ∈ u_ws RX7 TX7 3, goodWord w = true) w hw), tyX7_ok, nmX7, rfl⟩
theorem zC8 : zCl 8 RX8 TX8 16 tyX8 := ⟨rfl, fun w hw => zTB_of ((by decide +kernel : ∀ w ∈ u_ws RX8 TX8 16, w ∈ lw_tbl) w hw) ((by decide +kernel : ∀ w ∈ u_ws RX8 TX8 16, goodWord w = true) w hw), tyX8_ok, nmX8, rfl⟩
theorem zC9 : zCl 9 RX9 TX9 46 tyX9 := ⟨rfl, fun w hw => zTB_of ((by decide +kernel : ∀ w ∈ u_ws RX9 TX9 46, w ∈ lw_tbl) w hw) ((by decide +kernel : ∀ w ∈ u_ws RX9 TX9 46, goodWord w = true) w hw), tyX9_ok, nmX9, rfl⟩
theorem zf0_9 : zFd RX0 9 0 0 true true := ⟨RX0, TX0, 2, tyX0, zC0, by decide, rfl, zTB_of (by decide +kernel) rfl, rfl, (fun h => by cases h), (fun _ q => by cases q <;> exact ⟨rfl, rfl⟩), (fun _ => rfl)⟩
theorem zf0_15 : zFd RX0 15 0 1 true true := ⟨RX0, TX0, 2, tyX0, zC0, by decide, rfl, zTB_of (by decide +kernel) rfl, rfl, (fun h => by cases h), (fun _ q => by cases q <;> exact ⟨rfl, rfl⟩), (fun _ => rfl)⟩
theorem zf1_9 : zFd RX1 9 1 7 false false := ⟨RX1, TX1, 10, tyX1, zC1, by decide, rfl, zTB_of (by decide +kernel) rfl, rfl, (fun _ => rfl), (fun h => by cases h), (fun h => by cases h)⟩
theorem zf1_15 : zFd RX1 15 1 8 false false := ⟨RX1, TX1, 10, tyX1, zC1, by decide, rfl, zTB_of (by decide +kernel) rfl, rfl, (fun _ => rfl), (fun h => by cases h), (fun h => by cases h)⟩
theorem zf1_18 : zFd RX1 18 1 0 false true := ⟨RX1, TX1, 10, tyX1, zC1, by decide, rfl, zTB_of (by decide +kernel) rfl, rfl, (fun _ => rfl), (fun h => by cases h), (fun _ => rfl)⟩
theorem zf1_21 : zFd RX1 21 1 1 false true := ⟨RX1, TX1, 10, tyX1, zC1, by decide, rfl, zTB_of (by decide +kernel) rfl, rfl, (fun _ => rfl), (fun h => by cases h), (fun _ => rfl)⟩
theorem zf1_24 : zFd RX1 24 1 2 false true := ⟨RX1, TX1, 10, tyX1, zC1, by decide, rfl, zTB_of (by decide +kernel) rfl, rfl, (fun _ => rfl), (fun h => by cases h), (fun _ => rfl)⟩
theorem zf1_27 : zFd RX1 27 1 3 false true := ⟨RX1, TX1, 10, tyX1, zC1, by decide, rfl, zTB_of (by decide +kernel) rfl, rfl, (fun _ => rfl), (fun h => by cases h), (fun _ => rfl)⟩
theorem zf1_30 : zFd RX1 30 1 4 false true := ⟨RX1, TX1, 10, tyX1, zC1, by decide, rfl, zTB_of (by decide +kernel) rfl, rfl, (fun _ => rfl), (fun h => by cases h), (fun _ => rfl)⟩
theorem zf1_33 : zFd RX1 33 1 5 false true := ⟨RX1, TX1, 10, tyX1, zC1, by decide, rfl, zTB_of (by decide +kernel) rfl, rfl, (fun _ => rfl), (fun h => by cases h), (fun _ => rfl)⟩
theorem zf1_36 : zFd RX1 36 1 6 false true := ⟨RX1, TX1, 10, tyX1, zC1, by decide, rfl, zTB_of (by decide +kernel) rfl, rfl, (fun _ => rfl), (fun h => by cases h), (fun _ => rfl)⟩
theorem zf2_12 : zFd RX2 12 2 0 true true := ⟨RX2, TX2, 5, tyX2, zC2, by decide, rfl, zTB_of (by decide +kernel) rfl, rfl, (fun h => by cases h), (fun _ q => by cases q <;> exact ⟨rfl, rfl⟩), (fun _ => rfl)⟩
theorem zf2_18 : zFd RX2 18 2 1 true true := ⟨RX2, TX2, 5, tyX2, zC2, by decide, rfl, zTB_of (by decide +kernel) rfl, rfl, (fun h => by cases h), (fun _ q => by cases q <;> exact ⟨rfl, rfl⟩), (fun _ => rfl)⟩
theorem zf3_9 : zFd RX3 9 3 0 true true := ⟨RX3, TX3, 4, tyX3, zC3, by decide, rfl, zTB_of (by decide +kernel) rfl, rfl, (fun h => by cases h), (fun _ q => by cases q <;> exact ⟨rfl, rfl⟩), (fun _ => rfl)⟩
theorem zf3_15 : zFd RX3 15 3 1 true false := ⟨RX3, TX3, 4, tyX3, zC3, by decide, rfl, zTB_of (by decide +kernel) rfl, rfl, (fun h => by cases h), (fun _ q => by cases q <;> exact ⟨rfl, rfl⟩), (fun h => by cases h)⟩
theorem zf3_24 : zFd RX3 24 3 2 false false := ⟨RX3, TX3, 4, tyX3, zC3, by decide, rfl, zTB_of (by decide +kernel) rfl, rfl, (fun _ => rfl), (fun h => by cases h), (fun h => by cases h)⟩
theorem zf3_28 : zFd RX3 28 3 3 false false := ⟨RX3, TX3, 4, tyX3, zC3, by decide, rfl, zTB_of (by decide +kernel) rfl, rfl, (fun _ => rfl), (fun h => by cases h), (fun h => by cases h)⟩
theorem zf3_60 : zFg2 RX3 60 6 2 true := ⟨RX6, TX6, 4, tyX6, zC6, by decide, rfl, zTB_of (by decide +kernel) rfl⟩
theorem zf3_75 : zFg2 RX3 75 6 0 true := ⟨RX6, TX6, 4, tyX6, zC6, by decide, rfl, zTB_of (by decide +kernel) rfl⟩
theorem zf3_81 : zFd RX3 81 6 3 false false := ⟨RX6, TX6, 4, tyX6, zC6, by decide, rfl, zTB_of (by decide +kernel) rfl, rfl, (fun _ => rfl), (fun h => by cases h), (fun h => by cases h)⟩
theorem zf3_84 : zFg2 RX3 84 6 1 true := ⟨RX6, TX6, 4, tyX6, zC6, by decide, rfl, zTB_of (by decide +kernel) rfl⟩
theorem zf4_9 : zFd RX4 9 4 0 true true := ⟨RX4, TX4, 7, tyX4, zC4, by decide, rfl, zTB_of (by decide +kernel) rfl, rfl, (fun h => by cases h), (fun _ q => by cases q <;> exact ⟨rfl, rfl⟩), (fun _ => rfl)⟩
theorem zf4_15 : zFd RX4 15 4 1 true true := ⟨RX4, TX4, 7, tyX4, zC4, by decide, rfl, zTB_of (by decide +kernel) rfl, rfl, (fun h => by cases h), (fun _ q => by cases q <;> exact ⟨rfl, rfl⟩), (fun _ => rfl)⟩
theorem zf4_18 : zFd RX4 18 4 2 true true := ⟨RX4, TX4, 7, tyX4, zC4, by decide, rfl, zTB_of (by decide +kernel) rfl, rfl, (fun h => by cases h), (fun _ q => by cases q <;> exact ⟨rfl, rfl⟩), (fun _ => rfl)⟩
theorem zf4_21 : zFd RX4 21 4 3 true true := ⟨RX4, TX4, 7, tyX4, zC4, by decide, rfl, zTB_of (by decide +kernel) rfl, rfl, (fun h => by cases h), (fun _ q => by cases q <;> exact ⟨rfl, rfl⟩), (fun _ => rfl)⟩
theorem zf4_24 : zFd RX4 24 4 4 false false := ⟨RX4, TX4, 7, tyX4, zC4, by decide, rfl, zTB_of (by decide +kernel) rfl, rfl, (fun _ => rfl), (fun h => by cases h), (fun h => by cases h)⟩
theorem zf4_28 : zFd RX4 28 4 6 false false := ⟨RX4, TX4, 7, tyX4, zC4, by decide, rfl, zTB_of (by decide +kernel) rfl, rfl, (fun _ => rfl), (fun h => by cases h), (fun h => by cases h)⟩
theorem zf4_35 : zFd RX4 35 4 5 false false := ⟨RX4, TX4, 7, tyX4, zC4, by decide, rfl, zTB_of (by decide +kernel) rfl, rfl, (fun _ => rfl), (fun h => by cases h), (fun h => by cases h)⟩
theorem zf5_9 : zFd RX5 9 5 0 true true := ⟨RX5, TX5, 2, tyX5, zC5, by decide, rfl, zTB_of (by decide +kernel) rfl, rfl, (fun h => by cases h), (fun _ q => by cases q <;> exact ⟨rfl, rfl⟩), (fun _ => rfl)⟩
theorem zf5_15 : zFd RX5 15 5 1 false false := ⟨RX5, TX5, 2, tyX5, zC5, by decide, rfl, zTB_of (by decide +kernel) rfl, rfl, (fun _ => rfl), (fun h => by cases h), (fun h => by cases h)⟩
theorem zf6_11 : zFd RX6 11 6 0 true true := ⟨RX6, TX6, 4, tyX6, zC6, by decide, rfl, zTB_of (by decide +kernel) rfl, rfl, (fun h => by cases h), (fun _ q => by cases q <;> exact ⟨rfl, rfl⟩), (fun _ => rfl)⟩
theorem zf6_15 : zFd RX6 15 6 1 true true := ⟨RX6, TX6, 4, tyX6, zC6, by decide, rfl, zTB_of (by decide +kernel) rfl, rfl, (fun h => by cases h), (fun _ q => by cases q <;> exact ⟨rfl, rfl⟩), (fun _ => rfl)⟩
theorem zf6_18 : zFd RX6 18 6 2 true true := ⟨RX6, TX6, 4, tyX6, zC6, by decide, rfl, zTB_of (by decide +kernel) rfl, rfl, (fun h => by cases h), (fun _ q => by cases q <;> exact ⟨rfl, rfl⟩), (fun _ => rfl)⟩
theorem zf6_21 : zFd RX6 21 6 3 false false := ⟨RX6, TX6, 4, tyX6, zC6, by decide, rfl, zTB_of (by decide +kernel) rfl, rfl, (fun _ => rfl), (fun h => by cases h), (fun h => by cases h)⟩
theorem zf6_25 : zFd RX6 25 5 1 false false := ⟨RX5, TX5, 2, tyX5, zC5, by decide, rfl, zTB_of (by decide +kernel) rfl, rfl, (fun _ => rfl), (fun h => by cases h), (fun h => by cases h)⟩
theorem zf6_26 : zFg2 RX6 26 5 0 true := ⟨RX5, TX5, 2, tyX5, zC5, by decide, rfl, zTB_of (by decide +kernel) rfl⟩
theorem zf7_9 : zFd RX7 9 7 0 true true := ⟨RX7, TX7, 3, tyX7, zC7, by decide, rfl, zTB_of (by decide +kernel) rfl, rfl, (fun h => by cases h), (fun _ q => by cases q <;> exact ⟨rfl, rfl⟩), (fun _ => rfl)⟩
theorem zf7_13 : zFd RX7 13 7 1 false false := ⟨RX7, TX7, 3, tyX7, zC7, by decide, rfl, zTB_of (by decide +kernel) rfl, rfl, (fun _ => rfl), (fun h => by cases h), (fun h => by cases h)⟩
theorem zf7_29 : zFd RX7 29 7 2 false false := ⟨RX7, TX7, 3, tyX7, zC7, by decide, rfl, zTB_of (by decide +kernel) rfl, rfl, (fun _ => rfl), (fun h => by cases h), (fun h => by cases h)⟩
theorem zf8_11 : zFd RX8 11 8 0 true true := ⟨RX8, TX8, 16, tyX8, zC8, by decide, rfl, zTB_of (by decide +kernel) rfl, rfl, (fun h => by cases h), (fun _ q => by cases q <;> exact ⟨rfl, rfl⟩), (fun _ => rfl)⟩
theorem zf8_17 : zFd RX8 17 8 1 true true := ⟨RX8, TX8, 16, tyX8, zC8, by decide, rfl, zTB_of (by decide +kernel) rfl, rfl, (fun h => by cases h), (fun _ q => by cases q <;> exact ⟨rfl, rfl⟩), (fun _ => rfl)⟩
theorem zf8_21 : zFd RX8 21 8 2 true true := ⟨RX8, TX8, 16, tyX8, zC8, by decide, rfl, zTB_of (by decide +kernel) rfl, rfl, (fun h => by cases h), (fun _ q => by cases q <;> exact ⟨rfl, rfl⟩), (fun _ => rfl)⟩
theorem zf8_25 : zFd RX8 25 8 3 true true := ⟨RX8, TX8, 16, tyX8, zC8, by decide, rfl, zTB_of (by decide +kernel) rfl, rfl, (fun h => by cases h), (fun _ q => by cases q <;> exact ⟨rfl, rfl⟩), (fun _ => rfl)⟩
theorem zf8_28 : zFd RX8 28 8 4 true true := ⟨RX8, TX8, 16, tyX8, zC8, by decide, rfl, zTB_of (by decide +kernel) rfl, rfl, (fun h => by cases h), (fun _ q => by cases q <;> exact ⟨rfl, rfl⟩), (fun _ => rfl)⟩
theorem zf8_31 : zFd RX8 31 8 5 true true := ⟨RX8, TX8, 16, tyX8, zC8, by decide, rfl, zTB_of (by decide +kernel) rfl, rfl, (fun h => by cases h), (fun _ q => by cases q <;> exact ⟨rfl, rfl⟩), (fun _ => rfl)⟩
theorem zf8_36 : zFd RX8 36 8 6 true true := ⟨RX8, TX8, 16, tyX8, zC8, by decide, rfl, zTB_of (by decide +kernel) rfl, rfl, (fun h => by cases h), (fun _ q => by cases q <;> exact ⟨rfl, rfl⟩), (fun _ => rfl)⟩
theorem zf8_42 : zFd RX8 42 8 7 true true := ⟨RX8, TX8, 16, tyX8, zC8, by decide, rfl, zTB_of (by decide +kernel) rfl, rfl, (fun h => by cases h), (fun _ q => by cases q <;> exact ⟨rfl, rfl⟩), (fun _ => rfl)⟩
theorem zf8_49 : zFd RX8 49 8 8 true true := ⟨RX8, TX8, 16, tyX8, zC8, by decide, rfl, zTB_of (by decide +kernel) rfl, rfl, (fun h => by cases h), (fun _ q => by cases q <;> exact ⟨rfl, rfl⟩), (fun _ => rfl)⟩
theorem zf8_54 : zFd RX8 54 8 9 true true := ⟨RX8, TX8, 16, tyX8, zC8, by decide, rfl, zTB_of (by decide +kernel) rfl, rfl, (fun h => by cases h), (fun _ q => by cases q <;> exact ⟨rfl, rfl⟩), (fun _ => rfl)⟩
theorem zf8_63 : zFd RX8 63 8 10 true true := ⟨RX8, TX8, 16, tyX8, zC8, by decide, rfl, zTB_of (by decide +kernel) rfl, rfl, (fun h => by cases h), (fun _ q => by cases q <;> exact ⟨rfl, rfl⟩), (fun _ => rfl)⟩
theorem zf8_70 : zFd RX8 70 8 11 true false := ⟨RX8, TX8, 16, tyX8, zC8, by decide, rfl, zTB_of (by decide +kernel) rfl, rfl, (fun h => by cases h), (fun _ q => by cases q <;> exact ⟨rfl, rfl⟩), (fun h => by cases h)⟩
theorem zf8_74 : zFd RX8 74 8 12 true false := ⟨RX8, TX8, 16, tyX8, zC8, by decide, rfl, zTB_of (by decide +kernel) rfl, rfl, (fun h => by cases h), (fun _ q => by cases q <;> exact ⟨rfl, rfl⟩), (fun h => by cases h)⟩
theorem zf8_77 : zFd RX8 77 8 13 false false := ⟨RX8, TX8, 16, tyX8, zC8, by decide, rfl, zTB_of (by decide +kernel) rfl, rfl, (fun _ => rfl), (fun h => by cases h), (fun h => by cases h)⟩
theorem zf8_81 : zFd RX8 81 8 14 false false := ⟨RX8, TX8, 16, tyX8, zC8, by decide, rfl, zTB_of (by decide +kernel) rfl, rfl, (fun _ => rfl), (fun h => by cases h), (fun h => by cases h)⟩
theorem zf8_84 : zFd RX8 84 8 15 false false := ⟨RX8, TX8, 16, tyX8, zC8, by decide, rfl, zTB_of (by decide +kernel) rfl, rfl, (fun _ => rfl), (fun h => by cases h), (fun h => by cases h)⟩
theorem zf8_104 : zFg2 RX8 104 1 5 false := ⟨RX1, TX1, 10, tyX1, zC1, by decide, rfl, zTB_of (by decide +kernel) rfl⟩
theorem zf8_107 : zFd RX8 107 1 7 false false := ⟨RX1, TX1, 10, tyX1, zC1, by decide, rfl, zTB_of (by decide +kernel) rfl, rfl, (fun _ => rfl), (fun h => by cases h), (fun h => by cases h)⟩
theorem zf8_110 : zFg2 RX8 110 1 4 false := ⟨RX1, TX1, 10, tyX1, zC1, by decide, rfl, zTB_of (by decide +kernel) rfl⟩
theorem zf8_125 : zFd RX8 125 5 1 false false := ⟨RX5, TX5, 2, tyX5, zC5, by decide, rfl, zTB_of (by decide +kernel) rfl, rfl, (fun _ => rfl), (fun h => by cases h), (fun h => by cases h)⟩
theorem zf8_143 : zFg2 RX8 143 2 0 true := ⟨RX2, TX2, 5, tyX2, zC2, by decide, rfl, zTB_of (by decide +kernel) rfl⟩
theorem zf8_153 : zFg2 RX8 153 2 1 true := ⟨RX2, TX2, 5, tyX2, zC2, by decide, rfl, zTB_of (by decide +kernel) rfl⟩
theorem zf8_159 : zFd RX8 159 7 1 false false := ⟨RX7, TX7, 3, tyX7, zC7, by decide, rfl, zTB_of (by decide +kernel) rfl, rfl, (fun _ => rfl), (fun h => by cases h), (fun h => by cases h)⟩
theorem zf8_162 : zFg2 RX8 162 7 0 true := ⟨RX7, TX7, 3, tyX7, zC7, by decide, rfl, zTB_of (by decide +kernel) rfl⟩
theorem zf8_172 : zFd RX8 172 1 8 false false := ⟨RX1, TX1, 10, tyX1, zC1, by decide, rfl, zTB_of (by decide +kernel) rfl, rfl, (fun _ => rfl), (fun h => by cases h), (fun h => by cases h)⟩
theorem zf8_175 : zFd RX8 175 1 9 false false := ⟨RX1, TX1, 10, tyX1, zC1, by decide, rfl, zTB_of (by decide +kernel) rfl, rfl, (fun _ => rfl), (fun h => by cases h), (fun h => by cases h)⟩
theorem zf8_193 : zFd RX8 193 2 2 false false := ⟨RX2, TX2, 5, tyX2, zC2, by decide, rfl, zTB_of (by decide +kernel) rfl, rfl, (fun _ => rfl), (fun h => by cases h), (fun h => by cases h)⟩
theorem zf8_196 : zFd RX8 196 2 4 false false := ⟨RX2, TX2, 5, tyX2, zC2, by decide, rfl, zTB_of (by decide +kernel) rfl, rfl, (fun _ => rfl), (fun h => by cases h), (fun h => by cases h)⟩
theorem zf8_199 : zFd RX8 199 7 2 false false := ⟨RX7, TX7, 3, tyX7, zC7, by decide, rfl, zTB_of (by decide +kernel) rfl, rfl, (fun _ => rfl), (fun h => by cases h), (fun h => by cases h)⟩
theorem zf8_205 : zFd RX8 205 4 6 false false := ⟨RX4, TX4, 7, tyX4, zC4, by decide, rfl, zTB_of (by decide +kernel) rfl, rfl, (fun _ => rfl), (fun h => by cases h), (fun h => by cases h)⟩
theorem zf8_214 : zFg2 RX8 214 1 2 false := ⟨RX1, TX1, 10, tyX1, zC1, by decide, rfl, zTB_of (by decide +kernel) rfl⟩
theorem zf8_227 : zFg2 RX8 227 1 3 false := ⟨RX1, TX1, 10, tyX1, zC1, by decide, rfl, zTB_of (by decide +kernel) rfl⟩
theorem zf8_230 : zFg2 RX8 230 1 6 false := ⟨RX1, TX1, 10, tyX1, zC1, by decide, rfl, zTB_of (by decide +kernel) rfl⟩
theorem zf8_244 : zFd RX8 244 2 3 false false := ⟨RX2, TX2, 5, tyX2, zC2, by decide, rfl, zTB_of (by decide +kernel) rfl, rfl, (fun _ => rfl), (fun h => by cases h), (fun h => by cases h)⟩
theorem zf8_266 : zFg2 RX8 266 1 0 false := ⟨RX1, TX1, 10, tyX1, zC1, by decide, rfl, zTB_of (by decide +kernel) rfl⟩
theorem zf8_269 : zFg2 RX8 269 1 1 false := ⟨RX1, TX1, 10, tyX1, zC1, by decide, rfl, zTB_of (by decide +kernel) rfl⟩
theorem zf9_7 : zFd RX9 7 9 1 true true := ⟨RX9, TX9, 46, tyX9, zC9, by decide, rfl, zTB_of (by decide +kernel) rfl, rfl, (fun h => by cases h), (fun _ q => by cases q <;> exact ⟨rfl, rfl⟩), (fun _ => rfl)⟩
theorem zf9_13 : zFd RX9 13 9 4 true true := ⟨RX9, TX9, 46, tyX9, zC9, by decide, rfl, zTB_of (by decide +kernel) rfl, rfl, (fun h => by cases h), (fun _ q => by cases q <;> exact ⟨rfl, rfl⟩), (fun _ => rfl)⟩
theorem zf9_16 : zFd RX9 16 9 5 true true := ⟨RX9, TX9, 46, tyX9, zC9, by decide, rfl, zTB_of (by decide +kernel) rfl, rfl, (fun h => by cases h), (fun _ q => by cases q <;> exact ⟨rfl, rfl⟩), (fun _ => rfl)⟩
theorem zf9_19 : zFd RX9 19 9 6 true true := ⟨RX9, TX9, 46, tyX9, zC9, by decide, rfl, zTB_of (by decide +kernel) rfl, rfl, (fun h => by cases h), (fun _ q => by cases q <;> exact ⟨rfl, rfl⟩), (fun _ => rfl)⟩
theorem zf9_47 : zFd RX9 47 9 9 true true := ⟨RX9, TX9, 46, tyX9, zC9, by decide, rfl, zTB_of (by decide +kernel) rfl, rfl, (fun h => by cases h), (fun _ q => by cases q <;> exact ⟨rfl, rfl⟩), (fun _ => rfl)⟩
theorem zf9_50 : zFd RX9 50 9 10 true true := ⟨RX9, TX9, 46, tyX9, zC9, by decide, rfl, zTB_of (by decide +kernel) rfl, rfl, (fun h => by cases h), (fun _ q => by cases q <;> exact ⟨rfl, rfl⟩), (fun _ => rfl)⟩
theorem zf9_53 : zFd RX9 53 9 11 true true := ⟨RX9, TX9, 46, tyX9, zC9, by decide, rfl, zTB_of (by decide +kernel) rfl, rfl, (fun h => by cases h), (fun _ q => by cases q <;> exact ⟨rfl, rfl⟩), (fun _ => rfl)⟩
theorem zf9_56 : zFd RX9 56 9 12 true true := ⟨RX9, TX9, 46, tyX9, zC9, by decide, rfl, zTB_of (by decide +kernel) rfl, rfl, (fun h => by cases h), (fun _ q => by cases q <;> exact ⟨rfl, rfl⟩), (fun _ => rfl)⟩
theorem zf9_59 : zFd RX9 59 9 13 true true := ⟨RX9, TX9, 46, tyX9, zC9, by decide, rfl, zTB_of (by decide +kernel) rfl, rfl, (fun h => by cases h), (fun _ q => by cases q <;> exact ⟨rfl, rfl⟩), (fun _ => rfl)⟩
theorem zf9_62 : zFd RX9 62 9 14 true true := ⟨RX9, TX9, 46, tyX9, zC9, by decide, rfl, zTB_of (by decide +kernel) rfl, rfl, (fun h => by cases h), (fun _ q => by cases q <;> exact ⟨rfl, rfl⟩), (fun _ => rfl)⟩
theorem zf9_65 : zFd RX9 65 9 19 true true := ⟨RX9, TX9, 46, tyX9, zC9, by decide, rfl, zTB_of (by decide +kernel) rfl, rfl, (fun h => by cases h), (fun _ q => by cases q <;> exact ⟨rfl, rfl⟩), (fun _ => rfl)⟩
theorem zf9_68 : zFd RX9 68 9 20 true true := ⟨RX9, TX9, 46, tyX9, zC9, by decide, rfl, zTB_of (by decide +kernel) rfl, rfl, (fun h => by cases h), (fun _ q => by cases q <;> exact ⟨rfl, rfl⟩), (fun _ => rfl)⟩
theorem zf9_71 : zFd RX9 71 9 21 true true := ⟨RX9, TX9, 46, tyX9, zC9, by decide, rfl, zTB_of (by decide +kernel) rfl, rfl, (fun h => by cases h), (fun _ q => by cases q <;> exact ⟨rfl, rfl⟩), (fun _ => rfl)⟩
theorem zf9_74 : zFd RX9 74 9 22 true true := ⟨RX9, TX9, 46, tyX9, zC9, by decide, rfl, zTB_of (by decide +kernel) rfl, rfl, (fun h => by cases h), (fun _ q => by cases q <;> exact ⟨rfl, rfl⟩), (fun _ => rfl)⟩
theorem zf9_77 : zFd RX9 77 9 23 true true := ⟨RX9, TX9, 46, tyX9, zC9, by decide, rfl, zTB_of (by decide +kernel) rfl, rfl, (fun h => by cases h), (fun _ q => by cases q <;> exact ⟨rfl, rfl⟩), (fun _ => rfl)⟩
theorem zf9_80 : zFd RX9 80 9 25 true true := ⟨RX9, TX9, 46, tyX9, zC9, by decide, rfl, zTB_of (by decide +kernel) rfl, rfl, (fun h => by cases h), (fun _ q => by cases q <;> exact ⟨rfl, rfl⟩), (fun _ => rfl)⟩
theorem zf9_83 : zFd RX9 83 9 26 true true := ⟨RX9, TX9, 46, tyX9, zC9, by decide, rfl, zTB_of (by decide +kernel) rfl, rfl, (fun h => by cases h), (fun _ q => by cases q <;> exact ⟨rfl, rfl⟩), (fun _ => rfl)⟩
theorem zf9_86 : zFd RX9 86 9 27 true true := ⟨RX9, TX9, 46, tyX9, zC9, by decide, rfl, zTB_of (by decide +kernel) rfl, rfl, (fun h => by cases h), (fun _ q => by cases q <;> exact ⟨rfl, rfl⟩), (fun _ => rfl)⟩
theorem zf9_89 : zFd RX9 89 9 28 true true := ⟨RX9, TX9, 46, tyX9, zC9, by decide, rfl, zTB_of (by decide +kernel) rfl, rfl, (fun h => by cases h), (fun _ q => by cases q <;> exact ⟨rfl, rfl⟩), (fun _ => rfl)⟩
theorem zf9_92 : zFd RX9 92 9 29 true true := ⟨RX9, TX9, 46, tyX9, zC9, by decide, rfl, zTB_of (by decide +kernel) rfl, rfl, (fun h => by cases h), (fun _ q => by cases q <;> exact ⟨rfl, rfl⟩), (fun _ => rfl)⟩
theorem zf9_95 : zFd RX9 95 9 30 true true := ⟨RX9, TX9, 46, tyX9, zC9, by decide, rfl, zTB_of (by decide +kernel) rfl, rfl, (fun h => by cases h), (fun _ q => by cases q <;> exact ⟨rfl, rfl⟩), (fun _ => rfl)⟩
theorem zf9_98 : zFd RX9 98 9 31 true true := ⟨RX9, TX9, 46, tyX9, zC9, by decide, rfl, zTB_of (by decide +kernel) rfl, rfl, (fun h => by cases h), (fun _ q => by cases q <;> exact ⟨rfl, rfl⟩), (fun _ => rfl)⟩
theorem zf9_101 : zFd RX9 101 9 32 true true := ⟨RX9, TX9, 46, tyX9, zC9, by decide, rfl, zTB_of (by decide +kernel) rfl, rfl, (fun h => by cases h), (fun _ q => by cases q <;> exact ⟨rfl, rfl⟩), (fun _ => rfl)⟩
theorem zf9_104 : zFd RX9 104 9 33 true true := ⟨RX9, TX9, 46, tyX9, zC9, by decide, rfl, zTB_of (by decide +kernel) rfl, rfl, (fun h => by cases h), (fun _ q => by cases q <;> exact ⟨rfl, rfl⟩), (fun _ => rfl)⟩
theorem zf9_107 : zFd RX9 107 9 36 true true := ⟨RX9, TX9, 46, tyX9, zC9, by decide, rfl, zTB_of (by decide +kernel) rfl, rfl, (fun h => by cases h), (fun _ q => by cases q <;> exact ⟨rfl, rfl⟩), (fun _ => rfl)⟩
theorem zf9_110 : zFd RX9 110 9 37 true true := ⟨RX9, TX9, 46, tyX9, zC9, by decide, rfl, zTB_of (by decide +kernel) rfl, rfl, (fun h => by cases h), (fun _ q => by cases q <;> exact ⟨rfl, rfl⟩), (fun _ => rfl)⟩
theorem zf9_113 : zFd RX9 113 9 38 true true := ⟨RX9, TX9, 46, tyX9, zC9, by decide, rfl, zTB_of (by decide +kernel) rfl, rfl, (fun h => by cases h), (fun _ q => by cases q <;> exact ⟨rfl, rfl⟩), (fun _ => rfl)⟩
theorem zf9_116 : zFd RX9 116 9 39 true true := ⟨RX9, TX9, 46, tyX9, zC9, by decide, rfl, zTB_of (by decide +kernel) rfl, rfl, (fun h => by cases h), (fun _ q => by cases q <;> exact ⟨rfl, rfl⟩), (fun _ => rfl)⟩
theorem zf9_119 : zFd RX9 119 9 40 true true := ⟨RX9, TX9, 46, tyX9, zC9, by decide, rfl, zTB_of (by decide +kernel) rfl, rfl, (fun h => by cases h), (fun _ q => by cases q <;> exact ⟨rfl, rfl⟩), (fun _ => rfl)⟩
theorem zf9_122 : zFd RX9 122 9 41 true true := ⟨RX9, TX9, 46, tyX9, zC9, by decide, rfl, zTB_of (by decide +kernel) rfl, rfl, (fun h => by cases h), (fun _ q => by cases q <;> exact ⟨rfl, rfl⟩), (fun _ => rfl)⟩
theorem zf9_125 : zFd RX9 125 9 42 true true := ⟨RX9, TX9, 46, tyX9, zC9, by decide, rfl, zTB_of (by decide +kernel) rfl, rfl, (fun h => by cases h), (fun _ q => by cases q <;> exact ⟨rfl, rfl⟩), (fun _ => rfl)⟩
theorem zf9_128 : zFd RX9 128 9 43 true true := ⟨RX9, TX9, 46, tyX9, zC9, by decide, rfl, zTB_of (by decide +kernel) rfl, rfl, (fun h => by cases h), (fun _ q => by cases q <;> exact ⟨rfl, rfl⟩), (fun _ => rfl)⟩
theorem zf9_131 : zFd RX9 131 9 44 true true := ⟨RX9, TX9, 46, tyX9, zC9, by decide, rfl, zTB_of (by decide +kernel) rfl, rfl, (fun h => by cases h), (fun _ q => by cases q <;> exact ⟨rfl, rfl⟩), (fun _ => rfl)⟩
theorem zf9_134 : zFd RX9 134 9 45 true true := ⟨RX9, TX9, 46, tyX9, zC9, by decide, rfl, zTB_of (by decide +kernel) rfl, rfl, (fun h => by cases h), (fun _ q => by cases q <;> exact ⟨rfl, rfl⟩), (fun _ => rfl)⟩
theorem zf9_137 : zFd RX9 137 9 0 false false := ⟨RX9, TX9, 46, tyX9, zC9, by decide, rfl, zTB_of (by decide +kernel) rfl, rfl, (fun _ => rfl), (fun h => by cases h), (fun h => by cases h)⟩
theorem zf9_145 : zFd RX9 145 9 2 false false := ⟨RX9, TX9, 46, tyX9, zC9, by decide, rfl, zTB_of (by decide +kernel) rfl, rfl, (fun _ => rfl), (fun h => by cases h), (fun h => by cases h)⟩
theorem zf9_152 : zFd RX9 152 9 3 false false := ⟨RX9, TX9, 46, tyX9, zC9, by decide, rfl, zTB_of (by decide +kernel) rfl, rfl, (fun _ => rfl), (fun h => by cases h), (fun h => by cases h)⟩
theorem zf9_170 : zFd RX9 170 9 7 false false := ⟨RX9, TX9, 46, tyX9, zC9, by decide, rfl, zTB_of (by decide +kernel) rfl, rfl, (fun _ => rfl), (fun h => by cases h), (fun h => by cases h)⟩
theorem zf9_173 : zFd RX9 173 9 8 false false := ⟨RX9, TX9, 46, tyX9, zC9, by decide, rfl, zTB_of (by decide +kernel) rfl, rfl, (fun _ => rfl), (fun h => by cases h), (fun h => by cases h)⟩
theorem zf9_189 : zFd RX9 189 9 16 false false := ⟨RX9, TX9, 46, tyX9, zC9, by decide, rfl, zTB_of (by decide +kernel) rfl, rfl, (fun _ => rfl), (fun h => by cases h), (fun h => by cases h)⟩
theorem zf9_192 : zFd RX9 192 9 17 false false := ⟨RX9, TX9, 46, tyX9, zC9, by decide, rfl, zTB_of (by decide +kernel) rfl, rfl, (fun _ => rfl), (fun h => by cases h), (fun h => by cases h)⟩
theorem zf9_198 : zFd RX9 198 9 15 false false := ⟨RX9, TX9, 46, tyX9, zC9, by decide, rfl, zTB_of (by decide +kernel) rfl, rfl, (fun _ => rfl), (fun h => by cases h), (fun h => by cases h)⟩
theorem zf9_209 : zFd RX9 209 9 18 false false := ⟨RX9, TX9, 46, tyX9, zC9, by decide, rfl, zTB_of (by decide +kernel) rfl, rfl, (fun _ => rfl), (fun h => by cases h), (fun h => by cases h)⟩
theorem zf9_236 : zFd RX9 236 9 24 false false := ⟨RX9, TX9, 46, tyX9, zC9, by decide, rfl, zTB_of (by decide +kernel) rfl, rfl, (fun _ => rfl), (fun h => by cases h), (fun h => by cases h)⟩
theorem zf9_239 : zFd RX9 239 9 34 false false := ⟨RX9, TX9, 46, tyX9, zC9, by decide, rfl, zTB_of (by decide +kernel) rfl, rfl, (fun _ => rfl), (fun h => by cases h), (fun h => by cases h)⟩
theorem zf9_253 : zFd RX9 253 9 35 false false := ⟨RX9, TX9, 46, tyX9, zC9, by decide, rfl, zTB_of (by decide +kernel) rfl, rfl, (fun _ => rfl), (fun h => by cases h), (fun h => by cases h)⟩
theorem ziL_7 : zInv RL 7 yX8_look cX8_look 4 (some .int) 2 := ⟨zTB_of (by decide +kernel) rfl, zTB_of (by decide +kernel) rfl, zTB_of (by decide +kernel) rfl, by decide, by decide, by decide +kernel⟩
theorem ziL_15 : zInv RL 15 yX8_init cX8_init 1 none 0 := ⟨zTB_of (by decide +kernel) rfl, zTB_of (by decide +kernel) rfl, zTB_of (by decide +kernel) rfl, by decide, by decide, by decide +kernel⟩
theorem ziL_18 : zInv RL 18 yX9_init cX9_init 1 none 0 := ⟨zTB_of (by decide +kernel) rfl, zTB_of (by decide +kernel) rfl, zTB_of (by decide +kernel) rfl, by decide, by decide, by decide +kernel⟩
theorem ziL_19 : zInv RL 19 yX8_pitch cX8_pitch 5 (some .int) 2 := ⟨zTB_of (by decide +kernel) rfl, zTB_of (by decide +kernel) rfl, zTB_of (by decide +kernel) rfl, by decide, by decide, by decide +kernel⟩
theorem ziL_22 : zInv RL 22 yX9_pitch cX9_pitch 4 (some .int) 2 := ⟨zTB_of (by decide +kernel) rfl, zTB_of (by decide +kernel) rfl, zTB_of (by decide +kernel) rfl, by decide, by decide, by decide +kernel⟩
theorem ziL_23 : zInv RL 23 yX8_game cX8_game 8 (some .int) 6 := ⟨zTB_of (by decide +kernel) rfl, zTB_of (by decide +kernel) rfl, zTB_of (by decide +kernel) rfl, by decide, by decide, by decide +kernel⟩
theorem ziL_27 : zInv RL 27 yX9_game cX9_game 7 (some .int) 6 := ⟨zTB_of (by decide +kernel) rfl, zTB_of (by decide +kernel) rfl, zTB_of (by decide +kernel) rfl, by decide, by decide, by decide +kernel⟩
theorem ziL_28 : zInv RL 28 yX8_lay cX8_lay 5 (some .int) 1 := ⟨zTB_of (by decide +kernel) rfl, zTB_of (by decide +kernel) rfl, zTB_of (by decide +kernel) rfl, by decide, by decide, by decide +kernel⟩
theorem ziL_32 : zInv RL 32 yX9_lay_ cX9_lay_ 5 (some .int) 1 := ⟨zTB_of (by decide +kernel) rfl, zTB_of (by decide +kernel) rfl, zTB_of (by decide +kernel) rfl, by decide, by decide, by decide +kernel⟩
theorem ziL_35 : zInv RL 35 yX8_feed cX8_feed 7 (some .int) 3 := ⟨zTB_of (by decide +kernel) rfl, zTB_of (by decide +kernel) rfl, zTB_of (by decide +kernel) rfl, by decide, by decide, by decide +kernel⟩
theorem ziL_39 : zInv RL 39 yX9_feed cX9_feed 7 (some .int) 3 := ⟨zTB_of (by decide +kernel) rfl, zTB_of (by decide +kernel) rfl, zTB_of (by decide +kernel) rfl, by decide, by decide, by decide +kernel⟩
theorem ziL_40 : zInv RL 40 yX8_text cX8_text 3 (some .int) 0 := ⟨zTB_of (by decide +kernel) rfl, zTB_of (by decide +kernel) rfl, zTB_of (by decide +kernel) rfl, by decide, by decide, by decide +kernel⟩
theorem ziL_44 : zInv RL 44 yX9_text cX9_text 1 (some .int) 0 := ⟨zTB_of (by decide +kernel) rfl, zTB_of (by decide +kernel) rfl, zTB_of (by decide +kernel) rfl, by decide, by decide, by decide +kernel⟩
theorem ziL_45 : zInv RL 45 yX8_day cX8_day 6 (some .int) 2 := ⟨zTB_of (by decide +kernel) rfl, zTB_of (by decide +kernel) rfl, zTB_of (by decide +kernel) rfl, by decide, by decide, by decide +kernel⟩
theorem ziL_48 : zInv RL 48 yX9_day cX9_day 5 (some .int) 2 := ⟨zTB_of (by decide +kernel) rfl, zTB_of (by decide +kernel) rfl, zTB_of (by decide +kernel) rfl, by decide, by decide, by decide +kernel⟩
theorem ziL_49 : zInv RL 49 yX8_turn cX8_turn 3 (some .int) 1 := ⟨zTB_of (by decide +kernel) rfl, zTB_of (by decide +kernel) rfl, zTB_of (by decide +kernel) rfl, by decide, by decide, by decide +kernel⟩
theorem ziL_52 : zInv RL 52 yX9_turn cX9_turn 2 (some .int) 1 := ⟨zTB_of (by decide +kernel) rfl, zTB_of (by decide +kernel) rfl, zTB_of (by decide +kernel) rfl, by decide, by decide, by decide +kernel⟩
theorem ziL_53 : zInv RL 53 yX8_grass cX8_grass 4 (some .int) 3 := ⟨zTB_of (by decide +kernel) rfl, zTB_of (by decide +kernel) rfl, zTB_of (by decide +kernel) rfl, by decide, by decide, by decide +kernel⟩
theorem ziL_57 : zInv RL 57 yX9_grass cX9_grass 4 (some .int) 3 := ⟨zTB_of (by decide +kernel) rfl, zTB_of (by decide +kernel) rfl, zTB_of (by decide +kernel) rfl, by decide, by decide, by decide +kernel⟩
theorem ziL_63 : zInv RL 63 yX9_look cX9_look 3 (some .int) 2 := ⟨zTB_of (by decide +kernel) rfl, zTB_of (by decide +kernel) rfl, zTB_of (by decide +kernel) rfl, by decide, by decide, by decide +kernel⟩
theorem ziL_64 : zInv RL 64 yX9_thrown cX9_thrown 1 (some .int) 0 := ⟨zTB_of (by decide +kernel) rfl, zTB_of (by decide +kernel) rfl, zTB_of (by decide +kernel) rfl, by decide, by decide, by decide +kernel⟩
theorem ziL_67 : zInv RL 67 yX8_at cX8_at 4 (some .int) 3 := ⟨zTB_of (by decide +kernel) rfl, zTB_of (by decide +kernel) rfl, zTB_of (by decide +kernel) rfl, by decide, by decide, by decide +kernel⟩
theorem ziL_70 : zInv RL 70 yX9_at cX9_at 4 (some .int) 3 := ⟨zTB_of (by decide +kernel) rfl, zTB_of (by decide +kernel) rfl, zTB_of (by decide +kernel) rfl, by decide, by decide, by decide +kernel⟩
theorem ziL_71 : zInv RL 71 yX8_club cX8_club 3 (some .int) 2 := ⟨zTB_of (by decide +kernel) rfl, zTB_of (by decide +kernel) rfl, zTB_of (by decide +kernel) rfl, by decide, by decide, by decide +kernel⟩
theorem ziL_74 : zInv RL 74 yX9_club cX9_club 3 (some .int) 2 := ⟨zTB_of (by decide +kernel) rfl, zTB_of (by decide +kernel) rfl, zTB_of (by decide +kernel) rfl, by decide, by decide, by decide +kernel⟩
theorem ziL_75 : zInv RL 75 yX8_field cX8_field 4 (some .int) 2 := ⟨zTB_of (by decide +kernel) rfl, zTB_of (by decide +kernel) rfl, zTB_of (by decide +kernel) rfl, by decide, by decide, by decide +kernel⟩
theorem ziL_78 : zInv RL 78 yX9_field cX9_field 3 (some .int) 2 := ⟨zTB_of (by decide +kernel) rfl, zTB_of (by decide +kernel) rfl, zTB_of (by decide +kernel) rfl, by decide, by decide, by decide +kernel⟩
theorem ziL_79 : zInv RL 79 yX8_would cX8_would 4 (some .int) 2 := ⟨zTB_of (by decide +kernel) rfl, zTB_of (by decide +kernel) rfl, zTB_of (by decide +kernel) rfl, by decide, by decide, by decide +kernel⟩
theorem ziL_82 : zInv RL 82 yX9_would cX9_would 3 (some .int) 2 := ⟨zTB_of (by decide +kernel) rfl, zTB_of (by decide +kernel) rfl, zTB_of (by decide +kernel) rfl, by decide, by decide, by decide +kernel⟩
theorem ziL_83 : zInv RL 83 yX8_count cX8_count 2 (some .int) 1 := ⟨zTB_of (by decide +kernel) rfl, zTB_of (by decide +kernel) rfl, zTB_of (by decide +kernel) rfl, by decide, by decide, by decide +kernel⟩
theorem ziL_86 : zInv RL 86 yX9_count cX9_count 4 (some .int) 1 := ⟨zTB_of (by decide +kernel) rfl, zTB_of (by decide +kernel) rfl, zTB_of (by decide +kernel) rfl, by decide, by decide, by decide +kernel⟩
theorem zi0_18 : zInv RX0 18 yX0_isSlot cX0_isSlot 1 (some .boolean) 1 := ⟨zTB_of (by decide +kernel) rfl, zTB_of (by decide +kernel) rfl, zTB_of (by decide +kernel) rfl, by decide, by decide, by decide +kernel⟩
theorem zi0_28 : zInv RX0 28 yX0_slotsOfDay cX0_slotsOfDay 4 (some .int) 2 := ⟨zTB_of (by decide +kernel) rfl, zTB_of (by decide +kernel) rfl, zTB_of (by decide +kernel) rfl, by decide, by decide, by decide +kernel⟩
theorem zi0_31 : zInv RX0 31 yX0_lowestBit cX0_lowestBit 2 (some .int) 1 := ⟨zTB_of (by decide +kernel) rfl, zTB_of (by decide +kernel) rfl, zTB_of (by decide +kernel) rfl, by decide, by decide, by decide +kernel⟩
theorem zi2_9 : zInv RX2 9 yX7_init cX7_init 3 none 1 := ⟨zTB_of (by decide +kernel) rfl, zTB_of (by decide +kernel) rfl, zTB_of (by decide +kernel) rfl, by decide, by decide, by decide +kernel⟩
theorem zi3_19 : zInv RX3 19 yX4_clear cX4_clear 1 none 0 := ⟨zTB_of (by decide +kernel) rfl, zTB_of (by decide +kernel) rfl, zTB_of (by decide +kernel) rfl, by decide, by decide, by decide +kernel⟩
theorem zi3_33 : zInv RX3 33 yX3_sees cX3_sees 2 (some .boolean) 1 := ⟨zTB_of (by decide +kernel) rfl, zTB_of (by decide +kernel) rfl, zTB_of (by decide +kernel) rfl, by decide, by decide, by decide +kernel⟩
theorem zi3_37 : zInv RX3 37 yX3_readLine cX3_readLine 3 none 1 := ⟨zTB_of (by decide +kernel) rfl, zTB_of (by decide +kernel) rfl, zTB_of (by decide +kernel) rfl, by decide, by decide, by decide +kernel⟩
theorem zi3_41 : zInv RX3 41 yX3_refuse cX3_refuse 2 none 1 := ⟨zTB_of (by decide +kernel) rfl, zTB_of (by decide +kernel) rfl, zTB_of (by decide +kernel) rfl, by decide, by decide, by decide +kernel⟩
theorem zi3_44 : zInv RX3 44 yX3_take cX3_take 2 none 1 := ⟨zTB_of (by decide +kernel) rfl, zTB_of (by decide +kernel) rfl, zTB_of (by decide +kernel) rfl, by decide, by decide, by decide +kernel⟩
theorem zi3_47 : zInv RX3 47 yX3_readWhich cX3_readWhich 2 (some .int) 0 := ⟨zTB_of (by decide +kernel) rfl, zTB_of (by decide +kernel) rfl, zTB_of (by decide +kernel) rfl, by decide, by decide, by decide +kernel⟩
theorem zi3_51 : zInv RX3 51 yX3_readAnds cX3_readAnds 3 none 1 := ⟨zTB_of (by decide +kernel) rfl, zTB_of (by decide +kernel) rfl, zTB_of (by decide +kernel) rfl, by decide, by decide, by decide +kernel⟩
theorem zi3_54 : zInv RX3 54 yX4_endLine cX4_endLine 2 none 1 := ⟨zTB_of (by decide +kernel) rfl, zTB_of (by decide +kernel) rfl, zTB_of (by decide +kernel) rfl, by decide, by decide, by decide +kernel⟩
theorem zi3_57 : zInv RX3 57 yX3_step cX3_step 1 none 0 := ⟨zTB_of (by decide +kernel) rfl, zTB_of (by decide +kernel) rfl, zTB_of (by decide +kernel) rfl, by decide, by decide, by decide +kernel⟩
theorem zi3_64 : zInv RX3 64 yX3_readTest cX3_readTest 3 none 1 := ⟨zTB_of (by decide +kernel) rfl, zTB_of (by decide +kernel) rfl, zTB_of (by decide +kernel) rfl, by decide, by decide, by decide +kernel⟩
theorem zi3_69 : zInv RX3 69 yX4_put cX4_put 2 none 1 := ⟨zTB_of (by decide +kernel) rfl, zTB_of (by decide +kernel) rfl, zTB_of (by decide +kernel) rfl, by decide, by decide, by decide +kernel⟩
theorem zi3_72 : zInv RX3 72 yX3_readSum cX3_readSum 4 none 1 := ⟨zTB_of (by decide +kernel) rfl, zTB_of (by decide +kernel) rfl, zTB_of (by decide +kernel) rfl, by decide, by decide, by decide +kernel⟩
theorem zi3_78 : zInv RX3 78 yX3_readPart cX3_readPart 5 none 1 := ⟨zTB_of (by decide +kernel) rfl, zTB_of (by decide +kernel) rfl, zTB_of (by decide +kernel) rfl, by decide, by decide, by decide +kernel⟩
theorem zi4_31 : zInv RX4 31 yX4_worth cX4_worth 8 (some .int) 3 := ⟨zTB_of (by decide +kernel) rfl, zTB_of (by decide +kernel) rfl, zTB_of (by decide +kernel) rfl, by decide, by decide, by decide +kernel⟩
theorem zi4_38 : zInv RX4 38 yX4_push cX4_push 2 none 1 := ⟨zTB_of (by decide +kernel) rfl, zTB_of (by decide +kernel) rfl, zTB_of (by decide +kernel) rfl, by decide, by decide, by decide +kernel⟩
theorem zi4_42 : zInv RX4 42 yX4_pop cX4_pop 1 (some .int) 0 := ⟨zTB_of (by decide +kernel) rfl, zTB_of (by decide +kernel) rfl, zTB_of (by decide +kernel) rfl, by decide, by decide, by decide +kernel⟩
theorem zi4_46 : zInv RX4 46 yX4_join cX4_join 3 (some .int) 3 := ⟨zTB_of (by decide +kernel) rfl, zTB_of (by decide +kernel) rfl, zTB_of (by decide +kernel) rfl, by decide, by decide, by decide +kernel⟩
theorem zi6_30 : zInv RX6 30 yX6_sortOf cX6_sortOf 1 (some .int) 1 := ⟨zTB_of (by decide +kernel) rfl, zTB_of (by decide +kernel) rfl, zTB_of (by decide +kernel) rfl, by decide, by decide, by decide +kernel⟩
theorem zi6_34 : zInv RX6 34 yX6_addToken cX6_addToken 5 none 4 := ⟨zTB_of (by decide +kernel) rfl, zTB_of (by decide +kernel) rfl, zTB_of (by decide +kernel) rfl, by decide, by decide, by decide +kernel⟩
theorem zi6_38 : zInv RX6 38 yX6_wordKind cX6_wordKind 3 (some .int) 3 := ⟨zTB_of (by decide +kernel) rfl, zTB_of (by decide +kernel) rfl, zTB_of (by decide +kernel) rfl, by decide, by decide, by decide +kernel⟩
theorem zi6_42 : zInv RX6 42 yX6_numberValue cX6_numberValue 5 (some .int) 3 := ⟨zTB_of (by decide +kernel) rfl, zTB_of (by decide +kernel) rfl, zTB_of (by decide +kernel) rfl, by decide, by decide, by decide +kernel⟩
theorem zi6_45 : zInv RX6 45 yX6_markKind cX6_markKind 1 (some .int) 1 := ⟨zTB_of (by decide +kernel) rfl, zTB_of (by decide +kernel) rfl, zTB_of (by decide +kernel) rfl, by decide, by decide, by decide +kernel⟩
theorem zi6_49 : zInv RX6 49 yX6_shortWordKind cX6_shortWordKind 2 (some .int) 2 := ⟨zTB_of (by decide +kernel) rfl, zTB_of (by decide +kernel) rfl, zTB_of (by decide +kernel) rfl, by decide, by decide, by decide +kernel⟩
theorem zi6_53 : zInv RX6 53 yX6_fourLetterKind cX6_fourLetterKind 2 (some .int) 2 := ⟨zTB_of (by decide +kernel) rfl, zTB_of (by decide +kernel) rfl, zTB_of (by decide +kernel) rfl, by decide, by decide, by decide +kernel⟩
theorem zi6_58 : zInv RX6 58 yX6_spells cX6_spells 4 (some .boolean) 3 := ⟨zTB_of (by decide +kernel) rfl, zTB_of (by decide +kernel) rfl, zTB_of (by decide +kernel) rfl, by decide, by decide, by decide +kernel⟩
theorem zi8_60 : zInv RX8 60 yX3_init cX3_init 2 none 1 := ⟨zTB_of (by decide +kernel) rfl, zTB_of (by decide +kernel) rfl, zTB_of (by decide +kernel) rfl, by decide, by decide, by decide +kernel⟩
theorem zi8_87 : zInv RX8 87 yX2_init cX2_init 2 none 1 := ⟨zTB_of (by decide +kernel) rfl, zTB_of (by decide +kernel) rfl, zTB_of (by decide +kernel) rfl, by decide, by decide, by decide +kernel⟩
theorem zi8_90 : zInv RX8 90 yX8_isClub cX8_isClub 1 (some .boolean) 1 := ⟨zTB_of (by decide +kernel) rfl, zTB_of (by decide +kernel) rfl, zTB_of (by decide +kernel) rfl, by decide, by decide, by decide +kernel⟩
theorem zi8_94 : zInv RX8 94 yX8_isWeekToCome cX8_isWeekToCome 2 (some .boolean) 1 := ⟨zTB_of (by decide +kernel) rfl, zTB_of (by decide +kernel) rfl, zTB_of (by decide +kernel) rfl, by decide, by decide, by decide +kernel⟩
theorem zi8_98 : zInv RX8 98 yX1_init cX1_init 7 none 6 := ⟨zTB_of (by decide +kernel) rfl, zTB_of (by decide +kernel) rfl, zTB_of (by decide +kernel) rfl, by decide, by decide, by decide +kernel⟩
theorem zi8_101 : zInv RX8 101 yX8_showWeek cX8_showWeek 3 none 1 := ⟨zTB_of (by decide +kernel) rfl, zTB_of (by decide +kernel) rfl, zTB_of (by decide +kernel) rfl, by decide, by decide, by decide +kernel⟩
theorem zi8_113 : zInv RX8 113 yX8_layGame cX8_layGame 3 none 1 := ⟨zTB_of (by decide +kernel) rfl, zTB_of (by decide +kernel) rfl, zTB_of (by decide +kernel) rfl, by decide, by decide, by decide +kernel⟩
theorem zi8_117 : zInv RX8 117 yX8_newGamesOf cX8_newGamesOf 4 (some .int) 1 := ⟨zTB_of (by decide +kernel) rfl, zTB_of (by decide +kernel) rfl, zTB_of (by decide +kernel) rfl, by decide, by decide, by decide +kernel⟩
theorem zi8_121 : zInv RX8 121 yX5_addBytes cX5_addBytes 6 none 1 := ⟨zTB_of (by decide +kernel) rfl, zTB_of (by decide +kernel) rfl, zTB_of (by decide +kernel) rfl, by decide, by decide, by decide +kernel⟩
theorem zi8_128 : zInv RX8 128 yX6_cut cX6_cut 6 none 1 := ⟨zTB_of (by decide +kernel) rfl, zTB_of (by decide +kernel) rfl, zTB_of (by decide +kernel) rfl, by decide, by decide, by decide +kernel⟩
theorem zi8_132 : zInv RX8 132 yX3_read cX3_read 3 (some .int) 1 := ⟨zTB_of (by decide +kernel) rfl, zTB_of (by decide +kernel) rfl, zTB_of (by decide +kernel) rfl, by decide, by decide, by decide +kernel⟩
theorem zi8_136 : zInv RX8 136 yX8_beginWeek cX8_beginWeek 2 none 0 := ⟨zTB_of (by decide +kernel) rfl, zTB_of (by decide +kernel) rfl, zTB_of (by decide +kernel) rfl, by decide, by decide, by decide +kernel⟩
theorem zi8_139 : zInv RX8 139 yX8_passHour cX8_passHour 7 none 3 := ⟨zTB_of (by decide +kernel) rfl, zTB_of (by decide +kernel) rfl, zTB_of (by decide +kernel) rfl, by decide, by decide, by decide +kernel⟩
theorem zi8_147 : zInv RX8 147 yX7_grow cX7_grow 7 none 2 := ⟨zTB_of (by decide +kernel) rfl, zTB_of (by decide +kernel) rfl, zTB_of (by decide +kernel) rfl, by decide, by decide, by decide +kernel⟩
theorem zi8_156 : zInv RX8 156 yX8_isPitch cX8_isPitch 2 (some .boolean) 1 := ⟨zTB_of (by decide +kernel) rfl, zTB_of (by decide +kernel) rfl, zTB_of (by decide +kernel) rfl, by decide, by decide, by decide +kernel⟩
theorem zi8_178 : zInv RX8 178 yX8_slotOf cX8_slotOf 3 (some .int) 3 := ⟨zTB_of (by decide +kernel) rfl, zTB_of (by decide +kernel) rfl, zTB_of (by decide +kernel) rfl, by decide, by decide, by decide +kernel⟩
theorem zi8_182 : zInv RX8 182 yX8_gameIn cX8_gameIn 4 (some .int) 2 := ⟨zTB_of (by decide +kernel) rfl, zTB_of (by decide +kernel) rfl, zTB_of (by decide +kernel) rfl, by decide, by decide, by decide +kernel⟩
theorem zi8_186 : zInv RX8 186 yX7_least cX7_least 3 (some .int) 0 := ⟨zTB_of (by decide +kernel) rfl, zTB_of (by decide +kernel) rfl, zTB_of (by decide +kernel) rfl, by decide, by decide, by decide +kernel⟩
theorem zi8_190 : zInv RX8 190 yX7_mean cX7_mean 3 (some .int) 0 := ⟨zTB_of (by decide +kernel) rfl, zTB_of (by decide +kernel) rfl, zTB_of (by decide +kernel) rfl, by decide, by decide, by decide +kernel⟩
theorem zi8_202 : zInv RX8 202 yX8_gamesThatAre cX8_gamesThatAre 4 (some .int) 1 := ⟨zTB_of (by decide +kernel) rfl, zTB_of (by decide +kernel) rfl, zTB_of (by decide +kernel) rfl, by decide, by decide, by decide +kernel⟩
theorem zi8_208 : zInv RX8 208 yX8_allHoursShut cX8_allHoursShut 3 (some .int) 0 := ⟨zTB_of (by decide +kernel) rfl, zTB_of (by decide +kernel) rfl, zTB_of (by decide +kernel) rfl, by decide, by decide, by decide +kernel⟩
theorem zi8_211 : zInv RX8 211 yX0_clear cX0_clear 2 none 0 := ⟨zTB_of (by decide +kernel) rfl, zTB_of (by decide +kernel) rfl, zTB_of (by decide +kernel) rfl, by decide, by decide, by decide +kernel⟩
theorem zi8_217 : zInv RX8 217 yX0_put cX0_put 3 none 2 := ⟨zTB_of (by decide +kernel) rfl, zTB_of (by decide +kernel) rfl, zTB_of (by decide +kernel) rfl, by decide, by decide, by decide +kernel⟩
theorem zi8_220 : zInv RX8 220 yX8_firstWish cX8_firstWish 4 (some .int) 2 := ⟨zTB_of (by decide +kernel) rfl, zTB_of (by decide +kernel) rfl, zTB_of (by decide +kernel) rfl, by decide, by decide, by decide +kernel⟩
theorem zi8_224 : zInv RX8 224 yX8_layInPlaceOfAnother cX8_layInPlaceOfAnother 4 none 1 := ⟨zTB_of (by decide +kernel) rfl, zTB_of (by decide +kernel) rfl, zTB_of (by decide +kernel) rfl, by decide, by decide, by decide +kernel⟩
theorem zi8_233 : zInv RX8 233 yX0_firstSlot cX0_firstSlot 8 (some .int) 5 := ⟨zTB_of (by decide +kernel) rfl, zTB_of (by decide +kernel) rfl, zTB_of (by decide +kernel) rfl, by decide, by decide, by decide +kernel⟩
theorem zi8_237 : zInv RX8 237 yX8_givesWay cX8_givesWay 5 (some .boolean) 2 := ⟨zTB_of (by decide +kernel) rfl, zTB_of (by decide +kernel) rfl, zTB_of (by decide +kernel) rfl, by decide, by decide, by decide +kernel⟩
theorem zi8_241 : zInv RX8 241 yX0_drop cX0_drop 3 none 2 := ⟨zTB_of (by decide +kernel) rfl, zTB_of (by decide +kernel) rfl, zTB_of (by decide +kernel) rfl, by decide, by decide, by decide +kernel⟩
theorem zi8_247 : zInv RX8 247 yX0_has cX0_has 2 (some .boolean) 1 := ⟨zTB_of (by decide +kernel) rfl, zTB_of (by decide +kernel) rfl, zTB_of (by decide +kernel) rfl, by decide, by decide, by decide +kernel⟩
theorem zi8_250 : zInv RX8 250 yX8_isShut cX8_isShut 5 (some .boolean) 3 := ⟨zTB_of (by decide +kernel) rfl, zTB_of (by decide +kernel) rfl, zTB_of (by decide +kernel) rfl, by decide, by decide, by decide +kernel⟩
theorem zi8_254 : zInv RX8 254 yX8_sendAway cX8_sendAway 4 none 2 := ⟨zTB_of (by decide +kernel) rfl, zTB_of (by decide +kernel) rfl, zTB_of (by decide +kernel) rfl, by decide, by decide, by decide +kernel⟩
theorem zi8_258 : zInv RX8 258 yX8_playGame cX8_playGame 4 none 2 := ⟨zTB_of (by decide +kernel) rfl, zTB_of (by decide +kernel) rfl, zTB_of (by decide +kernel) rfl, by decide, by decide, by decide +kernel⟩
theorem zi8_262 : zInv RX8 262 yX4_shut cX4_shut 6 (some .boolean) 2 := ⟨zTB_of (by decide +kernel) rfl, zTB_of (by decide +kernel) rfl, zTB_of (by decide +kernel) rfl, by decide, by decide, by decide +kernel⟩
theorem zi8_272 : zInv RX8 272 yX7_wear cX7_wear 7 none 2 := ⟨zTB_of (by decide +kernel) rfl, zTB_of (by decide +kernel) rfl, zTB_of (by decide +kernel) rfl, by decide, by decide, by decide +kernel⟩
theorem zi9_141 : zInv RX9 141 yX9_lay cX9_lay 5 none 1 := ⟨zTB_of (by decide +kernel) rfl, zTB_of (by decide +kernel) rfl, zTB_of (by decide +kernel) rfl, by decide, by decide, by decide +kernel⟩
theorem zi9_148 : zInv RX9 148 yX9_isLetter cX9_isLetter 1 (some .boolean) 1 := ⟨zTB_of (by decide +kernel) rfl, zTB_of (by decide +kernel) rfl, zTB_of (by decide +kernel) rfl, by decide, by decide, by decide +kernel⟩
theorem zi9_157 : zInv RX9 157 yX9_rank cX9_rank 1 (some .int) 1 := ⟨zTB_of (by decide +kernel) rfl, zTB_of (by decide +kernel) rfl, zTB_of (by decide +kernel) rfl, by decide, by decide, by decide +kernel⟩
theorem zi9_160 : zInv RX9 160 yX9_isDigit cX9_isDigit 1 (some .boolean) 1 := ⟨zTB_of (by decide +kernel) rfl, zTB_of (by decide +kernel) rfl, zTB_of (by decide +kernel) rfl, by decide, by decide, by decide +kernel⟩
theorem zi9_167 : zInv RX9 167 yX9_isSignOf cX9_isSignOf 1 (some .boolean) 1 := ⟨zTB_of (by decide +kernel) rfl, zTB_of (by decide +kernel) rfl, zTB_of (by decide +kernel) rfl, by decide, by decide, by decide +kernel⟩
theorem zi9_176 : zInv RX9 176 yX9_isSign cX9_isSign 2 (some .boolean) 1 := ⟨zTB_of (by decide +kernel) rfl, zTB_of (by decide +kernel) rfl, zTB_of (by decide +kernel) rfl, by decide, by decide, by decide +kernel⟩
theorem zi9_179 : zInv RX9 179 yX9_wrong cX9_wrong 2 none 1 := ⟨zTB_of (by decide +kernel) rfl, zTB_of (by decide +kernel) rfl, zTB_of (by decide +kernel) rfl, by decide, by decide, by decide +kernel⟩
theorem zi9_183 : zInv RX9 183 yX9_isWord cX9_isWord 2 (some .boolean) 1 := ⟨zTB_of (by decide +kernel) rfl, zTB_of (by decide +kernel) rfl, zTB_of (by decide +kernel) rfl, by decide, by decide, by decide +kernel⟩
theorem zi9_186 : zInv RX9 186 yX9_hasWord cX9_hasWord 3 (some .boolean) 1 := ⟨zTB_of (by decide +kernel) rfl, zTB_of (by decide +kernel) rfl, zTB_of (by decide +kernel) rfl, by decide, by decide, by decide +kernel⟩
theorem zi9_195 : zInv RX9 195 yX9_cutAll cX9_cutAll 7 none 0 := ⟨zTB_of (by decide +kernel) rfl, zTB_of (by decide +kernel) rfl, zTB_of (by decide +kernel) rfl, by decide, by decide, by decide +kernel⟩
theorem zi9_201 : zInv RX9 201 yX9_line cX9_line 3 none 0 := ⟨zTB_of (by decide +kernel) rfl, zTB_of (by decide +kernel) rfl, zTB_of (by decide +kernel) rfl, by decide, by decide, by decide +kernel⟩
theorem zi9_206 : zInv RX9 206 yX9_takeWord cX9_takeWord 2 none 1 := ⟨zTB_of (by decide +kernel) rfl, zTB_of (by decide +kernel) rfl, zTB_of (by decide +kernel) rfl, by decide, by decide, by decide +kernel⟩
theorem zi9_212 : zInv RX9 212 yX9_opens cX9_opens 1 none 0 := ⟨zTB_of (by decide +kernel) rfl, zTB_of (by decide +kernel) rfl, zTB_of (by decide +kernel) rfl, by decide, by decide, by decide +kernel⟩
theorem zi9_215 : zInv RX9 215 yX9_part cX9_part 2 (some .boolean) 0 := ⟨zTB_of (by decide +kernel) rfl, zTB_of (by decide +kernel) rfl, zTB_of (by decide +kernel) rfl, by decide, by decide, by decide +kernel⟩
theorem zi9_219 : zInv RX9 219 yX9_goesOnBehind cX9_goesOnBehind 1 (some .boolean) 0 := ⟨zTB_of (by decide +kernel) rfl, zTB_of (by decide +kernel) rfl, zTB_of (by decide +kernel) rfl, by decide, by decide, by decide +kernel⟩
theorem zi9_222 : zInv RX9 222 yX9_emit cX9_emit 3 none 2 := ⟨zTB_of (by decide +kernel) rfl, zTB_of (by decide +kernel) rfl, zTB_of (by decide +kernel) rfl, by decide, by decide, by decide +kernel⟩
theorem zi9_226 : zInv RX9 226 yX9_takeSign cX9_takeSign 2 none 1 := ⟨zTB_of (by decide +kernel) rfl, zTB_of (by decide +kernel) rfl, zTB_of (by decide +kernel) rfl, by decide, by decide, by decide +kernel⟩
theorem zi9_229 : zInv RX9 229 yX9_partWord cX9_partWord 2 (some .int) 0 := ⟨zTB_of (by decide +kernel) rfl, zTB_of (by decide +kernel) rfl, zTB_of (by decide +kernel) rfl, by decide, by decide, by decide +kernel⟩
theorem zi9_233 : zInv RX9 233 yX9_hasSign cX9_hasSign 3 (some .boolean) 1 := ⟨zTB_of (by decide +kernel) rfl, zTB_of (by decide +kernel) rfl, zTB_of (by decide +kernel) rfl, by decide, by decide, by decide +kernel⟩
theorem zi9_242 : zInv RX9 242 yX9_isPitch cX9_isPitch 2 (some .boolean) 1 := ⟨zTB_of (by decide +kernel) rfl, zTB_of (by decide +kernel) rfl, zTB_of (by decide +kernel) rfl, by decide, by decide, by decide +kernel⟩
theorem zi9_245 : zInv RX9 245 yX9_share cX9_share 5 (some .int) 3 := ⟨zTB_of (by decide +kernel) rfl, zTB_of (by decide +kernel) rfl, zTB_of (by decide +kernel) rfl, by decide, by decide, by decide +kernel⟩
theorem zi9_249 : zInv RX9 249 yX9_isGone cX9_isGone 2 (some .boolean) 1 := ⟨zTB_of (by decide +kernel) rfl, zTB_of (by decide +kernel) rfl, zTB_of (by decide +kernel) rfl, by decide, by decide, by decide +kernel⟩
theorem zi9_256 : zInv RX9 256 yX9_isThere cX9_isThere 2 (some .boolean) 1 := ⟨zTB_of (by decide +kernel) rfl, zTB_of (by decide +kernel) rfl, zTB_of (by decide +kernel) rfl, by decide, by decide, by decide +kernel⟩
theorem zi9_259 : zInv RX9 259 yX9_gameAt cX9_gameAt 4 (some .int) 1 := ⟨zTB_of (by decide +kernel) rfl, zTB_of (by decide +kernel) rfl, zTB_of (by decide +kernel) rfl, by decide, by decide, by decide +kernel⟩
theorem zi9_262 : zInv RX9 262 yX9_hasClub cX9_hasClub 3 (some .boolean) 2 := ⟨zTB_of (by decide +kernel) rfl, zTB_of (by decide +kernel) rfl, zTB_of (by decide +kernel) rfl, by decide, by decide, by decide +kernel⟩
theorem zi9_266 : zInv RX9 266 yX9_suits cX9_suits 5 (some .boolean) 2 := ⟨zTB_of (by decide +kernel) rfl, zTB_of (by decide +kernel) rfl, zTB_of (by decide +kernel) rfl, by decide, by decide, by decide +kernel⟩
theorem zi9_269 : zInv RX9 269 yX9_firstSlot cX9_firstSlot 11 (some .int) 4 := ⟨zTB_of (by decide +kernel) rfl, zTB_of (by decide +kernel) rfl, zTB_of (by decide +kernel) rfl, by decide, by decide, by decide +kernel⟩
theorem zi9_273 : zInv RX9 273 yX9_lays cX9_lays 3 none 2 := ⟨zTB_of (by decide +kernel) rfl, zTB_of (by decide +kernel) rfl, zTB_of (by decide +kernel) rfl, by decide, by decide, by decide +kernel⟩
theorem zi9_276 : zInv RX9 276 yX9_givesWay cX9_givesWay 6 (some .boolean) 2 := ⟨zTB_of (by decide +kernel) rfl, zTB_of (by decide +kernel) rfl, zTB_of (by decide +kernel) rfl, by decide, by decide, by decide +kernel⟩
theorem zi9_279 : zInv RX9 279 yX9_laysOne cX9_laysOne 4 (some .boolean) 1 := ⟨zTB_of (by decide +kernel) rfl, zTB_of (by decide +kernel) rfl, zTB_of (by decide +kernel) rfl, by decide, by decide, by decide +kernel⟩
theorem zi9_282 : zInv RX9 282 yX9_worth cX9_worth 7 (some .int) 1 := ⟨zTB_of (by decide +kernel) rfl, zTB_of (by decide +kernel) rfl, zTB_of (by decide +kernel) rfl, by decide, by decide, by decide +kernel⟩
theorem zi9_285 : zInv RX9 285 yX9_leastOf cX9_leastOf 4 (some .int) 2 := ⟨zTB_of (by decide +kernel) rfl, zTB_of (by decide +kernel) rfl, zTB_of (by decide +kernel) rfl, by decide, by decide, by decide +kernel⟩
theorem zi9_289 : zInv RX9 289 yX9_meanOf cX9_meanOf 4 (some .int) 2 := ⟨zTB_of (by decide +kernel) rfl, zTB_of (by decide +kernel) rfl, zTB_of (by decide +kernel) rfl, by decide, by decide, by decide +kernel⟩
theorem zi9_292 : zInv RX9 292 yX9_isShut cX9_isShut 4 (some .boolean) 1 := ⟨zTB_of (by decide +kernel) rfl, zTB_of (by decide +kernel) rfl, zTB_of (by decide +kernel) rfl, by decide, by decide, by decide +kernel⟩
theorem zi9_295 : zInv RX9 295 yX9_movesOn cX9_movesOn 3 none 1 := ⟨zTB_of (by decide +kernel) rfl, zTB_of (by decide +kernel) rfl, zTB_of (by decide +kernel) rfl, by decide, by decide, by decide +kernel⟩
theorem zi9_298 : zInv RX9 298 yX9_wears cX9_wears 9 (some .int) 5 := ⟨zTB_of (by decide +kernel) rfl, zTB_of (by decide +kernel) rfl, zTB_of (by decide +kernel) rfl, by decide, by decide, by decide +kernel⟩
theorem zi9_302 : zInv RX9 302 yX9_hour cX9_hour 6 none 4 := ⟨zTB_of (by decide +kernel) rfl, zTB_of (by decide +kernel) rfl, zTB_of (by decide +kernel) rfl, by decide, by decide, by decide +kernel⟩
theorem zi9_306 : zInv RX9 306 yX9_grows cX9_grows 7 none 3 := ⟨zTB_of (by decide +kernel) rfl, zTB_of (by decide +kernel) rfl, zTB_of (by decide +kernel) rfl, by decide, by decide, by decide +kernel⟩
theorem zi9_310 : zInv RX9 310 yX9_gamesOf cX9_gamesOf 5 (some .int) 2 := ⟨zTB_of (by decide +kernel) rfl, zTB_of (by decide +kernel) rfl, zTB_of (by decide +kernel) rfl, by decide, by decide, by decide +kernel⟩
theorem zi9_314 : zInv RX9 314 yX9_gamesThat cX9_gamesThat 4 (some .int) 1 := ⟨zTB_of (by decide +kernel) rfl, zTB_of (by decide +kernel) rfl, zTB_of (by decide +kernel) rfl, by decide, by decide, by decide +kernel⟩
theorem zv_yX0_clear : zIns yX0_clear := ⟨zTB_of (by decide +kernel) rfl, zTB_of (by decide +kernel) rfl⟩
theorem zv_yX0_drop : zIns yX0_drop := ⟨zTB_of (by decide +kernel) rfl, zTB_of (by decide +kernel) rfl⟩
theorem zv_yX0_firstSlot : zIns yX0_firstSlot := ⟨zTB_of (by decide +kernel) rfl, zTB_of (by decide +kernel) rfl⟩
theorem zv_yX0_has : zIns yX0_has := ⟨zTB_of (by decide +kernel) rfl, zTB_of (by decide +kernel) rfl⟩
theorem zs_yX0_isSlot : Cond.static yX0_isSlot ∈ zTB := zTB_of (by decide +kernel) rfl
theorem zs_yX0_lowestBit : Cond.static yX0_lowestBit ∈ zTB := zTB_of (by decide +kernel) rfl
theorem zv_yX0_put : zIns yX0_put := ⟨zTB_of (by decide +kernel) rfl, zTB_of (by decide +kernel) rfl⟩
theorem zs_yX0_slotsOfDay : Cond.static yX0_slotsOfDay ∈ zTB := zTB_of (by decide +kernel) rfl
theorem zn_yX1_init : Cond.instanceMethod yX1_init ∈ zTB := zTB_of (by decide +kernel) rfl
theorem zn_yX2_init : Cond.instanceMethod yX2_init ∈ zTB := zTB_of (by decide +kernel) rfl
theorem zn_yX3_init : Cond.instanceMethod yX3_init ∈ zTB := zTB_of (by decide +kernel) rfl
theorem zv_yX3_read : zIns yX3_read := ⟨zTB_of (by decide +kernel) rfl, zTB_of (by decide +kernel) rfl⟩
theorem zv_yX3_readAnds : zIns yX3_readAnds := ⟨zTB_of (by decide +kernel) rfl, zTB_of (by decide +kernel) rfl⟩
theorem zv_yX3_readLine : zIns yX3_readLine := ⟨zTB_of (by decide +kernel) rfl, zTB_of (by decide +kernel) rfl⟩
theorem zv_yX3_readPart : zIns yX3_readPart := ⟨zTB_of (by decide +kernel) rfl, zTB_of (by decide +kernel) rfl⟩
theorem zv_yX3_readSum : zIns yX3_readSum := ⟨zTB_of (by decide +kernel) rfl, zTB_of (by decide +kernel) rfl⟩
theorem zv_yX3_readTest : zIns yX3_readTest := ⟨zTB_of (by decide +kernel) rfl, zTB_of (by decide +kernel) rfl⟩
theorem zv_yX3_readWhich : zIns yX3_readWhich := ⟨zTB_of (by decide +kernel) rfl, zTB_of (by decide +kernel) rfl⟩
theorem zv_yX3_refuse : zIns yX3_refuse := ⟨zTB_of (by decide +kernel) rfl, zTB_of (by decide +kernel) rfl⟩
theorem zv_yX3_sees : zIns yX3_sees := ⟨zTB_of (by decide +kernel) rfl, zTB_of (by decide +kernel) rfl⟩
theorem zv_yX3_step : zIns yX3_step := ⟨zTB_of (by decide +kernel) rfl, zTB_of (by decide +kernel) rfl⟩
theorem zv_yX3_take : zIns yX3_take := ⟨zTB_of (by decide +kernel) rfl, zTB_of (by decide +kernel) rfl⟩
theorem zv_yX4_clear : zIns yX4_clear := ⟨zTB_of (by decide +kernel) rfl, zTB_of (by decide +kernel) rfl⟩
theorem zv_yX4_endLine : zIns yX4_endLine := ⟨zTB_of (by decide +kernel) rfl, zTB_of (by decide +kernel) rfl⟩
theorem zs_yX4_join : Cond.static yX4_join ∈ zTB := zTB_of (by decide +kernel) rfl
theorem zv_yX4_pop : zIns yX4_pop := ⟨zTB_of (by decide +kernel) rfl, zTB_of (by decide +kernel) rfl⟩
theorem zv_yX4_push : zIns yX4_push := ⟨zTB_of (by decide +kernel) rfl, zTB_of (by decide +kernel) rfl⟩
theorem zv_yX4_put : zIns yX4_put := ⟨zTB_of (by decide +kernel) rfl, zTB_of (by decide +kernel) rfl⟩
theorem zv_yX4_shut : zIns yX4_shut := ⟨zTB_of (by decide +kernel) rfl, zTB_of (by decide +kernel) rfl⟩
theorem zv_yX4_worth : zIns yX4_worth := ⟨zTB_of (by decide +kernel) rfl, zTB_of (by decide +kernel) rfl⟩
theorem zv_yX5_addBytes : zIns yX5_addBytes := ⟨zTB_of (by decide +kernel) rfl, zTB_of (by decide +kernel) rfl⟩
theorem zv_yX6_addToken : zIns yX6_addToken := ⟨zTB_of (by decide +kernel) rfl, zTB_of (by decide +kernel) rfl⟩
theorem zv_yX6_cut : zIns yX6_cut := ⟨zTB_of (by decide +kernel) rfl, zTB_of (by decide +kernel) rfl⟩
theorem zs_yX6_fourLetterKind : Cond.static yX6_fourLetterKind ∈ zTB := zTB_of (by decide +kernel) rfl
theorem zs_yX6_markKind : Cond.static yX6_markKind ∈ zTB := zTB_of (by decide +kernel) rfl
theorem zs_yX6_numberValue : Cond.static yX6_numberValue ∈ zTB := zTB_of (by decide +kernel) rfl
theorem zs_yX6_shortWordKind : Cond.static yX6_shortWordKind ∈ zTB := zTB_of (by decide +kernel) rfl
theorem zs_yX6_sortOf : Cond.static yX6_sortOf ∈ zTB := zTB_of (by decide +kernel) rfl
theorem zs_yX6_spells : Cond.static yX6_spells ∈ zTB := zTB_of (by decide +kernel) rfl
theorem zs_yX6_wordKind : Cond.static yX6_wordKind ∈ zTB := zTB_of (by decide +kernel) rfl
theorem zv_yX7_grow : zIns yX7_grow := ⟨zTB_of (by decide +kernel) rfl, zTB_of (by decide +kernel) rfl⟩
theorem zn_yX7_init : Cond.instanceMethod yX7_init ∈ zTB := zTB_of (by decide +kernel) rfl
theorem zv_yX7_least : zIns yX7_least := ⟨zTB_of (by decide +kernel) rfl, zTB_of (by decide +kernel) rfl⟩
theorem zv_yX7_mean : zIns yX7_mean := ⟨zTB_of (by decide +kernel) rfl, zTB_of (by decide +kernel) rfl⟩
theorem zv_yX7_wear : zIns yX7_wear := ⟨zTB_of (by decide +kernel) rfl, zTB_of (by decide +kernel) rfl⟩
theorem zv_yX8_allHoursShut : zIns yX8_allHoursShut := ⟨zTB_of (by decide +kernel) rfl, zTB_of (by decide +kernel) rfl⟩
theorem zv_yX8_at : zIns yX8_at := ⟨zTB_of (by decide +kernel) rfl, zTB_of (by decide +kernel) rfl⟩
theorem zv_yX8_beginWeek : zIns yX8_beginWeek := ⟨zTB_of (by decide +kernel) rfl, zTB_of (by decide +kernel) rfl⟩
theorem zv_yX8_club : zIns yX8_club := ⟨zTB_of (by decide +kernel) rfl, zTB_of (by decide +kernel) rfl⟩
theorem zv_yX8_count : zIns yX8_count := ⟨zTB_of (by decide +kernel) rfl, zTB_of (by decide +kernel) rfl⟩
theorem zv_yX8_day : zIns yX8_day := ⟨zTB_of (by decide +kernel) rfl, zTB_of (by decide +kernel) rfl⟩
theorem zv_yX8_feed : zIns yX8_feed := ⟨zTB_of (by decide +kernel) rfl, zTB_of (by decide +kernel) rfl⟩
theorem zv_yX8_field : zIns yX8_field := ⟨zTB_of (by decide +kernel) rfl, zTB_of (by decide +kernel) rfl⟩
theorem zv_yX8_firstWish : zIns yX8_firstWish := ⟨zTB_of (by decide +kernel) rfl, zTB_of (by decide +kernel) rfl⟩
theorem zv_yX8_game : zIns yX8_game := ⟨zTB_of (by decide +kernel) rfl, zTB_of (by decide +kernel) rfl⟩
theorem zv_yX8_gameIn : zIns yX8_gameIn := ⟨zTB_of (by decide +kernel) rfl, zTB_of (by decide +kernel) rfl⟩
theorem zv_yX8_gamesThatAre : zIns yX8_gamesThatAre := ⟨zTB_of (by decide +kernel) rfl, zTB_of (by decide +kernel) rfl⟩
theorem zv_yX8_givesWay : zIns yX8_givesWay := ⟨zTB_of (by decide +kernel) rfl, zTB_of (by decide +kernel) rfl⟩
theorem zv_yX8_grass : zIns yX8_grass := ⟨zTB_of (by decide +kernel) rfl, zTB_of (by decide +kernel) rfl⟩
theorem zn_yX8_init : Cond.instanceMethod yX8_init ∈ zTB := zTB_of (by decide +kernel) rfl
theorem zs_yX8_isClub : Cond.static yX8_isClub ∈ zTB := zTB_of (by decide +kernel) rfl
theorem zv_yX8_isPitch : zIns yX8_isPitch := ⟨zTB_of (by decide +kernel) rfl, zTB_of (by decide +kernel) rfl⟩
theorem zv_yX8_isShut : zIns yX8_isShut := ⟨zTB_of (by decide +kernel) rfl, zTB_of (by decide +kernel) rfl⟩
theorem zv_yX8_isWeekToCome : zIns yX8_isWeekToCome := ⟨zTB_of (by decide +kernel) rfl, zTB_of (by decide +kernel) rfl⟩
theorem zv_yX8_lay : zIns yX8_lay := ⟨zTB_of (by decide +kernel) rfl, zTB_of (by decide +kernel) rfl⟩
theorem zv_yX8_layGame : zIns yX8_layGame := ⟨zTB_of (by decide +kernel) rfl, zTB_of (by decide +kernel) rfl⟩
theorem zv_yX8_layInPlaceOfAnother : zIns yX8_layInPlaceOfAnother := ⟨zTB_of (by decide +kernel) rfl, zTB_of (by decide +kernel) rfl⟩
theorem zv_yX8_look : zIns yX8_look := ⟨zTB_of (by decide +kernel) rfl, zTB_of (by decide +kernel) rfl⟩
theorem zv_yX8_newGamesOf : zIns yX8_newGamesOf := ⟨zTB_of (by decide +kernel) rfl, zTB_of (by decide +kernel) rfl⟩
theorem zv_yX8_passHour : zIns yX8_passHour := ⟨zTB_of (by decide +kernel) rfl, zTB_of (by decide +kernel) rfl⟩
theorem zv_yX8_pitch : zIns yX8_pitch := ⟨zTB_of (by decide +kernel) rfl, zTB_of (by decide +kernel) rfl⟩
theorem zv_yX8_playGame : zIns yX8_playGame := ⟨zTB_of (by decide +kernel) rfl, zTB_of (by decide +kernel) rfl⟩
theorem zv_yX8_sendAway : zIns yX8_sendAway := ⟨zTB_of (by decide +kernel) rfl, zTB_of (by decide +kernel) rfl⟩
theorem zv_yX8_showWeek : zIns yX8_showWeek := ⟨zTB_of (by decide +kernel) rfl, zTB_of (by decide +kernel) rfl⟩
theorem zs_yX8_slotOf : Cond.static yX8_slotOf ∈ zTB := zTB_of (by decide +kernel) rfl
theorem zv_yX8_text : zIns yX8_text := ⟨zTB_of (by decide +kernel) rfl, zTB_of (by decide +kernel) rfl⟩
theorem zv_yX8_turn : zIns yX8_turn := ⟨zTB_of (by decide +kernel) rfl, zTB_of (by decide +kernel) rfl⟩
theorem zv_yX8_would : zIns yX8_would := ⟨zTB_of (by decide +kernel) rfl, zTB_of (by decide +kernel) rfl⟩
theorem zv_yX9_at : zIns yX9_at := ⟨zTB_of (by decide +kernel) rfl, zTB_of (by decide +kernel) rfl⟩
theorem zv_yX9_club : zIns yX9_club := ⟨zTB_of (by decide +kernel) rfl, zTB_of (by decide +kernel) rfl⟩
theorem zv_yX9_count : zIns yX9_count := ⟨zTB_of (by decide +kernel) rfl, zTB_of (by decide +kernel) rfl⟩
theorem zv_yX9_cutAll : zIns yX9_cutAll := ⟨zTB_of (by decide +kernel) rfl, zTB_of (by decide +kernel) rfl⟩
theorem zv_yX9_day : zIns yX9_day := ⟨zTB_of (by decide +kernel) rfl, zTB_of (by decide +kernel) rfl⟩
theorem zv_yX9_emit : zIns yX9_emit := ⟨zTB_of (by decide +kernel) rfl, zTB_of (by decide +kernel) rfl⟩
theorem zv_yX9_feed : zIns yX9_feed := ⟨zTB_of (by decide +kernel) rfl, zTB_of (by decide +kernel) rfl⟩
theorem zv_yX9_field : zIns yX9_field := ⟨zTB_of (by decide +kernel) rfl, zTB_of (by decide +kernel) rfl⟩
theorem zv_yX9_firstSlot : zIns yX9_firstSlot := ⟨zTB_of (by decide +kernel) rfl, zTB_of (by decide +kernel) rfl⟩
theorem zv_yX9_game : zIns yX9_game := ⟨zTB_of (by decide +kernel) rfl, zTB_of (by decide +kernel) rfl⟩
theorem zv_yX9_gameAt : zIns yX9_gameAt := ⟨zTB_of (by decide +kernel) rfl, zTB_of (by decide +kernel) rfl⟩
theorem zv_yX9_gamesOf : zIns yX9_gamesOf := ⟨zTB_of (by decide +kernel) rfl, zTB_of (by decide +kernel) rfl⟩
theorem zv_yX9_gamesThat : zIns yX9_gamesThat := ⟨zTB_of (by decide +kernel) rfl, zTB_of (by decide +kernel) rfl⟩
theorem zv_yX9_givesWay : zIns yX9_givesWay := ⟨zTB_of (by decide +kernel) rfl, zTB_of (by decide +kernel) rfl⟩
theorem zv_yX9_goesOnBehind : zIns yX9_goesOnBehind := ⟨zTB_of (by decide +kernel) rfl, zTB_of (by decide +kernel) rfl⟩
theorem zv_yX9_grass : zIns yX9_grass := ⟨zTB_of (by decide +kernel) rfl, zTB_of (by decide +kernel) rfl⟩
theorem zv_yX9_grows : zIns yX9_grows := ⟨zTB_of (by decide +kernel) rfl, zTB_of (by decide +kernel) rfl⟩
theorem zv_yX9_hasClub : zIns yX9_hasClub := ⟨zTB_of (by decide +kernel) rfl, zTB_of (by decide +kernel) rfl⟩
theorem zv_yX9_hasSign : zIns yX9_hasSign := ⟨zTB_of (by decide +kernel) rfl, zTB_of (by decide +kernel) rfl⟩
theorem zv_yX9_hasWord : zIns yX9_hasWord := ⟨zTB_of (by decide +kernel) rfl, zTB_of (by decide +kernel) rfl⟩
theorem zv_yX9_hour : zIns yX9_hour := ⟨zTB_of (by decide +kernel) rfl, zTB_of (by decide +kernel) rfl⟩
theorem zn_yX9_init : Cond.instanceMethod yX9_init ∈ zTB := zTB_of (by decide +kernel) rfl
theorem zs_yX9_isDigit : Cond.static yX9_isDigit ∈ zTB := zTB_of (by decide +kernel) rfl
theorem zv_yX9_isGone : zIns yX9_isGone := ⟨zTB_of (by decide +kernel) rfl, zTB_of (by decide +kernel) rfl⟩
theorem zs_yX9_isLetter : Cond.static yX9_isLetter ∈ zTB := zTB_of (by decide +kernel) rfl
theorem zv_yX9_isPitch : zIns yX9_isPitch := ⟨zTB_of (by decide +kernel) rfl, zTB_of (by decide +kernel) rfl⟩
theorem zv_yX9_isShut : zIns yX9_isShut := ⟨zTB_of (by decide +kernel) rfl, zTB_of (by decide +kernel) rfl⟩
theorem zv_yX9_isSign : zIns yX9_isSign := ⟨zTB_of (by decide +kernel) rfl, zTB_of (by decide +kernel) rfl⟩
theorem zs_yX9_isSignOf : Cond.static yX9_isSignOf ∈ zTB := zTB_of (by decide +kernel) rfl
theorem zv_yX9_isThere : zIns yX9_isThere := ⟨zTB_of (by decide +kernel) rfl, zTB_of (by decide +kernel) rfl⟩
theorem zv_yX9_isWord : zIns yX9_isWord := ⟨zTB_of (by decide +kernel) rfl, zTB_of (by decide +kernel) rfl⟩
theorem zv_yX9_lay : zIns yX9_lay := ⟨zTB_of (by decide +kernel) rfl, zTB_of (by decide +kernel) rfl⟩
theorem zv_yX9_lay_ : zIns yX9_lay_ := ⟨zTB_of (by decide +kernel) rfl, zTB_of (by decide +kernel) rfl⟩
theorem zv_yX9_lays : zIns yX9_lays := ⟨zTB_of (by decide +kernel) rfl, zTB_of (by decide +kernel) rfl⟩
theorem zv_yX9_laysOne : zIns yX9_laysOne := ⟨zTB_of (by decide +kernel) rfl, zTB_of (by decide +kernel) rfl⟩
theorem zs_yX9_leastOf : Cond.static yX9_leastOf ∈ zTB := zTB_of (by decide +kernel) rfl
theorem zv_yX9_line : zIns yX9_line := ⟨zTB_of (by decide +kernel) rfl, zTB_of (by decide +kernel) rfl⟩
theorem zv_yX9_look : zIns yX9_look := ⟨zTB_of (by decide +kernel) rfl, zTB_of (by decide +kernel) rfl⟩
theorem zs_yX9_meanOf : Cond.static yX9_meanOf ∈ zTB := zTB_of (by decide +kernel) rfl
theorem zv_yX9_movesOn : zIns yX9_movesOn := ⟨zTB_of (by decide +kernel) rfl, zTB_of (by decide +kernel) rfl⟩
theorem zv_yX9_opens : zIns yX9_opens := ⟨zTB_of (by decide +kernel) rfl, zTB_of (by decide +kernel) rfl⟩
theorem zv_yX9_part : zIns yX9_part := ⟨zTB_of (by decide +kernel) rfl, zTB_of (by decide +kernel) rfl⟩
theorem zv_yX9_partWord : zIns yX9_partWord := ⟨zTB_of (by decide +kernel) rfl, zTB_of (by decide +kernel) rfl⟩
theorem zv_yX9_pitch : zIns yX9_pitch := ⟨zTB_of (by decide +kernel) rfl, zTB_of (by decide +kernel) rfl⟩
theorem zs_yX9_rank : Cond.static yX9_rank ∈ zTB := zTB_of (by decide +kernel) rfl
theorem zs_yX9_share : Cond.static yX9_share ∈ zTB := zTB_of (by decide +kernel) rfl
theorem zv_yX9_suits : zIns yX9_suits := ⟨zTB_of (by decide +kernel) rfl, zTB_of (by decide +kernel) rfl⟩
theorem zv_yX9_takeSign : zIns yX9_takeSign := ⟨zTB_of (by decide +kernel) rfl, zTB_of (by decide +kernel) rfl⟩
theorem zv_yX9_takeWord : zIns yX9_takeWord := ⟨zTB_of (by decide +kernel) rfl, zTB_of (by decide +kernel) rfl⟩
theorem zv_yX9_text : zIns yX9_text := ⟨zTB_of (by decide +kernel) rfl, zTB_of (by decide +kernel) rfl⟩
theorem zv_yX9_thrown : zIns yX9_thrown := ⟨zTB_of (by decide +kernel) rfl, zTB_of (by decide +kernel) rfl⟩
theorem zv_yX9_turn : zIns yX9_turn := ⟨zTB_of (by decide +kernel) rfl, zTB_of (by decide +kernel) rfl⟩
theorem zs_yX9_wears : Cond.static yX9_wears ∈ zTB := zTB_of (by decide +kernel) rfl
theorem zv_yX9_worth : zIns yX9_worth := ⟨zTB_of (by decide +kernel) rfl, zTB_of (by decide +kernel) rfl⟩
theorem zv_yX9_would : zIns yX9_would := ⟨zTB_of (by decide +kernel) rfl, zTB_of (by decide +kernel) rfl⟩
theorem zv_yX9_wrong : zIns yX9_wrong := ⟨zTB_of (by decide +kernel) rfl, zTB_of (by decide +kernel) rfl⟩
end
section
theorem zFd.g {own : String} {index ci k : Nat} {b fin : Bool} (h : zFd own index ci k b fin) : zFg2 own index ci k b := by
  obtain ⟨C, T, N, ty, h1, h2, h3, h4, -⟩ := h
  exact ⟨C, T, N, ty, h1, h2, h3, h4⟩
section ZB1
variable {X : ZX} {mc ms pc : Nat} {ls : Nat → Option Value} {st : List Value} {Q : Option Value → ZH → Prop} {n : Nat} {K : Nat → Nat × Nat} {I : Nat → Nat → Int32} {L : Nat → Nat → Int64} {R : Nat → Nat → Option Nat}
theorem z_gI {index ci k a z : Nat} (hf : zFg2 X.1 index ci k false) (hd : decode X.2.1 pc = .ok (.getfield index, 3)) (ha : a < n) (hk : K a = (ci + 5, z)) (kk : Zf X mc ms (pc + 3) ls (.int (I a k) :: st) (n, K, I, L, R) Q) : Zf X mc ms pc ls (.ref a :: st) (n, K, I, L, R) Q := by
  intro p l e Rm s m args below meth c H locs cells slots D tc g A MC MS lsA C
  obtain ⟨cC, T, N, ty, ⟨hc, hin, hty, hnm, hlen⟩, hkN, hb, hlink⟩ := hf
  have he : (zW tc g (n, K, I, L, R))[a]? = some (g.1 a, .inr (ci, zFg g (I a) (R a) 0 (zT ci))) := by rw [zW_at ha, zE_o hk]
  have hv := zFg_i g (I a) (R a) (zT ci) 0 k hb
  rw [Nat.zero_add] at hv
  exact va_get (C := cC) (T := T) (N := N) C.1.1 C.1.2.1 C.1.2.2.2.2.2.1 hin C.1.2.2.2.2.1 C.2.2.1.1 C.2.2.2.1.1.1 a he hc k hkN (C.1.2.2.2.2.2.1 _ hlink) (fun _ h => h) hv hd (kk p l e Rm s m args below meth c H locs cells slots D tc g A MC MS lsA C)
theorem z_gR {index ci k a b z : Nat} (hf : zFg2 X.1 index ci k true) (hd : decode X.2.1 pc = .ok (.getfield index, 3)) (ha : a < n) (hk : K a = (ci + 5, z)) (hr : R a k = some b) (kk : Zf X mc ms (pc + 3) ls (.ref b :: st) (n, K, I, L, R) Q) : Zf X mc ms pc ls (.ref a :: st) (n, K, I, L, R) Q := by
  intro p l e Rm s m args below meth c H locs cells slots D tc g A MC MS lsA C
  obtain ⟨cC, T, N, ty, ⟨hc, hin, hty, hnm, hlen⟩, hkN, hb, hlink⟩ := hf
  have he : (zW tc g (n, K, I, L, R))[a]? = some (g.1 a, .inr (ci, zFg g (I a) (R a) 0 (zT ci))) := by rw [zW_at ha, zE_o hk]
  have hv := zFg_r g (I a) (R a) (zT ci) 0 k hb
  rw [Nat.zero_add, hr] at hv
  exact va_get (C := cC) (T := T) (N := N) C.1.1 C.1.2.1 C.1.2.2.2.2.2.1 hin C.1.2.2.2.2.1 C.2.2.1.1 C.2.2.2.1.1.1 a he hc k hkN (C.1.2.2.2.2.2.1 _ hlink) (fun _ h => h) hv hd (kk p l e Rm s m args below meth c H locs cells slots D tc g A MC MS lsA C)
end ZB1
/-! the reference's zone: its object at 0, its rows at 1 to 34 -/
def mKl : List (Nat × Nat) := [(14, 0), (0, 600), (0, 602), (0, 602), (1, 602), (1, 12), (0, 2), (0, 32), (0, 32), (0, 1320), (0, 1320), (0, 7), (0, 7), (0, 7), (0, 8), (0, 660), (0, 6), (0, 6), (0, 144), (0, 144), (0, 6), (0, 6), (0, 6), (0, 6), (0, 6), (0, 60), (0, 60), (0, 60), (0, 60), (0, 60), (0, 60), (0, 60), (0, 60), (0, 60), (0, 16)]
def mRl : List (Option Nat) := [none, some 1, none, none, some 2, some 3, some 4, none, none, some 5, some 6, some 7, some 8, some 9, some 10, none, none, none, none, some 11, some 12, some 13, some 14, some 15, none, some 16, some 17, some 18, some 19, some 20, some 21, some 22, some 23, some 24, none, none, some 25, some 26, some 27, some 28, some 29, some 30, some 31, some 32, some 33, some 34]
def mK : Nat → Nat × Nat := fun a => mKl.getD a (0, 0)
def mR : Nat → Nat → Option Nat := fun a k => if a = 0 then mRl.getD k none else none
abbrev mh (I : Nat → Nat → Int32) (L : Nat → Nat → Int64) : ZH := (35, mK, I, L, mR)
/-- what a method of the reference does: its answer, its ints, its longs -/
abbrev mQ (r : Option Value) (I : Nat → Nat → Int32) (L : Nat → Nat → Int64) : Option Value → ZH → Prop := fun r2 h2 => r2 = r ∧ h2 = mh I L
end
section
theorem zl0 : (0 : Int32) = nI 0 := rfl
theorem zl1 : (1 : Int32) = nI 1 := rfl
theorem zl2 : (2 : Int32) = nI 2 := rfl
theorem zl3 : (3 : Int32) = nI 3 := rfl
theorem zl4 : (4 : Int32) = nI 4 := rfl
theorem zl5 : (5 : Int32) = nI 5 := rfl
theorem zl6 : (6 : Int32) = nI 6 := rfl
theorem zl7 : (7 : Int32) = nI 7 := rfl
theorem zl8 : (8 : Int32) = nI 8 := rfl
theorem zl9 : (9 : Int32) = nI 9 := rfl
theorem zl10 : (10 : Int32) = nI 10 := rfl
theorem zl15 : (15 : Int32) = nI 15 := rfl
theorem zl16 : (16 : Int32) = nI 16 := rfl
theorem zl20 : (20 : Int32) = nI 20 := rfl
theorem zl21 : (21 : Int32) = nI 21 := rfl
theorem zl24 : (24 : Int32) = nI 24 := rfl
theorem zl26 : (26 : Int32) = nI 26 := rfl
theorem zl28 : (28 : Int32) = nI 28 := rfl
theorem zl31 : (31 : Int32) = nI 31 := rfl
theorem zl32 : (32 : Int32) = nI 32 := rfl
theorem zl37 : (37 : Int32) = nI 37 := rfl
theorem zl48 : (48 : Int32) = nI 48 := rfl
theorem zl50 : (50 : Int32) = nI 50 := rfl
theorem zl56 : (56 : Int32) = nI 56 := rfl
theorem zl60 : (60 : Int32) = nI 60 := rfl
theorem zl97 : (97 : Int32) = nI 97 := rfl
theorem zl96 : (96 : Int32) = nI 96 := rfl
theorem zl122 : (122 : Int32) = nI 122 := rfl
theorem zl126 : (126 : Int32) = nI 126 := rfl
theorem zl255 : (255 : Int32) = nI 255 := rfl
theorem zl356 : (356 : Int32) = nI 356 := rfl
theorem zl357 : (357 : Int32) = nI 357 := rfl
theorem zl600 : (600 : Int32) = nI 600 := rfl
theorem zl602 : (602 : Int32) = nI 602 := rfl
theorem zl660 : (660 : Int32) = nI 660 := rfl
theorem zl800 : (800 : Int32) = nI 800 := rfl
theorem zl1000 : (1000 : Int32) = nI 1000 := rfl
theorem zl2000 : (2000 : Int32) = nI 2000 := rfl
theorem zinc (a : Nat) : nI a + Int32.ofInt 1 = nI (a + 1) := by rw [show Int32.ofInt 1 = (1 : Int32) by decide]; exact nI_1 a
theorem zclamp {n : Nat} (h : n < 2 ^ 31) : (nI n).toNatClampNeg = n := nI_clamp h
abbrev x9_thrown : ZX := (RX9, cX9_thrown, 1, (some .int), "thrown", 0, 0, false)
set_option maxHeartbeats 4000000 in
theorem c9_thrown (I : Nat → Nat → Int32) (L : Nat → Nat → Int64) : Zm yX9_thrown cX9_thrown 1 (some .int) 0 0 0 0 [.ref 0] (mh I L) (mQ (some (.int (I 0 0))) I L) := by
  refine Zm_of (lg := false) (by decide) (fun _ => by simp [Value.category]) (fun _ => Nat.le_of_ble_eq_true rfl) ?_
  show Zf x9_thrown 0 0 0 (zargs [.ref 0]) [] (mh I L) _
  refine z_aload_n dX9_thrown_0 rfl rfl ?_
  refine z_gI zf9_137.g dX9_thrown_1 (by decide) rfl ?_
  refine z_iret dX9_thrown_4 rfl ?_
  exact ⟨rfl, rfl⟩
abbrev x9_isPitch : ZX := (RX9, cX9_isPitch, 2, (some .boolean), "isPitch", 0, 0, false)
set_option maxHeartbeats 4000000 in
theorem c9_isPitch (I : Nat → Nat → Int32) (L : Nat → Nat → Int64) (p : Int32) : Zm yX9_isPitch cX9_isPitch 2 (some .boolean) 0 0 0 0 [.ref 0, .int p] (mh I L) (mQ (some (.int (if p < 0 then 0 else if I 0 24 ≤ p then 0 else 1))) I L) := by
  refine Zm_of (lg := false) (by decide) (fun _ => by simp [Value.category]) (fun _ => Nat.le_of_ble_eq_true rfl) ?_
  show Zf x9_isPitch 0 0 0 (zargs [.ref 0, .int p]) [] (mh I L) _
  refine z_iload_n dX9_isPitch_0 rfl rfl ?_
  refine z_if_lt 16 dX9_isPitch_1 (by decide) (fun c_1 => ?_) (fun c_1 => ?_)
  · skip
    refine z_iconst (v := 0) dX9_isPitch_16 (by decide) ?_
    refine z_zret dX9_isPitch_17 rfl (by decide) ?_
    exact ⟨by simp [*], by simp [*]⟩
  · skip
    refine z_iload_n dX9_isPitch_4 rfl rfl ?_
    refine z_aload_n dX9_isPitch_5 rfl rfl ?_
    refine z_gI zf9_236.g dX9_isPitch_6 (by decide) rfl ?_
    refine z_icmp_ge 16 dX9_isPitch_9 (by decide) (fun c_2 => ?_) (fun c_2 => ?_)
    · skip
      refine z_iconst (v := 0) dX9_isPitch_16 (by decide) ?_
      refine z_zret dX9_isPitch_17 rfl (by decide) ?_
      exact ⟨by simp [*], by simp [*]⟩
    · skip
      refine z_iconst (v := 1) dX9_isPitch_12 (by decide) ?_
      refine z_goto 17 dX9_isPitch_13 (by decide) ?_
      refine z_zret dX9_isPitch_17 rfl (by decide) ?_
      exact ⟨by simp [*], by simp [*]⟩
abbrev x9_isLetter : ZX := (RX9, cX9_isLetter, 1, (some .boolean), "isLetter", 0, 0, false)
set_option maxHeartbeats 4000000 in
theorem c9_isLetter (I : Nat → Nat → Int32) (L : Nat → Nat → Int64) (c : Int32) : Zm yX9_isLetter cX9_isLetter 1 (some .boolean) 0 0 0 0 [.int c] (mh I L) (mQ (some (.int (if c < 97 then 0 else if 122 < c then 0 else 1))) I L) := by
  refine Zm_of (lg := false) (by decide) (fun _ => by simp [Value.category]) (fun _ => Nat.le_of_ble_eq_true rfl) ?_
  show Zf x9_isLetter 0 0 0 (zargs [.int c]) [] (mh I L) _
  refine z_iload_n dX9_isLetter_0 rfl rfl ?_
  refine z_bipush (v := 97) dX9_isLetter_1 (by decide) ?_
  refine z_icmp_lt 16 dX9_isLetter_3 (by decide) (fun c_1 => ?_) (fun c_1 => ?_)
  · skip
    refine z_iconst (v := 0) dX9_isLetter_16 (by decide) ?_
    refine z_zret dX9_isLetter_17 rfl (by decide) ?_
    exact ⟨by simp [*], by simp [*]⟩
  · skip
    refine z_iload_n dX9_isLetter_6 rfl rfl ?_
    refine z_bipush (v := 122) dX9_isLetter_7 (by decide) ?_
    refine z_icmp_gt 16 dX9_isLetter_9 (by decide) (fun c_2 => ?_) (fun c_2 => ?_)
    · skip
      refine z_iconst (v := 0) dX9_isLetter_16 (by decide) ?_
      refine z_zret dX9_isLetter_17 rfl (by decide) ?_
      exact ⟨by simp [*], by simp [*]⟩
    · skip
      refine z_iconst (v := 1) dX9_isLetter_12 (by decide) ?_
      refine z_goto 17 dX9_isLetter_13 (by decide) ?_
      refine z_zret dX9_isLetter_17 rfl (by decide) ?_
      exact ⟨by simp [*], by simp [*]⟩
abbrev x9_isDigit : ZX := (RX9, cX9_isDigit, 1, (some .boolean), "isDigit", 0, 0, false)
set_option maxHeartbeats 4000000 in
theorem c9_isDigit (I : Nat → Nat → Int32) (L : Nat → Nat → Int64) (c : Int32) : Zm yX9_isDigit cX9_isDigit 1 (some .boolean) 0 0 0 0 [.int c] (mh I L) (mQ (some (.int (if c < 48 then 0 else if 57 < c then 0 else 1))) I L) := by
  refine Zm_of (lg := false) (by decide) (fun _ => by simp [Value.category]) (fun _ => Nat.le_of_ble_eq_true rfl) ?_
  show Zf x9_isDigit 0 0 0 (zargs [.int c]) [] (mh I L) _
  refine z_iload_n dX9_isDigit_0 rfl rfl ?_
  refine z_bipush (v := 48) dX9_isDigit_1 (by decide) ?_
  refine z_icmp_lt 16 dX9_isDigit_3 (by decide) (fun c_1 => ?_) (fun c_1 => ?_)
  · skip
    refine z_iconst (v := 0) dX9_isDigit_16 (by decide) ?_
    refine z_zret dX9_isDigit_17 rfl (by decide) ?_
    exact ⟨by simp [*], by simp [*]⟩
  · skip
    refine z_iload_n dX9_isDigit_6 rfl rfl ?_
    refine z_bipush (v := 57) dX9_isDigit_7 (by decide) ?_
    refine z_icmp_gt 16 dX9_isDigit_9 (by decide) (fun c_2 => ?_) (fun c_2 => ?_)
    · skip
      refine z_iconst (v := 0) dX9_isDigit_16 (by decide) ?_
      refine z_zret dX9_isDigit_17 rfl (by decide) ?_
      exact ⟨by simp [*], by simp [*]⟩
    · skip
      refine z_iconst (v := 1) dX9_isDigit_12 (by decide) ?_
      refine z_goto 17 dX9_isDigit_13 (by decide) ?_
      refine z_zret dX9_isDigit_17 rfl (by decide) ?_
      exact ⟨by simp [*], by simp [*]⟩
abbrev x9_wrong : ZX := (RX9, cX9_wrong, 2, none, "wrong", 0, 0, false)
set_option maxHeartbeats 4000000 in
theorem c9_wrong (I : Nat → Nat → Int32) (L : Nat → Nat → Int64) (w : Int32) (h7 : vp_in (I 0 7) 602) : Zm yX9_wrong cX9_wrong 2 none 0 0 0 0 [.ref 0, .int w] (mh I L) (mQ none (if I 0 8 = 0 then zu I 0 8 (w + 16 * I 3 (I 0 7).toNatClampNeg) else I) L) := by
  refine Zm_of (lg := false) (by decide) (fun _ => by simp [Value.category]) (fun _ => Nat.le_of_ble_eq_true rfl) ?_
  show Zf x9_wrong 0 0 0 (zargs [.ref 0, .int w]) [] (mh I L) _
  refine z_aload_n dX9_wrong_0 rfl rfl ?_
  refine z_gI zf9_173.g dX9_wrong_1 (by decide) rfl ?_
  refine z_if_ne 25 dX9_wrong_4 (by decide) (fun c_1 => ?_) (fun c_1 => ?_)
  · skip
    refine z_vret dX9_wrong_25 rfl ?_
    exact ⟨by simp [*], by simp [*]⟩
  · skip
    refine z_aload_n dX9_wrong_7 rfl rfl ?_
    refine z_iload_n dX9_wrong_8 rfl rfl ?_
    refine z_bipush (v := 16) dX9_wrong_9 (by decide) ?_
    refine z_aload_n dX9_wrong_11 rfl rfl ?_
    refine z_gR zf9_16.g dX9_wrong_12 (by decide) rfl rfl ?_
    refine z_aload_n dX9_wrong_15 rfl rfl ?_
    refine z_gI zf9_170.g dX9_wrong_16 (by decide) rfl ?_
    refine z_iald dX9_wrong_19 (by decide) rfl (by assumption) ?_
    refine z_imul dX9_wrong_20 ?_
    refine z_iadd dX9_wrong_21 ?_
    refine z_putI zf9_173 dX9_wrong_22 (fun h => by cases h) (by decide) rfl ?_
    refine z_vret dX9_wrong_25 rfl ?_
    exact ⟨by simp [*], by simp [*]⟩
def mleast (f : Nat → Int32) : Nat → Int32
  | 0 => 1000
  | k + 1 => if f k < mleast f k then f k else mleast f k
def msum (f : Nat → Int32) : Nat → Int32
  | 0 => 0
  | k + 1 => msum f k + f k
abbrev x9_leastOf : ZX := (RX9, cX9_leastOf, 4, (some .int), "leastOf", 0, 0, false)
set_option maxHeartbeats 4000000 in
theorem l9_leastOf {I : Nat → Nat → Int32} {L : Nat → Nat → Int64} {Q : Option Value → ZH → Prop} {A p : Nat} (hA : A < 35) (hKA : mK A = (0, 144)) (hp : p < 6) (hQ : Q (some (.int (mleast (fun k => I A (24 * p + k)) 24))) (mh I L)) : ∀ (m j : Nat), 24 - j < m → j ≤ 24 → ∀ ls : Nat → Option Value, ls 0 = some (.ref A) → ls 1 = some (.int (nI p)) → ls 2 = some (.int (mleast (fun k => I A (24 * p + k)) j)) → ls 3 = some (.int (nI (24 * p + j))) → Zf x9_leastOf 0 0 9 ls [] (mh I L) Q := by
  intro m
  induction m with
  | zero => intro j h; omega
  | succ m ih =>
  intro j hm hj ls hl0 hl1 hl2 hl3
  refine z_iload_n dX9_leastOf_9 rfl hl3 ?_
  refine z_bipush (v := 24) dX9_leastOf_10 (by decide) ?_
  refine z_iload_n dX9_leastOf_12 rfl hl1 ?_
  refine z_imul dX9_leastOf_13 ?_
  refine z_bipush (v := 24) dX9_leastOf_14 (by decide) ?_
  refine z_iadd dX9_leastOf_16 ?_
  simp only [zl24, pk_mul, nI_add]
  refine z_icmp_ge 41 dX9_leastOf_17 (by decide) (fun c_1 => ?_) (fun c_1 => ?_)
  · skip
    have h1 := (nI_leI (by omega) (by omega)).mp c_1
    have h2 : j = 24 := by omega
    subst h2
    refine z_iload_n dX9_leastOf_41 rfl hl2 ?_
    refine z_iret dX9_leastOf_42 rfl ?_
    exact hQ
  · skip
    have h1 : ¬ 24 * p + 24 ≤ 24 * p + j := fun q => c_1 ((nI_leI (by omega) (by omega)).mpr q)
    refine z_aload_n dX9_leastOf_20 rfl hl0 ?_
    refine z_iload_n dX9_leastOf_21 rfl hl3 ?_
    refine z_iald dX9_leastOf_22 hA hKA (vp_in_nI (by omega) (by omega)) ?_
    refine z_iload_n dX9_leastOf_23 rfl hl2 ?_
    rw [zclamp (show 24 * p + j < 2 ^ 31 by omega)]
    refine z_icmp_ge 33 dX9_leastOf_24 (by decide) (fun c_2 => ?_) (fun c_2 => ?_)
    · skip
      refine z_iload_n dX9_leastOf_33 rfl hl2 ?_
      refine z_istore_n dX9_leastOf_34 rfl (by decide) rfl ?_
      refine z_iinc dX9_leastOf_35 hl3 rfl ?_
      refine z_goto 9 dX9_leastOf_38 (by decide) ?_
      rw [zinc]
      refine ih (j + 1) (by omega) (by omega) _ hl0 hl1 ?_ rfl
      show some (Value.int _) = some (Value.int (if _ then _ else _))
      first | rw [if_pos (Int32.not_le.mp c_2)] | rw [if_neg (Int32.not_lt.mpr c_2)]
    · skip
      refine z_aload_n dX9_leastOf_27 rfl hl0 ?_
      refine z_iload_n dX9_leastOf_28 rfl hl3 ?_
      refine z_iald dX9_leastOf_29 hA hKA (vp_in_nI (by omega) (by omega)) ?_
      rw [zclamp (show 24 * p + j < 2 ^ 31 by omega)]
      refine z_goto 34 dX9_leastOf_30 (by decide) ?_
      refine z_istore_n dX9_leastOf_34 rfl (by decide) rfl ?_
      refine z_iinc dX9_leastOf_35 hl3 rfl ?_
      refine z_goto 9 dX9_leastOf_38 (by decide) ?_
      rw [zinc]
      refine ih (j + 1) (by omega) (by omega) _ hl0 hl1 ?_ rfl
      show some (Value.int _) = some (Value.int (if _ then _ else _))
      first | rw [if_pos (Int32.not_le.mp c_2)] | rw [if_neg (Int32.not_lt.mpr c_2)]
set_option maxHeartbeats 4000000 in
theorem c9_leastOf (I : Nat → Nat → Int32) (L : Nat → Nat → Int64) (A p : Nat) (hA : A < 35) (hKA : mK A = (0, 144)) (hp : p < 6) : Zm yX9_leastOf cX9_leastOf 4 (some .int) 0 0 0 0 [.ref A, .int (nI p)] (mh I L) (mQ (some (.int (mleast (fun k => I A (24 * p + k)) 24))) I L) := by
  refine Zm_of (lg := false) (by decide) (fun _ => by simp [Value.category]) (fun _ => Nat.le_of_ble_eq_true rfl) ?_
  show Zf x9_leastOf 0 0 0 (zargs [.ref A, .int (nI p)]) [] (mh I L) _
  refine z_sipush (v := 1000) dX9_leastOf_0 (by decide) ?_
  refine z_istore_n dX9_leastOf_3 rfl (by decide) rfl ?_
  refine z_bipush (v := 24) dX9_leastOf_4 (by decide) ?_
  refine z_iload_n dX9_leastOf_6 rfl rfl ?_
  refine z_imul dX9_leastOf_7 ?_
  simp only [zl24, pk_mul]
  refine z_istore_n dX9_leastOf_8 rfl (by decide) rfl ?_
  exact l9_leastOf hA hKA hp ⟨rfl, rfl⟩ 25 0 (by omega) (by omega) _ rfl rfl rfl rfl
abbrev x9_meanOf : ZX := (RX9, cX9_meanOf, 4, (some .int), "meanOf", 0, 0, false)
set_option maxHeartbeats 4000000 in
theorem l9_meanOf {I : Nat → Nat → Int32} {L : Nat → Nat → Int64} {Q : Option Value → ZH → Prop} {A p : Nat} (hA : A < 35) (hKA : mK A = (0, 144)) (hp : p < 6) (hQ : Q (some (.int (msum (fun k => I A (24 * p + k)) 24 / 24))) (mh I L)) : ∀ (m j : Nat), 24 - j < m → j ≤ 24 → ∀ ls : Nat → Option Value, ls 0 = some (.ref A) → ls 1 = some (.int (nI p)) → ls 2 = some (.int (msum (fun k => I A (24 * p + k)) j)) → ls 3 = some (.int (nI (24 * p + j))) → Zf x9_meanOf 0 0 7 ls [] (mh I L) Q := by
  intro m
  induction m with
  | zero => intro j h; omega
  | succ m ih =>
  intro j hm hj ls hl0 hl1 hl2 hl3
  refine z_iload_n dX9_meanOf_7 rfl hl3 ?_
  refine z_bipush (v := 24) dX9_meanOf_8 (by decide) ?_
  refine z_iload_n dX9_meanOf_10 rfl hl1 ?_
  refine z_imul dX9_meanOf_11 ?_
  refine z_bipush (v := 24) dX9_meanOf_12 (by decide) ?_
  refine z_iadd dX9_meanOf_14 ?_
  simp only [zl24, pk_mul, nI_add]
  refine z_icmp_ge 30 dX9_meanOf_15 (by decide) (fun c_1 => ?_) (fun c_1 => ?_)
  · skip
    have h1 := (nI_leI (by omega) (by omega)).mp c_1
    have h2 : j = 24 := by omega
    subst h2
    refine z_iload_n dX9_meanOf_30 rfl hl2 ?_
    refine z_bipush (v := 24) dX9_meanOf_31 (by decide) ?_
    refine z_idiv dX9_meanOf_33 (by decide) ?_
    refine z_iret dX9_meanOf_34 rfl ?_
    exact hQ
  · skip
    have h1 : ¬ 24 * p + 24 ≤ 24 * p + j := fun q => c_1 ((nI_leI (by omega) (by omega)).mpr q)
    refine z_iload_n dX9_meanOf_18 rfl hl2 ?_
    refine z_aload_n dX9_meanOf_19 rfl hl0 ?_
    refine z_iload_n dX9_meanOf_20 rfl hl3 ?_
    refine z_iald dX9_meanOf_21 hA hKA (vp_in_nI (by omega) (by omega)) ?_
    rw [zclamp (show 24 * p + j < 2 ^ 31 by omega)]
    refine z_iadd dX9_meanOf_22 ?_
    refine z_istore_n dX9_meanOf_23 rfl (by decide) rfl ?_
    refine z_iinc dX9_meanOf_24 hl3 rfl ?_
    refine z_goto 7 dX9_meanOf_27 (by decide) ?_
    rw [zinc]
    exact ih (j + 1) (by omega) (by omega) _ hl0 hl1 rfl rfl
set_option maxHeartbeats 4000000 in
theorem c9_meanOf (I : Nat → Nat → Int32) (L : Nat → Nat → Int64) (A p : Nat) (hA : A < 35) (hKA : mK A = (0, 144)) (hp : p < 6) : Zm yX9_meanOf cX9_meanOf 4 (some .int) 0 0 0 0 [.ref A, .int (nI p)] (mh I L) (mQ (some (.int (msum (fun k => I A (24 * p + k)) 24 / 24))) I L) := by
  refine Zm_of (lg := false) (by decide) (fun _ => by simp [Value.category]) (fun _ => Nat.le_of_ble_eq_true rfl) ?_
  show Zf x9_meanOf 0 0 0 (zargs [.ref A, .int (nI p)]) [] (mh I L) _
  refine z_iconst (v := 0) dX9_meanOf_0 (by decide) ?_
  refine z_istore_n dX9_meanOf_1 rfl (by decide) rfl ?_
  refine z_bipush (v := 24) dX9_meanOf_2 (by decide) ?_
  refine z_iload_n dX9_meanOf_4 rfl rfl ?_
  refine z_imul dX9_meanOf_5 ?_
  simp only [zl24, pk_mul]
  refine z_istore_n dX9_meanOf_6 rfl (by decide) rfl ?_
  exact l9_meanOf hA hKA hp ⟨rfl, rfl⟩ 25 0 (by omega) (by omega) _ rfl rfl rfl rfl
end
section
def zb (b : Bool) : Int32 := if b then 1 else 0
theorem zb_0 (b : Bool) : zb b = 0 ↔ b = false := by cases b <;> decide
theorem zb_n (b : Bool) : ¬ zb b = 0 ↔ b = true := by cases b <;> decide
theorem zb_or (b : Bool) : zb b = 0 ∨ zb b = 1 := by cases b <;> decide
theorem zvin {n N : Nat} (h : n < N) (hN : N ≤ 100000) : vp_in (nI n) N := vp_in_nI h (by omega)
theorem zcl {n : Nat} (h : n ≤ 100000) : (nI n).toNatClampNeg = n := nI_clamp (by omega)
theorem zle {a b : Nat} (ha : a ≤ 1000000) (hb : b ≤ 1000000) : nI a ≤ nI b ↔ a ≤ b := nI_leI (by omega) (by omega)
theorem zlt {a b : Nat} (ha : a ≤ 1000000) (hb : b ≤ 1000000) : nI a < nI b ↔ a < b := nI_ltI (by omega) (by omega)
theorem zeq {a b : Nat} (ha : a ≤ 1000000) (hb : b ≤ 1000000) : nI a = nI b ↔ a = b := nI_eq (by omega) (by omega)
theorem zdiv {a d : Nat} (ha : a ≤ 1000000) (h0 : 0 < d) (hd : d ≤ 1000000) : nI a / nI d = nI (a / d) := pk_div (by omega) h0 (by omega)
theorem zrem {a d : Nat} (ha : a ≤ 1000000) (h0 : 0 < d) (hd : d ≤ 1000000) : nI a - nI a / nI d * nI d = nI (a % d) := pk_rem (by omega) h0 (by omega)
def mshare (how row col : Int32) : Int32 := if how = 0 then (if row = 1 ∨ row = 2 then (if col = 0 ∨ col = 5 then 3 else if col = 2 ∨ col = 3 then 2 else 1) else 1) else (if col = 2 ∨ col = 3 then (if row = 1 ∨ row = 2 then 2 else 3) else 1)
abbrev x9_share : ZX := (RX9, cX9_share, 5, (some .int), "share", 0, 0, false)
set_option maxHeartbeats 4000000 in
theorem c9_share (I : Nat → Nat → Int32) (L : Nat → Nat → Int64) (how row col : Int32) : Zm yX9_share cX9_share 5 (some .int) 0 0 0 0 [.int how, .int row, .int col] (mh I L) (mQ (some (.int (mshare how row col))) I L) := by
  refine Zm_of (lg := false) (by decide) (fun _ => by simp [Value.category]) (fun _ => Nat.le_of_ble_eq_true rfl) ?_
  show Zf x9_share 0 0 0 (zargs [.int how, .int row, .int col]) [] (mh I L) _
  refine z_iload_n dX9_share_0 rfl rfl ?_
  refine z_iconst (v := 1) dX9_share_1 (by decide) ?_
  refine z_icmp_eq 10 dX9_share_2 (by decide) (fun c_1 => ?_) (fun c_1 => ?_)
  · skip
    refine z_iconst (v := 1) dX9_share_10 (by decide) ?_
    refine z_goto 15 dX9_share_11 (by decide) ?_
    refine z_istore_n dX9_share_15 rfl (by decide) rfl ?_
    refine z_iload_n dX9_share_16 rfl rfl ?_
    refine z_iconst (v := 2) dX9_share_17 (by decide) ?_
    refine z_icmp_eq 26 dX9_share_18 (by decide) (fun c_2 => ?_) (fun c_2 => ?_)
    · skip
      refine z_iconst (v := 1) dX9_share_26 (by decide) ?_
      refine z_goto 31 dX9_share_27 (by decide) ?_
      refine z_istore dX9_share_31 (by decide) rfl ?_
      refine z_iload_n dX9_share_33 rfl rfl ?_
      refine z_if_ne 69 dX9_share_34 (by decide) (fun c_3 => ?_) (fun c_3 => ?_)
      · skip
        refine z_iload dX9_share_69 rfl ?_
        refine z_if_ne 78 dX9_share_71 (by decide) (fun _ => ?_) (fun c_4 => absurd c_4 (by decide))
        refine z_iload_n dX9_share_78 rfl rfl ?_
        refine z_if_eq 86 dX9_share_79 (by decide) (fun c_5 => absurd c_5 (by decide)) (fun _ => ?_)
        refine z_iconst (v := 2) dX9_share_82 (by decide) ?_
        refine z_goto 87 dX9_share_83 (by decide) ?_
        refine z_iret dX9_share_87 rfl ?_
        exact ⟨by simp only [mshare]; simp_all, rfl⟩
      · skip
        refine z_iload_n dX9_share_37 rfl rfl ?_
        refine z_if_ne 45 dX9_share_38 (by decide) (fun _ => ?_) (fun c_6 => absurd c_6 (by decide))
        refine z_iload_n dX9_share_45 rfl rfl ?_
        refine z_if_eq 54 dX9_share_46 (by decide) (fun c_7 => ?_) (fun c_7 => ?_)
        · skip
          refine z_iconst (v := 3) dX9_share_54 (by decide) ?_
          refine z_goto 68 dX9_share_55 (by decide) ?_
          refine z_iret dX9_share_68 rfl ?_
          exact ⟨by simp only [mshare]; simp_all, rfl⟩
        · skip
          refine z_iload_n dX9_share_49 rfl rfl ?_
          refine z_iconst (v := 5) dX9_share_50 (by decide) ?_
          refine z_icmp_ne 58 dX9_share_51 (by decide) (fun c_8 => ?_) (fun c_8 => ?_)
          · skip
            refine z_iload dX9_share_58 rfl ?_
            refine z_if_eq 67 dX9_share_60 (by decide) (fun c_9 => absurd c_9 (by decide)) (fun _ => ?_)
            refine z_iconst (v := 2) dX9_share_63 (by decide) ?_
            refine z_goto 68 dX9_share_64 (by decide) ?_
            refine z_iret dX9_share_68 rfl ?_
            exact ⟨by simp only [mshare]; simp_all, rfl⟩
          · skip
            refine z_iconst (v := 3) dX9_share_54 (by decide) ?_
            refine z_goto 68 dX9_share_55 (by decide) ?_
            refine z_iret dX9_share_68 rfl ?_
            exact ⟨by simp only [mshare]; simp_all, rfl⟩
    · skip
      refine z_iload_n dX9_share_21 rfl rfl ?_
      refine z_iconst (v := 3) dX9_share_22 (by decide) ?_
      refine z_icmp_ne 30 dX9_share_23 (by decide) (fun c_10 => ?_) (fun c_10 => ?_)
      · skip
        refine z_iconst (v := 0) dX9_share_30 (by decide) ?_
        refine z_istore dX9_share_31 (by decide) rfl ?_
        refine z_iload_n dX9_share_33 rfl rfl ?_
        refine z_if_ne 69 dX9_share_34 (by decide) (fun c_11 => ?_) (fun c_11 => ?_)
        · skip
          refine z_iload dX9_share_69 rfl ?_
          refine z_if_ne 78 dX9_share_71 (by decide) (fun c_12 => absurd c_12 (by decide)) (fun _ => ?_)
          refine z_iconst (v := 1) dX9_share_74 (by decide) ?_
          refine z_goto 87 dX9_share_75 (by decide) ?_
          refine z_iret dX9_share_87 rfl ?_
          exact ⟨by simp only [mshare]; simp_all, rfl⟩
        · skip
          refine z_iload_n dX9_share_37 rfl rfl ?_
          refine z_if_ne 45 dX9_share_38 (by decide) (fun _ => ?_) (fun c_13 => absurd c_13 (by decide))
          refine z_iload_n dX9_share_45 rfl rfl ?_
          refine z_if_eq 54 dX9_share_46 (by decide) (fun c_14 => ?_) (fun c_14 => ?_)
          · skip
            refine z_iconst (v := 3) dX9_share_54 (by decide) ?_
            refine z_goto 68 dX9_share_55 (by decide) ?_
            refine z_iret dX9_share_68 rfl ?_
            exact ⟨by simp only [mshare]; simp_all, rfl⟩
          · skip
            refine z_iload_n dX9_share_49 rfl rfl ?_
            refine z_iconst (v := 5) dX9_share_50 (by decide) ?_
            refine z_icmp_ne 58 dX9_share_51 (by decide) (fun c_15 => ?_) (fun c_15 => ?_)
            · skip
              refine z_iload dX9_share_58 rfl ?_
              refine z_if_eq 67 dX9_share_60 (by decide) (fun _ => ?_) (fun c_16 => absurd c_16 (by decide))
              refine z_iconst (v := 1) dX9_share_67 (by decide) ?_
              refine z_iret dX9_share_68 rfl ?_
              exact ⟨by simp only [mshare]; simp_all, rfl⟩
            · skip
              refine z_iconst (v := 3) dX9_share_54 (by decide) ?_
              refine z_goto 68 dX9_share_55 (by decide) ?_
              refine z_iret dX9_share_68 rfl ?_
              exact ⟨by simp only [mshare]; simp_all, rfl⟩
      · skip
        refine z_iconst (v := 1) dX9_share_26 (by decide) ?_
        refine z_goto 31 dX9_share_27 (by decide) ?_
        refine z_istore dX9_share_31 (by decide) rfl ?_
        refine z_iload_n dX9_share_33 rfl rfl ?_
        refine z_if_ne 69 dX9_share_34 (by decide) (fun c_17 => ?_) (fun c_17 => ?_)
        · skip
          refine z_iload dX9_share_69 rfl ?_
          refine z_if_ne 78 dX9_share_71 (by decide) (fun _ => ?_) (fun c_18 => absurd c_18 (by decide))
          refine z_iload_n dX9_share_78 rfl rfl ?_
          refine z_if_eq 86 dX9_share_79 (by decide) (fun c_19 => absurd c_19 (by decide)) (fun _ => ?_)
          refine z_iconst (v := 2) dX9_share_82 (by decide) ?_
          refine z_goto 87 dX9_share_83 (by decide) ?_
          refine z_iret dX9_share_87 rfl ?_
          exact ⟨by simp only [mshare]; simp_all, rfl⟩
        · skip
          refine z_iload_n dX9_share_37 rfl rfl ?_
          refine z_if_ne 45 dX9_share_38 (by decide) (fun _ => ?_) (fun c_20 => absurd c_20 (by decide))
          refine z_iload_n dX9_share_45 rfl rfl ?_
          refine z_if_eq 54 dX9_share_46 (by decide) (fun c_21 => ?_) (fun c_21 => ?_)
          · skip
            refine z_iconst (v := 3) dX9_share_54 (by decide) ?_
            refine z_goto 68 dX9_share_55 (by decide) ?_
            refine z_iret dX9_share_68 rfl ?_
            exact ⟨by simp only [mshare]; simp_all, rfl⟩
          · skip
            refine z_iload_n dX9_share_49 rfl rfl ?_
            refine z_iconst (v := 5) dX9_share_50 (by decide) ?_
            refine z_icmp_ne 58 dX9_share_51 (by decide) (fun c_22 => ?_) (fun c_22 => ?_)
            · skip
              refine z_iload dX9_share_58 rfl ?_
              refine z_if_eq 67 dX9_share_60 (by decide) (fun c_23 => absurd c_23 (by decide)) (fun _ => ?_)
              refine z_iconst (v := 2) dX9_share_63 (by decide) ?_
              refine z_goto 68 dX9_share_64 (by decide) ?_
              refine z_iret dX9_share_68 rfl ?_
              exact ⟨by simp only [mshare]; simp_all, rfl⟩
            · skip
              refine z_iconst (v := 3) dX9_share_54 (by decide) ?_
              refine z_goto 68 dX9_share_55 (by decide) ?_
              refine z_iret dX9_share_68 rfl ?_
              exact ⟨by simp only [mshare]; simp_all, rfl⟩
  · skip
    refine z_iload_n dX9_share_5 rfl rfl ?_
    refine z_iconst (v := 2) dX9_share_6 (by decide) ?_
    refine z_icmp_ne 14 dX9_share_7 (by decide) (fun c_24 => ?_) (fun c_24 => ?_)
    · skip
      refine z_iconst (v := 0) dX9_share_14 (by decide) ?_
      refine z_istore_n dX9_share_15 rfl (by decide) rfl ?_
      refine z_iload_n dX9_share_16 rfl rfl ?_
      refine z_iconst (v := 2) dX9_share_17 (by decide) ?_
      refine z_icmp_eq 26 dX9_share_18 (by decide) (fun c_25 => ?_) (fun c_25 => ?_)
      · skip
        refine z_iconst (v := 1) dX9_share_26 (by decide) ?_
        refine z_goto 31 dX9_share_27 (by decide) ?_
        refine z_istore dX9_share_31 (by decide) rfl ?_
        refine z_iload_n dX9_share_33 rfl rfl ?_
        refine z_if_ne 69 dX9_share_34 (by decide) (fun c_26 => ?_) (fun c_26 => ?_)
        · skip
          refine z_iload dX9_share_69 rfl ?_
          refine z_if_ne 78 dX9_share_71 (by decide) (fun _ => ?_) (fun c_27 => absurd c_27 (by decide))
          refine z_iload_n dX9_share_78 rfl rfl ?_
          refine z_if_eq 86 dX9_share_79 (by decide) (fun _ => ?_) (fun c_28 => absurd c_28 (by decide))
          refine z_iconst (v := 3) dX9_share_86 (by decide) ?_
          refine z_iret dX9_share_87 rfl ?_
          exact ⟨by simp only [mshare]; simp_all, rfl⟩
        · skip
          refine z_iload_n dX9_share_37 rfl rfl ?_
          refine z_if_ne 45 dX9_share_38 (by decide) (fun c_29 => absurd c_29 (by decide)) (fun _ => ?_)
          refine z_iconst (v := 1) dX9_share_41 (by decide) ?_
          refine z_goto 68 dX9_share_42 (by decide) ?_
          refine z_iret dX9_share_68 rfl ?_
          exact ⟨by simp only [mshare]; simp_all, rfl⟩
      · skip
        refine z_iload_n dX9_share_21 rfl rfl ?_
        refine z_iconst (v := 3) dX9_share_22 (by decide) ?_
        refine z_icmp_ne 30 dX9_share_23 (by decide) (fun c_30 => ?_) (fun c_30 => ?_)
        · skip
          refine z_iconst (v := 0) dX9_share_30 (by decide) ?_
          refine z_istore dX9_share_31 (by decide) rfl ?_
          refine z_iload_n dX9_share_33 rfl rfl ?_
          refine z_if_ne 69 dX9_share_34 (by decide) (fun c_31 => ?_) (fun c_31 => ?_)
          · skip
            refine z_iload dX9_share_69 rfl ?_
            refine z_if_ne 78 dX9_share_71 (by decide) (fun c_32 => absurd c_32 (by decide)) (fun _ => ?_)
            refine z_iconst (v := 1) dX9_share_74 (by decide) ?_
            refine z_goto 87 dX9_share_75 (by decide) ?_
            refine z_iret dX9_share_87 rfl ?_
            exact ⟨by simp only [mshare]; simp_all, rfl⟩
          · skip
            refine z_iload_n dX9_share_37 rfl rfl ?_
            refine z_if_ne 45 dX9_share_38 (by decide) (fun c_33 => absurd c_33 (by decide)) (fun _ => ?_)
            refine z_iconst (v := 1) dX9_share_41 (by decide) ?_
            refine z_goto 68 dX9_share_42 (by decide) ?_
            refine z_iret dX9_share_68 rfl ?_
            exact ⟨by simp only [mshare]; simp_all, rfl⟩
        · skip
          refine z_iconst (v := 1) dX9_share_26 (by decide) ?_
          refine z_goto 31 dX9_share_27 (by decide) ?_
          refine z_istore dX9_share_31 (by decide) rfl ?_
          refine z_iload_n dX9_share_33 rfl rfl ?_
          refine z_if_ne 69 dX9_share_34 (by decide) (fun c_34 => ?_) (fun c_34 => ?_)
          · skip
            refine z_iload dX9_share_69 rfl ?_
            refine z_if_ne 78 dX9_share_71 (by decide) (fun _ => ?_) (fun c_35 => absurd c_35 (by decide))
            refine z_iload_n dX9_share_78 rfl rfl ?_
            refine z_if_eq 86 dX9_share_79 (by decide) (fun _ => ?_) (fun c_36 => absurd c_36 (by decide))
            refine z_iconst (v := 3) dX9_share_86 (by decide) ?_
            refine z_iret dX9_share_87 rfl ?_
            exact ⟨by simp only [mshare]; simp_all, rfl⟩
          · skip
            refine z_iload_n dX9_share_37 rfl rfl ?_
            refine z_if_ne 45 dX9_share_38 (by decide) (fun c_37 => absurd c_37 (by decide)) (fun _ => ?_)
            refine z_iconst (v := 1) dX9_share_41 (by decide) ?_
            refine z_goto 68 dX9_share_42 (by decide) ?_
            refine z_iret dX9_share_68 rfl ?_
            exact ⟨by simp only [mshare]; simp_all, rfl⟩
    · skip
      refine z_iconst (v := 1) dX9_share_10 (by decide) ?_
      refine z_goto 15 dX9_share_11 (by decide) ?_
      refine z_istore_n dX9_share_15 rfl (by decide) rfl ?_
      refine z_iload_n dX9_share_16 rfl rfl ?_
      refine z_iconst (v := 2) dX9_share_17 (by decide) ?_
      refine z_icmp_eq 26 dX9_share_18 (by decide) (fun c_38 => ?_) (fun c_38 => ?_)
      · skip
        refine z_iconst (v := 1) dX9_share_26 (by decide) ?_
        refine z_goto 31 dX9_share_27 (by decide) ?_
        refine z_istore dX9_share_31 (by decide) rfl ?_
        refine z_iload_n dX9_share_33 rfl rfl ?_
        refine z_if_ne 69 dX9_share_34 (by decide) (fun c_39 => ?_) (fun c_39 => ?_)
        · skip
          refine z_iload dX9_share_69 rfl ?_
          refine z_if_ne 78 dX9_share_71 (by decide) (fun _ => ?_) (fun c_40 => absurd c_40 (by decide))
          refine z_iload_n dX9_share_78 rfl rfl ?_
          refine z_if_eq 86 dX9_share_79 (by decide) (fun c_41 => absurd c_41 (by decide)) (fun _ => ?_)
          refine z_iconst (v := 2) dX9_share_82 (by decide) ?_
          refine z_goto 87 dX9_share_83 (by decide) ?_
          refine z_iret dX9_share_87 rfl ?_
          exact ⟨by simp only [mshare]; simp_all, rfl⟩
        · skip
          refine z_iload_n dX9_share_37 rfl rfl ?_
          refine z_if_ne 45 dX9_share_38 (by decide) (fun _ => ?_) (fun c_42 => absurd c_42 (by decide))
          refine z_iload_n dX9_share_45 rfl rfl ?_
          refine z_if_eq 54 dX9_share_46 (by decide) (fun c_43 => ?_) (fun c_43 => ?_)
          · skip
            refine z_iconst (v := 3) dX9_share_54 (by decide) ?_
            refine z_goto 68 dX9_share_55 (by decide) ?_
            refine z_iret dX9_share_68 rfl ?_
            exact ⟨by simp only [mshare]; simp_all, rfl⟩
          · skip
            refine z_iload_n dX9_share_49 rfl rfl ?_
            refine z_iconst (v := 5) dX9_share_50 (by decide) ?_
            refine z_icmp_ne 58 dX9_share_51 (by decide) (fun c_44 => ?_) (fun c_44 => ?_)
            · skip
              refine z_iload dX9_share_58 rfl ?_
              refine z_if_eq 67 dX9_share_60 (by decide) (fun c_45 => absurd c_45 (by decide)) (fun _ => ?_)
              refine z_iconst (v := 2) dX9_share_63 (by decide) ?_
              refine z_goto 68 dX9_share_64 (by decide) ?_
              refine z_iret dX9_share_68 rfl ?_
              exact ⟨by simp only [mshare]; simp_all, rfl⟩
            · skip
              refine z_iconst (v := 3) dX9_share_54 (by decide) ?_
              refine z_goto 68 dX9_share_55 (by decide) ?_
              refine z_iret dX9_share_68 rfl ?_
              exact ⟨by simp only [mshare]; simp_all, rfl⟩
      · skip
        refine z_iload_n dX9_share_21 rfl rfl ?_
        refine z_iconst (v := 3) dX9_share_22 (by decide) ?_
        refine z_icmp_ne 30 dX9_share_23 (by decide) (fun c_46 => ?_) (fun c_46 => ?_)
        · skip
          refine z_iconst (v := 0) dX9_share_30 (by decide) ?_
          refine z_istore dX9_share_31 (by decide) rfl ?_
          refine z_iload_n dX9_share_33 rfl rfl ?_
          refine z_if_ne 69 dX9_share_34 (by decide) (fun c_47 => ?_) (fun c_47 => ?_)
          · skip
            refine z_iload dX9_share_69 rfl ?_
            refine z_if_ne 78 dX9_share_71 (by decide) (fun c_48 => absurd c_48 (by decide)) (fun _ => ?_)
            refine z_iconst (v := 1) dX9_share_74 (by decide) ?_
            refine z_goto 87 dX9_share_75 (by decide) ?_
            refine z_iret dX9_share_87 rfl ?_
            exact ⟨by simp only [mshare]; simp_all, rfl⟩
          · skip
            refine z_iload_n dX9_share_37 rfl rfl ?_
            refine z_if_ne 45 dX9_share_38 (by decide) (fun _ => ?_) (fun c_49 => absurd c_49 (by decide))
            refine z_iload_n dX9_share_45 rfl rfl ?_
            refine z_if_eq 54 dX9_share_46 (by decide) (fun c_50 => ?_) (fun c_50 => ?_)
            · skip
              refine z_iconst (v := 3) dX9_share_54 (by decide) ?_
              refine z_goto 68 dX9_share_55 (by decide) ?_
              refine z_iret dX9_share_68 rfl ?_
              exact ⟨by simp only [mshare]; simp_all, rfl⟩
            · skip
              refine z_iload_n dX9_share_49 rfl rfl ?_
              refine z_iconst (v := 5) dX9_share_50 (by decide) ?_
              refine z_icmp_ne 58 dX9_share_51 (by decide) (fun c_51 => ?_) (fun c_51 => ?_)
              · skip
                refine z_iload dX9_share_58 rfl ?_
                refine z_if_eq 67 dX9_share_60 (by decide) (fun _ => ?_) (fun c_52 => absurd c_52 (by decide))
                refine z_iconst (v := 1) dX9_share_67 (by decide) ?_
                refine z_iret dX9_share_68 rfl ?_
                exact ⟨by simp only [mshare]; simp_all, rfl⟩
              · skip
                refine z_iconst (v := 3) dX9_share_54 (by decide) ?_
                refine z_goto 68 dX9_share_55 (by decide) ?_
                refine z_iret dX9_share_68 rfl ?_
                exact ⟨by simp only [mshare]; simp_all, rfl⟩
        · skip
          refine z_iconst (v := 1) dX9_share_26 (by decide) ?_
          refine z_goto 31 dX9_share_27 (by decide) ?_
          refine z_istore dX9_share_31 (by decide) rfl ?_
          refine z_iload_n dX9_share_33 rfl rfl ?_
          refine z_if_ne 69 dX9_share_34 (by decide) (fun c_53 => ?_) (fun c_53 => ?_)
          · skip
            refine z_iload dX9_share_69 rfl ?_
            refine z_if_ne 78 dX9_share_71 (by decide) (fun _ => ?_) (fun c_54 => absurd c_54 (by decide))
            refine z_iload_n dX9_share_78 rfl rfl ?_
            refine z_if_eq 86 dX9_share_79 (by decide) (fun c_55 => absurd c_55 (by decide)) (fun _ => ?_)
            refine z_iconst (v := 2) dX9_share_82 (by decide) ?_
            refine z_goto 87 dX9_share_83 (by decide) ?_
            refine z_iret dX9_share_87 rfl ?_
            exact ⟨by simp only [mshare]; simp_all, rfl⟩
          · skip
            refine z_iload_n dX9_share_37 rfl rfl ?_
            refine z_if_ne 45 dX9_share_38 (by decide) (fun _ => ?_) (fun c_56 => absurd c_56 (by decide))
            refine z_iload_n dX9_share_45 rfl rfl ?_
            refine z_if_eq 54 dX9_share_46 (by decide) (fun c_57 => ?_) (fun c_57 => ?_)
            · skip
              refine z_iconst (v := 3) dX9_share_54 (by decide) ?_
              refine z_goto 68 dX9_share_55 (by decide) ?_
              refine z_iret dX9_share_68 rfl ?_
              exact ⟨by simp only [mshare]; simp_all, rfl⟩
            · skip
              refine z_iload_n dX9_share_49 rfl rfl ?_
              refine z_iconst (v := 5) dX9_share_50 (by decide) ?_
              refine z_icmp_ne 58 dX9_share_51 (by decide) (fun c_58 => ?_) (fun c_58 => ?_)
              · skip
                refine z_iload dX9_share_58 rfl ?_
                refine z_if_eq 67 dX9_share_60 (by decide) (fun c_59 => absurd c_59 (by decide)) (fun _ => ?_)
                refine z_iconst (v := 2) dX9_share_63 (by decide) ?_
                refine z_goto 68 dX9_share_64 (by decide) ?_
                refine z_iret dX9_share_68 rfl ?_
                exact ⟨by simp only [mshare]; simp_all, rfl⟩
              · skip
                refine z_iconst (v := 3) dX9_share_54 (by decide) ?_
                refine z_goto 68 dX9_share_55 (by decide) ?_
                refine z_iret dX9_share_68 rfl ?_
                exact ⟨by simp only [mshare]; simp_all, rfl⟩
def mwf (age wet sh : Int32) : Int32 := (4 + 2 * age) * sh * (10 + wet) / 10
def mww (I : Nat → Nat → Int32) (A p : Nat) (how age wet : Int32) (k : Nat) : Int32 := if mwf age wet (mshare how (nI (k / 6)) (nI (k % 6))) ≤ I A (24 * p + k) then mwf age wet (mshare how (nI (k / 6)) (nI (k % 6))) else I A (24 * p + k)
def mwI (I : Nat → Nat → Int32) (A p : Nat) (how age wet : Int32) (m : Nat) : Nat → Nat → Int32 := fun a j => if a = A ∧ 24 * p ≤ j ∧ j < 24 * p + m then I a j - mww I A p how age wet (j - 24 * p) else I a j
theorem mwI_0 (I : Nat → Nat → Int32) (A p : Nat) (how age wet : Int32) : mwI I A p how age wet 0 = I := by
  funext a j
  unfold mwI
  rw [if_neg (by omega)]
theorem mwI_at (I : Nat → Nat → Int32) (A p : Nat) (how age wet : Int32) (m : Nat) : mwI I A p how age wet m A (24 * p + m) = I A (24 * p + m) := by
  unfold mwI
  rw [if_neg (by omega)]
theorem mwI_s (I : Nat → Nat → Int32) (A p : Nat) (how age wet : Int32) (m : Nat) : zu (mwI I A p how age wet m) A (24 * p + m) (I A (24 * p + m) - mww I A p how age wet m) = mwI I A p how age wet (m + 1) := by
  funext a j
  rw [zu_apply]
  unfold mwI
  by_cases h : a = A ∧ j = 24 * p + m
  · obtain ⟨rfl, rfl⟩ := h
    rw [if_pos ⟨rfl, rfl⟩, if_pos (by omega), show 24 * p + m - 24 * p = m by omega]
  · rw [if_neg h]
    by_cases h2 : a = A ∧ 24 * p ≤ j ∧ j < 24 * p + m
    · rw [if_pos h2, if_pos (by omega)]
    · rw [if_neg h2, if_neg (by
        intro h3
        apply h2
        refine ⟨h3.1, h3.2.1, ?_⟩
        have : ¬ j = 24 * p + m := fun e => h ⟨h3.1, e⟩
        omega)]
abbrev x9_wears : ZX := (RX9, cX9_wears, 9, (some .int), "wears", 1, 40, false)
set_option maxHeartbeats 4000000 in
theorem l9_wears {I : Nat → Nat → Int32} {L : Nat → Nat → Int64} {Q : Option Value → ZH → Prop} {A p : Nat} {how age wet : Int32} (hA : A < 35) (hKA : mK A = (0, 144)) (hp : p < 6) (hQ : Q (some (.int (msum (mww I A p how age wet) 24))) (mh (mwI I A p how age wet 24) L)) : ∀ (m j : Nat), 24 - j < m → j ≤ 24 → ∀ (J : Nat → Nat → Int32) (ls : Nat → Option Value), J = mwI I A p how age wet j → ls 0 = some (.ref A) → ls 1 = some (.int (nI p)) → ls 2 = some (.int how) → ls 3 = some (.int age) → ls 4 = some (.int wet) → ls 5 = some (.int (msum (mww I A p how age wet) j)) → ls 6 = some (.int (nI j)) → Zf x9_wears 0 0 6 ls [] (mh J L) Q := by
  intro m
  induction m with
  | zero => intro j h; omega
  | succ m ih =>
  intro j hm hj J ls hJ hl0 hl1 hl2 hl3 hl4 hl5 hl6
  subst hJ
  refine z_iload dX9_wears_6 hl6 ?_
  refine z_bipush (v := 24) dX9_wears_8 (by decide) ?_
  simp only [zl24]
  refine z_icmp_ge 95 dX9_wears_10 (by decide) (fun c_1 => ?_) (fun c_1 => ?_)
  · skip
    have h1 := (zle (by omega) (by omega)).mp c_1
    have h2 : j = 24 := by omega
    subst h2
    refine z_iload dX9_wears_95 hl5 ?_
    refine z_iret dX9_wears_97 rfl ?_
    exact hQ
  · skip
    have h1 : ¬ 24 ≤ j := fun q => c_1 ((zle (by omega) (by omega)).mpr q)
    refine z_iconst (v := 4) dX9_wears_13 (by decide) ?_
    refine z_iconst (v := 2) dX9_wears_14 (by decide) ?_
    refine z_iload_n dX9_wears_15 rfl hl3 ?_
    refine z_imul dX9_wears_16 ?_
    refine z_iadd dX9_wears_17 ?_
    refine z_iload_n dX9_wears_18 rfl hl2 ?_
    refine z_iload dX9_wears_19 hl6 ?_
    refine z_bipush (v := 6) dX9_wears_21 (by decide) ?_
    refine z_idiv dX9_wears_23 (by decide) ?_
    refine z_iload dX9_wears_24 hl6 ?_
    refine z_bipush (v := 6) dX9_wears_26 (by decide) ?_
    refine z_irem dX9_wears_28 (by decide) ?_
    rw [zl6, zrem (by omega) (by omega) (by omega), zdiv (by omega) (by omega) (by omega)]
    refine z_callS (st := [_]) (mc2 := 0) (ms2 := 0) zi9_245 zs_yX9_share (c9_share _ _ _ _ _) dX9_wears_29 rfl rfl (by decide) (by decide) (Nat.le_of_ble_eq_true rfl) (by decide) (by decide) (fun r h2 hq => ?_)
    obtain ⟨rfl, rfl⟩ := hq
    refine z_imul dX9_wears_32 ?_
    refine z_bipush (v := 10) dX9_wears_33 (by decide) ?_
    refine z_iload dX9_wears_35 hl4 ?_
    refine z_iadd dX9_wears_37 ?_
    refine z_imul dX9_wears_38 ?_
    refine z_bipush (v := 10) dX9_wears_39 (by decide) ?_
    refine z_idiv dX9_wears_41 (by decide) ?_
    refine z_istore dX9_wears_42 (by decide) rfl ?_
    refine z_bipush (v := 24) dX9_wears_44 (by decide) ?_
    refine z_iload_n dX9_wears_46 rfl hl1 ?_
    refine z_imul dX9_wears_47 ?_
    refine z_iload dX9_wears_48 hl6 ?_
    refine z_iadd dX9_wears_50 ?_
    simp only [zl24, pk_mul, nI_add]
    refine z_istore dX9_wears_51 (by decide) rfl ?_
    refine z_iload dX9_wears_53 rfl ?_
    refine z_aload_n dX9_wears_55 rfl hl0 ?_
    refine z_iload dX9_wears_56 rfl ?_
    refine z_iald dX9_wears_58 hA hKA (zvin (by omega) (by omega)) ?_
    rw [zcl (by omega), mwI_at]
    refine z_icmp_le 69 dX9_wears_59 (by decide) (fun c_2 => ?_) (fun c_2 => ?_)
    · skip
      refine z_iload dX9_wears_69 rfl ?_
      refine z_topi (fun w hw => ?_)
      have e2 : w = mww I A p how age wet j := by first | exact hw.trans (if_pos c_2).symm | exact hw.trans (if_neg c_2).symm
      subst e2
      refine z_istore dX9_wears_71 (by decide) rfl ?_
      refine z_aload_n dX9_wears_73 rfl hl0 ?_
      refine z_iload dX9_wears_74 rfl ?_
      refine z_dup2 dX9_wears_76 rfl rfl ?_
      refine z_iald dX9_wears_77 hA hKA (zvin (by omega) (by omega)) ?_
      rw [zcl (by omega), mwI_at]
      refine z_iload dX9_wears_78 rfl ?_
      refine z_isub dX9_wears_80 ?_
      refine z_iast dX9_wears_81 hA hKA (zvin (by omega) (by omega)) ?_
      refine z_iload dX9_wears_82 hl5 ?_
      refine z_iload dX9_wears_84 rfl ?_
      refine z_iadd dX9_wears_86 ?_
      refine z_istore dX9_wears_87 (by decide) rfl ?_
      refine z_iinc dX9_wears_89 hl6 rfl ?_
      refine z_goto 6 dX9_wears_92 (by decide) ?_
      rw [zinc]
      exact ih (j + 1) (by omega) (by omega) _ _ (by rw [zcl (by omega)]; exact mwI_s I A p how age wet j) hl0 hl1 hl2 hl3 hl4 rfl rfl
    · skip
      refine z_aload_n dX9_wears_62 rfl hl0 ?_
      refine z_iload dX9_wears_63 rfl ?_
      refine z_iald dX9_wears_65 hA hKA (zvin (by omega) (by omega)) ?_
      rw [zcl (by omega), mwI_at]
      refine z_goto 71 dX9_wears_66 (by decide) ?_
      refine z_topi (fun w hw => ?_)
      have e2 : w = mww I A p how age wet j := by first | exact hw.trans (if_pos c_2).symm | exact hw.trans (if_neg c_2).symm
      subst e2
      refine z_istore dX9_wears_71 (by decide) rfl ?_
      refine z_aload_n dX9_wears_73 rfl hl0 ?_
      refine z_iload dX9_wears_74 rfl ?_
      refine z_dup2 dX9_wears_76 rfl rfl ?_
      refine z_iald dX9_wears_77 hA hKA (zvin (by omega) (by omega)) ?_
      rw [zcl (by omega), mwI_at]
      refine z_iload dX9_wears_78 rfl ?_
      refine z_isub dX9_wears_80 ?_
      refine z_iast dX9_wears_81 hA hKA (zvin (by omega) (by omega)) ?_
      refine z_iload dX9_wears_82 hl5 ?_
      refine z_iload dX9_wears_84 rfl ?_
      refine z_iadd dX9_wears_86 ?_
      refine z_istore dX9_wears_87 (by decide) rfl ?_
      refine z_iinc dX9_wears_89 hl6 rfl ?_
      refine z_goto 6 dX9_wears_92 (by decide) ?_
      rw [zinc]
      exact ih (j + 1) (by omega) (by omega) _ _ (by rw [zcl (by omega)]; exact mwI_s I A p how age wet j) hl0 hl1 hl2 hl3 hl4 rfl rfl
set_option maxHeartbeats 4000000 in
theorem c9_wears (I : Nat → Nat → Int32) (L : Nat → Nat → Int64) (A p : Nat) (how age wet : Int32) (hA : A < 35) (hKA : mK A = (0, 144)) (hp : p < 6) : Zm yX9_wears cX9_wears 9 (some .int) 1 40 0 0 [.ref A, .int (nI p), .int how, .int age, .int wet] (mh I L) (mQ (some (.int (msum (mww I A p how age wet) 24))) (mwI I A p how age wet 24) L) := by
  refine Zm_of (lg := false) (by decide) (fun _ => by simp [Value.category]) (fun _ => Nat.le_of_ble_eq_true rfl) ?_
  show Zf x9_wears 0 0 0 (zargs [.ref A, .int (nI p), .int how, .int age, .int wet]) [] (mh I L) _
  refine z_iconst (v := 0) dX9_wears_0 (by decide) ?_
  refine z_istore dX9_wears_1 (by decide) rfl ?_
  refine z_iconst (v := 0) dX9_wears_3 (by decide) ?_
  refine z_istore dX9_wears_4 (by decide) rfl ?_
  exact l9_wears hA hKA hp ⟨rfl, rfl⟩ 25 0 (by omega) (by omega) _ _ (mwI_0 _ _ _ _ _ _).symm rfl rfl rfl rfl rfl rfl rfl
end
section
def mth (I : Nat → Nat → Int32) (k : Nat) : Bool := decide (I 31 k = 1) || decide (I 31 k = 2)
def mhc (I : Nat → Nat → Int32) (k : Nat) (c : Int32) : Bool := decide (I 25 k = c) || decide (I 26 k = c)
def mga (I : Nat → Nat → Int32) (s : Int32) : Nat → Int32
  | 0 => -1
  | k + 1 => if mth I k = true ∧ I 32 k = s then nI k else mga I s k
def mfr (I : Nat → Nat → Int32) (g : Nat) (s : Int32) : Nat → Bool
  | 0 => true
  | k + 1 => if k ≠ g ∧ mth I k = true ∧ I 32 k / 24 = s / 24 then (mfr I g s k && !mhc I k (I 25 g) && !mhc I k (I 26 g)) else mfr I g s k
def msu (I : Nat → Nat → Int32) (G g S : Nat) : Bool := decide (¬ I 16 (S % 6) < I 27 g) && decide (mga I (nI S) G < 0) && mfr I g (nI S) G
def mfP (I : Nat → Nat → Int32) (P G g : Nat) (wished : Bool) (but : Int32) (S : Nat) : Bool := decide (S % 6 < P) && (!wished || decide ((I 30 g >>> ((4 * nI (S / 24 % 7) + nI (S / 6 % 4)) &&& 31)) &&& 1 = 1)) && decide (¬ nI S = but) && msu I G g S
def mfind (p : Nat → Bool) (lo : Nat) : Nat → Int32
  | 0 => -1
  | k + 1 => if p lo = true then nI lo else mfind p (lo + 1) k
theorem mfind_hit {p : Nat → Bool} {lo : Nat} (h : p lo = true) {k : Nat} (hk : 0 < k) : mfind p lo k = nI lo := by
  obtain ⟨j, rfl⟩ : ∃ j, k = j + 1 := ⟨k - 1, by omega⟩
  simp [mfind, h]
theorem mfind_miss {p : Nat → Bool} {lo : Nat} (h : p lo = false) {k : Nat} (hk : 0 < k) : mfind p lo k = mfind p (lo + 1) (k - 1) := by
  obtain ⟨j, rfl⟩ : ∃ j, k = j + 1 := ⟨k - 1, by omega⟩
  simp [mfind, h]
theorem mfind_skip {p : Nat → Bool} : ∀ (m lo k : Nat), (∀ S, lo ≤ S → S < lo + m → p S = false) → m ≤ k → mfind p lo k = mfind p (lo + m) (k - m)
  | 0, lo, k, _, _ => rfl
  | m + 1, lo, k, h, hk => by
    rw [mfind_miss (h lo (by omega) (by omega)) (by omega), mfind_skip m (lo + 1) (k - 1) (fun S h1 h2 => h S (by omega) (by omega)) (by omega), show lo + 1 + m = lo + (m + 1) by omega, show k - 1 - m = k - (m + 1) by omega]
def mg1 (warm wet x : Int32) : Int32 := (if wet < 9 then x else if x ≤ 10 then 0 else x - 10) + (1000 - (if wet < 9 then x else if x ≤ 10 then 0 else x - 10)) * warm * (10 - (if wet ≤ 5 then 2 * (5 - wet) else 2 * (wet - 5))) / 2000
def mgI (I : Nat → Nat → Int32) (A : Nat) (warm wet : Int32) (m : Nat) : Nat → Nat → Int32 := fun a j => if a = A ∧ j < m then mg1 warm wet (I a j) else I a j
theorem mgI_0 (I : Nat → Nat → Int32) (A : Nat) (warm wet : Int32) : mgI I A warm wet 0 = I := by
  funext a j
  unfold mgI
  rw [if_neg (by omega)]
theorem mgI_at (I : Nat → Nat → Int32) (A : Nat) (warm wet : Int32) (m : Nat) : mgI I A warm wet m A m = I A m := by
  unfold mgI
  rw [if_neg (by omega)]
theorem mgI_ne (I : Nat → Nat → Int32) (A : Nat) (warm wet : Int32) (m a j : Nat) (h : a ≠ A) : mgI I A warm wet m a j = I a j := by
  unfold mgI
  rw [if_neg (by omega)]
theorem mgI_s (I : Nat → Nat → Int32) (A : Nat) (warm wet : Int32) (m : Nat) : zu (mgI I A warm wet m) A m (mg1 warm wet (I A m)) = mgI I A warm wet (m + 1) := by
  funext a j
  rw [zu_apply]
  unfold mgI
  by_cases h : a = A ∧ j = m
  · obtain ⟨rfl, rfl⟩ := h
    rw [if_pos ⟨rfl, rfl⟩, if_pos (by omega)]
  · rw [if_neg h]
    by_cases h2 : a = A ∧ j < m
    · rw [if_pos h2, if_pos (by omega)]
    · rw [if_neg h2, if_neg (by
        intro h3
        apply h2
        refine ⟨h3.1, ?_⟩
        have : ¬ j = m := fun e => h ⟨h3.1, e⟩
        omega)]
abbrev x9_grows : ZX := (RX9, cX9_grows, 7, none, "grows", 0, 0, false)
set_option maxHeartbeats 4000000 in
theorem l9_grows {I : Nat → Nat → Int32} {L : Nat → Nat → Int64} {Q : Option Value → ZH → Prop} {A P : Nat} {warm wet : Int32} (hA : A < 35) (hA0 : A ≠ 0) (hKA : mK A = (0, 144)) (hP : P ≤ 6) (h24 : I 0 24 = nI P) (hQ : Q none (mh (mgI I A warm wet (24 * P)) L)) : ∀ (m j : Nat), 24 * P - j < m → j ≤ 24 * P → ∀ (J : Nat → Nat → Int32) (ls : Nat → Option Value), J = mgI I A warm wet j → ls 0 = some (.ref 0) → ls 1 = some (.ref A) → ls 2 = some (.int warm) → ls 3 = some (.int wet) → ls 4 = some (.int (if wet ≤ 5 then 2 * (5 - wet) else 2 * (wet - 5))) → ls 5 = some (.int (nI j)) → Zf x9_grows 0 0 23 ls [] (mh J L) Q := by
  intro m
  induction m with
  | zero => intro j h; omega
  | succ m ih =>
  intro j hm hj J ls hJ hl0 hl1 hl2 hl3 hl4 hl5
  subst hJ
  refine z_iload dX9_grows_23 hl5 ?_
  refine z_bipush (v := 24) dX9_grows_25 (by decide) ?_
  refine z_aload_n (i := 0) dX9_grows_27 rfl hl0 ?_
  refine z_gI zf9_236.g dX9_grows_28 (by decide) rfl ?_
  rw [mgI_ne _ _ _ _ _ _ _ (Ne.symm hA0), h24]
  refine z_imul dX9_grows_31 ?_
  simp only [zl24, pk_mul]
  refine z_icmp_ge 101 dX9_grows_32 (by decide) (fun c_1 => ?_) (fun c_1 => ?_)
  · skip
    have h1 := (zle (by omega) (by omega)).mp c_1
    have h2 : j = 24 * P := by omega
    subst h2
    refine z_vret dX9_grows_101 rfl ?_
    exact hQ
  · skip
    have h1 : ¬ 24 * P ≤ j := fun q => c_1 ((zle (by omega) (by omega)).mpr q)
    refine z_iload_n (i := 3) dX9_grows_35 rfl hl3 ?_
    refine z_bipush (v := 9) dX9_grows_36 (by decide) ?_
    refine z_icmp_lt 64 dX9_grows_38 (by decide) (fun c_2 => ?_) (fun c_2 => ?_)
    · skip
      refine z_aload_n (i := 1) dX9_grows_64 rfl hl1 ?_
      refine z_iload dX9_grows_65 hl5 ?_
      refine z_iald dX9_grows_67 hA hKA (zvin (by omega) (by omega)) ?_
      try rw [zcl (by omega), mgI_at]
      refine z_topi (fun w hw => ?_)
      have e2 : w = (if wet < 9 then I A j else if I A j ≤ 10 then 0 else I A j - 10) := by rw [hw]; simp [*]
      subst e2
      refine z_istore (i := 6) dX9_grows_68 (by decide) rfl ?_
      refine z_aload_n (i := 1) dX9_grows_70 rfl hl1 ?_
      refine z_iload dX9_grows_71 hl5 ?_
      refine z_iload dX9_grows_73 rfl ?_
      refine z_sipush (v := 1000) dX9_grows_75 (by decide) ?_
      refine z_iload dX9_grows_78 rfl ?_
      refine z_isub dX9_grows_80 ?_
      refine z_iload_n (i := 2) dX9_grows_81 rfl hl2 ?_
      refine z_imul dX9_grows_82 ?_
      refine z_bipush (v := 10) dX9_grows_83 (by decide) ?_
      refine z_iload dX9_grows_85 hl4 ?_
      refine z_isub dX9_grows_87 ?_
      refine z_imul dX9_grows_88 ?_
      refine z_sipush (v := 2000) dX9_grows_89 (by decide) ?_
      refine z_idiv dX9_grows_92 (by decide) ?_
      refine z_iadd dX9_grows_93 ?_
      refine z_iast dX9_grows_94 hA hKA (zvin (by omega) (by omega)) ?_
      refine z_iinc dX9_grows_95 hl5 rfl ?_
      refine z_goto 23 dX9_grows_98 (by decide) ?_
      rw [zinc]
      exact ih (j + 1) (by omega) (by omega) _ _ (by rw [zcl (by omega)]; exact mgI_s I A warm wet j) hl0 hl1 hl2 hl3 hl4 rfl
    · skip
      refine z_aload_n (i := 1) dX9_grows_41 rfl hl1 ?_
      refine z_iload dX9_grows_42 hl5 ?_
      refine z_iald dX9_grows_44 hA hKA (zvin (by omega) (by omega)) ?_
      rw [zcl (by omega), mgI_at]
      refine z_bipush (v := 10) dX9_grows_45 (by decide) ?_
      refine z_icmp_le 60 dX9_grows_47 (by decide) (fun c_3 => ?_) (fun c_3 => ?_)
      · skip
        refine z_iconst (v := 0) dX9_grows_60 (by decide) ?_
        refine z_goto 68 dX9_grows_61 (by decide) ?_
        try rw [zcl (by omega), mgI_at]
        refine z_topi (fun w hw => ?_)
        have e2 : w = (if wet < 9 then I A j else if I A j ≤ 10 then 0 else I A j - 10) := by rw [hw]; simp [*]
        subst e2
        refine z_istore (i := 6) dX9_grows_68 (by decide) rfl ?_
        refine z_aload_n (i := 1) dX9_grows_70 rfl hl1 ?_
        refine z_iload dX9_grows_71 hl5 ?_
        refine z_iload dX9_grows_73 rfl ?_
        refine z_sipush (v := 1000) dX9_grows_75 (by decide) ?_
        refine z_iload dX9_grows_78 rfl ?_
        refine z_isub dX9_grows_80 ?_
        refine z_iload_n (i := 2) dX9_grows_81 rfl hl2 ?_
        refine z_imul dX9_grows_82 ?_
        refine z_bipush (v := 10) dX9_grows_83 (by decide) ?_
        refine z_iload dX9_grows_85 hl4 ?_
        refine z_isub dX9_grows_87 ?_
        refine z_imul dX9_grows_88 ?_
        refine z_sipush (v := 2000) dX9_grows_89 (by decide) ?_
        refine z_idiv dX9_grows_92 (by decide) ?_
        refine z_iadd dX9_grows_93 ?_
        refine z_iast dX9_grows_94 hA hKA (zvin (by omega) (by omega)) ?_
        refine z_iinc dX9_grows_95 hl5 rfl ?_
        refine z_goto 23 dX9_grows_98 (by decide) ?_
        rw [zinc]
        exact ih (j + 1) (by omega) (by omega) _ _ (by rw [zcl (by omega)]; exact mgI_s I A warm wet j) hl0 hl1 hl2 hl3 hl4 rfl
      · skip
        refine z_aload_n (i := 1) dX9_grows_50 rfl hl1 ?_
        refine z_iload dX9_grows_51 hl5 ?_
        refine z_iald dX9_grows_53 hA hKA (zvin (by omega) (by omega)) ?_
        rw [zcl (by omega), mgI_at]
        refine z_bipush (v := 10) dX9_grows_54 (by decide) ?_
        refine z_isub dX9_grows_56 ?_
        refine z_goto 68 dX9_grows_57 (by decide) ?_
        try rw [zcl (by omega), mgI_at]
        refine z_topi (fun w hw => ?_)
        have e2 : w = (if wet < 9 then I A j else if I A j ≤ 10 then 0 else I A j - 10) := by rw [hw]; simp [*]
        subst e2
        refine z_istore (i := 6) dX9_grows_68 (by decide) rfl ?_
        refine z_aload_n (i := 1) dX9_grows_70 rfl hl1 ?_
        refine z_iload dX9_grows_71 hl5 ?_
        refine z_iload dX9_grows_73 rfl ?_
        refine z_sipush (v := 1000) dX9_grows_75 (by decide) ?_
        refine z_iload dX9_grows_78 rfl ?_
        refine z_isub dX9_grows_80 ?_
        refine z_iload_n (i := 2) dX9_grows_81 rfl hl2 ?_
        refine z_imul dX9_grows_82 ?_
        refine z_bipush (v := 10) dX9_grows_83 (by decide) ?_
        refine z_iload dX9_grows_85 hl4 ?_
        refine z_isub dX9_grows_87 ?_
        refine z_imul dX9_grows_88 ?_
        refine z_sipush (v := 2000) dX9_grows_89 (by decide) ?_
        refine z_idiv dX9_grows_92 (by decide) ?_
        refine z_iadd dX9_grows_93 ?_
        refine z_iast dX9_grows_94 hA hKA (zvin (by omega) (by omega)) ?_
        refine z_iinc dX9_grows_95 hl5 rfl ?_
        refine z_goto 23 dX9_grows_98 (by decide) ?_
        rw [zinc]
        exact ih (j + 1) (by omega) (by omega) _ _ (by rw [zcl (by omega)]; exact mgI_s I A warm wet j) hl0 hl1 hl2 hl3 hl4 rfl
set_option maxHeartbeats 4000000 in
theorem c9_grows (I : Nat → Nat → Int32) (L : Nat → Nat → Int64) (A P : Nat) (warm wet : Int32) (hA : A < 35) (hA0 : A ≠ 0) (hKA : mK A = (0, 144)) (hP : P ≤ 6) (h24 : I 0 24 = nI P) : Zm yX9_grows cX9_grows 7 none 0 0 0 0 [.ref 0, .ref A, .int warm, .int wet] (mh I L) (mQ none (mgI I A warm wet (24 * P)) L) := by
  refine Zm_of (lg := false) (by decide) (fun _ => by simp [Value.category]) (fun _ => Nat.le_of_ble_eq_true rfl) ?_
  show Zf x9_grows 0 0 0 (zargs [.ref 0, .ref A, .int warm, .int wet]) [] (mh I L) _
  refine z_iload_n (i := 3) dX9_grows_0 rfl rfl ?_
  refine z_iconst (v := 5) dX9_grows_1 (by decide) ?_
  refine z_icmp_le 13 dX9_grows_2 (by decide) (fun c_1 => ?_) (fun c_1 => ?_)
  · skip
    refine z_iconst (v := 2) dX9_grows_13 (by decide) ?_
    refine z_iconst (v := 5) dX9_grows_14 (by decide) ?_
    refine z_iload_n (i := 3) dX9_grows_15 rfl rfl ?_
    refine z_isub dX9_grows_16 ?_
    refine z_imul dX9_grows_17 ?_
    refine z_topi (fun w hw => ?_)
    have e2 : w = (if wet ≤ 5 then 2 * (5 - wet) else 2 * (wet - 5)) := by rw [hw]; simp [*]
    subst e2
    refine z_istore (i := 4) dX9_grows_18 (by decide) rfl ?_
    refine z_iconst (v := 0) dX9_grows_20 (by decide) ?_
    refine z_istore (i := 5) dX9_grows_21 (by decide) rfl ?_
    exact l9_grows (P := P) (warm := warm) (wet := wet) hA hA0 hKA hP h24 ⟨rfl, rfl⟩ (24 * P + 1) 0 (by omega) (by omega) _ _ (mgI_0 _ _ _ _).symm rfl rfl rfl rfl rfl rfl
  · skip
    refine z_iconst (v := 2) dX9_grows_5 (by decide) ?_
    refine z_iload_n (i := 3) dX9_grows_6 rfl rfl ?_
    refine z_iconst (v := 5) dX9_grows_7 (by decide) ?_
    refine z_isub dX9_grows_8 ?_
    refine z_imul dX9_grows_9 ?_
    refine z_goto 18 dX9_grows_10 (by decide) ?_
    refine z_topi (fun w hw => ?_)
    have e2 : w = (if wet ≤ 5 then 2 * (5 - wet) else 2 * (wet - 5)) := by rw [hw]; simp [*]
    subst e2
    refine z_istore (i := 4) dX9_grows_18 (by decide) rfl ?_
    refine z_iconst (v := 0) dX9_grows_20 (by decide) ?_
    refine z_istore (i := 5) dX9_grows_21 (by decide) rfl ?_
    exact l9_grows (P := P) (warm := warm) (wet := wet) hA hA0 hKA hP h24 ⟨rfl, rfl⟩ (24 * P + 1) 0 (by omega) (by omega) _ _ (mgI_0 _ _ _ _).symm rfl rfl rfl rfl rfl rfl
abbrev x9_isGone : ZX := (RX9, cX9_isGone, 2, (some .boolean), "isGone", 0, 0, false)
set_option maxHeartbeats 4000000 in
theorem c9_isGone (I : Nat → Nat → Int32) (L : Nat → Nat → Int64) (w : Int32) : Zm yX9_isGone cX9_isGone 2 (some .boolean) 0 0 0 0 [.ref 0, .int w] (mh I L) (mQ (some (.int (if w < 0 then 1 else if 50 < w then 1 else if I 0 34 < 7 * (w + 1) then 0 else 1))) I L) := by
  refine Zm_of (lg := false) (by decide) (fun _ => by simp [Value.category]) (fun _ => Nat.le_of_ble_eq_true rfl) ?_
  show Zf x9_isGone 0 0 0 (zargs [.ref 0, .int w]) [] (mh I L) _
  refine z_iload_n (i := 1) dX9_isGone_0 rfl rfl ?_
  refine z_if_lt 23 dX9_isGone_1 (by decide) (fun c_1 => ?_) (fun c_1 => ?_)
  · skip
    refine z_iconst (v := 1) dX9_isGone_23 (by decide) ?_
    refine z_goto 28 dX9_isGone_24 (by decide) ?_
    refine z_zret dX9_isGone_28 rfl (by decide) ?_
    exact ⟨by simp [*], by simp [*]⟩
  · skip
    refine z_iload_n (i := 1) dX9_isGone_4 rfl rfl ?_
    refine z_bipush (v := 50) dX9_isGone_5 (by decide) ?_
    refine z_icmp_gt 23 dX9_isGone_7 (by decide) (fun c_2 => ?_) (fun c_2 => ?_)
    · skip
      refine z_iconst (v := 1) dX9_isGone_23 (by decide) ?_
      refine z_goto 28 dX9_isGone_24 (by decide) ?_
      refine z_zret dX9_isGone_28 rfl (by decide) ?_
      exact ⟨by simp [*], by simp [*]⟩
    · skip
      refine z_bipush (v := 7) dX9_isGone_10 (by decide) ?_
      refine z_iload_n (i := 1) dX9_isGone_12 rfl rfl ?_
      refine z_iconst (v := 1) dX9_isGone_13 (by decide) ?_
      refine z_iadd dX9_isGone_14 ?_
      refine z_imul dX9_isGone_15 ?_
      refine z_aload_n (i := 0) dX9_isGone_16 rfl rfl ?_
      refine z_gI zf9_239.g dX9_isGone_17 (by decide) rfl ?_
      refine z_icmp_gt 27 dX9_isGone_20 (by decide) (fun c_3 => ?_) (fun c_3 => ?_)
      · skip
        refine z_iconst (v := 0) dX9_isGone_27 (by decide) ?_
        refine z_zret dX9_isGone_28 rfl (by decide) ?_
        exact ⟨by simp [*], by simp [*]⟩
      · skip
        refine z_iconst (v := 1) dX9_isGone_23 (by decide) ?_
        refine z_goto 28 dX9_isGone_24 (by decide) ?_
        refine z_zret dX9_isGone_28 rfl (by decide) ?_
        exact ⟨by simp [*], by simp [*]⟩
abbrev x9_isThere : ZX := (RX9, cX9_isThere, 2, (some .boolean), "isThere", 0, 0, false)
set_option maxHeartbeats 4000000 in
theorem c9_isThere (I : Nat → Nat → Int32) (L : Nat → Nat → Int64) (g : Nat) (hg : g < 60) : Zm yX9_isThere cX9_isThere 2 (some .boolean) 0 0 0 0 [.ref 0, .int (nI g)] (mh I L) (mQ (some (.int (zb (mth I g)))) I L) := by
  refine Zm_of (lg := false) (by decide) (fun _ => by simp [Value.category]) (fun _ => Nat.le_of_ble_eq_true rfl) ?_
  show Zf x9_isThere 0 0 0 (zargs [.ref 0, .int (nI g)]) [] (mh I L) _
  refine z_aload_n (i := 0) dX9_isThere_0 rfl rfl ?_
  refine z_gR zf9_125.g dX9_isThere_1 (by decide) rfl rfl ?_
  refine z_iload_n (i := 1) dX9_isThere_4 rfl rfl ?_
  refine z_iald dX9_isThere_5 (by decide) rfl (zvin (by omega) (by omega)) ?_
  rw [zcl (by omega)]
  refine z_iconst (v := 1) dX9_isThere_6 (by decide) ?_
  refine z_icmp_eq 20 dX9_isThere_7 (by decide) (fun c_1 => ?_) (fun c_1 => ?_)
  · skip
    refine z_iconst (v := 1) dX9_isThere_20 (by decide) ?_
    refine z_goto 25 dX9_isThere_21 (by decide) ?_
    refine z_zret dX9_isThere_25 rfl (by decide) ?_
    exact ⟨by simp [mth, zb, *], rfl⟩
  · skip
    refine z_aload_n (i := 0) dX9_isThere_10 rfl rfl ?_
    refine z_gR zf9_125.g dX9_isThere_11 (by decide) rfl rfl ?_
    refine z_iload_n (i := 1) dX9_isThere_14 rfl rfl ?_
    refine z_iald dX9_isThere_15 (by decide) rfl (zvin (by omega) (by omega)) ?_
    rw [zcl (by omega)]
    refine z_iconst (v := 2) dX9_isThere_16 (by decide) ?_
    refine z_icmp_ne 24 dX9_isThere_17 (by decide) (fun c_2 => ?_) (fun c_2 => ?_)
    · skip
      refine z_iconst (v := 0) dX9_isThere_24 (by decide) ?_
      refine z_zret dX9_isThere_25 rfl (by decide) ?_
      exact ⟨by simp [mth, zb, *], rfl⟩
    · skip
      refine z_iconst (v := 1) dX9_isThere_20 (by decide) ?_
      refine z_goto 25 dX9_isThere_21 (by decide) ?_
      refine z_zret dX9_isThere_25 rfl (by decide) ?_
      exact ⟨by simp [mth, zb, *], rfl⟩
abbrev x9_hasClub : ZX := (RX9, cX9_hasClub, 3, (some .boolean), "hasClub", 0, 0, false)
set_option maxHeartbeats 4000000 in
theorem c9_hasClub (I : Nat → Nat → Int32) (L : Nat → Nat → Int64) (g : Nat) (c : Int32) (hg : g < 60) : Zm yX9_hasClub cX9_hasClub 3 (some .boolean) 0 0 0 0 [.ref 0, .int (nI g), .int c] (mh I L) (mQ (some (.int (zb (mhc I g c)))) I L) := by
  refine Zm_of (lg := false) (by decide) (fun _ => by simp [Value.category]) (fun _ => Nat.le_of_ble_eq_true rfl) ?_
  show Zf x9_hasClub 0 0 0 (zargs [.ref 0, .int (nI g), .int c]) [] (mh I L) _
  refine z_aload_n (i := 0) dX9_hasClub_0 rfl rfl ?_
  refine z_gR zf9_107.g dX9_hasClub_1 (by decide) rfl rfl ?_
  refine z_iload_n (i := 1) dX9_hasClub_4 rfl rfl ?_
  refine z_iald dX9_hasClub_5 (by decide) rfl (zvin (by omega) (by omega)) ?_
  rw [zcl (by omega)]
  refine z_iload_n (i := 2) dX9_hasClub_6 rfl rfl ?_
  refine z_icmp_eq 20 dX9_hasClub_7 (by decide) (fun c_1 => ?_) (fun c_1 => ?_)
  · skip
    refine z_iconst (v := 1) dX9_hasClub_20 (by decide) ?_
    refine z_goto 25 dX9_hasClub_21 (by decide) ?_
    refine z_zret dX9_hasClub_25 rfl (by decide) ?_
    exact ⟨by simp [mhc, zb, *], rfl⟩
  · skip
    refine z_aload_n (i := 0) dX9_hasClub_10 rfl rfl ?_
    refine z_gR zf9_110.g dX9_hasClub_11 (by decide) rfl rfl ?_
    refine z_iload_n (i := 1) dX9_hasClub_14 rfl rfl ?_
    refine z_iald dX9_hasClub_15 (by decide) rfl (zvin (by omega) (by omega)) ?_
    rw [zcl (by omega)]
    refine z_iload_n (i := 2) dX9_hasClub_16 rfl rfl ?_
    refine z_icmp_ne 24 dX9_hasClub_17 (by decide) (fun c_2 => ?_) (fun c_2 => ?_)
    · skip
      refine z_iconst (v := 0) dX9_hasClub_24 (by decide) ?_
      refine z_zret dX9_hasClub_25 rfl (by decide) ?_
      exact ⟨by simp [mhc, zb, *], rfl⟩
    · skip
      refine z_iconst (v := 1) dX9_hasClub_20 (by decide) ?_
      refine z_goto 25 dX9_hasClub_21 (by decide) ?_
      refine z_zret dX9_hasClub_25 rfl (by decide) ?_
      exact ⟨by simp [mhc, zb, *], rfl⟩
abbrev x9_gameAt : ZX := (RX9, cX9_gameAt, 4, (some .int), "gameAt", 1, 40, false)
set_option maxHeartbeats 4000000 in
theorem l9_gameAt {I : Nat → Nat → Int32} {L : Nat → Nat → Int64} {Q : Option Value → ZH → Prop} {G : Nat} {s : Int32} (hG : G ≤ 60) (h35 : I 0 35 = nI G) (hQ : Q (some (.int (mga I s G))) (mh I L)) : ∀ (m j : Nat), G - j < m → j ≤ G → ∀ ls : Nat → Option Value, ls 0 = some (.ref 0) → ls 1 = some (.int s) → ls 2 = some (.int (mga I s j)) → ls 3 = some (.int (nI j)) → Zf x9_gameAt 0 0 4 ls [] (mh I L) Q := by
  intro m
  induction m with
  | zero => intro j h; omega
  | succ m ih =>
  intro j hm hj ls hl0 hl1 hl2 hl3
  refine z_iload_n (i := 3) dX9_gameAt_4 rfl hl3 ?_
  refine z_aload_n (i := 0) dX9_gameAt_5 rfl hl0 ?_
  refine z_gI zf9_253.g dX9_gameAt_6 (by decide) rfl ?_
  rw [h35]
  refine z_icmp_ge 42 dX9_gameAt_9 (by decide) (fun c_1 => ?_) (fun c_1 => ?_)
  · skip
    have h1 := (zle (by omega) (by omega)).mp c_1
    have h2 : j = G := by omega
    subst h2
    refine z_iload_n (i := 2) dX9_gameAt_42 rfl hl2 ?_
    refine z_iret dX9_gameAt_43 rfl ?_
    exact hQ
  · skip
    have h1 : ¬ G ≤ j := fun q => c_1 ((zle (by omega) (by omega)).mpr q)
    refine z_aload_n (i := 0) dX9_gameAt_12 rfl hl0 ?_
    refine z_iload_n (i := 3) dX9_gameAt_13 rfl hl3 ?_
    refine z_callV (st := []) (mc2 := 0) (ms2 := 0) zi9_256 zv_yX9_isThere (c9_isThere _ _ _ (by omega)) dX9_gameAt_14 (show (0 : Nat) < 35 by decide) rfl rfl rfl rfl (by decide) (by decide) (Nat.le_of_ble_eq_true rfl) (by decide) (by decide) (fun r h2 hq => ?_)
    obtain ⟨rfl, rfl⟩ := hq
    refine z_if_eq 34 dX9_gameAt_17 (by decide) (fun c_2 => ?_) (fun c_2 => ?_)
    · skip
      refine z_iload_n (i := 2) dX9_gameAt_34 rfl hl2 ?_
      refine z_istore_n (i := 2) dX9_gameAt_35 rfl (by decide) rfl ?_
      refine z_iinc dX9_gameAt_36 hl3 rfl ?_
      refine z_goto 4 dX9_gameAt_39 (by decide) ?_
      rw [zinc]
      refine ih (j + 1) (by omega) (by omega) _ hl0 hl1 ?_ rfl
      simp_all [mga, zb_0, va_up]
    · skip
      refine z_aload_n (i := 0) dX9_gameAt_20 rfl hl0 ?_
      refine z_gR zf9_128.g dX9_gameAt_21 (by decide) rfl rfl ?_
      refine z_iload_n (i := 3) dX9_gameAt_24 rfl hl3 ?_
      refine z_iald dX9_gameAt_25 (by decide) rfl (zvin (by omega) (by omega)) ?_
      rw [zcl (by omega)]
      refine z_iload_n (i := 1) dX9_gameAt_26 rfl hl1 ?_
      refine z_icmp_ne 34 dX9_gameAt_27 (by decide) (fun c_3 => ?_) (fun c_3 => ?_)
      · skip
        refine z_iload_n (i := 2) dX9_gameAt_34 rfl hl2 ?_
        refine z_istore_n (i := 2) dX9_gameAt_35 rfl (by decide) rfl ?_
        refine z_iinc dX9_gameAt_36 hl3 rfl ?_
        refine z_goto 4 dX9_gameAt_39 (by decide) ?_
        rw [zinc]
        refine ih (j + 1) (by omega) (by omega) _ hl0 hl1 ?_ rfl
        simp_all [mga, zb_0, va_up]
      · skip
        refine z_iload_n (i := 3) dX9_gameAt_30 rfl hl3 ?_
        refine z_goto 35 dX9_gameAt_31 (by decide) ?_
        refine z_istore_n (i := 2) dX9_gameAt_35 rfl (by decide) rfl ?_
        refine z_iinc dX9_gameAt_36 hl3 rfl ?_
        refine z_goto 4 dX9_gameAt_39 (by decide) ?_
        rw [zinc]
        refine ih (j + 1) (by omega) (by omega) _ hl0 hl1 ?_ rfl
        simp_all [mga, zb_0, va_up]
set_option maxHeartbeats 4000000 in
theorem c9_gameAt (I : Nat → Nat → Int32) (L : Nat → Nat → Int64) (G : Nat) (s : Int32) (hG : G ≤ 60) (h35 : I 0 35 = nI G) : Zm yX9_gameAt cX9_gameAt 4 (some .int) 1 40 0 0 [.ref 0, .int s] (mh I L) (mQ (some (.int (mga I s G))) I L) := by
  refine Zm_of (lg := false) (by decide) (fun _ => by simp [Value.category]) (fun _ => Nat.le_of_ble_eq_true rfl) ?_
  show Zf x9_gameAt 0 0 0 (zargs [.ref 0, .int s]) [] (mh I L) _
  refine z_iconst (v := (-1)) dX9_gameAt_0 (by decide) ?_
  refine z_istore_n (i := 2) dX9_gameAt_1 rfl (by decide) rfl ?_
  refine z_iconst (v := 0) dX9_gameAt_2 (by decide) ?_
  refine z_istore_n (i := 3) dX9_gameAt_3 rfl (by decide) rfl ?_
  exact l9_gameAt hG h35 ⟨rfl, rfl⟩ (G + 1) 0 (by omega) (by omega) _ rfl rfl rfl rfl
abbrev x9_suits : ZX := (RX9, cX9_suits, 5, (some .boolean), "suits", 2, 80, false)
set_option maxHeartbeats 4000000 in
theorem l9_suits {I : Nat → Nat → Int32} {L : Nat → Nat → Int64} {Q : Option Value → ZH → Prop} {G g S : Nat} (hG : G ≤ 60) (hg : g < G) (h35 : I 0 35 = nI G) (hQ : Q (some (.int (zb (mfr I g (nI S) G)))) (mh I L)) : ∀ (m j : Nat), G - j < m → j ≤ G → ∀ ls : Nat → Option Value, ls 0 = some (.ref 0) → ls 1 = some (.int (nI g)) → ls 2 = some (.int (nI S)) → ls 3 = some (.int (zb (mfr I g (nI S) j))) → ls 4 = some (.int (nI j)) → Zf x9_suits 0 0 33 ls [] (mh I L) Q := by
  intro m
  induction m with
  | zero => intro j h; omega
  | succ m ih =>
  intro j hm hj ls hl0 hl1 hl2 hl3 hl4
  refine z_iload dX9_suits_33 hl4 ?_
  refine z_aload_n (i := 0) dX9_suits_35 rfl hl0 ?_
  refine z_gI zf9_253.g dX9_suits_36 (by decide) rfl ?_
  rw [h35]
  refine z_icmp_ge 120 dX9_suits_39 (by decide) (fun c_1 => ?_) (fun c_1 => ?_)
  · skip
    have h1 := (zle (by omega) (by omega)).mp c_1
    have h2 : j = G := by omega
    subst h2
    refine z_iload_n (i := 3) dX9_suits_120 rfl hl3 ?_
    refine z_zret dX9_suits_121 rfl (zb_or _) ?_
    exact hQ
  · skip
    have h1 : ¬ G ≤ j := fun q => c_1 ((zle (by omega) (by omega)).mpr q)
    refine z_iload dX9_suits_42 hl4 ?_
    refine z_iload_n (i := 1) dX9_suits_44 rfl hl1 ?_
    skip
    refine z_icmp_eq 114 dX9_suits_45 (by decide) (fun c_2 => ?_) (fun c_2 => ?_)
    · skip
      refine z_iinc dX9_suits_114 hl4 rfl ?_
      refine z_goto 33 dX9_suits_117 (by decide) ?_
      rw [zinc]
      refine ih (j + 1) (by omega) (by omega) _ hl0 hl1 hl2 ?_ rfl
      simp_all [mfr, zb_0, va_up, zeq (show j ≤ 1000000 by omega) (show g ≤ 1000000 by omega), zb]
    · skip
      refine z_aload_n (i := 0) dX9_suits_48 rfl hl0 ?_
      refine z_iload dX9_suits_49 hl4 ?_
      refine z_callV (st := []) (mc2 := 0) (ms2 := 0) zi9_256 zv_yX9_isThere (c9_isThere _ _ _ (by omega)) dX9_suits_51 (show (0 : Nat) < 35 by decide) rfl rfl rfl rfl (by decide) (by decide) (Nat.le_of_ble_eq_true rfl) (by decide) (by decide) (fun r h2 hq => ?_)
      obtain ⟨rfl, rfl⟩ := hq
      refine z_if_eq 114 dX9_suits_54 (by decide) (fun c_3 => ?_) (fun c_3 => ?_)
      · skip
        refine z_iinc dX9_suits_114 hl4 rfl ?_
        refine z_goto 33 dX9_suits_117 (by decide) ?_
        rw [zinc]
        refine ih (j + 1) (by omega) (by omega) _ hl0 hl1 hl2 ?_ rfl
        simp_all [mfr, zb_0, va_up, zeq (show j ≤ 1000000 by omega) (show g ≤ 1000000 by omega), zb]
      · skip
        refine z_aload_n (i := 0) dX9_suits_57 rfl hl0 ?_
        refine z_gR zf9_128.g dX9_suits_58 (by decide) rfl rfl ?_
        refine z_iload dX9_suits_61 hl4 ?_
        refine z_iald dX9_suits_63 (by decide) rfl (zvin (by omega) (by omega)) ?_
        rw [zcl (by omega)]
        refine z_bipush (v := 24) dX9_suits_64 (by decide) ?_
        refine z_idiv dX9_suits_66 (by decide) ?_
        refine z_iload_n (i := 2) dX9_suits_67 rfl hl2 ?_
        refine z_bipush (v := 24) dX9_suits_68 (by decide) ?_
        refine z_idiv dX9_suits_70 (by decide) ?_
        refine z_icmp_ne 114 dX9_suits_71 (by decide) (fun c_4 => ?_) (fun c_4 => ?_)
        · skip
          refine z_iinc dX9_suits_114 hl4 rfl ?_
          refine z_goto 33 dX9_suits_117 (by decide) ?_
          rw [zinc]
          refine ih (j + 1) (by omega) (by omega) _ hl0 hl1 hl2 ?_ rfl
          simp_all [mfr, zb_0, va_up, zeq (show j ≤ 1000000 by omega) (show g ≤ 1000000 by omega), zb]
        · skip
          refine z_iload_n (i := 3) dX9_suits_74 rfl hl3 ?_
          refine z_if_eq 112 dX9_suits_75 (by decide) (fun c_5 => ?_) (fun c_5 => ?_)
          · skip
            refine z_iconst (v := 0) dX9_suits_112 (by decide) ?_
            refine z_istore_n (i := 3) dX9_suits_113 rfl (by decide) rfl ?_
            refine z_iinc dX9_suits_114 hl4 rfl ?_
            refine z_goto 33 dX9_suits_117 (by decide) ?_
            rw [zinc]
            refine ih (j + 1) (by omega) (by omega) _ hl0 hl1 hl2 ?_ rfl
            simp_all [mfr, zb_0, va_up, zeq (show j ≤ 1000000 by omega) (show g ≤ 1000000 by omega), zb]
          · skip
            refine z_aload_n (i := 0) dX9_suits_78 rfl hl0 ?_
            refine z_iload dX9_suits_79 hl4 ?_
            refine z_aload_n (i := 0) dX9_suits_81 rfl hl0 ?_
            refine z_gR zf9_107.g dX9_suits_82 (by decide) rfl rfl ?_
            refine z_iload_n (i := 1) dX9_suits_85 rfl hl1 ?_
            refine z_iald dX9_suits_86 (by decide) rfl (zvin (by omega) (by omega)) ?_
            rw [zcl (by omega)]
            refine z_callV (st := []) (mc2 := 0) (ms2 := 0) zi9_262 zv_yX9_hasClub (c9_hasClub _ _ _ _ (by omega)) dX9_suits_87 (show (0 : Nat) < 35 by decide) rfl rfl rfl rfl (by decide) (by decide) (Nat.le_of_ble_eq_true rfl) (by decide) (by decide) (fun r h2 hq => ?_)
            obtain ⟨rfl, rfl⟩ := hq
            refine z_if_ne 112 dX9_suits_90 (by decide) (fun c_6 => ?_) (fun c_6 => ?_)
            · skip
              refine z_iconst (v := 0) dX9_suits_112 (by decide) ?_
              refine z_istore_n (i := 3) dX9_suits_113 rfl (by decide) rfl ?_
              refine z_iinc dX9_suits_114 hl4 rfl ?_
              refine z_goto 33 dX9_suits_117 (by decide) ?_
              rw [zinc]
              refine ih (j + 1) (by omega) (by omega) _ hl0 hl1 hl2 ?_ rfl
              simp_all [mfr, zb_0, va_up, zeq (show j ≤ 1000000 by omega) (show g ≤ 1000000 by omega), zb]
            · skip
              refine z_aload_n (i := 0) dX9_suits_93 rfl hl0 ?_
              refine z_iload dX9_suits_94 hl4 ?_
              refine z_aload_n (i := 0) dX9_suits_96 rfl hl0 ?_
              refine z_gR zf9_110.g dX9_suits_97 (by decide) rfl rfl ?_
              refine z_iload_n (i := 1) dX9_suits_100 rfl hl1 ?_
              refine z_iald dX9_suits_101 (by decide) rfl (zvin (by omega) (by omega)) ?_
              rw [zcl (by omega)]
              refine z_callV (st := []) (mc2 := 0) (ms2 := 0) zi9_262 zv_yX9_hasClub (c9_hasClub _ _ _ _ (by omega)) dX9_suits_102 (show (0 : Nat) < 35 by decide) rfl rfl rfl rfl (by decide) (by decide) (Nat.le_of_ble_eq_true rfl) (by decide) (by decide) (fun r h2 hq => ?_)
              obtain ⟨rfl, rfl⟩ := hq
              refine z_if_ne 112 dX9_suits_105 (by decide) (fun c_7 => ?_) (fun c_7 => ?_)
              · skip
                refine z_iconst (v := 0) dX9_suits_112 (by decide) ?_
                refine z_istore_n (i := 3) dX9_suits_113 rfl (by decide) rfl ?_
                refine z_iinc dX9_suits_114 hl4 rfl ?_
                refine z_goto 33 dX9_suits_117 (by decide) ?_
                rw [zinc]
                refine ih (j + 1) (by omega) (by omega) _ hl0 hl1 hl2 ?_ rfl
                simp_all [mfr, zb_0, va_up, zeq (show j ≤ 1000000 by omega) (show g ≤ 1000000 by omega), zb]
              · skip
                refine z_iconst (v := 1) dX9_suits_108 (by decide) ?_
                refine z_goto 113 dX9_suits_109 (by decide) ?_
                refine z_istore_n (i := 3) dX9_suits_113 rfl (by decide) rfl ?_
                refine z_iinc dX9_suits_114 hl4 rfl ?_
                refine z_goto 33 dX9_suits_117 (by decide) ?_
                rw [zinc]
                refine ih (j + 1) (by omega) (by omega) _ hl0 hl1 hl2 ?_ rfl
                simp_all [mfr, zb_0, va_up, zeq (show j ≤ 1000000 by omega) (show g ≤ 1000000 by omega), zb]
set_option maxHeartbeats 4000000 in
theorem c9_suits (I : Nat → Nat → Int32) (L : Nat → Nat → Int64) (G g S : Nat) (hG : G ≤ 60) (hg : g < G) (hS : S ≤ 100000) (h35 : I 0 35 = nI G) : Zm yX9_suits cX9_suits 5 (some .boolean) 2 80 0 0 [.ref 0, .int (nI g), .int (nI S)] (mh I L) (mQ (some (.int (zb (msu I G g S)))) I L) := by
  refine Zm_of (lg := false) (by decide) (fun _ => by simp [Value.category]) (fun _ => Nat.le_of_ble_eq_true rfl) ?_
  show Zf x9_suits 0 0 0 (zargs [.ref 0, .int (nI g), .int (nI S)]) [] (mh I L) _
  refine z_aload_n (i := 0) dX9_suits_0 rfl rfl ?_
  refine z_gR zf9_80.g dX9_suits_1 (by decide) rfl rfl ?_
  refine z_iload_n (i := 2) dX9_suits_4 rfl rfl ?_
  refine z_bipush (v := 6) dX9_suits_5 (by decide) ?_
  refine z_irem dX9_suits_7 (by decide) ?_
  rw [zl6, zrem (by omega) (by omega) (by omega)]
  refine z_iald dX9_suits_8 (by decide) rfl (zvin (by omega) (by omega)) ?_
  rw [zcl (by omega)]
  refine z_aload_n (i := 0) dX9_suits_9 rfl rfl ?_
  refine z_gR zf9_113.g dX9_suits_10 (by decide) rfl rfl ?_
  refine z_iload_n (i := 1) dX9_suits_13 rfl rfl ?_
  refine z_iald dX9_suits_14 (by decide) rfl (zvin (by omega) (by omega)) ?_
  rw [zcl (by omega)]
  refine z_icmp_lt 26 dX9_suits_15 (by decide) (fun c_1 => ?_) (fun c_1 => ?_)
  · skip
    refine z_iconst (v := 0) dX9_suits_26 (by decide) ?_
    refine z_zret dX9_suits_27 rfl (by decide) ?_
    exact ⟨by first | (simp_all [msu, zb]; done) | (simp_all [msu, zb]; intro h; exact absurd h (Int32.not_lt.mpr (by assumption))), rfl⟩
  · skip
    refine z_aload_n (i := 0) dX9_suits_18 rfl rfl ?_
    refine z_iload_n (i := 2) dX9_suits_19 rfl rfl ?_
    refine z_callV (st := []) (mc2 := 0) (ms2 := 0) zi9_259 zv_yX9_gameAt (c9_gameAt _ _ _ _ hG h35) dX9_suits_20 (show (0 : Nat) < 35 by decide) rfl rfl rfl rfl (by decide) (by decide) (Nat.le_of_ble_eq_true rfl) (by decide) (by decide) (fun r h2 hq => ?_)
    obtain ⟨rfl, rfl⟩ := hq
    refine z_if_lt 28 dX9_suits_23 (by decide) (fun c_2 => ?_) (fun c_2 => ?_)
    · skip
      refine z_iconst (v := 1) dX9_suits_28 (by decide) ?_
      refine z_istore_n (i := 3) dX9_suits_29 rfl (by decide) rfl ?_
      refine z_iconst (v := 0) dX9_suits_30 (by decide) ?_
      refine z_istore (i := 4) dX9_suits_31 (by decide) rfl ?_
      refine l9_suits hG hg h35 ⟨?_, rfl⟩ (G + 1) 0 (by omega) (by omega) _ rfl rfl rfl rfl rfl
      simp_all [msu, zb]
    · skip
      refine z_iconst (v := 0) dX9_suits_26 (by decide) ?_
      refine z_zret dX9_suits_27 rfl (by decide) ?_
      exact ⟨by first | (simp_all [msu, zb]; done) | (simp_all [msu, zb]; intro h; exact absurd h (Int32.not_lt.mpr (by assumption))), rfl⟩
abbrev x9_lays : ZX := (RX9, cX9_lays, 3, none, "lays", 0, 0, false)
set_option maxHeartbeats 4000000 in
theorem c9_lays (I : Nat → Nat → Int32) (L : Nat → Nat → Int64) (g : Nat) (s : Int32) (hg : g < 60) : Zm yX9_lays cX9_lays 3 none 0 0 0 0 [.ref 0, .int (nI g), .int s] (mh I L) (mQ none (zu (zu I 31 g 1) 32 g s) L) := by
  refine Zm_of (lg := false) (by decide) (fun _ => by simp [Value.category]) (fun _ => Nat.le_of_ble_eq_true rfl) ?_
  show Zf x9_lays 0 0 0 (zargs [.ref 0, .int (nI g), .int s]) [] (mh I L) _
  refine z_aload_n (i := 0) dX9_lays_0 rfl rfl ?_
  refine z_gR zf9_125.g dX9_lays_1 (by decide) rfl rfl ?_
  refine z_iload_n (i := 1) dX9_lays_4 rfl rfl ?_
  refine z_iconst (v := 1) dX9_lays_5 (by decide) ?_
  refine z_iast dX9_lays_6 (by decide) rfl (zvin (by omega) (by omega)) ?_
  refine z_aload_n (i := 0) dX9_lays_7 rfl rfl ?_
  refine z_gR zf9_128.g dX9_lays_8 (by decide) rfl rfl ?_
  refine z_iload_n (i := 1) dX9_lays_11 rfl rfl ?_
  refine z_iload_n (i := 2) dX9_lays_12 rfl rfl ?_
  refine z_iast dX9_lays_13 (by decide) rfl (zvin (by omega) (by omega)) ?_
  refine z_vret dX9_lays_14 rfl ?_
  exact ⟨rfl, by rw [zcl (by omega)]⟩
end
section
theorem mfP_S {I : Nat → Nat → Int32} {P G g : Nat} {wished : Bool} {but : Int32} {d h p : Nat} (hh : h < 4) (hp : p < 6) : mfP I P G g wished but (24 * d + 6 * h + p) = (decide (p < P) && (!wished || decide ((I 30 g >>> ((4 * nI (d % 7) + nI h) &&& 31)) &&& 1 = 1)) && decide (¬ nI (24 * d + 6 * h + p) = but) && msu I G g (24 * d + 6 * h + p)) := by
  unfold mfP
  rw [show (24 * d + 6 * h + p) % 6 = p by omega, show (24 * d + 6 * h + p) / 24 = d by omega, show (24 * d + 6 * h + p) / 6 % 4 = h by omega]
/-- from one hour to the next -/
theorem mfind_hour {I : Nat → Nat → Int32} {P G g W : Nat} {wished : Bool} {but V : Int32} {d h p : Nat} (hd : d < 7 * W + 7) (hh : h < 4) (hp : p ≤ 6) (hno : ∀ q, p ≤ q → q < 6 → mfP I P G g wished but (24 * d + 6 * h + q) = false) (hV : mfind (mfP I P G g wished but) (24 * d + 6 * h + p) (24 * (7 * W + 7) - (24 * d + 6 * h + p)) = V) : mfind (mfP I P G g wished but) (24 * d + 6 * (h + 1)) (24 * (7 * W + 7) - (24 * d + 6 * (h + 1))) = V := by
  rw [← hV, mfind_skip (6 - p) (24 * d + 6 * h + p) _ (fun S h1 h2 => by
    have := hno (S - (24 * d + 6 * h)) (by omega) (by omega)
    rwa [show 24 * d + 6 * h + (S - (24 * d + 6 * h)) = S by omega] at this) (by omega)]
  rw [show 24 * d + 6 * h + p + (6 - p) = 24 * d + 6 * (h + 1) by omega, show 24 * (7 * W + 7) - (24 * d + 6 * h + p) - (6 - p) = 24 * (7 * W + 7) - (24 * d + 6 * (h + 1)) by omega]
abbrev x9_firstSlot : ZX := (RX9, cX9_firstSlot, 11, (some .int), "firstSlot", 3, 120, false)
set_option maxHeartbeats 4000000 in
theorem l9_fsP {I : Nat → Nat → Int32} {L : Nat → Nat → Int64} {Q : Option Value → ZH → Prop} {P G g W d h : Nat} {wished : Bool} {but V : Int32} {ok : Bool} (hP : P ≤ 6) (hG : G ≤ 60) (hg : g < G) (hW : W ≤ 50) (h24 : I 0 24 = nI P) (h35 : I 0 35 = nI G) (h29 : I 29 g = nI W) (hQ : Q (some (.int V)) (mh I L)) (hd : d < 7 * W + 7) (hh : h < 4) (hok : ok = (!wished || decide ((I 30 g >>> ((4 * nI (d % 7) + nI h) &&& 31)) &&& 1 = 1))) (hx : mfind (mfP I P G g wished but) (24 * d + 6 * (h + 1)) (24 * (7 * W + 7) - (24 * d + 6 * (h + 1))) = V → ∀ ls : Nat → Option Value, ls 0 = some (.ref 0) → ls 1 = some (.int (nI g)) → ls 3 = some (.int (zb wished)) → ls 4 = some (.int but) → ls 6 = some (.int (nI d)) → ls 7 = some (.int (nI h)) → Zf x9_firstSlot 0 0 151 ls [] (mh I L) Q) : ∀ (m j : Nat), 6 - j < m → j ≤ P → mfind (mfP I P G g wished but) (24 * d + 6 * h + j) (24 * (7 * W + 7) - (24 * d + 6 * h + j)) = V → ∀ ls : Nat → Option Value, ls 0 = some (.ref 0) → ls 1 = some (.int (nI g)) → ls 3 = some (.int (zb wished)) → ls 4 = some (.int but) → ls 6 = some (.int (nI d)) → ls 7 = some (.int (nI h)) → ls 8 = some (.int (zb ok)) → ls 9 = some (.int (nI j)) → Zf x9_firstSlot 0 0 95 ls [] (mh I L) Q := by
  intro m
  induction m with
  | zero => intro j h; omega
  | succ m ih =>
  intro j hm hj hV ls hl0 hl1 hl3 hl4 hl6 hl7 hl8 hl9
  refine z_iload dX9_firstSlot_95 hl9 ?_
  refine z_aload_n (i := 0) dX9_firstSlot_97 rfl hl0 ?_
  refine z_gI zf9_236.g dX9_firstSlot_98 (by decide) rfl ?_
  rw [h24]
  refine z_icmp_ge 151 dX9_firstSlot_101 (by decide) (fun c_1 => ?_) (fun c_1 => ?_)
  · skip
    have h1 := (zle (by omega) (by omega)).mp c_1
    exact hx (mfind_hour hd hh (by omega) (fun q h2 h3 => by rw [mfP_S hh (by omega), decide_eq_false (show ¬ q < P by omega)]; simp) hV) _ hl0 hl1 hl3 hl4 hl6 hl7
  · skip
    have h1 : ¬ P ≤ j := fun q => c_1 ((zle (by omega) (by omega)).mpr q)
    have hS := mfP_S (I := I) (P := P) (G := G) (g := g) (wished := wished) (but := but) (d := d) (h := h) (p := j) hh (by omega)
    refine z_iload dX9_firstSlot_104 hl8 ?_
    refine z_if_eq 151 dX9_firstSlot_106 (by decide) (fun c_2 => ?_) (fun c_2 => ?_)
    · skip
      have hf := (zb_0 _).mp c_2
      exact hx (mfind_hour hd hh (by omega) (fun q h2 h3 => by rw [mfP_S hh (by omega), ← hok, hf]; simp) hV) _ hl0 hl1 hl3 hl4 hl6 hl7
    · skip
      refine z_bipush (v := 24) dX9_firstSlot_109 (by decide) ?_
      refine z_iload dX9_firstSlot_111 hl6 ?_
      refine z_imul dX9_firstSlot_113 ?_
      refine z_bipush (v := 6) dX9_firstSlot_114 (by decide) ?_
      refine z_iload dX9_firstSlot_116 hl7 ?_
      refine z_imul dX9_firstSlot_118 ?_
      refine z_iadd dX9_firstSlot_119 ?_
      refine z_iload dX9_firstSlot_120 hl9 ?_
      refine z_iadd dX9_firstSlot_122 ?_
      simp only [zl24, zl6, pk_mul, nI_add]
      refine z_istore (i := 10) dX9_firstSlot_123 (by decide) rfl ?_
      refine z_iload dX9_firstSlot_125 rfl ?_
      refine z_iload dX9_firstSlot_127 hl4 ?_
      refine z_icmp_eq 145 dX9_firstSlot_129 (by decide) (fun c_3 => ?_) (fun c_3 => ?_)
      · skip
        refine z_iinc dX9_firstSlot_145 hl9 rfl ?_
        refine z_goto 95 dX9_firstSlot_148 (by decide) ?_
        have hF : mfP I P G g wished but (24 * d + 6 * h + j) = false := by rw [hS]; simp [c_3]
        rw [mfind_miss hF (by omega)] at hV
        rw [zinc]
        exact ih (j + 1) (by omega) (by omega) (by rw [← hV]; congr 1) _ hl0 hl1 hl3 hl4 hl6 hl7 hl8 rfl
      · skip
        refine z_aload_n (i := 0) dX9_firstSlot_132 rfl hl0 ?_
        refine z_iload_n (i := 1) dX9_firstSlot_133 rfl hl1 ?_
        refine z_iload dX9_firstSlot_134 rfl ?_
        refine z_callV (st := []) (mc2 := 0) (ms2 := 0) zi9_266 zv_yX9_suits (c9_suits _ _ G g _ hG hg (by omega) h35) dX9_firstSlot_136 (show (0 : Nat) < 35 by decide) rfl rfl rfl rfl (by decide) (by decide) (Nat.le_of_ble_eq_true rfl) (by decide) (by decide) (fun r h2 hq => ?_)
        obtain ⟨rfl, rfl⟩ := hq
        refine z_if_eq 145 dX9_firstSlot_139 (by decide) (fun c_4 => ?_) (fun c_4 => ?_)
        · skip
          refine z_iinc dX9_firstSlot_145 hl9 rfl ?_
          refine z_goto 95 dX9_firstSlot_148 (by decide) ?_
          have hf := (zb_0 _).mp c_4
          have hF : mfP I P G g wished but (24 * d + 6 * h + j) = false := by rw [hS, hf]; simp
          rw [mfind_miss hF (by omega)] at hV
          rw [zinc]
          exact ih (j + 1) (by omega) (by omega) (by rw [← hV]; congr 1) _ hl0 hl1 hl3 hl4 hl6 hl7 hl8 rfl
        · skip
          refine z_iload dX9_firstSlot_142 rfl ?_
          refine z_iret dX9_firstSlot_144 rfl ?_
          have hb : msu I G g (24 * d + 6 * h + j) = true := (zb_n _).mp c_4
          have hS2 : mfP I P G g wished but (24 * d + 6 * h + j) = true := by
            have h2 : ok = true := (zb_n _).mp (by assumption)
            rw [hS, ← hok, hb, h2, decide_eq_true (show j < P by omega), decide_eq_true (show ¬ nI (24 * d + 6 * h + j) = but by assumption)]
            rfl
          rw [← mfind_hit hS2 (show 0 < 24 * (7 * W + 7) - (24 * d + 6 * h + j) by omega), hV]
          exact hQ
set_option maxHeartbeats 4000000 in
theorem l9_fsH {I : Nat → Nat → Int32} {L : Nat → Nat → Int64} {Q : Option Value → ZH → Prop} {P G g W d : Nat} {wished : Bool} {but V : Int32} (hP : P ≤ 6) (hG : G ≤ 60) (hg : g < G) (hW : W ≤ 50) (h24 : I 0 24 = nI P) (h35 : I 0 35 = nI G) (h29 : I 29 g = nI W) (hQ : Q (some (.int V)) (mh I L)) (hd : d < 7 * W + 7) (hx : mfind (mfP I P G g wished but) (24 * (d + 1)) (24 * (7 * W + 7) - (24 * (d + 1))) = V → ∀ ls : Nat → Option Value, ls 0 = some (.ref 0) → ls 1 = some (.int (nI g)) → ls 3 = some (.int (zb wished)) → ls 4 = some (.int but) → ls 6 = some (.int (nI d)) → Zf x9_firstSlot 0 0 157 ls [] (mh I L) Q) : ∀ (m j : Nat), 4 - j < m → j ≤ 4 → mfind (mfP I P G g wished but) (24 * d + 6 * j) (24 * (7 * W + 7) - (24 * d + 6 * j)) = V → ∀ ls : Nat → Option Value, ls 0 = some (.ref 0) → ls 1 = some (.int (nI g)) → ls 3 = some (.int (zb wished)) → ls 4 = some (.int but) → ls 6 = some (.int (nI d)) → ls 7 = some (.int (nI j)) → Zf x9_firstSlot 0 0 52 ls [] (mh I L) Q := by
  intro m
  induction m with
  | zero => intro j h; omega
  | succ m ih =>
  intro j hm hj hV ls hl0 hl1 hl3 hl4 hl6 hl7
  refine z_iload dX9_firstSlot_52 hl7 ?_
  refine z_iconst (v := 4) dX9_firstSlot_54 (by decide) ?_
  simp only [zl4]
  refine z_icmp_ge 157 dX9_firstSlot_55 (by decide) (fun c_1 => ?_) (fun c_1 => ?_)
  · skip
    have h1 := (zle (by omega) (by omega)).mp c_1
    have h2 : j = 4 := by omega
    subst h2
    exact hx hV _ hl0 hl1 hl3 hl4 hl6
  · skip
    have h1 : ¬ 4 ≤ j := fun q => c_1 ((zle (by omega) (by omega)).mpr q)
    refine z_iload_n (i := 3) dX9_firstSlot_58 rfl hl3 ?_
    refine z_if_eq 85 dX9_firstSlot_59 (by decide) (fun c_2 => ?_) (fun c_2 => ?_)
    · skip
      refine z_iconst (v := 1) dX9_firstSlot_85 (by decide) ?_
      refine z_goto 90 dX9_firstSlot_86 (by decide) ?_
      refine z_istore (i := 8) dX9_firstSlot_90 (by decide) rfl ?_
      refine z_iconst (v := 0) dX9_firstSlot_92 (by decide) ?_
      refine z_istore (i := 9) dX9_firstSlot_93 (by decide) rfl ?_
      have hw := (zb_0 _).mp c_2
      refine l9_fsP (wished := wished) (ok := true) hP hG hg hW h24 h35 h29 hQ hd (by omega) (by rw [hw]; simp) (fun hV2 ls2 a0 a1 a3 a4 a6 a7 => ?_) 7 0 (by omega) (by omega) hV _ hl0 hl1 hl3 hl4 hl6 hl7 rfl rfl
      refine z_iinc dX9_firstSlot_151 a7 rfl ?_
      refine z_goto 52 dX9_firstSlot_154 (by decide) ?_
      rw [zinc]
      exact ih (j + 1) (by omega) (by omega) hV2 _ a0 a1 a3 a4 a6 rfl
    · skip
      refine z_aload_n (i := 0) dX9_firstSlot_62 rfl hl0 ?_
      refine z_gR zf9_122.g dX9_firstSlot_63 (by decide) rfl rfl ?_
      refine z_iload_n (i := 1) dX9_firstSlot_66 rfl hl1 ?_
      refine z_iald dX9_firstSlot_67 (by decide) rfl (zvin (by omega) (by omega)) ?_
      rw [zcl (by omega)]
      refine z_iconst (v := 4) dX9_firstSlot_68 (by decide) ?_
      refine z_iload dX9_firstSlot_69 hl6 ?_
      refine z_bipush (v := 7) dX9_firstSlot_71 (by decide) ?_
      refine z_irem dX9_firstSlot_73 (by decide) ?_
      rw [zl7, zrem (by omega) (by omega) (by omega)]
      refine z_imul dX9_firstSlot_74 ?_
      refine z_iload dX9_firstSlot_75 hl7 ?_
      refine z_iadd dX9_firstSlot_77 ?_
      refine z_ishr dX9_firstSlot_78 ?_
      refine z_iconst (v := 1) dX9_firstSlot_79 (by decide) ?_
      refine z_iand dX9_firstSlot_80 ?_
      refine z_iconst (v := 1) dX9_firstSlot_81 (by decide) ?_
      refine z_icmp_ne 89 dX9_firstSlot_82 (by decide) (fun c_3 => ?_) (fun c_3 => ?_)
      · skip
        refine z_iconst (v := 0) dX9_firstSlot_89 (by decide) ?_
        refine z_istore (i := 8) dX9_firstSlot_90 (by decide) rfl ?_
        refine z_iconst (v := 0) dX9_firstSlot_92 (by decide) ?_
        refine z_istore (i := 9) dX9_firstSlot_93 (by decide) rfl ?_
        refine l9_fsP (wished := wished) (ok := false) hP hG hg hW h24 h35 h29 hQ hd (by omega) (by have hw := (zb_n wished).mp (by assumption); rw [hw, decide_eq_false c_3]; simp) (fun hV2 ls2 a0 a1 a3 a4 a6 a7 => ?_) 7 0 (by omega) (by omega) hV _ hl0 hl1 hl3 hl4 hl6 hl7 rfl rfl
        refine z_iinc dX9_firstSlot_151 a7 rfl ?_
        refine z_goto 52 dX9_firstSlot_154 (by decide) ?_
        rw [zinc]
        exact ih (j + 1) (by omega) (by omega) hV2 _ a0 a1 a3 a4 a6 rfl
      · skip
        refine z_iconst (v := 1) dX9_firstSlot_85 (by decide) ?_
        refine z_goto 90 dX9_firstSlot_86 (by decide) ?_
        refine z_istore (i := 8) dX9_firstSlot_90 (by decide) rfl ?_
        refine z_iconst (v := 0) dX9_firstSlot_92 (by decide) ?_
        refine z_istore (i := 9) dX9_firstSlot_93 (by decide) rfl ?_
        refine l9_fsP (wished := wished) (ok := true) hP hG hg hW h24 h35 h29 hQ hd (by omega) (by rw [c_3]; simp) (fun hV2 ls2 a0 a1 a3 a4 a6 a7 => ?_) 7 0 (by omega) (by omega) hV _ hl0 hl1 hl3 hl4 hl6 hl7 rfl rfl
        refine z_iinc dX9_firstSlot_151 a7 rfl ?_
        refine z_goto 52 dX9_firstSlot_154 (by decide) ?_
        rw [zinc]
        exact ih (j + 1) (by omega) (by omega) hV2 _ a0 a1 a3 a4 a6 rfl
set_option maxHeartbeats 4000000 in
theorem l9_fsD {I : Nat → Nat → Int32} {L : Nat → Nat → Int64} {Q : Option Value → ZH → Prop} {P G g W : Nat} {wished : Bool} {but V : Int32} (hP : P ≤ 6) (hG : G ≤ 60) (hg : g < G) (hW : W ≤ 50) (h24 : I 0 24 = nI P) (h35 : I 0 35 = nI G) (h29 : I 29 g = nI W) (hQ : Q (some (.int V)) (mh I L)) : ∀ (m j : Nat), 7 * W + 7 - j < m → j ≤ 1000 → mfind (mfP I P G g wished but) (24 * j) (24 * (7 * W + 7) - (24 * j)) = V → ∀ ls : Nat → Option Value, ls 0 = some (.ref 0) → ls 1 = some (.int (nI g)) → ls 3 = some (.int (zb wished)) → ls 4 = some (.int but) → ls 6 = some (.int (nI j)) → Zf x9_firstSlot 0 0 32 ls [] (mh I L) Q := by
  intro m
  induction m with
  | zero => intro j h; omega
  | succ m ih =>
  intro j hm hj hV ls hl0 hl1 hl3 hl4 hl6
  refine z_iload dX9_firstSlot_32 hl6 ?_
  refine z_bipush (v := 7) dX9_firstSlot_34 (by decide) ?_
  refine z_aload_n (i := 0) dX9_firstSlot_36 rfl hl0 ?_
  refine z_gR zf9_119.g dX9_firstSlot_37 (by decide) rfl rfl ?_
  refine z_iload_n (i := 1) dX9_firstSlot_40 rfl hl1 ?_
  refine z_iald dX9_firstSlot_41 (by decide) rfl (zvin (by omega) (by omega)) ?_
  rw [zcl (by omega), h29]
  refine z_imul dX9_firstSlot_42 ?_
  refine z_bipush (v := 7) dX9_firstSlot_43 (by decide) ?_
  refine z_iadd dX9_firstSlot_45 ?_
  simp only [zl7, pk_mul, nI_add]
  refine z_icmp_ge 163 dX9_firstSlot_46 (by decide) (fun c_1 => ?_) (fun c_1 => ?_)
  · skip
    refine z_iconst (v := (-1)) dX9_firstSlot_163 (by decide) ?_
    refine z_iret dX9_firstSlot_164 rfl ?_
    have h1 := (zle (by omega) (by omega)).mp c_1
    rw [show 24 * (7 * W + 7) - 24 * j = 0 by omega] at hV
    rw [show (-1 : Int32) = V from hV]
    exact hQ
  · skip
    have h1 : ¬ 7 * W + 7 ≤ j := fun q => c_1 ((zle (by omega) (by omega)).mpr q)
    refine z_iconst (v := 0) dX9_firstSlot_49 (by decide) ?_
    refine z_istore (i := 7) dX9_firstSlot_50 (by decide) rfl ?_
    refine l9_fsH (d := j) hP hG hg hW h24 h35 h29 hQ (by omega) (fun hV2 ls2 a0 a1 a3 a4 a6 => ?_) 5 0 (by omega) (by omega) hV _ hl0 hl1 hl3 hl4 hl6 rfl
    refine z_iinc dX9_firstSlot_157 a6 rfl ?_
    refine z_goto 32 dX9_firstSlot_160 (by decide) ?_
    rw [zinc]
    exact ih (j + 1) (by omega) (by omega) hV2 _ a0 a1 a3 a4 rfl
/-- the reference's firstSlot: week W, from day F on -/
def mfs (I : Nat → Nat → Int32) (P G g W F : Nat) (wished : Bool) (but : Int32) : Int32 := mfind (mfP I P G g wished but) (24 * (if 7 * W ≤ F then F else 7 * W)) (24 * (7 * W + 7) - 24 * (if 7 * W ≤ F then F else 7 * W))
set_option maxHeartbeats 4000000 in
theorem c9_firstSlot (I : Nat → Nat → Int32) (L : Nat → Nat → Int64) (P G g W F : Nat) (wished : Bool) (but : Int32) (hP : P ≤ 6) (hG : G ≤ 60) (hg : g < G) (hW : W ≤ 50) (hF : F ≤ 400) (h24 : I 0 24 = nI P) (h35 : I 0 35 = nI G) (h29 : I 29 g = nI W) : Zm yX9_firstSlot cX9_firstSlot 11 (some .int) 3 120 0 0 [.ref 0, .int (nI g), .int (nI F), .int (zb wished), .int but] (mh I L) (mQ (some (.int (mfs I P G g W F wished but))) I L) := by
  refine Zm_of (lg := false) (by decide) (fun _ => by simp [Value.category]) (fun _ => Nat.le_of_ble_eq_true rfl) ?_
  show Zf x9_firstSlot 0 0 0 (zargs [.ref 0, .int (nI g), .int (nI F), .int (zb wished), .int but]) [] (mh I L) _
  refine z_bipush (v := 7) dX9_firstSlot_0 (by decide) ?_
  refine z_aload_n (i := 0) dX9_firstSlot_2 rfl rfl ?_
  refine z_gR zf9_119.g dX9_firstSlot_3 (by decide) rfl rfl ?_
  refine z_iload_n (i := 1) dX9_firstSlot_6 rfl rfl ?_
  refine z_iald dX9_firstSlot_7 (by decide) rfl (zvin (by omega) (by omega)) ?_
  rw [zcl (by omega), h29]
  refine z_imul dX9_firstSlot_8 ?_
  refine z_iload_n (i := 2) dX9_firstSlot_9 rfl rfl ?_
  simp only [zl7, pk_mul]
  refine z_icmp_le 25 dX9_firstSlot_10 (by decide) (fun c_1 => ?_) (fun c_1 => ?_)
  · skip
    refine z_iload_n (i := 2) dX9_firstSlot_25 rfl rfl ?_
    refine z_topi (fun w hw => ?_)
    have e2 : w = nI (if 7 * W ≤ F then F else 7 * W) := by
      rw [hw]
      rw [zle (by omega) (by omega)] at c_1
      simp [*]
    subst e2
    refine z_istore (i := 5) dX9_firstSlot_26 (by decide) rfl ?_
    refine z_iload dX9_firstSlot_28 rfl ?_
    refine z_istore (i := 6) dX9_firstSlot_30 (by decide) rfl ?_
    exact l9_fsD (wished := wished) (but := but) hP hG hg hW h24 h35 h29 (V := mfs I P G g W F wished but) ⟨rfl, rfl⟩ 1000 _ (by split <;> omega) (by split <;> omega) rfl _ rfl rfl rfl rfl rfl
  · skip
    refine z_bipush (v := 7) dX9_firstSlot_13 (by decide) ?_
    refine z_aload_n (i := 0) dX9_firstSlot_15 rfl rfl ?_
    refine z_gR zf9_119.g dX9_firstSlot_16 (by decide) rfl rfl ?_
    refine z_iload_n (i := 1) dX9_firstSlot_19 rfl rfl ?_
    refine z_iald dX9_firstSlot_20 (by decide) rfl (zvin (by omega) (by omega)) ?_
    rw [zcl (by omega), h29]
    refine z_imul dX9_firstSlot_21 ?_
    simp only [zl7, pk_mul]
    refine z_goto 26 dX9_firstSlot_22 (by decide) ?_
    refine z_topi (fun w hw => ?_)
    have e2 : w = nI (if 7 * W ≤ F then F else 7 * W) := by
      rw [hw]
      rw [zle (by omega) (by omega)] at c_1
      simp [*]
    subst e2
    refine z_istore (i := 5) dX9_firstSlot_26 (by decide) rfl ?_
    refine z_iload dX9_firstSlot_28 rfl ?_
    refine z_istore (i := 6) dX9_firstSlot_30 (by decide) rfl ?_
    exact l9_fsD (wished := wished) (but := but) hP hG hg hW h24 h35 h29 (V := mfs I P G g W F wished but) ⟨rfl, rfl⟩ 1000 _ (by split <;> omega) (by split <;> omega) rfl _ rfl rfl rfl rfl rfl
end
section
def mlays (I : Nat → Nat → Int32) (g : Nat) (s : Int32) : Nat → Nat → Int32 := zu (zu I 31 g 1) 32 g s
def munl (I : Nat → Nat → Int32) (g : Nat) : Nat → Nat → Int32 := zu (zu I 31 g 0) 32 g (-1)
def mWk (I : Nat → Nat → Int32) (g : Nat) : Nat := (I 29 g).toNatClampNeg
/-- k gives way to g: the ints behind it, or none -/
def mgw (I : Nat → Nat → Int32) (P G D k g : Nat) : Option (Nat → Nat → Int32) :=
  if mfs (munl I k) P G g (mWk I g) D true (-1) < 0 then none
  else if mfs (mlays (munl I k) g (mfs (munl I k) P G g (mWk I g) D true (-1))) P G k (mWk I k) D true (I 32 k) < 0 then none
  else some (mlays (mlays (munl I k) g (mfs (munl I k) P G g (mWk I g) D true (-1))) k (mfs (mlays (munl I k) g (mfs (munl I k) P G g (mWk I g) D true (-1))) P G k (mWk I k) D true (I 32 k)))
def mlk (I : Nat → Nat → Int32) (P G D g : Nat) : Nat → Nat → Option (Nat → Nat → Int32)
  | _, 0 => none
  | k, m + 1 => if I 31 k = 1 ∧ I 29 k = I 29 g then (match mgw I P G D k g with
    | some J => some J
    | none => mlk I P G D g (k + 1) m) else mlk I P G D g (k + 1) m
def mlo (I : Nat → Nat → Int32) (P G D g : Nat) : Option (Nat → Nat → Int32) := if mfs I P G g (mWk I g) D true (-1) < 0 then mlk I P G D g 0 G else some (mlays I g (mfs I P G g (mWk I g) D true (-1)))
/-- the answer of a method that may change the ints -/
abbrev mQo (I : Nat → Nat → Int32) (o : Option (Nat → Nat → Int32)) (L : Nat → Nat → Int64) : Option Value → ZH → Prop := mQ (some (.int (zb o.isSome))) (o.getD I) L
theorem zu_id {α : Type} (I : Nat → Nat → α) (a k : Nat) : zu I a k (I a k) = I := by
  funext b j
  rw [zu_apply]
  by_cases h : b = a ∧ j = k
  · rw [if_pos h, h.1, h.2]
  · rw [if_neg h]
theorem zu_zu {α : Type} (I : Nat → Nat → α) (a k : Nat) (v w : α) : zu (zu I a k v) a k w = zu I a k w := by
  funext b j
  rw [zu_apply, zu_apply, zu_apply]
  by_cases h : b = a ∧ j = k
  · rw [if_pos h, if_pos h]
  · rw [if_neg h, if_neg h, if_neg h]
theorem zu_comm {α : Type} (I : Nat → Nat → α) {a k b l : Nat} (v w : α) (h : ¬ (a = b ∧ k = l)) : zu (zu I a k v) b l w = zu (zu I b l w) a k v := by
  funext c j
  rw [zu_apply, zu_apply, zu_apply, zu_apply]
  by_cases h1 : c = b ∧ j = l
  · rw [if_pos h1, if_neg (fun h2 => h ⟨h2.1.symm.trans h1.1, h2.2.symm.trans h1.2⟩), if_pos h1]
  · rw [if_neg h1, if_neg h1]
theorem zu_set {α : Type} {I : Nat → Nat → α} {a k : Nat} {v : α} (h : I a k = v) : zu I a k v = I := by rw [← h]; exact zu_id I a k
theorem mback1 {I : Nat → Nat → Int32} {k : Nat} (h : I 31 k = 1) : mlays (munl I k) k (I 32 k) = I := by
  unfold mlays munl
  rw [zu_comm (zu I 31 k 0) (-1) 1 (by omega), zu_zu, zu_zu, zu_set h, zu_id]
theorem mback2 {I : Nat → Nat → Int32} {k g : Nat} {s : Int32} (h : I 31 k = 1) (h1 : I 31 g = 0) (h2 : I 32 g = -1) (hn : k ≠ g) : mlays (munl (mlays (munl I k) g s) g) k (I 32 k) = I := by
  have e : munl (mlays (munl I k) g s) g = munl I k := by
    have a1 : munl I k 31 g = 0 := by
      unfold munl
      rw [zu_apply, if_neg (by omega), zu_apply, if_neg (by omega)]; exact h1
    have a2 : munl I k 32 g = -1 := by
      unfold munl
      rw [zu_apply, if_neg (by omega), zu_apply, if_neg (by omega)]; exact h2
    show zu (zu (zu (zu (munl I k) 31 g 1) 32 g s) 31 g 0) 32 g (-1) = munl I k
    rw [zu_comm (zu (munl I k) 31 g 1) s 0 (by omega), zu_zu, zu_zu, zu_set a1, zu_set a2]
  rw [e]
  exact mback1 h
theorem mWk_of {I : Nat → Nat → Int32} {g W : Nat} (h : I 29 g = nI W) (hW : W ≤ 50) : mWk I g = W := by unfold mWk; rw [h]; exact zcl (by omega)
abbrev x9_givesWay : ZX := (RX9, cX9_givesWay, 6, (some .boolean), "givesWay", 4, 160, false)
set_option maxHeartbeats 4000000 in
theorem c9_givesWay (I : Nat → Nat → Int32) (L : Nat → Nat → Int64) (P G D : Nat) (hP : P ≤ 6) (hG : G ≤ 60) (hD : D ≤ 357) (h24 : I 0 24 = nI P) (h35 : I 0 35 = nI G) (h34 : I 0 34 = nI D) (k g Wk Wg : Nat) (hk : k < G) (hg : g < G) (hkg : k ≠ g) (hWk : Wk ≤ 50) (hWg : Wg ≤ 50) (h29 : I 29 g = nI Wg) (h29k : I 29 k = nI Wk) (hk1 : I 31 k = 1) (hg0 : I 31 g = 0) (hg1 : I 32 g = -1) : Zm yX9_givesWay cX9_givesWay 6 (some .boolean) 4 160 0 0 [.ref 0, .int (nI k), .int (nI g)] (mh I L) (mQo I (mgw I P G D k g) L) := by
  refine Zm_of (lg := false) (by decide) (fun _ => by simp [Value.category]) (fun _ => Nat.le_of_ble_eq_true rfl) ?_
  show Zf x9_givesWay 0 0 0 (zargs [.ref 0, .int (nI k), .int (nI g)]) [] (mh I L) _
  have eg := mWk_of h29 hWg
  have ek := mWk_of h29k hWk
  have z1 : zb true = 1 := rfl
  refine z_aload_n (i := 0) dX9_givesWay_0 rfl rfl ?_
  refine z_gR zf9_128.g dX9_givesWay_1 (by decide) rfl rfl ?_
  refine z_iload_n (i := 1) dX9_givesWay_4 rfl rfl ?_
  refine z_iald dX9_givesWay_5 (by decide) rfl (zvin (by omega) (by omega)) ?_
  rw [zcl (show k ≤ 100000 by omega)]
  refine z_istore_n (i := 3) dX9_givesWay_6 rfl (by decide) rfl ?_
  refine z_aload_n (i := 0) dX9_givesWay_7 rfl rfl ?_
  refine z_gR zf9_125.g dX9_givesWay_8 (by decide) rfl rfl ?_
  refine z_iload_n (i := 1) dX9_givesWay_11 rfl rfl ?_
  refine z_iconst (v := 0) dX9_givesWay_12 (by decide) ?_
  refine z_iast dX9_givesWay_13 (by decide) rfl (zvin (by omega) (by omega)) ?_
  refine z_aload_n (i := 0) dX9_givesWay_14 rfl rfl ?_
  refine z_gR zf9_128.g dX9_givesWay_15 (by decide) rfl rfl ?_
  refine z_iload_n (i := 1) dX9_givesWay_18 rfl rfl ?_
  refine z_iconst (v := (-1)) dX9_givesWay_19 (by decide) ?_
  refine z_iast dX9_givesWay_20 (by decide) rfl (zvin (by omega) (by omega)) ?_
  simp only [zcl (show k ≤ 100000 by omega)]
  refine z_aload_n (i := 0) dX9_givesWay_21 rfl rfl ?_
  refine z_iload_n (i := 2) dX9_givesWay_22 rfl rfl ?_
  refine z_aload_n (i := 0) dX9_givesWay_23 rfl rfl ?_
  refine z_gI zf9_239.g dX9_givesWay_24 (by decide) rfl ?_
  refine z_iconst (v := 1) dX9_givesWay_27 (by decide) ?_
  refine z_iconst (v := (-1)) dX9_givesWay_28 (by decide) ?_
  rw [show zu (zu I 31 k 0) 32 k (-1) 0 34 = I 0 34 from rfl, h34, ← z1]
  refine z_callV (st := []) (mc2 := 0) (ms2 := 0) zi9_269 zv_yX9_firstSlot (c9_firstSlot (munl I k) L P G g Wg D true (-1) hP hG hg hWg (by omega) h24 h35 h29) dX9_givesWay_29 (show (0 : Nat) < 35 by decide) rfl rfl rfl rfl (by decide) (by decide) (Nat.le_of_ble_eq_true rfl) (by decide) (by decide) (fun r h2 hq => ?_)
  obtain ⟨rfl, rfl⟩ := hq
  refine z_istore (i := 4) dX9_givesWay_32 (by decide) rfl ?_
  refine z_iload dX9_givesWay_34 rfl ?_
  refine z_if_lt 87 dX9_givesWay_36 (by decide) (fun c_1 => ?_) (fun c_1 => ?_)
  · skip
    try simp only [zcl (show g ≤ 100000 by omega)]
    refine z_aload_n (i := 0) dX9_givesWay_87 rfl rfl ?_
    refine z_iload_n (i := 1) dX9_givesWay_88 rfl rfl ?_
    refine z_iload_n (i := 3) dX9_givesWay_89 rfl rfl ?_
    refine z_callV (st := []) (mc2 := 0) (ms2 := 0) zi9_273 zv_yX9_lays (c9_lays (munl I k) L k (I 32 k) (by omega)) dX9_givesWay_90 (show (0 : Nat) < 35 by decide) rfl rfl rfl rfl (by decide) (by decide) (Nat.le_of_ble_eq_true rfl) (by decide) (by decide) (fun r h2 hq => ?_)
    obtain ⟨rfl, rfl⟩ := hq
    try simp only [Option.toList, List.nil_append]
    refine z_iconst (v := 0) dX9_givesWay_93 (by decide) ?_
    refine z_zret dX9_givesWay_94 rfl (by decide) ?_
    have e : mgw I P G D k g = none := by unfold mgw; rw [eg]; exact if_pos c_1
    rw [e]
    exact ⟨rfl, by rw [show zu (zu (munl I k) 31 k 1) 32 k (I 32 k) = I from mback1 hk1]; rfl⟩
  · skip
    refine z_aload_n (i := 0) dX9_givesWay_39 rfl rfl ?_
    refine z_iload_n (i := 2) dX9_givesWay_40 rfl rfl ?_
    refine z_iload dX9_givesWay_41 rfl ?_
    refine z_callV (st := []) (mc2 := 0) (ms2 := 0) zi9_273 zv_yX9_lays (c9_lays (munl I k) L g (mfs (munl I k) P G g Wg D true (-1)) (by omega)) dX9_givesWay_43 (show (0 : Nat) < 35 by decide) rfl rfl rfl rfl (by decide) (by decide) (Nat.le_of_ble_eq_true rfl) (by decide) (by decide) (fun r h2 hq => ?_)
    obtain ⟨rfl, rfl⟩ := hq
    try simp only [Option.toList, List.nil_append]
    refine z_aload_n (i := 0) dX9_givesWay_46 rfl rfl ?_
    refine z_iload_n (i := 1) dX9_givesWay_47 rfl rfl ?_
    refine z_aload_n (i := 0) dX9_givesWay_48 rfl rfl ?_
    refine z_gI zf9_239.g dX9_givesWay_49 (by decide) rfl ?_
    refine z_iconst (v := 1) dX9_givesWay_52 (by decide) ?_
    refine z_iload_n (i := 3) dX9_givesWay_53 rfl rfl ?_
    rw [show zu (zu (munl I k) 31 g 1) 32 g (mfs (munl I k) P G g Wg D true (-1)) 0 34 = I 0 34 from rfl, h34, ← z1]
    refine z_callV (st := []) (mc2 := 0) (ms2 := 0) zi9_269 zv_yX9_firstSlot (c9_firstSlot (mlays (munl I k) g (mfs (munl I k) P G g Wg D true (-1))) L P G k Wk D true _ hP hG hk hWk (by omega) h24 h35 h29k) dX9_givesWay_54 (show (0 : Nat) < 35 by decide) rfl rfl rfl rfl (by decide) (by decide) (Nat.le_of_ble_eq_true rfl) (by decide) (by decide) (fun r h2 hq => ?_)
    obtain ⟨rfl, rfl⟩ := hq
    refine z_istore (i := 5) dX9_givesWay_57 (by decide) rfl ?_
    refine z_iload dX9_givesWay_59 rfl ?_
    refine z_if_lt 73 dX9_givesWay_61 (by decide) (fun c_2 => ?_) (fun c_2 => ?_)
    · skip
      refine z_aload_n (i := 0) dX9_givesWay_73 rfl rfl ?_
      refine z_gR zf9_125.g dX9_givesWay_74 (by decide) rfl rfl ?_
      refine z_iload_n (i := 2) dX9_givesWay_77 rfl rfl ?_
      refine z_iconst (v := 0) dX9_givesWay_78 (by decide) ?_
      refine z_iast dX9_givesWay_79 (by decide) rfl (zvin (by omega) (by omega)) ?_
      refine z_aload_n (i := 0) dX9_givesWay_80 rfl rfl ?_
      refine z_gR zf9_128.g dX9_givesWay_81 (by decide) rfl rfl ?_
      refine z_iload_n (i := 2) dX9_givesWay_84 rfl rfl ?_
      refine z_iconst (v := (-1)) dX9_givesWay_85 (by decide) ?_
      refine z_iast dX9_givesWay_86 (by decide) rfl (zvin (by omega) (by omega)) ?_
      try simp only [zcl (show g ≤ 100000 by omega)]
      refine z_aload_n (i := 0) dX9_givesWay_87 rfl rfl ?_
      refine z_iload_n (i := 1) dX9_givesWay_88 rfl rfl ?_
      refine z_iload_n (i := 3) dX9_givesWay_89 rfl rfl ?_
      refine z_callV (st := []) (mc2 := 0) (ms2 := 0) zi9_273 zv_yX9_lays (c9_lays (munl (mlays (munl I k) g (mfs (munl I k) P G g Wg D true (-1))) g) L k (I 32 k) (by omega)) dX9_givesWay_90 (show (0 : Nat) < 35 by decide) rfl rfl rfl rfl (by decide) (by decide) (Nat.le_of_ble_eq_true rfl) (by decide) (by decide) (fun r h2 hq => ?_)
      obtain ⟨rfl, rfl⟩ := hq
      try simp only [Option.toList, List.nil_append]
      refine z_iconst (v := 0) dX9_givesWay_93 (by decide) ?_
      refine z_zret dX9_givesWay_94 rfl (by decide) ?_
      have e : mgw I P G D k g = none := by unfold mgw; rw [eg, ek, if_neg c_1]; exact if_pos c_2
      rw [e]
      exact ⟨rfl, by rw [show zu (zu (munl (mlays (munl I k) g (mfs (munl I k) P G g Wg D true (-1))) g) 31 k 1) 32 k (I 32 k) = I from mback2 hk1 hg0 hg1 hkg]; rfl⟩
    · skip
      refine z_aload_n (i := 0) dX9_givesWay_64 rfl rfl ?_
      refine z_iload_n (i := 1) dX9_givesWay_65 rfl rfl ?_
      refine z_iload dX9_givesWay_66 rfl ?_
      refine z_callV (st := []) (mc2 := 0) (ms2 := 0) zi9_273 zv_yX9_lays (c9_lays (mlays (munl I k) g (mfs (munl I k) P G g Wg D true (-1))) L k _ (by omega)) dX9_givesWay_68 (show (0 : Nat) < 35 by decide) rfl rfl rfl rfl (by decide) (by decide) (Nat.le_of_ble_eq_true rfl) (by decide) (by decide) (fun r h2 hq => ?_)
      obtain ⟨rfl, rfl⟩ := hq
      try simp only [Option.toList, List.nil_append]
      refine z_iconst (v := 1) dX9_givesWay_71 (by decide) ?_
      refine z_zret dX9_givesWay_72 rfl (by decide) ?_
      unfold mgw
      rw [eg, ek, if_neg c_1, if_neg c_2]
      exact ⟨rfl, rfl⟩
abbrev x9_laysOne : ZX := (RX9, cX9_laysOne, 4, (some .boolean), "laysOne", 5, 200, false)
set_option maxHeartbeats 4000000 in
theorem l9_laysOne {I : Nat → Nat → Int32} {L : Nat → Nat → Int64} {Q : Option Value → ZH → Prop} {P G D : Nat} (hP : P ≤ 6) (hG : G ≤ 60) (hD : D ≤ 357) (h24 : I 0 24 = nI P) (h35 : I 0 35 = nI G) (h34 : I 0 34 = nI D) {g : Nat} (hw : ∀ g, g < G → ∃ W, W ≤ 50 ∧ I 29 g = nI W) (hg : g < G) (hg0 : I 31 g = 0) (hg1 : I 32 g = -1) (hQ : mQo I (mlk I P G D g 0 G) L = Q) : ∀ (m j : Nat), G - j < m → j ≤ G → mlk I P G D g j (G - j) = mlk I P G D g 0 G → ∀ ls : Nat → Option Value, ls 0 = some (.ref 0) → ls 1 = some (.int (nI g)) → ls 3 = some (.int (nI j)) → Zf x9_laysOne 0 0 26 ls [] (mh I L) Q := by
  intro m
  induction m with
  | zero => intro j h; omega
  | succ m ih =>
  intro j hm hj hk ls hl0 hl1 hl3
  obtain ⟨Wg, hWg, h29⟩ := hw g hg
  refine z_iload_n (i := 3) dX9_laysOne_26 rfl hl3 ?_
  refine z_aload_n (i := 0) dX9_laysOne_27 rfl hl0 ?_
  refine z_gI zf9_253.g dX9_laysOne_28 (by decide) rfl ?_
  rw [h35]
  refine z_icmp_ge 76 dX9_laysOne_31 (by decide) (fun c_1 => ?_) (fun c_1 => ?_)
  · skip
    refine z_iconst (v := 0) dX9_laysOne_76 (by decide) ?_
    refine z_zret dX9_laysOne_77 rfl (by decide) ?_
    have h1 := (zle (by omega) (by omega)).mp c_1
    rw [show G - j = 0 by omega] at hk
    rw [← hQ, ← hk]
    exact ⟨rfl, rfl⟩
  · skip
    have h1 : ¬ G ≤ j := fun q => c_1 ((zle (by omega) (by omega)).mpr q)
    obtain ⟨q, hq⟩ : ∃ q, G - j = q + 1 := ⟨G - j - 1, by omega⟩
    have hq2 : G - (j + 1) = q := by omega
    have hs : mlk I P G D g j (q + 1) = if I 31 j = 1 ∧ I 29 j = I 29 g then (match mgw I P G D j g with | some J => some J | none => mlk I P G D g (j + 1) q) else mlk I P G D g (j + 1) q := rfl
    rw [hq] at hk
    obtain ⟨Wj, hWj, h29j⟩ := hw j (by omega)
    refine z_aload_n (i := 0) dX9_laysOne_34 rfl hl0 ?_
    refine z_gR zf9_125.g dX9_laysOne_35 (by decide) rfl rfl ?_
    refine z_iload_n (i := 3) dX9_laysOne_38 rfl hl3 ?_
    refine z_iald dX9_laysOne_39 (by decide) rfl (zvin (by omega) (by omega)) ?_
    rw [zcl (by omega)]
    refine z_iconst (v := 1) dX9_laysOne_40 (by decide) ?_
    refine z_icmp_ne 70 dX9_laysOne_41 (by decide) (fun c_2 => ?_) (fun c_2 => ?_)
    · skip
      refine z_iinc dX9_laysOne_70 hl3 rfl ?_
      refine z_goto 26 dX9_laysOne_73 (by decide) ?_
      rw [zinc]
      rw [if_neg (fun h => c_2 h.1)] at hs
      exact ih (j + 1) (by omega) (by omega) (by rw [hq2, ← hk, hs]) _ hl0 hl1 rfl
    · skip
      refine z_aload_n (i := 0) dX9_laysOne_44 rfl hl0 ?_
      refine z_gR zf9_119.g dX9_laysOne_45 (by decide) rfl rfl ?_
      refine z_iload_n (i := 3) dX9_laysOne_48 rfl hl3 ?_
      refine z_iald dX9_laysOne_49 (by decide) rfl (zvin (by omega) (by omega)) ?_
      rw [zcl (by omega)]
      refine z_aload_n (i := 0) dX9_laysOne_50 rfl hl0 ?_
      refine z_gR zf9_119.g dX9_laysOne_51 (by decide) rfl rfl ?_
      refine z_iload_n (i := 1) dX9_laysOne_54 rfl hl1 ?_
      refine z_iald dX9_laysOne_55 (by decide) rfl (zvin (by omega) (by omega)) ?_
      rw [zcl (by omega)]
      refine z_icmp_ne 70 dX9_laysOne_56 (by decide) (fun c_3 => ?_) (fun c_3 => ?_)
      · skip
        refine z_iinc dX9_laysOne_70 hl3 rfl ?_
        refine z_goto 26 dX9_laysOne_73 (by decide) ?_
        rw [zinc]
        rw [if_neg (fun h => c_3 h.2)] at hs
        exact ih (j + 1) (by omega) (by omega) (by rw [hq2, ← hk, hs]) _ hl0 hl1 rfl
      · skip
        refine z_aload_n (i := 0) dX9_laysOne_59 rfl hl0 ?_
        refine z_iload_n (i := 3) dX9_laysOne_60 rfl hl3 ?_
        refine z_iload_n (i := 1) dX9_laysOne_61 rfl hl1 ?_
        refine z_callV (st := []) (mc2 := 0) (ms2 := 0) zi9_276 zv_yX9_givesWay (c9_givesWay I L P G D hP hG hD h24 h35 h34 j g Wj Wg (by omega) hg (fun e => by subst e; rw [hg0] at c_2; exact absurd c_2 (by decide)) hWj hWg h29 h29j c_2 hg0 hg1) dX9_laysOne_62 (show (0 : Nat) < 35 by decide) rfl rfl rfl rfl (by decide) (by decide) (Nat.le_of_ble_eq_true rfl) (by decide) (by decide) (fun r h2 hq3 => ?_)
        obtain ⟨rfl, rfl⟩ := hq3
        rw [if_pos ⟨c_2, c_3⟩] at hs
        refine z_if_eq 70 dX9_laysOne_65 (by decide) (fun c_4 => ?_) (fun c_4 => ?_)
        · skip
          refine z_iinc dX9_laysOne_70 hl3 rfl ?_
          refine z_goto 26 dX9_laysOne_73 (by decide) ?_
          have hb := (zb_0 _).mp c_4
          cases hgw : mgw I P G D j g with
          | some J => rw [hgw] at hb; cases hb
          | none =>
            rw [hgw] at hs
            rw [zinc]
            exact ih (j + 1) (by omega) (by omega) (by rw [hq2, ← hk, hs]) _ hl0 hl1 rfl
        · skip
          refine z_iconst (v := 1) dX9_laysOne_68 (by decide) ?_
          refine z_zret dX9_laysOne_69 rfl (by decide) ?_
          have hb := (zb_n _).mp c_4
          cases hgw : mgw I P G D j g with
          | none => rw [hgw] at hb; cases hb
          | some J =>
            rw [hgw] at hs
            rw [← hQ, ← hk, hs]
            exact ⟨rfl, rfl⟩
set_option maxHeartbeats 4000000 in
theorem c9_laysOne (I : Nat → Nat → Int32) (L : Nat → Nat → Int64) (P G D : Nat) (hP : P ≤ 6) (hG : G ≤ 60) (hD : D ≤ 357) (h24 : I 0 24 = nI P) (h35 : I 0 35 = nI G) (h34 : I 0 34 = nI D) (g : Nat) (hw : ∀ g, g < G → ∃ W, W ≤ 50 ∧ I 29 g = nI W) (hg : g < G) (hg0 : I 31 g = 0) (hg1 : I 32 g = -1) : Zm yX9_laysOne cX9_laysOne 4 (some .boolean) 5 200 0 0 [.ref 0, .int (nI g)] (mh I L) (mQo I (mlo I P G D g) L) := by
  refine Zm_of (lg := false) (by decide) (fun _ => by simp [Value.category]) (fun _ => Nat.le_of_ble_eq_true rfl) ?_
  show Zf x9_laysOne 0 0 0 (zargs [.ref 0, .int (nI g)]) [] (mh I L) _
  obtain ⟨Wg, hWg, h29⟩ := hw g hg
  have eg := mWk_of h29 hWg
  have z1 : zb true = 1 := rfl
  refine z_aload_n (i := 0) dX9_laysOne_0 rfl rfl ?_
  refine z_iload_n (i := 1) dX9_laysOne_1 rfl rfl ?_
  refine z_aload_n (i := 0) dX9_laysOne_2 rfl rfl ?_
  refine z_gI zf9_239.g dX9_laysOne_3 (by decide) rfl ?_
  refine z_iconst (v := 1) dX9_laysOne_6 (by decide) ?_
  refine z_iconst (v := (-1)) dX9_laysOne_7 (by decide) ?_
  rw [h34, ← z1]
  refine z_callV (st := []) (mc2 := 0) (ms2 := 0) zi9_269 zv_yX9_firstSlot (c9_firstSlot I L P G g Wg D true (-1) hP hG hg hWg (by omega) h24 h35 h29) dX9_laysOne_8 (show (0 : Nat) < 35 by decide) rfl rfl rfl rfl (by decide) (by decide) (Nat.le_of_ble_eq_true rfl) (by decide) (by decide) (fun r h2 hq => ?_)
  obtain ⟨rfl, rfl⟩ := hq
  refine z_istore_n (i := 2) dX9_laysOne_11 rfl (by decide) rfl ?_
  refine z_iload_n (i := 2) dX9_laysOne_12 rfl rfl ?_
  refine z_if_lt 24 dX9_laysOne_13 (by decide) (fun c_1 => ?_) (fun c_1 => ?_)
  · skip
    refine z_iconst (v := 0) dX9_laysOne_24 (by decide) ?_
    refine z_istore_n (i := 3) dX9_laysOne_25 rfl (by decide) rfl ?_
    have e : mlo I P G D g = mlk I P G D g 0 G := by unfold mlo; rw [eg]; exact if_pos c_1
    rw [e]
    exact l9_laysOne hP hG hD h24 h35 h34 hw hg hg0 hg1 rfl (G + 1) 0 (by omega) (by omega) rfl _ rfl rfl rfl
  · skip
    refine z_aload_n (i := 0) dX9_laysOne_16 rfl rfl ?_
    refine z_iload_n (i := 1) dX9_laysOne_17 rfl rfl ?_
    refine z_iload_n (i := 2) dX9_laysOne_18 rfl rfl ?_
    refine z_callV (st := []) (mc2 := 0) (ms2 := 0) zi9_273 zv_yX9_lays (c9_lays I L g _ (by omega)) dX9_laysOne_19 (show (0 : Nat) < 35 by decide) rfl rfl rfl rfl (by decide) (by decide) (Nat.le_of_ble_eq_true rfl) (by decide) (by decide) (fun r h2 hq => ?_)
    obtain ⟨rfl, rfl⟩ := hq
    try simp only [Option.toList, List.nil_append]
    refine z_iconst (v := 1) dX9_laysOne_22 (by decide) ?_
    refine z_zret dX9_laysOne_23 rfl (by decide) ?_
    unfold mlo
    rw [eg, if_neg c_1]
    exact ⟨rfl, rfl⟩
abbrev x9_movesOn : ZX := (RX9, cX9_movesOn, 3, none, "movesOn", 4, 160, false)
set_option maxHeartbeats 4000000 in
theorem c9_movesOn (I : Nat → Nat → Int32) (L : Nat → Nat → Int64) (P G D : Nat) (hP : P ≤ 6) (hG : G ≤ 60) (hD : D ≤ 357) (h24 : I 0 24 = nI P) (h35 : I 0 35 = nI G) (h34 : I 0 34 = nI D) (g W : Nat) (hW : W ≤ 50) (hg : g < G) (h29 : I 29 g = nI W) : Zm yX9_movesOn cX9_movesOn 3 none 4 160 0 0 [.ref 0, .int (nI g)] (mh I L) (mQ none (if mfs I P G g W (D + 1) false (-1) < 0 then zu (zu I 31 g 3) 32 g (-1) else zu (mlays I g (mfs I P G g W (D + 1) false (-1))) 33 g (I 33 g + 1)) L) := by
  refine Zm_of (lg := false) (by decide) (fun _ => by simp [Value.category]) (fun _ => Nat.le_of_ble_eq_true rfl) ?_
  show Zf x9_movesOn 0 0 0 (zargs [.ref 0, .int (nI g)]) [] (mh I L) _
  generalize hQ0 : (mQ none (if mfs I P G g W (D + 1) false (-1) < 0 then zu (zu I 31 g 3) 32 g (-1) else zu (mlays I g (mfs I P G g W (D + 1) false (-1))) 33 g (I 33 g + 1)) L : Option Value → ZH → Prop) = Q0
  have z1 : zb false = 0 := rfl
  refine z_aload_n (i := 0) dX9_movesOn_0 rfl rfl ?_
  refine z_iload_n (i := 1) dX9_movesOn_1 rfl rfl ?_
  refine z_aload_n (i := 0) dX9_movesOn_2 rfl rfl ?_
  refine z_gI zf9_239.g dX9_movesOn_3 (by decide) rfl ?_
  rw [h34]
  refine z_iconst (v := 1) dX9_movesOn_6 (by decide) ?_
  refine z_iadd dX9_movesOn_7 ?_
  refine z_top (y := .int (nI (D + 1))) (by rw [zl1, nI_add]) ?_
  refine z_iconst (v := 0) dX9_movesOn_8 (by decide) ?_
  refine z_iconst (v := (-1)) dX9_movesOn_9 (by decide) ?_
  rw [← z1]
  refine z_callV (st := []) (mc2 := 0) (ms2 := 0) zi9_269 zv_yX9_firstSlot (c9_firstSlot I L P G g W (D + 1) false (-1) hP hG hg hW (by omega) h24 h35 h29) dX9_movesOn_10 (show (0 : Nat) < 35 by decide) rfl rfl rfl rfl (by decide) (by decide) (Nat.le_of_ble_eq_true rfl) (by decide) (by decide) (fun r h2 hq => ?_)
  obtain ⟨rfl, rfl⟩ := hq
  refine z_istore_n (i := 2) dX9_movesOn_13 rfl (by decide) rfl ?_
  refine z_iload_n (i := 2) dX9_movesOn_14 rfl rfl ?_
  refine z_if_lt 37 dX9_movesOn_15 (by decide) (fun c_1 => ?_) (fun c_1 => ?_)
  · skip
    refine z_aload_n (i := 0) dX9_movesOn_37 rfl rfl ?_
    refine z_gR zf9_125.g dX9_movesOn_38 (by decide) rfl rfl ?_
    refine z_iload_n (i := 1) dX9_movesOn_41 rfl rfl ?_
    refine z_iconst (v := 3) dX9_movesOn_42 (by decide) ?_
    refine z_iast dX9_movesOn_43 (by decide) rfl (zvin (by omega) (by omega)) ?_
    refine z_aload_n (i := 0) dX9_movesOn_44 rfl rfl ?_
    refine z_gR zf9_128.g dX9_movesOn_45 (by decide) rfl rfl ?_
    refine z_iload_n (i := 1) dX9_movesOn_48 rfl rfl ?_
    refine z_iconst (v := (-1)) dX9_movesOn_49 (by decide) ?_
    refine z_iast dX9_movesOn_50 (by decide) rfl (zvin (by omega) (by omega)) ?_
    refine z_vret dX9_movesOn_51 rfl ?_
    subst hQ0
    rw [if_pos c_1, zcl (by omega)]
    exact ⟨rfl, rfl⟩
  · skip
    refine z_aload_n (i := 0) dX9_movesOn_18 rfl rfl ?_
    refine z_iload_n (i := 1) dX9_movesOn_19 rfl rfl ?_
    refine z_iload_n (i := 2) dX9_movesOn_20 rfl rfl ?_
    refine z_callV (st := []) (mc2 := 0) (ms2 := 0) zi9_273 zv_yX9_lays (c9_lays I L g _ (by omega)) dX9_movesOn_21 (show (0 : Nat) < 35 by decide) rfl rfl rfl rfl (by decide) (by decide) (Nat.le_of_ble_eq_true rfl) (by decide) (by decide) (fun r h2 hq => ?_)
    obtain ⟨rfl, rfl⟩ := hq
    try simp only [Option.toList, List.nil_append]
    refine z_aload_n (i := 0) dX9_movesOn_24 rfl rfl ?_
    refine z_gR zf9_131.g dX9_movesOn_25 (by decide) rfl rfl ?_
    refine z_iload_n (i := 1) dX9_movesOn_28 rfl rfl ?_
    refine z_dup2 dX9_movesOn_29 rfl rfl ?_
    refine z_iald dX9_movesOn_30 (by decide) rfl (zvin (by omega) (by omega)) ?_
    rw [zcl (by omega)]
    refine z_iconst (v := 1) dX9_movesOn_31 (by decide) ?_
    refine z_iadd dX9_movesOn_32 ?_
    refine z_iast dX9_movesOn_33 (by decide) rfl (zvin (by omega) (by omega)) ?_
    refine z_goto 51 dX9_movesOn_34 (by decide) ?_
    refine z_vret dX9_movesOn_51 rfl ?_
    subst hQ0
    rw [if_neg c_1, zcl (by omega)]
    exact ⟨rfl, rfl⟩
end
section
def mok (I : Nat → Nat → Int32) (P G D : Nat) : Prop := P ≤ 6 ∧ G ≤ 60 ∧ D ≤ 357 ∧ I 0 24 = nI P ∧ I 0 35 = nI G ∧ I 0 34 = nI D ∧ (∀ g, g < G → ∃ W, W ≤ 50 ∧ I 29 g = nI W) ∧ ∀ g, g < G → I 31 g = 0 → I 32 g = -1
theorem mok_lays {I : Nat → Nat → Int32} {P G D : Nat} (h : mok I P G D) (g : Nat) (s : Int32) : mok (mlays I g s) P G D := by
  obtain ⟨h1, h2, h3, h4, h5, h6, h7, h8⟩ := h
  refine ⟨h1, h2, h3, h4, h5, h6, h7, fun q hq h0 => ?_⟩
  unfold mlays at h0 ⊢
  rw [zu_apply, if_neg (by omega), zu_apply] at h0
  rw [zu_apply]
  by_cases e : q = g
  · rw [if_pos ⟨rfl, e⟩] at h0
    exact absurd h0 (by decide)
  · rw [if_neg (by omega)] at h0
    rw [if_neg (by omega), zu_apply, if_neg (by omega)]
    exact h8 q hq h0
theorem mok_unl {I : Nat → Nat → Int32} {P G D : Nat} (h : mok I P G D) (g : Nat) : mok (munl I g) P G D := by
  obtain ⟨h1, h2, h3, h4, h5, h6, h7, h8⟩ := h
  refine ⟨h1, h2, h3, h4, h5, h6, h7, fun q hq h0 => ?_⟩
  unfold munl at h0 ⊢
  rw [zu_apply, if_neg (by omega), zu_apply] at h0
  rw [zu_apply]
  by_cases e : q = g
  · rw [if_pos ⟨rfl, e⟩]
  · rw [if_neg (by omega)] at h0
    rw [if_neg (by omega), zu_apply, if_neg (by omega)]
    exact h8 q hq h0
theorem mok_gw {I J : Nat → Nat → Int32} {P G D k g : Nat} (h : mok I P G D) (e : mgw I P G D k g = some J) : mok J P G D := by
  unfold mgw at e
  split at e
  · cases e
  · split at e
    · cases e
    · cases e
      exact mok_lays (mok_lays (mok_unl h k) _ _) _ _
theorem mok_lk {I J : Nat → Nat → Int32} {P G D g : Nat} (h : mok I P G D) : ∀ (m k : Nat), mlk I P G D g k m = some J → mok J P G D
  | 0, k, e => by cases e
  | m + 1, k, e => by
    unfold mlk at e
    split at e
    · split at e
      · cases e
        exact mok_gw h (by assumption)
      · exact mok_lk h m _ e
    · exact mok_lk h m _ e
theorem mok_lo {I J : Nat → Nat → Int32} {P G D g : Nat} (h : mok I P G D) (e : mlo I P G D g = some J) : mok J P G D := by
  unfold mlo at e
  split at e
  · exact mok_lk h _ _ e
  · cases e
    exact mok_lays h _ _
def mlayG (P G D : Nat) (w r : Int32) (x : (Nat → Nat → Int32) × Int32) : Nat → (Nat → Nat → Int32) × Int32
  | 0 => x
  | j + 1 => if (mlayG P G D w r x j).1 31 j = 0 ∧ (mlayG P G D w r x j).1 29 j = w ∧ (mlayG P G D w r x j).1 28 j = r then (match mlo (mlayG P G D w r x j).1 P G D j with
    | some J => (J, (mlayG P G D w r x j).2)
    | none => ((mlayG P G D w r x j).1, (mlayG P G D w r x j).2 + 1)) else mlayG P G D w r x j
def mlayR (P G D : Nat) (w : Int32) (x : (Nat → Nat → Int32) × Int32) : Nat → (Nat → Nat → Int32) × Int32
  | 0 => x
  | i + 1 => mlayG P G D w (9 - nI i) (mlayR P G D w x i) G
theorem mok_layG {P G D : Nat} {w r : Int32} {x : (Nat → Nat → Int32) × Int32} (h : mok x.1 P G D) : ∀ j, mok (mlayG P G D w r x j).1 P G D
  | 0 => h
  | j + 1 => by
    unfold mlayG
    split
    · split
      · exact mok_lo (mok_layG h j) (by assumption)
      · exact mok_layG h j
    · exact mok_layG h j
theorem mok_layR {P G D : Nat} {w : Int32} {x : (Nat → Nat → Int32) × Int32} (h : mok x.1 P G D) : ∀ i, mok (mlayR P G D w x i).1 P G D
  | 0 => h
  | i + 1 => mok_layG (mok_layR h i) G
theorem mr_lt : ∀ i, i ≤ 10 → ((9 - nI i < 0) ↔ i = 10) := by decide +kernel
theorem mr_dec (i : Nat) : (9 - nI i) + Int32.ofInt (-1) = 9 - nI (i + 1) := by
  rw [show Int32.ofInt (-1) = -(1 : Int32) by decide, nI_succ, ← Int32.sub_eq_add_neg, Int32.sub_sub]
theorem zinc1 (x : Int32) : x + Int32.ofInt 1 = x + 1 := by rw [show Int32.ofInt 1 = (1 : Int32) by decide]
abbrev x9_lay_ : ZX := (RX9, cX9_lay_, 5, (some .int), "lay", 6, 240, false)
set_option maxHeartbeats 4000000 in
theorem l9_layG {L : Nat → Nat → Int64} {Q : Option Value → ZH → Prop} {P G D : Nat} {w r : Int32} {x : (Nat → Nat → Int32) × Int32} (ok : mok x.1 P G D) (hx : ∀ ls : Nat → Option Value, ls 0 = some (.ref 0) → ls 1 = some (.int w) → ls 2 = some (.int (mlayG P G D w r x G).2) → ls 3 = some (.int r) → Zf x9_lay_ 0 0 86 ls [] (mh (mlayG P G D w r x G).1 L) Q) : ∀ (m j : Nat), G - j < m → j ≤ G → ∀ ls : Nat → Option Value, ls 0 = some (.ref 0) → ls 1 = some (.int w) → ls 2 = some (.int (mlayG P G D w r x j).2) → ls 3 = some (.int r) → ls 4 = some (.int (nI j)) → Zf x9_lay_ 0 0 27 ls [] (mh (mlayG P G D w r x j).1 L) Q := by
  intro m
  induction m with
  | zero => intro j h; omega
  | succ m ih =>
  intro j hm hj ls hl0 hl1 hl2 hl3 hl4
  have ok2 := mok_layG (w := w) (r := r) ok j
  have hs : mlayG P G D w r x (j + 1) = if (mlayG P G D w r x j).1 31 j = 0 ∧ (mlayG P G D w r x j).1 29 j = w ∧ (mlayG P G D w r x j).1 28 j = r then (match mlo (mlayG P G D w r x j).1 P G D j with | some J => (J, (mlayG P G D w r x j).2) | none => ((mlayG P G D w r x j).1, (mlayG P G D w r x j).2 + 1)) else mlayG P G D w r x j := rfl
  have hfin : j = G → mlayG P G D w r x j = mlayG P G D w r x G := fun e => by rw [e]
  generalize mlayG P G D w r x j = y at ok2 hs hl2 hfin ⊢
  obtain ⟨J, lf⟩ := y
  dsimp only at ok2 hs hl2 hfin ⊢
  obtain ⟨hP, hG, hD, h24, h35, h34, hw, hn⟩ := id ok2
  refine z_iload dX9_lay__27 hl4 ?_
  refine z_aload_n (i := 0) dX9_lay__29 rfl hl0 ?_
  refine z_gI zf9_253.g dX9_lay__30 (by decide) rfl ?_
  rw [h35]
  refine z_icmp_ge 86 dX9_lay__33 (by decide) (fun c_1 => ?_) (fun c_1 => ?_)
  · skip
    have h1 := (zle (by omega) (by omega)).mp c_1
    have e := hfin (by omega)
    have hx2 := hx ls hl0 hl1 (by rw [← e]; exact hl2) hl3
    rw [← e] at hx2
    exact hx2
  · skip
    have h1 : ¬ G ≤ j := fun q => c_1 ((zle (by omega) (by omega)).mpr q)
    refine z_aload_n (i := 0) dX9_lay__36 rfl hl0 ?_
    refine z_gR zf9_125.g dX9_lay__37 (by decide) rfl rfl ?_
    refine z_iload dX9_lay__40 hl4 ?_
    refine z_iald dX9_lay__42 (by decide) rfl (zvin (by omega) (by omega)) ?_
    rw [zcl (by omega)]
    refine z_if_ne 80 dX9_lay__43 (by decide) (fun c_2 => ?_) (fun c_2 => ?_)
    · skip
      refine z_iinc dX9_lay__80 hl4 rfl ?_
      refine z_goto 27 dX9_lay__83 (by decide) ?_
      rw [if_neg (fun h => c_2 h.1)] at hs
      rw [zinc]
      have h9 := ih (j + 1) (by omega) (by omega) (va_up ls 4 (some (Value.int (nI (j + 1))))) hl0 hl1 (by rw [hs]; exact hl2) hl3 rfl
      rw [hs] at h9
      exact h9
    · skip
      refine z_aload_n (i := 0) dX9_lay__46 rfl hl0 ?_
      refine z_gR zf9_119.g dX9_lay__47 (by decide) rfl rfl ?_
      refine z_iload dX9_lay__50 hl4 ?_
      refine z_iald dX9_lay__52 (by decide) rfl (zvin (by omega) (by omega)) ?_
      rw [zcl (by omega)]
      refine z_iload_n (i := 1) dX9_lay__53 rfl hl1 ?_
      refine z_icmp_ne 80 dX9_lay__54 (by decide) (fun c_3 => ?_) (fun c_3 => ?_)
      · skip
        refine z_iinc dX9_lay__80 hl4 rfl ?_
        refine z_goto 27 dX9_lay__83 (by decide) ?_
        rw [if_neg (fun h => c_3 h.2.1)] at hs
        rw [zinc]
        have h9 := ih (j + 1) (by omega) (by omega) (va_up ls 4 (some (Value.int (nI (j + 1))))) hl0 hl1 (by rw [hs]; exact hl2) hl3 rfl
        rw [hs] at h9
        exact h9
      · skip
        refine z_aload_n (i := 0) dX9_lay__57 rfl hl0 ?_
        refine z_gR zf9_116.g dX9_lay__58 (by decide) rfl rfl ?_
        refine z_iload dX9_lay__61 hl4 ?_
        refine z_iald dX9_lay__63 (by decide) rfl (zvin (by omega) (by omega)) ?_
        rw [zcl (by omega)]
        refine z_iload_n (i := 3) dX9_lay__64 rfl hl3 ?_
        refine z_icmp_ne 80 dX9_lay__65 (by decide) (fun c_4 => ?_) (fun c_4 => ?_)
        · skip
          refine z_iinc dX9_lay__80 hl4 rfl ?_
          refine z_goto 27 dX9_lay__83 (by decide) ?_
          rw [if_neg (fun h => c_4 h.2.2)] at hs
          rw [zinc]
          have h9 := ih (j + 1) (by omega) (by omega) (va_up ls 4 (some (Value.int (nI (j + 1))))) hl0 hl1 (by rw [hs]; exact hl2) hl3 rfl
          rw [hs] at h9
          exact h9
        · skip
          refine z_aload_n (i := 0) dX9_lay__68 rfl hl0 ?_
          refine z_iload dX9_lay__69 hl4 ?_
          refine z_callV (st := []) (mc2 := 0) (ms2 := 0) zi9_279 zv_yX9_laysOne (c9_laysOne J L P G D hP hG hD h24 h35 h34 j hw (by omega) c_2 (hn j (by omega) c_2)) dX9_lay__71 (show (0 : Nat) < 35 by decide) rfl rfl rfl rfl (by decide) (by decide) (Nat.le_of_ble_eq_true rfl) (by decide) (by decide) (fun r h2 hq => ?_)
          obtain ⟨rfl, rfl⟩ := hq
          rw [if_pos ⟨c_2, c_3, c_4⟩] at hs
          refine z_if_ne 80 dX9_lay__74 (by decide) (fun c_5 => ?_) (fun c_5 => ?_)
          · skip
            refine z_iinc dX9_lay__80 hl4 rfl ?_
            refine z_goto 27 dX9_lay__83 (by decide) ?_
            rw [zinc]
            cases hlo : mlo J P G D j with
            | none => rw [hlo] at c_5; simp [zb] at c_5
            | some J2 =>
              rw [hlo] at hs
              have h9 := ih (j + 1) (by omega) (by omega) (va_up ls 4 (some (Value.int (nI (j + 1))))) hl0 hl1 (by rw [hs]; exact hl2) hl3 rfl
              rw [hs] at h9
              exact h9
          · skip
            refine z_iinc dX9_lay__77 hl2 rfl ?_
            refine z_iinc dX9_lay__80 hl4 rfl ?_
            refine z_goto 27 dX9_lay__83 (by decide) ?_
            rw [zinc, zinc1]
            cases hlo : mlo J P G D j with
            | some J2 => rw [hlo] at c_5; simp [zb] at c_5
            | none =>
              rw [hlo] at hs
              have h9 := ih (j + 1) (by omega) (by omega) (va_up (va_up ls 2 (some (Value.int (lf + 1)))) 4 (some (Value.int (nI (j + 1))))) hl0 hl1 (by rw [hs]; rfl) hl3 rfl
              rw [hs] at h9
              exact h9
set_option maxHeartbeats 4000000 in
theorem l9_layR {L : Nat → Nat → Int64} {Q : Option Value → ZH → Prop} {P G D : Nat} {w : Int32} {x : (Nat → Nat → Int32) × Int32} (ok : mok x.1 P G D) (hQ : Q (some (.int (mlayR P G D w x 10).2)) (mh (mlayR P G D w x 10).1 L)) : ∀ (m j : Nat), 10 - j < m → j ≤ 10 → ∀ ls : Nat → Option Value, ls 0 = some (.ref 0) → ls 1 = some (.int w) → ls 2 = some (.int (mlayR P G D w x j).2) → ls 3 = some (.int (9 - nI j)) → Zf x9_lay_ 0 0 20 ls [] (mh (mlayR P G D w x j).1 L) Q := by
  intro m
  induction m with
  | zero => intro j h; omega
  | succ m ih =>
  intro j hm hj ls hl0 hl1 hl2 hl3
  refine z_iload_n (i := 3) dX9_lay__20 rfl hl3 ?_
  refine z_if_lt 92 dX9_lay__21 (by decide) (fun c_1 => ?_) (fun c_1 => ?_)
  · skip
    refine z_iload_n (i := 2) dX9_lay__92 rfl hl2 ?_
    refine z_iret dX9_lay__93 rfl ?_
    have h1 := (mr_lt j hj).mp c_1
    subst h1
    exact hQ
  · skip
    refine z_iconst (v := 0) dX9_lay__24 (by decide) ?_
    refine z_istore (i := 4) dX9_lay__25 (by decide) rfl ?_
    have h1 : j ≠ 10 := fun e => c_1 ((mr_lt j hj).mpr e)
    refine l9_layG (x := mlayR P G D w x j) (r := 9 - nI j) (mok_layR ok j) (fun ls2 a0 a1 a2 a3 => ?_) (G + 1) 0 (by omega) (by omega) _ hl0 hl1 hl2 hl3 rfl
    refine z_iinc dX9_lay__86 a3 rfl ?_
    refine z_goto 20 dX9_lay__89 (by decide) ?_
    rw [mr_dec]
    exact ih (j + 1) (by omega) (by omega) _ a0 a1 a2 rfl
def mgone (I : Nat → Nat → Int32) (w : Int32) : Int32 := if w < 0 then 1 else if 50 < w then 1 else if I 0 34 < 7 * (w + 1) then 0 else 1
set_option maxHeartbeats 4000000 in
theorem c9_lay_ (I : Nat → Nat → Int32) (L : Nat → Nat → Int64) (P G D : Nat) (w : Int32) (ok : mok I P G D) : Zm yX9_lay_ cX9_lay_ 5 (some .int) 6 240 0 0 [.ref 0, .int w] (mh I L) (mQ (some (.int (if mgone I w = 0 then (mlayR P G D w (zu I 0 0 0, 0) 10).2 else -1))) (if mgone I w = 0 then (mlayR P G D w (zu I 0 0 0, 0) 10).1 else zu I 0 0 0) L) := by
  refine Zm_of (lg := false) (by decide) (fun _ => by simp [Value.category]) (fun _ => Nat.le_of_ble_eq_true rfl) ?_
  show Zf x9_lay_ 0 0 0 (zargs [.ref 0, .int w]) [] (mh I L) _
  generalize hQ0 : (mQ (some (.int (if mgone I w = 0 then (mlayR P G D w (zu I 0 0 0, 0) 10).2 else -1))) (if mgone I w = 0 then (mlayR P G D w (zu I 0 0 0, 0) 10).1 else zu I 0 0 0) L : Option Value → ZH → Prop) = Q0
  refine z_aload_n (i := 0) dX9_lay__0 rfl rfl ?_
  refine z_iconst (v := 0) dX9_lay__1 (by decide) ?_
  refine z_putI zf9_137 dX9_lay__2 (fun h => by cases h) (by decide) rfl ?_
  refine z_aload_n (i := 0) dX9_lay__5 rfl rfl ?_
  refine z_iload_n (i := 1) dX9_lay__6 rfl rfl ?_
  refine z_callV (st := []) (mc2 := 0) (ms2 := 0) zi9_249 zv_yX9_isGone (c9_isGone (zu I 0 0 0) L w) dX9_lay__7 (show (0 : Nat) < 35 by decide) rfl rfl rfl rfl (by decide) (by decide) (Nat.le_of_ble_eq_true rfl) (by decide) (by decide) (fun r h2 hq => ?_)
  obtain ⟨rfl, rfl⟩ := hq
  refine z_if_eq 15 dX9_lay__10 (by decide) (fun c_1 => ?_) (fun c_1 => ?_)
  · skip
    refine z_iconst (v := 0) dX9_lay__15 (by decide) ?_
    refine z_istore_n (i := 2) dX9_lay__16 rfl (by decide) rfl ?_
    refine z_bipush (v := 9) dX9_lay__17 (by decide) ?_
    refine z_istore_n (i := 3) dX9_lay__19 rfl (by decide) rfl ?_
    subst hQ0
    rw [if_pos (show mgone I w = 0 from c_1), if_pos (show mgone I w = 0 from c_1)]
    exact l9_layR (P := P) (G := G) (D := D) (w := w) (x := (zu I 0 0 0, 0)) ok ⟨rfl, rfl⟩ 11 0 (by omega) (by omega) _ rfl rfl rfl rfl
  · skip
    refine z_iconst (v := (-1)) dX9_lay__13 (by decide) ?_
    refine z_iret dX9_lay__14 rfl ?_
    subst hQ0
    rw [if_neg (show ¬ mgone I w = 0 from c_1), if_neg (show ¬ mgone I w = 0 from c_1)]
    exact ⟨rfl, rfl⟩
end
section
def mop (o : Nat) (a b : Int32) : Int32 := if o = 3 then a + b else if o = 4 then a - b else if o = 5 then (if b ≤ a then 0 else 1) else if o = 6 then (if a = b then 1 else 0) else (if a = 0 then 0 else if b = 0 then 0 else 1)
def mrpn : List (Nat × Int32) → Nat → Prop
  | [], h => 1 ≤ h
  | c :: cs, h => (c.1 = 1 ∧ mrpn cs (h + 1)) ∨ (c.1 = 2 ∧ (∃ k, k < 8 ∧ c.2 = nI k) ∧ mrpn cs (h + 1)) ∨ ((3 ≤ c.1 ∧ c.1 ≤ 7) ∧ 2 ≤ h ∧ mrpn cs (h - 1))
def mwl : List (Nat × Int32) → (Nat → Nat → Int32) → Nat → Nat → Nat → Int32
  | [], I, _ => I
  | c :: cs, I, h => if c.1 = 1 then mwl cs (zu I 15 h c.2) (h + 1) else if c.1 = 2 then mwl cs (zu I 15 h (I 14 c.2.toNatClampNeg)) (h + 1) else mwl cs (zu I 15 (h - 2) (mop c.1 (I 15 (h - 2)) (I 15 (h - 1)))) (h - 1)
def mcode (I : Nat → Nat → Int32) (i : Nat) (cs : List (Nat × Int32)) : Prop := (∀ (j : Nat) (c : Nat × Int32), cs[j]? = some c → I 9 (i + j) = nI c.1 ∧ I 10 (i + j) = c.2) ∧ I 9 (i + cs.length) = 0
theorem mcode_tl {I : Nat → Nat → Int32} {i : Nat} {c : Nat × Int32} {cs : List (Nat × Int32)} (h : mcode I i (c :: cs)) : mcode I (i + 1) cs := by
  refine ⟨fun j d hd => ?_, ?_⟩
  · have := h.1 (j + 1) d (by simpa using hd)
    rwa [show i + (j + 1) = i + 1 + j by omega] at this
  · have := h.2
    rwa [show i + (c :: cs).length = i + 1 + cs.length by simp; omega] at this
theorem mcode_zu {I : Nat → Nat → Int32} {i a k : Nat} {v : Int32} {cs : List (Nat × Int32)} (h : mcode I i cs) (h9 : a ≠ 9) (h10 : a ≠ 10) : mcode (zu I a k v) i cs := by
  refine ⟨fun j d hd => ?_, ?_⟩
  · rw [zu_ne _ _ _ (Ne.symm h9), zu_ne _ _ _ (Ne.symm h10)]; exact h.1 j d hd
  · rw [zu_ne _ _ _ (Ne.symm h9)]; exact h.2
theorem zdec (t : Nat) : nI (t + 1) + Int32.ofInt (-1) = nI t := by rw [show Int32.ofInt (-1) = -(1 : Int32) by decide, nI_succ, Int32.add_assoc, Int32.add_right_neg, Int32.add_zero]
theorem zsub1 (t : Nat) : nI (t + 1) - 1 = nI t := nI_pred t
abbrev x9_worth : ZX := (RX9, cX9_worth, 7, (some .int), "worth", 0, 0, false)
set_option maxHeartbeats 8000000 in
theorem l9_worth {L : Nat → Nat → Int64} {Q : Option Value → ZH → Prop} : ∀ (cs : List (Nat × Int32)) (I : Nat → Nat → Int32) (i h : Nat) (ls : Nat → Option Value), mcode I i cs → mrpn cs h → i + cs.length < 1320 → h + cs.length ≤ 660 → ls 0 = some (.ref 0) → ls 2 = some (.int (nI i)) → ls 3 = some (.int (nI h)) → Q (some (.int (mwl cs I h 15 0))) (mh (mwl cs I h) L) → Zf x9_worth 0 0 4 ls [] (mh I L) Q := by
  intro cs
  induction cs with
  | nil =>
    intro I i h ls hc hr hi hh hl0 hl2 hl3 hQ
    simp only [List.length_nil, Nat.add_zero] at hi hh
    have h9 : I 9 i = 0 := hc.2
    refine z_aload_n (i := 0) dX9_worth_4 rfl hl0 ?_
    refine z_gR zf9_59.g dX9_worth_5 (by decide) rfl rfl ?_
    refine z_iload_n (i := 2) dX9_worth_8 rfl hl2 ?_
    refine z_iald dX9_worth_9 (by decide) rfl (zvin (by omega) (by omega)) ?_
    rw [zcl (by omega), h9]
    refine z_if_eq 192 dX9_worth_10 (by decide) (fun _ => ?_) (fun c_1 => absurd rfl c_1)
    refine z_aload_n (i := 0) dX9_worth_192 rfl hl0 ?_
    refine z_gR zf9_77.g dX9_worth_193 (by decide) rfl rfl ?_
    refine z_iconst (v := 0) dX9_worth_196 (by decide) ?_
    refine z_iald dX9_worth_197 (by decide) rfl (zvin (n := 0) (by omega) (by omega)) ?_
    refine z_iret dX9_worth_198 rfl ?_
    exact hQ
  | cons c cs ih =>
    obtain ⟨o, v⟩ := c
    intro I i h ls hc hr hi hh hl0 hl2 hl3 hQ
    simp only [List.length_cons] at hi hh
    obtain ⟨h9, h10⟩ := hc.1 0 (o, v) rfl
    rw [Nat.add_zero] at h9 h10
    dsimp only at h9 h10
    have hct := mcode_tl hc
    rcases hr with ⟨ho, hr⟩ | ⟨ho, ⟨k, hk8, hv⟩, hr⟩ | ⟨ho, h2, hr⟩
    · dsimp only at ho
      subst ho
      refine z_aload_n (i := 0) dX9_worth_4 rfl hl0 ?_
      refine z_gR zf9_59.g dX9_worth_5 (by decide) rfl rfl ?_
      refine z_iload_n (i := 2) dX9_worth_8 rfl hl2 ?_
      refine z_iald dX9_worth_9 (by decide) rfl (zvin (by omega) (by omega)) ?_
      rw [zcl (by omega), h9]
      refine z_if_eq 192 dX9_worth_10 (by decide) (fun c_1 => absurd c_1 (by decide)) (fun _ => ?_)
      refine z_aload_n (i := 0) dX9_worth_13 rfl hl0 ?_
      refine z_gR zf9_59.g dX9_worth_14 (by decide) rfl rfl ?_
      refine z_iload_n (i := 2) dX9_worth_17 rfl hl2 ?_
      refine z_iald dX9_worth_18 (by decide) rfl (zvin (by omega) (by omega)) ?_
      rw [zcl (by omega), h9]
      refine z_istore (i := 4) dX9_worth_19 (by decide) rfl ?_
      refine z_iload dX9_worth_21 rfl ?_
      refine z_iconst (v := 1) dX9_worth_23 (by decide) ?_
      refine z_icmp_eq 33 dX9_worth_24 (by decide) (fun _ => ?_) (fun c_2 => absurd c_2 (by decide))
      refine z_aload_n (i := 0) dX9_worth_33 rfl hl0 ?_
      refine z_gR zf9_77.g dX9_worth_34 (by decide) rfl rfl ?_
      refine z_iload_n (i := 3) dX9_worth_37 rfl hl3 ?_
      refine z_iload dX9_worth_38 rfl ?_
      refine z_iconst (v := 1) dX9_worth_40 (by decide) ?_
      refine z_icmp_ne 53 dX9_worth_41 (by decide) (fun c_3 => absurd c_3 (by decide)) (fun _ => ?_)
      refine z_aload_n (i := 0) dX9_worth_44 rfl hl0 ?_
      refine z_gR zf9_62.g dX9_worth_45 (by decide) rfl rfl ?_
      refine z_iload_n (i := 2) dX9_worth_48 rfl hl2 ?_
      refine z_iald dX9_worth_49 (by decide) rfl (zvin (by omega) (by omega)) ?_
      rw [zcl (by omega), h10]
      refine z_goto 64 dX9_worth_50 (by decide) ?_
      refine z_iast dX9_worth_64 (by decide) rfl (zvin (by omega) (by omega)) ?_
      refine z_iinc dX9_worth_65 hl3 rfl ?_
      refine z_goto 186 dX9_worth_68 (by decide) ?_
      refine z_iinc dX9_worth_186 hl2 rfl ?_
      refine z_goto 4 dX9_worth_189 (by decide) ?_
      simp only [zcl (show h ≤ 100000 by omega)]
      rw [zinc, zinc]
      exact ih _ (i + 1) (h + 1) _ (mcode_zu hct (by decide) (by decide)) hr (by omega) (by omega) hl0 rfl rfl hQ
    · dsimp only at ho hv
      subst ho
      subst hv
      refine z_aload_n (i := 0) dX9_worth_4 rfl hl0 ?_
      refine z_gR zf9_59.g dX9_worth_5 (by decide) rfl rfl ?_
      refine z_iload_n (i := 2) dX9_worth_8 rfl hl2 ?_
      refine z_iald dX9_worth_9 (by decide) rfl (zvin (by omega) (by omega)) ?_
      rw [zcl (by omega), h9]
      refine z_if_eq 192 dX9_worth_10 (by decide) (fun c_1 => absurd c_1 (by decide)) (fun _ => ?_)
      refine z_aload_n (i := 0) dX9_worth_13 rfl hl0 ?_
      refine z_gR zf9_59.g dX9_worth_14 (by decide) rfl rfl ?_
      refine z_iload_n (i := 2) dX9_worth_17 rfl hl2 ?_
      refine z_iald dX9_worth_18 (by decide) rfl (zvin (by omega) (by omega)) ?_
      rw [zcl (by omega), h9]
      refine z_istore (i := 4) dX9_worth_19 (by decide) rfl ?_
      refine z_iload dX9_worth_21 rfl ?_
      refine z_iconst (v := 1) dX9_worth_23 (by decide) ?_
      refine z_icmp_eq 33 dX9_worth_24 (by decide) (fun c_2 => absurd c_2 (by decide)) (fun _ => ?_)
      refine z_iload dX9_worth_27 rfl ?_
      refine z_iconst (v := 2) dX9_worth_29 (by decide) ?_
      refine z_icmp_ne 71 dX9_worth_30 (by decide) (fun c_3 => absurd c_3 (by decide)) (fun _ => ?_)
      refine z_aload_n (i := 0) dX9_worth_33 rfl hl0 ?_
      refine z_gR zf9_77.g dX9_worth_34 (by decide) rfl rfl ?_
      refine z_iload_n (i := 3) dX9_worth_37 rfl hl3 ?_
      refine z_iload dX9_worth_38 rfl ?_
      refine z_iconst (v := 1) dX9_worth_40 (by decide) ?_
      refine z_icmp_ne 53 dX9_worth_41 (by decide) (fun _ => ?_) (fun c_4 => absurd c_4 (by decide))
      refine z_aload_n (i := 0) dX9_worth_53 rfl hl0 ?_
      refine z_gR zf9_74.g dX9_worth_54 (by decide) rfl rfl ?_
      refine z_aload_n (i := 0) dX9_worth_57 rfl hl0 ?_
      refine z_gR zf9_62.g dX9_worth_58 (by decide) rfl rfl ?_
      refine z_iload_n (i := 2) dX9_worth_61 rfl hl2 ?_
      refine z_iald dX9_worth_62 (by decide) rfl (zvin (by omega) (by omega)) ?_
      rw [zcl (by omega), h10]
      refine z_iald dX9_worth_63 (by decide) rfl (zvin (by omega) (by omega)) ?_
      refine z_iast dX9_worth_64 (by decide) rfl (zvin (by omega) (by omega)) ?_
      refine z_iinc dX9_worth_65 hl3 rfl ?_
      refine z_goto 186 dX9_worth_68 (by decide) ?_
      refine z_iinc dX9_worth_186 hl2 rfl ?_
      refine z_goto 4 dX9_worth_189 (by decide) ?_
      simp only [zcl (show h ≤ 100000 by omega)]
      rw [zinc, zinc]
      exact ih _ (i + 1) (h + 1) _ (mcode_zu hct (by decide) (by decide)) hr (by omega) (by omega) hl0 rfl rfl hQ
    · dsimp only at ho
      obtain ⟨t, rfl⟩ : ∃ t, h = t + 2 := ⟨h - 2, by omega⟩
      rcases (show o = 3 ∨ o = 4 ∨ o = 5 ∨ o = 6 ∨ o = 7 by omega) with rfl | rfl | rfl | rfl | rfl
      · skip
        refine z_aload_n (i := 0) dX9_worth_4 rfl hl0 ?_
        refine z_gR zf9_59.g dX9_worth_5 (by decide) rfl rfl ?_
        refine z_iload_n (i := 2) dX9_worth_8 rfl hl2 ?_
        refine z_iald dX9_worth_9 (by decide) rfl (zvin (by omega) (by omega)) ?_
        rw [zcl (by omega), h9]
        refine z_if_eq 192 dX9_worth_10 (by decide) (fun c_1 => absurd c_1 (by decide)) (fun _ => ?_)
        refine z_aload_n (i := 0) dX9_worth_13 rfl hl0 ?_
        refine z_gR zf9_59.g dX9_worth_14 (by decide) rfl rfl ?_
        refine z_iload_n (i := 2) dX9_worth_17 rfl hl2 ?_
        refine z_iald dX9_worth_18 (by decide) rfl (zvin (by omega) (by omega)) ?_
        rw [zcl (by omega), h9]
        refine z_istore (i := 4) dX9_worth_19 (by decide) rfl ?_
        refine z_iload dX9_worth_21 rfl ?_
        refine z_iconst (v := 1) dX9_worth_23 (by decide) ?_
        refine z_icmp_eq 33 dX9_worth_24 (by decide) (fun c_2 => absurd c_2 (by decide)) (fun _ => ?_)
        refine z_iload dX9_worth_27 rfl ?_
        refine z_iconst (v := 2) dX9_worth_29 (by decide) ?_
        refine z_icmp_ne 71 dX9_worth_30 (by decide) (fun _ => ?_) (fun c_3 => absurd c_3 (by decide))
        refine z_iinc dX9_worth_71 hl3 rfl ?_
        rw [zdec]
        refine z_aload_n (i := 0) dX9_worth_74 rfl hl0 ?_
        refine z_gR zf9_77.g dX9_worth_75 (by decide) rfl rfl ?_
        refine z_iload_n (i := 3) dX9_worth_78 rfl rfl ?_
        refine z_iald dX9_worth_79 (by decide) rfl (zvin (by omega) (by omega)) ?_
        rw [zcl (by omega)]
        refine z_istore (i := 5) dX9_worth_80 (by decide) rfl ?_
        refine z_aload_n (i := 0) dX9_worth_82 rfl hl0 ?_
        refine z_gR zf9_77.g dX9_worth_83 (by decide) rfl rfl ?_
        refine z_iload_n (i := 3) dX9_worth_86 rfl rfl ?_
        refine z_iconst (v := 1) dX9_worth_87 (by decide) ?_
        refine z_isub dX9_worth_88 ?_
        rw [zsub1]
        refine z_iald dX9_worth_89 (by decide) rfl (zvin (by omega) (by omega)) ?_
        rw [zcl (by omega)]
        refine z_istore (i := 6) dX9_worth_90 (by decide) rfl ?_
        refine z_aload_n (i := 0) dX9_worth_92 rfl hl0 ?_
        refine z_gR zf9_77.g dX9_worth_93 (by decide) rfl rfl ?_
        refine z_iload_n (i := 3) dX9_worth_96 rfl rfl ?_
        refine z_iconst (v := 1) dX9_worth_97 (by decide) ?_
        refine z_isub dX9_worth_98 ?_
        rw [zsub1]
        refine z_iload dX9_worth_99 rfl ?_
        refine z_iconst (v := 3) dX9_worth_101 (by decide) ?_
        refine z_icmp_ne 113 dX9_worth_102 (by decide) (fun c_4 => absurd c_4 (by decide)) (fun _ => ?_)
        refine z_iload dX9_worth_105 rfl ?_
        refine z_iload dX9_worth_107 rfl ?_
        refine z_iadd dX9_worth_109 ?_
        refine z_goto 185 dX9_worth_110 (by decide) ?_
        refine z_topi (fun w hw => ?_)
        have e2 : w = mop 3 (I 15 t) (I 15 (t + 1)) := by rw [hw]; simp [mop, *]
        subst e2
        refine z_iast dX9_worth_185 (by decide) rfl (zvin (by omega) (by omega)) ?_
        refine z_iinc dX9_worth_186 hl2 rfl ?_
        refine z_goto 4 dX9_worth_189 (by decide) ?_
        simp only [zcl (show t ≤ 100000 by omega)]
        rw [zinc]
        exact ih _ (i + 1) (t + 1) _ (mcode_zu hct (by decide) (by decide)) hr (by omega) (by omega) hl0 rfl rfl hQ
      · skip
        refine z_aload_n (i := 0) dX9_worth_4 rfl hl0 ?_
        refine z_gR zf9_59.g dX9_worth_5 (by decide) rfl rfl ?_
        refine z_iload_n (i := 2) dX9_worth_8 rfl hl2 ?_
        refine z_iald dX9_worth_9 (by decide) rfl (zvin (by omega) (by omega)) ?_
        rw [zcl (by omega), h9]
        refine z_if_eq 192 dX9_worth_10 (by decide) (fun c_1 => absurd c_1 (by decide)) (fun _ => ?_)
        refine z_aload_n (i := 0) dX9_worth_13 rfl hl0 ?_
        refine z_gR zf9_59.g dX9_worth_14 (by decide) rfl rfl ?_
        refine z_iload_n (i := 2) dX9_worth_17 rfl hl2 ?_
        refine z_iald dX9_worth_18 (by decide) rfl (zvin (by omega) (by omega)) ?_
        rw [zcl (by omega), h9]
        refine z_istore (i := 4) dX9_worth_19 (by decide) rfl ?_
        refine z_iload dX9_worth_21 rfl ?_
        refine z_iconst (v := 1) dX9_worth_23 (by decide) ?_
        refine z_icmp_eq 33 dX9_worth_24 (by decide) (fun c_2 => absurd c_2 (by decide)) (fun _ => ?_)
        refine z_iload dX9_worth_27 rfl ?_
        refine z_iconst (v := 2) dX9_worth_29 (by decide) ?_
        refine z_icmp_ne 71 dX9_worth_30 (by decide) (fun _ => ?_) (fun c_3 => absurd c_3 (by decide))
        refine z_iinc dX9_worth_71 hl3 rfl ?_
        rw [zdec]
        refine z_aload_n (i := 0) dX9_worth_74 rfl hl0 ?_
        refine z_gR zf9_77.g dX9_worth_75 (by decide) rfl rfl ?_
        refine z_iload_n (i := 3) dX9_worth_78 rfl rfl ?_
        refine z_iald dX9_worth_79 (by decide) rfl (zvin (by omega) (by omega)) ?_
        rw [zcl (by omega)]
        refine z_istore (i := 5) dX9_worth_80 (by decide) rfl ?_
        refine z_aload_n (i := 0) dX9_worth_82 rfl hl0 ?_
        refine z_gR zf9_77.g dX9_worth_83 (by decide) rfl rfl ?_
        refine z_iload_n (i := 3) dX9_worth_86 rfl rfl ?_
        refine z_iconst (v := 1) dX9_worth_87 (by decide) ?_
        refine z_isub dX9_worth_88 ?_
        rw [zsub1]
        refine z_iald dX9_worth_89 (by decide) rfl (zvin (by omega) (by omega)) ?_
        rw [zcl (by omega)]
        refine z_istore (i := 6) dX9_worth_90 (by decide) rfl ?_
        refine z_aload_n (i := 0) dX9_worth_92 rfl hl0 ?_
        refine z_gR zf9_77.g dX9_worth_93 (by decide) rfl rfl ?_
        refine z_iload_n (i := 3) dX9_worth_96 rfl rfl ?_
        refine z_iconst (v := 1) dX9_worth_97 (by decide) ?_
        refine z_isub dX9_worth_98 ?_
        rw [zsub1]
        refine z_iload dX9_worth_99 rfl ?_
        refine z_iconst (v := 3) dX9_worth_101 (by decide) ?_
        refine z_icmp_ne 113 dX9_worth_102 (by decide) (fun _ => ?_) (fun c_4 => absurd c_4 (by decide))
        refine z_iload dX9_worth_113 rfl ?_
        refine z_iconst (v := 4) dX9_worth_115 (by decide) ?_
        refine z_icmp_ne 127 dX9_worth_116 (by decide) (fun c_5 => absurd c_5 (by decide)) (fun _ => ?_)
        refine z_iload dX9_worth_119 rfl ?_
        refine z_iload dX9_worth_121 rfl ?_
        refine z_isub dX9_worth_123 ?_
        refine z_goto 185 dX9_worth_124 (by decide) ?_
        refine z_topi (fun w hw => ?_)
        have e2 : w = mop 4 (I 15 t) (I 15 (t + 1)) := by rw [hw]; simp [mop, *]
        subst e2
        refine z_iast dX9_worth_185 (by decide) rfl (zvin (by omega) (by omega)) ?_
        refine z_iinc dX9_worth_186 hl2 rfl ?_
        refine z_goto 4 dX9_worth_189 (by decide) ?_
        simp only [zcl (show t ≤ 100000 by omega)]
        rw [zinc]
        exact ih _ (i + 1) (t + 1) _ (mcode_zu hct (by decide) (by decide)) hr (by omega) (by omega) hl0 rfl rfl hQ
      · skip
        refine z_aload_n (i := 0) dX9_worth_4 rfl hl0 ?_
        refine z_gR zf9_59.g dX9_worth_5 (by decide) rfl rfl ?_
        refine z_iload_n (i := 2) dX9_worth_8 rfl hl2 ?_
        refine z_iald dX9_worth_9 (by decide) rfl (zvin (by omega) (by omega)) ?_
        rw [zcl (by omega), h9]
        refine z_if_eq 192 dX9_worth_10 (by decide) (fun c_1 => absurd c_1 (by decide)) (fun _ => ?_)
        refine z_aload_n (i := 0) dX9_worth_13 rfl hl0 ?_
        refine z_gR zf9_59.g dX9_worth_14 (by decide) rfl rfl ?_
        refine z_iload_n (i := 2) dX9_worth_17 rfl hl2 ?_
        refine z_iald dX9_worth_18 (by decide) rfl (zvin (by omega) (by omega)) ?_
        rw [zcl (by omega), h9]
        refine z_istore (i := 4) dX9_worth_19 (by decide) rfl ?_
        refine z_iload dX9_worth_21 rfl ?_
        refine z_iconst (v := 1) dX9_worth_23 (by decide) ?_
        refine z_icmp_eq 33 dX9_worth_24 (by decide) (fun c_2 => absurd c_2 (by decide)) (fun _ => ?_)
        refine z_iload dX9_worth_27 rfl ?_
        refine z_iconst (v := 2) dX9_worth_29 (by decide) ?_
        refine z_icmp_ne 71 dX9_worth_30 (by decide) (fun _ => ?_) (fun c_3 => absurd c_3 (by decide))
        refine z_iinc dX9_worth_71 hl3 rfl ?_
        rw [zdec]
        refine z_aload_n (i := 0) dX9_worth_74 rfl hl0 ?_
        refine z_gR zf9_77.g dX9_worth_75 (by decide) rfl rfl ?_
        refine z_iload_n (i := 3) dX9_worth_78 rfl rfl ?_
        refine z_iald dX9_worth_79 (by decide) rfl (zvin (by omega) (by omega)) ?_
        rw [zcl (by omega)]
        refine z_istore (i := 5) dX9_worth_80 (by decide) rfl ?_
        refine z_aload_n (i := 0) dX9_worth_82 rfl hl0 ?_
        refine z_gR zf9_77.g dX9_worth_83 (by decide) rfl rfl ?_
        refine z_iload_n (i := 3) dX9_worth_86 rfl rfl ?_
        refine z_iconst (v := 1) dX9_worth_87 (by decide) ?_
        refine z_isub dX9_worth_88 ?_
        rw [zsub1]
        refine z_iald dX9_worth_89 (by decide) rfl (zvin (by omega) (by omega)) ?_
        rw [zcl (by omega)]
        refine z_istore (i := 6) dX9_worth_90 (by decide) rfl ?_
        refine z_aload_n (i := 0) dX9_worth_92 rfl hl0 ?_
        refine z_gR zf9_77.g dX9_worth_93 (by decide) rfl rfl ?_
        refine z_iload_n (i := 3) dX9_worth_96 rfl rfl ?_
        refine z_iconst (v := 1) dX9_worth_97 (by decide) ?_
        refine z_isub dX9_worth_98 ?_
        rw [zsub1]
        refine z_iload dX9_worth_99 rfl ?_
        refine z_iconst (v := 3) dX9_worth_101 (by decide) ?_
        refine z_icmp_ne 113 dX9_worth_102 (by decide) (fun _ => ?_) (fun c_4 => absurd c_4 (by decide))
        refine z_iload dX9_worth_113 rfl ?_
        refine z_iconst (v := 4) dX9_worth_115 (by decide) ?_
        refine z_icmp_ne 127 dX9_worth_116 (by decide) (fun _ => ?_) (fun c_5 => absurd c_5 (by decide))
        refine z_iload dX9_worth_127 rfl ?_
        refine z_iconst (v := 5) dX9_worth_129 (by decide) ?_
        refine z_icmp_ne 148 dX9_worth_130 (by decide) (fun c_6 => absurd c_6 (by decide)) (fun _ => ?_)
        refine z_iload dX9_worth_133 rfl ?_
        refine z_iload dX9_worth_135 rfl ?_
        refine z_icmp_ge 144 dX9_worth_137 (by decide) (fun c_7 => ?_) (fun c_7 => ?_)
        · skip
          refine z_iconst (v := 0) dX9_worth_144 (by decide) ?_
          refine z_goto 185 dX9_worth_145 (by decide) ?_
          refine z_topi (fun w hw => ?_)
          have e2 : w = mop 5 (I 15 t) (I 15 (t + 1)) := by rw [hw]; simp [mop, *]
          subst e2
          refine z_iast dX9_worth_185 (by decide) rfl (zvin (by omega) (by omega)) ?_
          refine z_iinc dX9_worth_186 hl2 rfl ?_
          refine z_goto 4 dX9_worth_189 (by decide) ?_
          simp only [zcl (show t ≤ 100000 by omega)]
          rw [zinc]
          exact ih _ (i + 1) (t + 1) _ (mcode_zu hct (by decide) (by decide)) hr (by omega) (by omega) hl0 rfl rfl hQ
        · skip
          refine z_iconst (v := 1) dX9_worth_140 (by decide) ?_
          refine z_goto 185 dX9_worth_141 (by decide) ?_
          refine z_topi (fun w hw => ?_)
          have e2 : w = mop 5 (I 15 t) (I 15 (t + 1)) := by rw [hw]; simp [mop, *]
          subst e2
          refine z_iast dX9_worth_185 (by decide) rfl (zvin (by omega) (by omega)) ?_
          refine z_iinc dX9_worth_186 hl2 rfl ?_
          refine z_goto 4 dX9_worth_189 (by decide) ?_
          simp only [zcl (show t ≤ 100000 by omega)]
          rw [zinc]
          exact ih _ (i + 1) (t + 1) _ (mcode_zu hct (by decide) (by decide)) hr (by omega) (by omega) hl0 rfl rfl hQ
      · skip
        refine z_aload_n (i := 0) dX9_worth_4 rfl hl0 ?_
        refine z_gR zf9_59.g dX9_worth_5 (by decide) rfl rfl ?_
        refine z_iload_n (i := 2) dX9_worth_8 rfl hl2 ?_
        refine z_iald dX9_worth_9 (by decide) rfl (zvin (by omega) (by omega)) ?_
        rw [zcl (by omega), h9]
        refine z_if_eq 192 dX9_worth_10 (by decide) (fun c_1 => absurd c_1 (by decide)) (fun _ => ?_)
        refine z_aload_n (i := 0) dX9_worth_13 rfl hl0 ?_
        refine z_gR zf9_59.g dX9_worth_14 (by decide) rfl rfl ?_
        refine z_iload_n (i := 2) dX9_worth_17 rfl hl2 ?_
        refine z_iald dX9_worth_18 (by decide) rfl (zvin (by omega) (by omega)) ?_
        rw [zcl (by omega), h9]
        refine z_istore (i := 4) dX9_worth_19 (by decide) rfl ?_
        refine z_iload dX9_worth_21 rfl ?_
        refine z_iconst (v := 1) dX9_worth_23 (by decide) ?_
        refine z_icmp_eq 33 dX9_worth_24 (by decide) (fun c_2 => absurd c_2 (by decide)) (fun _ => ?_)
        refine z_iload dX9_worth_27 rfl ?_
        refine z_iconst (v := 2) dX9_worth_29 (by decide) ?_
        refine z_icmp_ne 71 dX9_worth_30 (by decide) (fun _ => ?_) (fun c_3 => absurd c_3 (by decide))
        refine z_iinc dX9_worth_71 hl3 rfl ?_
        rw [zdec]
        refine z_aload_n (i := 0) dX9_worth_74 rfl hl0 ?_
        refine z_gR zf9_77.g dX9_worth_75 (by decide) rfl rfl ?_
        refine z_iload_n (i := 3) dX9_worth_78 rfl rfl ?_
        refine z_iald dX9_worth_79 (by decide) rfl (zvin (by omega) (by omega)) ?_
        rw [zcl (by omega)]
        refine z_istore (i := 5) dX9_worth_80 (by decide) rfl ?_
        refine z_aload_n (i := 0) dX9_worth_82 rfl hl0 ?_
        refine z_gR zf9_77.g dX9_worth_83 (by decide) rfl rfl ?_
        refine z_iload_n (i := 3) dX9_worth_86 rfl rfl ?_
        refine z_iconst (v := 1) dX9_worth_87 (by decide) ?_
        refine z_isub dX9_worth_88 ?_
        rw [zsub1]
        refine z_iald dX9_worth_89 (by decide) rfl (zvin (by omega) (by omega)) ?_
        rw [zcl (by omega)]
        refine z_istore (i := 6) dX9_worth_90 (by decide) rfl ?_
        refine z_aload_n (i := 0) dX9_worth_92 rfl hl0 ?_
        refine z_gR zf9_77.g dX9_worth_93 (by decide) rfl rfl ?_
        refine z_iload_n (i := 3) dX9_worth_96 rfl rfl ?_
        refine z_iconst (v := 1) dX9_worth_97 (by decide) ?_
        refine z_isub dX9_worth_98 ?_
        rw [zsub1]
        refine z_iload dX9_worth_99 rfl ?_
        refine z_iconst (v := 3) dX9_worth_101 (by decide) ?_
        refine z_icmp_ne 113 dX9_worth_102 (by decide) (fun _ => ?_) (fun c_4 => absurd c_4 (by decide))
        refine z_iload dX9_worth_113 rfl ?_
        refine z_iconst (v := 4) dX9_worth_115 (by decide) ?_
        refine z_icmp_ne 127 dX9_worth_116 (by decide) (fun _ => ?_) (fun c_5 => absurd c_5 (by decide))
        refine z_iload dX9_worth_127 rfl ?_
        refine z_iconst (v := 5) dX9_worth_129 (by decide) ?_
        refine z_icmp_ne 148 dX9_worth_130 (by decide) (fun _ => ?_) (fun c_6 => absurd c_6 (by decide))
        refine z_iload dX9_worth_148 rfl ?_
        refine z_bipush (v := 6) dX9_worth_150 (by decide) ?_
        refine z_icmp_ne 170 dX9_worth_152 (by decide) (fun c_7 => absurd c_7 (by decide)) (fun _ => ?_)
        refine z_iload dX9_worth_155 rfl ?_
        refine z_iload dX9_worth_157 rfl ?_
        refine z_icmp_ne 166 dX9_worth_159 (by decide) (fun c_8 => ?_) (fun c_8 => ?_)
        · skip
          refine z_iconst (v := 0) dX9_worth_166 (by decide) ?_
          refine z_goto 185 dX9_worth_167 (by decide) ?_
          refine z_topi (fun w hw => ?_)
          have e2 : w = mop 6 (I 15 t) (I 15 (t + 1)) := by rw [hw]; simp [mop, *]
          subst e2
          refine z_iast dX9_worth_185 (by decide) rfl (zvin (by omega) (by omega)) ?_
          refine z_iinc dX9_worth_186 hl2 rfl ?_
          refine z_goto 4 dX9_worth_189 (by decide) ?_
          simp only [zcl (show t ≤ 100000 by omega)]
          rw [zinc]
          exact ih _ (i + 1) (t + 1) _ (mcode_zu hct (by decide) (by decide)) hr (by omega) (by omega) hl0 rfl rfl hQ
        · skip
          refine z_iconst (v := 1) dX9_worth_162 (by decide) ?_
          refine z_goto 185 dX9_worth_163 (by decide) ?_
          refine z_topi (fun w hw => ?_)
          have e2 : w = mop 6 (I 15 t) (I 15 (t + 1)) := by rw [hw]; simp [mop, *]
          subst e2
          refine z_iast dX9_worth_185 (by decide) rfl (zvin (by omega) (by omega)) ?_
          refine z_iinc dX9_worth_186 hl2 rfl ?_
          refine z_goto 4 dX9_worth_189 (by decide) ?_
          simp only [zcl (show t ≤ 100000 by omega)]
          rw [zinc]
          exact ih _ (i + 1) (t + 1) _ (mcode_zu hct (by decide) (by decide)) hr (by omega) (by omega) hl0 rfl rfl hQ
      · skip
        refine z_aload_n (i := 0) dX9_worth_4 rfl hl0 ?_
        refine z_gR zf9_59.g dX9_worth_5 (by decide) rfl rfl ?_
        refine z_iload_n (i := 2) dX9_worth_8 rfl hl2 ?_
        refine z_iald dX9_worth_9 (by decide) rfl (zvin (by omega) (by omega)) ?_
        rw [zcl (by omega), h9]
        refine z_if_eq 192 dX9_worth_10 (by decide) (fun c_1 => absurd c_1 (by decide)) (fun _ => ?_)
        refine z_aload_n (i := 0) dX9_worth_13 rfl hl0 ?_
        refine z_gR zf9_59.g dX9_worth_14 (by decide) rfl rfl ?_
        refine z_iload_n (i := 2) dX9_worth_17 rfl hl2 ?_
        refine z_iald dX9_worth_18 (by decide) rfl (zvin (by omega) (by omega)) ?_
        rw [zcl (by omega), h9]
        refine z_istore (i := 4) dX9_worth_19 (by decide) rfl ?_
        refine z_iload dX9_worth_21 rfl ?_
        refine z_iconst (v := 1) dX9_worth_23 (by decide) ?_
        refine z_icmp_eq 33 dX9_worth_24 (by decide) (fun c_2 => absurd c_2 (by decide)) (fun _ => ?_)
        refine z_iload dX9_worth_27 rfl ?_
        refine z_iconst (v := 2) dX9_worth_29 (by decide) ?_
        refine z_icmp_ne 71 dX9_worth_30 (by decide) (fun _ => ?_) (fun c_3 => absurd c_3 (by decide))
        refine z_iinc dX9_worth_71 hl3 rfl ?_
        rw [zdec]
        refine z_aload_n (i := 0) dX9_worth_74 rfl hl0 ?_
        refine z_gR zf9_77.g dX9_worth_75 (by decide) rfl rfl ?_
        refine z_iload_n (i := 3) dX9_worth_78 rfl rfl ?_
        refine z_iald dX9_worth_79 (by decide) rfl (zvin (by omega) (by omega)) ?_
        rw [zcl (by omega)]
        refine z_istore (i := 5) dX9_worth_80 (by decide) rfl ?_
        refine z_aload_n (i := 0) dX9_worth_82 rfl hl0 ?_
        refine z_gR zf9_77.g dX9_worth_83 (by decide) rfl rfl ?_
        refine z_iload_n (i := 3) dX9_worth_86 rfl rfl ?_
        refine z_iconst (v := 1) dX9_worth_87 (by decide) ?_
        refine z_isub dX9_worth_88 ?_
        rw [zsub1]
        refine z_iald dX9_worth_89 (by decide) rfl (zvin (by omega) (by omega)) ?_
        rw [zcl (by omega)]
        refine z_istore (i := 6) dX9_worth_90 (by decide) rfl ?_
        refine z_aload_n (i := 0) dX9_worth_92 rfl hl0 ?_
        refine z_gR zf9_77.g dX9_worth_93 (by decide) rfl rfl ?_
        refine z_iload_n (i := 3) dX9_worth_96 rfl rfl ?_
        refine z_iconst (v := 1) dX9_worth_97 (by decide) ?_
        refine z_isub dX9_worth_98 ?_
        rw [zsub1]
        refine z_iload dX9_worth_99 rfl ?_
        refine z_iconst (v := 3) dX9_worth_101 (by decide) ?_
        refine z_icmp_ne 113 dX9_worth_102 (by decide) (fun _ => ?_) (fun c_4 => absurd c_4 (by decide))
        refine z_iload dX9_worth_113 rfl ?_
        refine z_iconst (v := 4) dX9_worth_115 (by decide) ?_
        refine z_icmp_ne 127 dX9_worth_116 (by decide) (fun _ => ?_) (fun c_5 => absurd c_5 (by decide))
        refine z_iload dX9_worth_127 rfl ?_
        refine z_iconst (v := 5) dX9_worth_129 (by decide) ?_
        refine z_icmp_ne 148 dX9_worth_130 (by decide) (fun _ => ?_) (fun c_6 => absurd c_6 (by decide))
        refine z_iload dX9_worth_148 rfl ?_
        refine z_bipush (v := 6) dX9_worth_150 (by decide) ?_
        refine z_icmp_ne 170 dX9_worth_152 (by decide) (fun _ => ?_) (fun c_7 => absurd c_7 (by decide))
        refine z_iload dX9_worth_170 rfl ?_
        refine z_if_eq 184 dX9_worth_172 (by decide) (fun c_8 => ?_) (fun c_8 => ?_)
        · skip
          refine z_iconst (v := 0) dX9_worth_184 (by decide) ?_
          refine z_topi (fun w hw => ?_)
          have e2 : w = mop 7 (I 15 t) (I 15 (t + 1)) := by rw [hw]; simp [mop, *]
          subst e2
          refine z_iast dX9_worth_185 (by decide) rfl (zvin (by omega) (by omega)) ?_
          refine z_iinc dX9_worth_186 hl2 rfl ?_
          refine z_goto 4 dX9_worth_189 (by decide) ?_
          simp only [zcl (show t ≤ 100000 by omega)]
          rw [zinc]
          exact ih _ (i + 1) (t + 1) _ (mcode_zu hct (by decide) (by decide)) hr (by omega) (by omega) hl0 rfl rfl hQ
        · skip
          refine z_iload dX9_worth_175 rfl ?_
          refine z_if_eq 184 dX9_worth_177 (by decide) (fun c_9 => ?_) (fun c_9 => ?_)
          · skip
            refine z_iconst (v := 0) dX9_worth_184 (by decide) ?_
            refine z_topi (fun w hw => ?_)
            have e2 : w = mop 7 (I 15 t) (I 15 (t + 1)) := by rw [hw]; simp [mop, *]
            subst e2
            refine z_iast dX9_worth_185 (by decide) rfl (zvin (by omega) (by omega)) ?_
            refine z_iinc dX9_worth_186 hl2 rfl ?_
            refine z_goto 4 dX9_worth_189 (by decide) ?_
            simp only [zcl (show t ≤ 100000 by omega)]
            rw [zinc]
            exact ih _ (i + 1) (t + 1) _ (mcode_zu hct (by decide) (by decide)) hr (by omega) (by omega) hl0 rfl rfl hQ
          · skip
            refine z_iconst (v := 1) dX9_worth_180 (by decide) ?_
            refine z_goto 185 dX9_worth_181 (by decide) ?_
            refine z_topi (fun w hw => ?_)
            have e2 : w = mop 7 (I 15 t) (I 15 (t + 1)) := by rw [hw]; simp [mop, *]
            subst e2
            refine z_iast dX9_worth_185 (by decide) rfl (zvin (by omega) (by omega)) ?_
            refine z_iinc dX9_worth_186 hl2 rfl ?_
            refine z_goto 4 dX9_worth_189 (by decide) ?_
            simp only [zcl (show t ≤ 100000 by omega)]
            rw [zinc]
            exact ih _ (i + 1) (t + 1) _ (mcode_zu hct (by decide) (by decide)) hr (by omega) (by omega) hl0 rfl rfl hQ
set_option maxHeartbeats 4000000 in
theorem c9_worth (I : Nat → Nat → Int32) (L : Nat → Nat → Int64) (i : Nat) (cs : List (Nat × Int32)) (hc : mcode I i cs) (hr : mrpn cs 0) (hi : i + cs.length < 1320) (hh : cs.length ≤ 660) : Zm yX9_worth cX9_worth 7 (some .int) 0 0 0 0 [.ref 0, .int (nI i)] (mh I L) (mQ (some (.int (mwl cs I 0 15 0))) (mwl cs I 0) L) := by
  refine Zm_of (lg := false) (by decide) (fun _ => by simp [Value.category]) (fun _ => Nat.le_of_ble_eq_true rfl) ?_
  show Zf x9_worth 0 0 0 (zargs [.ref 0, .int (nI i)]) [] (mh I L) _
  refine z_iload_n (i := 1) dX9_worth_0 rfl rfl ?_
  refine z_istore_n (i := 2) dX9_worth_1 rfl (by decide) rfl ?_
  refine z_iconst (v := 0) dX9_worth_2 (by decide) ?_
  refine z_istore_n (i := 3) dX9_worth_3 rfl (by decide) rfl ?_
  exact l9_worth cs I i 0 _ hc hr hi (by omega) rfl rfl rfl ⟨rfl, rfl⟩
end
section
theorem mwl_ne : ∀ (cs : List (Nat × Int32)) (I : Nat → Nat → Int32) (h a : Nat), a ≠ 15 → mwl cs I h a = I a
  | [], _, _, _, _ => rfl
  | c :: cs, I, h, a, ha => by
    unfold mwl
    split
    · rw [mwl_ne cs _ _ a ha, zu_ne _ _ _ ha]
    · split
      · rw [mwl_ne cs _ _ a ha, zu_ne _ _ _ ha]
      · rw [mwl_ne cs _ _ a ha, zu_ne _ _ _ ha]
abbrev MLn : Type := Int32 × List (Nat × Int32)
/-- a line of a text, at place q -/
def mlin (I : Nat → Nat → Int32) (q : Nat) (l : MLn) : Prop := I 7 q = l.1 ∧ mrpn l.2 0 ∧ l.2.length ≤ 660 ∧ ∃ i, I 8 q = nI i ∧ mcode I i l.2 ∧ i + l.2.length < 1320
theorem mlin_cong {I J : Nat → Nat → Int32} {q : Nat} {l : MLn} (h : mlin I q l) (h7 : J 7 = I 7) (h8 : J 8 = I 8) (h9 : J 9 = I 9) (h10 : J 10 = I 10) : mlin J q l := by
  obtain ⟨a, b, c, i, d, e, f⟩ := h
  refine ⟨by rw [h7]; exact a, b, c, i, by rw [h8]; exact d, ⟨fun j x hx => ?_, ?_⟩, f⟩
  · rw [h9, h10]; exact e.1 j x hx
  · rw [h9]; exact e.2
def mtx (I : Nat → Nat → Int32) (hd : Nat) (ts : List MLn) : Prop := hd < 2 ∧ I 0 15 = nI hd ∧ ts.length ≤ 16 ∧ I 6 hd = nI ts.length ∧ ∀ (q : Nat) (l : MLn), ts[q]? = some l → mlin I (16 * hd + q) l
theorem mtx_cong {I J : Nat → Nat → Int32} {hd : Nat} {ts : List MLn} (h : mtx I hd ts) (h0 : J 0 15 = I 0 15) (h6 : J 6 = I 6) (h7 : J 7 = I 7) (h8 : J 8 = I 8) (h9 : J 9 = I 9) (h10 : J 10 = I 10) : mtx J hd ts := by
  obtain ⟨a, b, c, d, e⟩ := h
  exact ⟨a, by rw [h0]; exact b, c, by rw [h6]; exact d, fun q l hq => mlin_cong (e q l hq) h7 h8 h9 h10⟩
def mshut : List MLn → (Nat → Nat → Int32) → Int32 → (Nat → Nat → Int32) × Bool
  | [], I, _ => (I, false)
  | l :: ts, I, p => if l.1 < 0 ∨ l.1 = p then (if mwl l.2 I 0 15 0 = 0 then mshut ts (mwl l.2 I 0) p else (mwl l.2 I 0, true)) else mshut ts I p
theorem mshut_ne : ∀ (ts : List MLn) (I : Nat → Nat → Int32) (p : Int32) (a : Nat), a ≠ 15 → (mshut ts I p).1 a = I a
  | [], _, _, _, _ => rfl
  | l :: ts, I, p, a, ha => by
    unfold mshut
    split
    · split
      · rw [mshut_ne ts _ p a ha, mwl_ne _ _ _ a ha]
      · exact mwl_ne _ _ _ a ha
    · exact mshut_ne ts I p a ha
abbrev x9_isShut : ZX := (RX9, cX9_isShut, 4, (some .boolean), "isShut", 1, 40, false)
set_option maxHeartbeats 4000000 in
theorem l9_isShut1 {I : Nat → Nat → Int32} {L : Nat → Nat → Int64} {Q : Option Value → ZH → Prop} {hd n k : Nat} (hhd : hd < 2) (h15 : I 0 15 = nI hd) (h6 : I 6 hd = nI n) (hQ : Q (some (.int 1)) (mh I L)) (ls : Nat → Option Value) (hl0 : ls 0 = some (.ref 0)) (hl2 : ls 2 = some (.int 1)) (hl3 : ls 3 = some (.int (nI k))) : Zf x9_isShut 0 0 10 ls [] (mh I L) Q := by
  refine z_iload_n (i := 3) dX9_isShut_10 rfl hl3 ?_
  refine z_bipush (v := 16) dX9_isShut_11 (by decide) ?_
  refine z_aload_n (i := 0) dX9_isShut_13 rfl hl0 ?_
  refine z_gI zf9_198.g dX9_isShut_14 (by decide) rfl ?_
  rw [h15]
  refine z_imul dX9_isShut_17 ?_
  refine z_aload_n (i := 0) dX9_isShut_18 rfl hl0 ?_
  refine z_gR zf9_50.g dX9_isShut_19 (by decide) rfl rfl ?_
  refine z_aload_n (i := 0) dX9_isShut_22 rfl hl0 ?_
  refine z_gI zf9_198.g dX9_isShut_23 (by decide) rfl ?_
  rw [h15]
  refine z_iald dX9_isShut_26 (by decide) rfl (zvin (by omega) (by omega)) ?_
  rw [zcl (by omega), h6]
  refine z_iadd dX9_isShut_27 ?_
  refine z_icmp_ge 79 dX9_isShut_28 (by decide) (fun c_1 => ?_) (fun c_1 => ?_)
  · skip
    refine z_iload_n (i := 2) dX9_isShut_79 rfl hl2 ?_
    refine z_zret dX9_isShut_80 rfl (by decide) ?_
    exact hQ
  · skip
    refine z_iload_n (i := 2) dX9_isShut_31 rfl hl2 ?_
    refine z_if_ne 79 dX9_isShut_32 (by decide) (fun _ => ?_) (fun c_2 => absurd c_2 (by decide))
    refine z_iload_n (i := 2) dX9_isShut_79 rfl hl2 ?_
    refine z_zret dX9_isShut_80 rfl (by decide) ?_
    exact hQ
set_option maxHeartbeats 4000000 in
theorem l9_isShut {L : Nat → Nat → Int64} {Q : Option Value → ZH → Prop} {hd n P : Nat} (hhd : hd < 2) (hn : n ≤ 16) (hP : P < 6) : ∀ (ts : List MLn) (q : Nat) (I : Nat → Nat → Int32) (ls : Nat → Option Value), q + ts.length = n → I 0 15 = nI hd → I 6 hd = nI n → (∀ (j : Nat) (l : MLn), ts[j]? = some l → mlin I (16 * hd + q + j) l) → ls 0 = some (.ref 0) → ls 1 = some (.int (nI P)) → ls 2 = some (.int 0) → ls 3 = some (.int (nI (16 * hd + q))) → Q (some (.int (zb (mshut ts I (nI P)).2))) (mh (mshut ts I (nI P)).1 L) → Zf x9_isShut 0 0 10 ls [] (mh I L) Q := by
  intro ts
  induction ts with
  | nil =>
    intro q I ls hq h15 h6 hs hl0 hl1 hl2 hl3 hQ
    simp only [List.length_nil, Nat.add_zero] at hq
    subst hq
    refine z_iload_n (i := 3) dX9_isShut_10 rfl hl3 ?_
    refine z_bipush (v := 16) dX9_isShut_11 (by decide) ?_
    refine z_aload_n (i := 0) dX9_isShut_13 rfl hl0 ?_
    refine z_gI zf9_198.g dX9_isShut_14 (by decide) rfl ?_
    rw [h15]
    refine z_imul dX9_isShut_17 ?_
    refine z_aload_n (i := 0) dX9_isShut_18 rfl hl0 ?_
    refine z_gR zf9_50.g dX9_isShut_19 (by decide) rfl rfl ?_
    refine z_aload_n (i := 0) dX9_isShut_22 rfl hl0 ?_
    refine z_gI zf9_198.g dX9_isShut_23 (by decide) rfl ?_
    rw [h15]
    refine z_iald dX9_isShut_26 (by decide) rfl (zvin (by omega) (by omega)) ?_
    rw [zcl (by omega), h6]
    refine z_iadd dX9_isShut_27 ?_
    simp only [zl16, pk_mul, nI_add]
    refine z_icmp_ge 79 dX9_isShut_28 (by decide) (fun _ => ?_) (fun c_1 => absurd ((zle (by omega) (by omega)).mpr (by omega)) c_1)
    refine z_iload_n (i := 2) dX9_isShut_79 rfl hl2 ?_
    refine z_zret dX9_isShut_80 rfl (by decide) ?_
    exact hQ
  | cons l ts ih =>
    intro q I ls hq h15 h6 hs hl0 hl1 hl2 hl3 hQ
    simp only [List.length_cons] at hq
    obtain ⟨h7, hr, hlen, i, h8, hc, hi⟩ := hs 0 l rfl
    rw [Nat.add_zero] at h7 h8
    have hs2 : ∀ (j : Nat) (l : MLn), ts[j]? = some l → mlin I (16 * hd + (q + 1) + j) l := fun j l hj => by
      have := hs (j + 1) l (by simpa using hj)
      rwa [show 16 * hd + q + (j + 1) = 16 * hd + (q + 1) + j by omega] at this
    have hm : mshut (l :: ts) I (nI P) = if l.1 < 0 ∨ l.1 = nI P then (if mwl l.2 I 0 15 0 = 0 then mshut ts (mwl l.2 I 0) (nI P) else (mwl l.2 I 0, true)) else mshut ts I (nI P) := rfl
    refine z_iload_n (i := 3) dX9_isShut_10 rfl hl3 ?_
    refine z_bipush (v := 16) dX9_isShut_11 (by decide) ?_
    refine z_aload_n (i := 0) dX9_isShut_13 rfl hl0 ?_
    refine z_gI zf9_198.g dX9_isShut_14 (by decide) rfl ?_
    rw [h15]
    refine z_imul dX9_isShut_17 ?_
    refine z_aload_n (i := 0) dX9_isShut_18 rfl hl0 ?_
    refine z_gR zf9_50.g dX9_isShut_19 (by decide) rfl rfl ?_
    refine z_aload_n (i := 0) dX9_isShut_22 rfl hl0 ?_
    refine z_gI zf9_198.g dX9_isShut_23 (by decide) rfl ?_
    rw [h15]
    refine z_iald dX9_isShut_26 (by decide) rfl (zvin (by omega) (by omega)) ?_
    rw [zcl (by omega), h6]
    refine z_iadd dX9_isShut_27 ?_
    simp only [zl16, pk_mul, nI_add]
    refine z_icmp_ge 79 dX9_isShut_28 (by decide) (fun c_1 => absurd c_1 (fun h => absurd ((zle (by omega) (by omega)).mp h) (by omega))) (fun _ => ?_)
    refine z_iload_n (i := 2) dX9_isShut_31 rfl hl2 ?_
    refine z_if_ne 79 dX9_isShut_32 (by decide) (fun c_2 => absurd c_2 (by decide)) (fun _ => ?_)
    refine z_aload_n (i := 0) dX9_isShut_35 rfl hl0 ?_
    refine z_gR zf9_53.g dX9_isShut_36 (by decide) rfl rfl ?_
    refine z_iload_n (i := 3) dX9_isShut_39 rfl hl3 ?_
    refine z_iald dX9_isShut_40 (by decide) rfl (zvin (by omega) (by omega)) ?_
    rw [zcl (by omega), h7]
    refine z_if_lt 54 dX9_isShut_41 (by decide) (fun c_3 => ?_) (fun c_3 => ?_)
    · skip
      refine z_aload_n (i := 0) dX9_isShut_54 rfl hl0 ?_
      refine z_aload_n (i := 0) dX9_isShut_55 rfl hl0 ?_
      refine z_gR zf9_56.g dX9_isShut_56 (by decide) rfl rfl ?_
      refine z_iload_n (i := 3) dX9_isShut_59 rfl hl3 ?_
      refine z_iald dX9_isShut_60 (by decide) rfl (zvin (by omega) (by omega)) ?_
      rw [zcl (by omega), h8]
      refine z_callV (st := []) (mc2 := 0) (ms2 := 0) zi9_282 zv_yX9_worth (c9_worth I L i l.2 hc hr hi hlen) dX9_isShut_61 (show (0 : Nat) < 35 by decide) rfl rfl rfl rfl (by decide) (by decide) (Nat.le_of_ble_eq_true rfl) (by decide) (by decide) (fun r h2 hq => ?_)
      obtain ⟨rfl, rfl⟩ := hq
      refine z_if_eq 71 dX9_isShut_64 (by decide) (fun c_4 => ?_) (fun c_4 => ?_)
      · skip
        refine z_iconst (v := 0) dX9_isShut_71 (by decide) ?_
        refine z_istore_n (i := 2) dX9_isShut_72 rfl (by decide) rfl ?_
        refine z_iinc dX9_isShut_73 hl3 rfl ?_
        refine z_goto 10 dX9_isShut_76 (by decide) ?_
        rw [if_pos (Or.inl c_3), if_pos c_4] at hm
        rw [hm] at hQ
        rw [zinc]
        exact ih (q + 1) _ _ (by omega) (by rw [mwl_ne _ _ _ _ (by decide)]; exact h15) (by rw [mwl_ne _ _ _ _ (by decide)]; exact h6) (fun j l hj => mlin_cong (hs2 j l hj) (mwl_ne _ _ _ _ (by decide)) (mwl_ne _ _ _ _ (by decide)) (mwl_ne _ _ _ _ (by decide)) (mwl_ne _ _ _ _ (by decide))) hl0 hl1 rfl rfl hQ
      · skip
        refine z_iconst (v := 1) dX9_isShut_67 (by decide) ?_
        refine z_goto 72 dX9_isShut_68 (by decide) ?_
        refine z_istore_n (i := 2) dX9_isShut_72 rfl (by decide) rfl ?_
        refine z_iinc dX9_isShut_73 hl3 rfl ?_
        refine z_goto 10 dX9_isShut_76 (by decide) ?_
        rw [if_pos (Or.inl c_3), if_neg c_4] at hm
        rw [hm] at hQ
        dsimp only at hQ
        rw [zinc]
        exact l9_isShut1 hhd (by rw [mwl_ne _ _ _ _ (by decide)]; exact h15) (by rw [mwl_ne _ _ _ _ (by decide)]; exact h6) hQ _ hl0 rfl rfl
    · skip
      refine z_aload_n (i := 0) dX9_isShut_44 rfl hl0 ?_
      refine z_gR zf9_53.g dX9_isShut_45 (by decide) rfl rfl ?_
      refine z_iload_n (i := 3) dX9_isShut_48 rfl hl3 ?_
      refine z_iald dX9_isShut_49 (by decide) rfl (zvin (by omega) (by omega)) ?_
      rw [zcl (by omega), h7]
      refine z_iload_n (i := 1) dX9_isShut_50 rfl hl1 ?_
      refine z_icmp_ne 71 dX9_isShut_51 (by decide) (fun c_5 => ?_) (fun c_5 => ?_)
      · skip
        refine z_iconst (v := 0) dX9_isShut_71 (by decide) ?_
        refine z_istore_n (i := 2) dX9_isShut_72 rfl (by decide) rfl ?_
        refine z_iinc dX9_isShut_73 hl3 rfl ?_
        refine z_goto 10 dX9_isShut_76 (by decide) ?_
        rw [if_neg (fun h => h.elim c_3 c_5)] at hm
        rw [hm] at hQ
        rw [zinc]
        exact ih (q + 1) _ _ (by omega) h15 h6 hs2 hl0 hl1 rfl rfl hQ
      · skip
        refine z_aload_n (i := 0) dX9_isShut_54 rfl hl0 ?_
        refine z_aload_n (i := 0) dX9_isShut_55 rfl hl0 ?_
        refine z_gR zf9_56.g dX9_isShut_56 (by decide) rfl rfl ?_
        refine z_iload_n (i := 3) dX9_isShut_59 rfl hl3 ?_
        refine z_iald dX9_isShut_60 (by decide) rfl (zvin (by omega) (by omega)) ?_
        rw [zcl (by omega), h8]
        refine z_callV (st := []) (mc2 := 0) (ms2 := 0) zi9_282 zv_yX9_worth (c9_worth I L i l.2 hc hr hi hlen) dX9_isShut_61 (show (0 : Nat) < 35 by decide) rfl rfl rfl rfl (by decide) (by decide) (Nat.le_of_ble_eq_true rfl) (by decide) (by decide) (fun r h2 hq => ?_)
        obtain ⟨rfl, rfl⟩ := hq
        refine z_if_eq 71 dX9_isShut_64 (by decide) (fun c_6 => ?_) (fun c_6 => ?_)
        · skip
          refine z_iconst (v := 0) dX9_isShut_71 (by decide) ?_
          refine z_istore_n (i := 2) dX9_isShut_72 rfl (by decide) rfl ?_
          refine z_iinc dX9_isShut_73 hl3 rfl ?_
          refine z_goto 10 dX9_isShut_76 (by decide) ?_
          rw [if_pos (Or.inr c_5), if_pos c_6] at hm
          rw [hm] at hQ
          rw [zinc]
          exact ih (q + 1) _ _ (by omega) (by rw [mwl_ne _ _ _ _ (by decide)]; exact h15) (by rw [mwl_ne _ _ _ _ (by decide)]; exact h6) (fun j l hj => mlin_cong (hs2 j l hj) (mwl_ne _ _ _ _ (by decide)) (mwl_ne _ _ _ _ (by decide)) (mwl_ne _ _ _ _ (by decide)) (mwl_ne _ _ _ _ (by decide))) hl0 hl1 rfl rfl hQ
        · skip
          refine z_iconst (v := 1) dX9_isShut_67 (by decide) ?_
          refine z_goto 72 dX9_isShut_68 (by decide) ?_
          refine z_istore_n (i := 2) dX9_isShut_72 rfl (by decide) rfl ?_
          refine z_iinc dX9_isShut_73 hl3 rfl ?_
          refine z_goto 10 dX9_isShut_76 (by decide) ?_
          rw [if_pos (Or.inr c_5), if_neg c_6] at hm
          rw [hm] at hQ
          dsimp only at hQ
          rw [zinc]
          exact l9_isShut1 hhd (by rw [mwl_ne _ _ _ _ (by decide)]; exact h15) (by rw [mwl_ne _ _ _ _ (by decide)]; exact h6) hQ _ hl0 rfl rfl
set_option maxHeartbeats 4000000 in
theorem c9_isShut (I : Nat → Nat → Int32) (L : Nat → Nat → Int64) (hd P : Nat) (ts : List MLn) (hP : P < 6) (ht : mtx I hd ts) : Zm yX9_isShut cX9_isShut 4 (some .boolean) 1 40 0 0 [.ref 0, .int (nI P)] (mh I L) (mQ (some (.int (zb (mshut ts I (nI P)).2))) (mshut ts I (nI P)).1 L) := by
  refine Zm_of (lg := false) (by decide) (fun _ => by simp [Value.category]) (fun _ => Nat.le_of_ble_eq_true rfl) ?_
  show Zf x9_isShut 0 0 0 (zargs [.ref 0, .int (nI P)]) [] (mh I L) _
  generalize hQ0 : (mQ (some (.int (zb (mshut ts I (nI P)).2))) (mshut ts I (nI P)).1 L : Option Value → ZH → Prop) = Q0
  obtain ⟨hhd, h15, hn, h6, hs⟩ := ht
  refine z_iconst (v := 0) dX9_isShut_0 (by decide) ?_
  refine z_istore_n (i := 2) dX9_isShut_1 rfl (by decide) rfl ?_
  refine z_bipush (v := 16) dX9_isShut_2 (by decide) ?_
  refine z_aload_n (i := 0) dX9_isShut_4 rfl rfl ?_
  refine z_gI zf9_198.g dX9_isShut_5 (by decide) rfl ?_
  rw [h15]
  refine z_imul dX9_isShut_8 ?_
  simp only [zl16, pk_mul]
  refine z_istore_n (i := 3) dX9_isShut_9 rfl (by decide) rfl ?_
  subst hQ0
  exact l9_isShut hhd hn hP ts 0 I _ (by omega) h15 h6 (fun j l hj => by rw [Nat.add_zero]; exact hs j l hj) rfl rfl rfl rfl ⟨rfl, rfl⟩
end
section
theorem zt0 : (0 : Int32).toNatClampNeg = 0 := by decide
theorem zt1 : (1 : Int32).toNatClampNeg = 1 := by decide
theorem zt2 : (2 : Int32).toNatClampNeg = 2 := by decide
theorem zt3 : (3 : Int32).toNatClampNeg = 3 := by decide
theorem zt4 : (4 : Int32).toNatClampNeg = 4 := by decide
theorem zt5 : (5 : Int32).toNatClampNeg = 5 := by decide
theorem zt6 : (6 : Int32).toNatClampNeg = 6 := by decide
theorem zt7 : (7 : Int32).toNatClampNeg = 7 := by decide
theorem mga_or (I : Nat → Nat → Int32) (s : Int32) : ∀ k, mga I s k = -1 ∨ ∃ j, j < k ∧ mga I s k = nI j
  | 0 => Or.inl rfl
  | k + 1 => by
    unfold mga
    split
    · exact Or.inr ⟨k, by omega, rfl⟩
    · rcases mga_or I s k with h | ⟨j, h1, h2⟩
      · exact Or.inl h
      · exact Or.inr ⟨j, by omega, h2⟩
theorem mga_in {I : Nat → Nat → Int32} {s : Int32} {G : Nat} (hG : G ≤ 60) (h : 0 ≤ mga I s G) : vp_in (mga I s G) 60 := by
  rcases mga_or I s G with e | ⟨j, hj, e⟩
  · rw [e] at h; exact absurd h (by decide)
  · rw [e]; exact zvin (by omega) (by omega)
theorem mga_j {I : Nat → Nat → Int32} {s : Int32} {G : Nat} (h : ¬ mga I s G < 0) : ∃ j, j < G ∧ mga I s G = nI j := by
  rcases mga_or I s G with e | h2
  · rw [e] at h; exact absurd (by decide) h
  · exact h2
/-- what a text's names tell, in hour h of pitch p; g: the game that lies there, or -1 -/
def mkn (I : Nat → Nat → Int32) (D h p : Nat) (warm wet g : Int32) : Nat → Nat → Int32 :=
  zu (zu (zu (zu (zu (zu (zu (zu I 14 0 wet) 14 1 warm) 14 2 (mleast (fun k => I 18 (24 * p + k)) 24)) 14 3 (msum (fun k => I 18 (24 * p + k)) 24 / 24)) 14 4 (I 23 p)) 14 5 (nI (D % 7))) 14 6 (nI h)) 14 7 (if 0 ≤ g then I 27 g.toNatClampNeg else -1)
def mmv (I : Nat → Nat → Int32) (P G D g : Nat) : Nat → Nat → Int32 := if mfs I P G g (mWk I g) (D + 1) false (-1) < 0 then zu (zu I 31 g 3) 32 g (-1) else zu (mlays I g (mfs I P G g (mWk I g) (D + 1) false (-1))) 33 g (I 33 g + 1)
def mlost (I : Nat → Nat → Int32) (c : Nat) : Nat → Nat → Int32 := zu I 34 c (I 34 c + 1)
def mplay (I : Nat → Nat → Int32) (p g : Nat) (wet : Int32) : Nat → Nat → Int32 :=
  zu (mwI (zu (zu (zu I 31 g 2) 22 p (I 22 p + 1)) 23 p (I 23 p + 1)) 18 p (I 17 p) (I 27 g) wet 24) 20 p (I 20 p + msum (mww (zu (zu (zu I 31 g 2) 22 p (I 22 p + 1)) 23 p (I 23 p + 1)) 18 p (I 17 p) (I 27 g) wet) 24)
def mplay2 (I : Nat → Nat → Int32) (p g : Nat) (wet : Int32) : Nat → Nat → Int32 :=
  zu (mwI I 19 p (1 - I 17 p) (I 27 g) wet 24) 21 p (I 21 p + msum (mww I 19 p (1 - I 17 p) (I 27 g) wet) 24)
def mhour (I : Nat → Nat → Int32) (P G D : Nat) (ts : List MLn) (h p : Nat) (warm wet : Int32) : Nat → Nat → Int32 :=
  let g := mga I (nI (24 * D + 6 * h + p)) G
  let x := mshut ts (mkn I D h p warm wet g) (nI p)
  let n := g.toNatClampNeg
  if x.2 = true then
    let J := zu x.1 24 p (x.1 24 p + 1)
    if g < 0 then J else
      mmv (mlost (mlost J (J 25 n).toNatClampNeg) (J 26 n).toNatClampNeg) P G D n
  else if g < 0 then x.1 else mplay2 (mplay x.1 p n wet) p n wet
abbrev x9_hour : ZX := (RX9, cX9_hour, 6, none, "hour", 5, 200, false)
set_option maxHeartbeats 4000000 in
theorem c9_hour (I : Nat → Nat → Int32) (L : Nat → Nat → Int64) (P G D : Nat) (ok : mok I P G D) (hd : Nat) (ts : List MLn) (ht : mtx I hd ts) (hcl : ∀ g, g < G → ∃ a b, a < 16 ∧ b < 16 ∧ I 25 g = nI a ∧ I 26 g = nI b) (h p : Nat) (hh : h < 4) (hp : p < P) (warm wet : Int32) : Zm yX9_hour cX9_hour 6 none 5 200 0 0 [.ref 0, .int (nI h), .int (nI p), .int warm, .int wet] (mh I L) (mQ none (mhour I P G D ts h p warm wet) L) := by
  refine Zm_of (lg := false) (by decide) (fun _ => by simp [Value.category]) (fun _ => Nat.le_of_ble_eq_true rfl) ?_
  show Zf x9_hour 0 0 0 (zargs [.ref 0, .int (nI h), .int (nI p), .int warm, .int wet]) [] (mh I L) _
  generalize hQ0 : (mQ none (mhour I P G D ts h p warm wet) L : Option Value → ZH → Prop) = Q0
  obtain ⟨hP, hG, hD, h24, h35, h34, hw, hn⟩ := id ok
  refine z_aload_n (i := 0) dX9_hour_0 rfl rfl ?_
  refine z_bipush (v := 24) dX9_hour_1 (by decide) ?_
  refine z_aload_n (i := 0) dX9_hour_3 rfl rfl ?_
  refine z_gI zf9_239.g dX9_hour_4 (by decide) rfl ?_
  rw [h34]
  refine z_imul dX9_hour_7 ?_
  refine z_bipush (v := 6) dX9_hour_8 (by decide) ?_
  refine z_iload_n (i := 1) dX9_hour_10 rfl rfl ?_
  refine z_imul dX9_hour_11 ?_
  refine z_iadd dX9_hour_12 ?_
  refine z_iload_n (i := 2) dX9_hour_13 rfl rfl ?_
  refine z_iadd dX9_hour_14 ?_
  refine z_top (y := .int (nI (24 * D + 6 * h + p))) (by simp only [zl24, zl6, pk_mul, nI_add]) ?_
  refine z_callV (st := []) (mc2 := 0) (ms2 := 0) zi9_259 zv_yX9_gameAt (c9_gameAt I L G _ hG h35) dX9_hour_15 (show (0 : Nat) < 35 by decide) rfl rfl rfl rfl (by decide) (by decide) (Nat.le_of_ble_eq_true rfl) (by decide) (by decide) (fun r h2 hq => ?_)
  obtain ⟨rfl, rfl⟩ := hq
  have hgo := mga_or I (nI (24 * D + 6 * h + p)) G
  refine z_istore (i := 5) dX9_hour_18 (by decide) rfl ?_
  refine z_aload_n (i := 0) dX9_hour_20 rfl rfl ?_
  refine z_gR zf9_74.g dX9_hour_21 (by decide) rfl rfl ?_
  refine z_iconst (v := 0) dX9_hour_24 (by decide) ?_
  refine z_iload dX9_hour_25 rfl ?_
  refine z_iast dX9_hour_27 (by decide) rfl (zvin (n := 0) (by omega) (by omega)) ?_
  refine z_aload_n (i := 0) dX9_hour_28 rfl rfl ?_
  refine z_gR zf9_74.g dX9_hour_29 (by decide) rfl rfl ?_
  refine z_iconst (v := 1) dX9_hour_32 (by decide) ?_
  refine z_iload_n (i := 3) dX9_hour_33 rfl rfl ?_
  refine z_iast dX9_hour_34 (by decide) rfl (zvin (n := 1) (by omega) (by omega)) ?_
  refine z_aload_n (i := 0) dX9_hour_35 rfl rfl ?_
  refine z_gR zf9_74.g dX9_hour_36 (by decide) rfl rfl ?_
  refine z_iconst (v := 2) dX9_hour_39 (by decide) ?_
  refine z_aload_n (i := 0) dX9_hour_40 rfl rfl ?_
  refine z_gR zf9_86.g dX9_hour_41 (by decide) rfl rfl ?_
  refine z_iload_n (i := 2) dX9_hour_44 rfl rfl ?_
  refine z_callS (st := [_, _]) (mc2 := 0) (ms2 := 0) zi9_285 zs_yX9_leastOf (c9_leastOf _ L 18 p (by decide) rfl (by omega)) dX9_hour_45 rfl rfl (by decide) (by decide) (Nat.le_of_ble_eq_true rfl) (by decide) (by decide) (fun r h2 hq => ?_)
  obtain ⟨rfl, rfl⟩ := hq
  refine z_iast dX9_hour_48 (by decide) rfl (zvin (n := 2) (by omega) (by omega)) ?_
  simp only [zt0, zt1, zt2]
  refine z_aload_n (i := 0) dX9_hour_49 rfl rfl ?_
  refine z_gR zf9_74.g dX9_hour_50 (by decide) rfl rfl ?_
  refine z_iconst (v := 3) dX9_hour_53 (by decide) ?_
  refine z_aload_n (i := 0) dX9_hour_54 rfl rfl ?_
  refine z_gR zf9_86.g dX9_hour_55 (by decide) rfl rfl ?_
  refine z_iload_n (i := 2) dX9_hour_58 rfl rfl ?_
  refine z_callS (st := [_, _]) (mc2 := 0) (ms2 := 0) zi9_289 zs_yX9_meanOf (c9_meanOf _ L 18 p (by decide) rfl (by omega)) dX9_hour_59 rfl rfl (by decide) (by decide) (Nat.le_of_ble_eq_true rfl) (by decide) (by decide) (fun r h2 hq => ?_)
  obtain ⟨rfl, rfl⟩ := hq
  refine z_iast dX9_hour_62 (by decide) rfl (zvin (n := 3) (by omega) (by omega)) ?_
  refine z_aload_n (i := 0) dX9_hour_63 rfl rfl ?_
  refine z_gR zf9_74.g dX9_hour_64 (by decide) rfl rfl ?_
  refine z_iconst (v := 4) dX9_hour_67 (by decide) ?_
  refine z_aload_n (i := 0) dX9_hour_68 rfl rfl ?_
  refine z_gR zf9_101.g dX9_hour_69 (by decide) rfl rfl ?_
  refine z_iload_n (i := 2) dX9_hour_72 rfl rfl ?_
  refine z_iald dX9_hour_73 (by decide) rfl (zvin (by omega) (by omega)) ?_
  simp only [zt3, zcl (show p ≤ 100000 by omega)]
  refine z_iast dX9_hour_74 (by decide) rfl (zvin (n := 4) (by omega) (by omega)) ?_
  simp only [zt4]
  refine z_aload_n (i := 0) dX9_hour_75 rfl rfl ?_
  refine z_gR zf9_74.g dX9_hour_76 (by decide) rfl rfl ?_
  refine z_iconst (v := 5) dX9_hour_79 (by decide) ?_
  refine z_aload_n (i := 0) dX9_hour_80 rfl rfl ?_
  refine z_gI zf9_239.g dX9_hour_81 (by decide) rfl ?_
  refine z_bipush (v := 7) dX9_hour_84 (by decide) ?_
  refine z_irem dX9_hour_86 (by decide) ?_
  refine z_top (y := .int (nI (D % 7))) (by show Value.int (I 0 34 - I 0 34 / 7 * 7) = _; rw [h34, zl7, zrem (by omega) (by omega) (by omega)]) ?_
  refine z_iast dX9_hour_87 (by decide) rfl (zvin (n := 5) (by omega) (by omega)) ?_
  simp only [zt5]
  refine z_aload_n (i := 0) dX9_hour_88 rfl rfl ?_
  refine z_gR zf9_74.g dX9_hour_89 (by decide) rfl rfl ?_
  refine z_bipush (v := 6) dX9_hour_92 (by decide) ?_
  refine z_iload_n (i := 1) dX9_hour_94 rfl rfl ?_
  refine z_iast dX9_hour_95 (by decide) rfl (zvin (n := 6) (by omega) (by omega)) ?_
  simp only [zt6]
  refine z_aload_n (i := 0) dX9_hour_96 rfl rfl ?_
  refine z_gR zf9_74.g dX9_hour_97 (by decide) rfl rfl ?_
  refine z_bipush (v := 7) dX9_hour_100 (by decide) ?_
  refine z_iload dX9_hour_102 rfl ?_
  refine z_if_ge 111 dX9_hour_104 (by decide) (fun c_1 => ?_) (fun c_1 => ?_)
  · skip
    refine z_aload_n (i := 0) dX9_hour_111 rfl rfl ?_
    refine z_gR zf9_113.g dX9_hour_112 (by decide) rfl rfl ?_
    refine z_iload dX9_hour_115 rfl ?_
    refine z_iald dX9_hour_117 (by decide) rfl (mga_in hG c_1) ?_
    refine z_topi (fun w hw0 => ?_)
    have e2 : w = (if 0 ≤ mga I (nI (24 * D + 6 * h + p)) G then I 27 (mga I (nI (24 * D + 6 * h + p)) G).toNatClampNeg else -1) := by
      rw [hw0]
      first | exact (if_pos c_1).symm | exact (if_neg (Int32.not_le.mpr c_1)).symm | exact (if_neg c_1).symm
    subst e2
    refine z_iast dX9_hour_118 (by decide) rfl (zvin (n := 7) (by omega) (by omega)) ?_
    simp only [zt7]
    refine z_hp (h2 := mh (mkn I D h p warm wet (mga I (nI (24 * D + 6 * h + p)) G)) L) rfl ?_
    refine z_aload_n (i := 0) dX9_hour_119 rfl rfl ?_
    refine z_iload_n (i := 2) dX9_hour_120 rfl rfl ?_
    refine z_callV (st := []) (mc2 := 0) (ms2 := 0) zi9_292 zv_yX9_isShut (c9_isShut (mkn I D h p warm wet (mga I (nI (24 * D + 6 * h + p)) G)) L hd p ts (by omega) (mtx_cong ht rfl rfl rfl rfl rfl rfl)) dX9_hour_121 (show (0 : Nat) < 35 by decide) rfl rfl rfl rfl (by decide) (by decide) (Nat.le_of_ble_eq_true rfl) (by decide) (by decide) (fun r h2 hq => ?_)
    obtain ⟨rfl, rfl⟩ := hq
    have hJ := fun a => mshut_ne ts (mkn I D h p warm wet (mga I (nI (24 * D + 6 * h + p)) G)) (nI p) a
    have he : mhour I P G D ts h p warm wet = (if (mshut ts (mkn I D h p warm wet (mga I (nI (24 * D + 6 * h + p)) G)) (nI p)).2 = true then (if mga I (nI (24 * D + 6 * h + p)) G < 0 then zu (mshut ts (mkn I D h p warm wet (mga I (nI (24 * D + 6 * h + p)) G)) (nI p)).1 24 p ((mshut ts (mkn I D h p warm wet (mga I (nI (24 * D + 6 * h + p)) G)) (nI p)).1 24 p + 1) else mmv (mlost (mlost (zu (mshut ts (mkn I D h p warm wet (mga I (nI (24 * D + 6 * h + p)) G)) (nI p)).1 24 p ((mshut ts (mkn I D h p warm wet (mga I (nI (24 * D + 6 * h + p)) G)) (nI p)).1 24 p + 1)) ((mshut ts (mkn I D h p warm wet (mga I (nI (24 * D + 6 * h + p)) G)) (nI p)).1 25 (mga I (nI (24 * D + 6 * h + p)) G).toNatClampNeg).toNatClampNeg) ((mshut ts (mkn I D h p warm wet (mga I (nI (24 * D + 6 * h + p)) G)) (nI p)).1 26 (mga I (nI (24 * D + 6 * h + p)) G).toNatClampNeg).toNatClampNeg) P G D (mga I (nI (24 * D + 6 * h + p)) G).toNatClampNeg) else (if mga I (nI (24 * D + 6 * h + p)) G < 0 then (mshut ts (mkn I D h p warm wet (mga I (nI (24 * D + 6 * h + p)) G)) (nI p)).1 else mplay2 (mplay (mshut ts (mkn I D h p warm wet (mga I (nI (24 * D + 6 * h + p)) G)) (nI p)).1 p (mga I (nI (24 * D + 6 * h + p)) G).toNatClampNeg wet) p (mga I (nI (24 * D + 6 * h + p)) G).toNatClampNeg wet)) := rfl
    generalize mshut ts (mkn I D h p warm wet (mga I (nI (24 * D + 6 * h + p)) G)) (nI p) = x at hJ he ⊢
    obtain ⟨J, sh⟩ := x
    dsimp only at hJ he ⊢
    refine z_if_eq 183 dX9_hour_124 (by decide) (fun c_2 => ?_) (fun c_2 => ?_)
    · skip
      refine z_iload dX9_hour_183 rfl ?_
      refine z_if_lt 282 dX9_hour_185 (by decide) (fun c_3 => ?_) (fun c_3 => ?_)
      · skip
        try simp only [zcl (show p ≤ 100000 by omega)]
        refine z_vret dX9_hour_282 rfl ?_
        subst hQ0
        have hs := (zb_0 sh).mp (by assumption)
        rw [hs, if_neg (by decide), if_pos (show mga I (nI (24 * D + 6 * h + p)) G < 0 by assumption)] at he
        exact ⟨rfl, by rw [he]⟩
      · skip
        obtain ⟨j, hj, ej⟩ := mga_j c_3
        obtain ⟨a, b, ha, hb, e25, e26⟩ := hcl j hj
        obtain ⟨W, hW, e29⟩ := hw j hj
        rw [ej]
        refine z_aload_n (i := 0) dX9_hour_188 rfl rfl ?_
        refine z_gR zf9_125.g dX9_hour_189 (by decide) rfl rfl ?_
        refine z_iload dX9_hour_192 rfl ?_
        refine z_iconst (v := 2) dX9_hour_194 (by decide) ?_
        refine z_iast dX9_hour_195 (by decide) rfl (zvin (by omega) (by omega)) ?_
        simp only [zcl (show j ≤ 100000 by omega)]
        refine z_aload_n (i := 0) dX9_hour_196 rfl rfl ?_
        refine z_gR zf9_98.g dX9_hour_197 (by decide) rfl rfl ?_
        refine z_iload_n (i := 2) dX9_hour_200 rfl rfl ?_
        refine z_dup2 dX9_hour_201 rfl rfl ?_
        refine z_iald dX9_hour_202 (by decide) rfl (zvin (by omega) (by omega)) ?_
        simp only [zcl (show p ≤ 100000 by omega)]
        refine z_iconst (v := 1) dX9_hour_203 (by decide) ?_
        refine z_iadd dX9_hour_204 ?_
        refine z_iast dX9_hour_205 (by decide) rfl (zvin (by omega) (by omega)) ?_
        simp only [zcl (show p ≤ 100000 by omega)]
        refine z_aload_n (i := 0) dX9_hour_206 rfl rfl ?_
        refine z_gR zf9_101.g dX9_hour_207 (by decide) rfl rfl ?_
        refine z_iload_n (i := 2) dX9_hour_210 rfl rfl ?_
        refine z_dup2 dX9_hour_211 rfl rfl ?_
        refine z_iald dX9_hour_212 (by decide) rfl (zvin (by omega) (by omega)) ?_
        simp only [zcl (show p ≤ 100000 by omega)]
        refine z_iconst (v := 1) dX9_hour_213 (by decide) ?_
        refine z_iadd dX9_hour_214 ?_
        refine z_iast dX9_hour_215 (by decide) rfl (zvin (by omega) (by omega)) ?_
        simp only [zcl (show p ≤ 100000 by omega)]
        refine z_aload_n (i := 0) dX9_hour_216 rfl rfl ?_
        refine z_gR zf9_92.g dX9_hour_217 (by decide) rfl rfl ?_
        refine z_iload_n (i := 2) dX9_hour_220 rfl rfl ?_
        refine z_dup2 dX9_hour_221 rfl rfl ?_
        refine z_iald dX9_hour_222 (by decide) rfl (zvin (by omega) (by omega)) ?_
        simp only [zcl (show p ≤ 100000 by omega)]
        refine z_aload_n (i := 0) dX9_hour_223 rfl rfl ?_
        refine z_gR zf9_86.g dX9_hour_224 (by decide) rfl rfl ?_
        refine z_iload_n (i := 2) dX9_hour_227 rfl rfl ?_
        refine z_aload_n (i := 0) dX9_hour_228 rfl rfl ?_
        refine z_gR zf9_83.g dX9_hour_229 (by decide) rfl rfl ?_
        refine z_iload_n (i := 2) dX9_hour_232 rfl rfl ?_
        refine z_iald dX9_hour_233 (by decide) rfl (zvin (by omega) (by omega)) ?_
        simp only [zcl (show p ≤ 100000 by omega)]
        refine z_aload_n (i := 0) dX9_hour_234 rfl rfl ?_
        refine z_gR zf9_113.g dX9_hour_235 (by decide) rfl rfl ?_
        refine z_iload dX9_hour_238 rfl ?_
        refine z_iald dX9_hour_240 (by decide) rfl (zvin (by omega) (by omega)) ?_
        simp only [zcl (show j ≤ 100000 by omega)]
        refine z_iload dX9_hour_241 rfl ?_
        refine z_callS (st := [_, _, _]) (mc2 := 0) (ms2 := 0) zi9_298 zs_yX9_wears (c9_wears _ L 18 p _ _ _ (by decide) rfl (by omega)) dX9_hour_243 rfl rfl (by decide) (by decide) (Nat.le_of_ble_eq_true rfl) (by decide) (by decide) (fun r h2 hq => ?_)
        obtain ⟨rfl, rfl⟩ := hq
        refine z_iadd dX9_hour_246 ?_
        refine z_iast dX9_hour_247 (by decide) rfl (zvin (by omega) (by omega)) ?_
        simp only [zcl (show p ≤ 100000 by omega)]
        refine z_aload_n (i := 0) dX9_hour_248 rfl rfl ?_
        refine z_gR zf9_95.g dX9_hour_249 (by decide) rfl rfl ?_
        refine z_iload_n (i := 2) dX9_hour_252 rfl rfl ?_
        refine z_dup2 dX9_hour_253 rfl rfl ?_
        refine z_iald dX9_hour_254 (by decide) rfl (zvin (by omega) (by omega)) ?_
        simp only [zcl (show p ≤ 100000 by omega)]
        refine z_aload_n (i := 0) dX9_hour_255 rfl rfl ?_
        refine z_gR zf9_89.g dX9_hour_256 (by decide) rfl rfl ?_
        refine z_iload_n (i := 2) dX9_hour_259 rfl rfl ?_
        refine z_iconst (v := 1) dX9_hour_260 (by decide) ?_
        refine z_aload_n (i := 0) dX9_hour_261 rfl rfl ?_
        refine z_gR zf9_83.g dX9_hour_262 (by decide) rfl rfl ?_
        refine z_iload_n (i := 2) dX9_hour_265 rfl rfl ?_
        refine z_iald dX9_hour_266 (by decide) rfl (zvin (by omega) (by omega)) ?_
        simp only [zcl (show p ≤ 100000 by omega)]
        refine z_isub dX9_hour_267 ?_
        refine z_aload_n (i := 0) dX9_hour_268 rfl rfl ?_
        refine z_gR zf9_113.g dX9_hour_269 (by decide) rfl rfl ?_
        refine z_iload dX9_hour_272 rfl ?_
        refine z_iald dX9_hour_274 (by decide) rfl (zvin (by omega) (by omega)) ?_
        simp only [zcl (show j ≤ 100000 by omega)]
        refine z_iload dX9_hour_275 rfl ?_
        refine z_callS (st := [_, _, _]) (mc2 := 0) (ms2 := 0) zi9_298 zs_yX9_wears (c9_wears _ L 19 p _ _ _ (by decide) rfl (by omega)) dX9_hour_277 rfl rfl (by decide) (by decide) (Nat.le_of_ble_eq_true rfl) (by decide) (by decide) (fun r h2 hq => ?_)
        obtain ⟨rfl, rfl⟩ := hq
        refine z_iadd dX9_hour_280 ?_
        refine z_iast dX9_hour_281 (by decide) rfl (zvin (by omega) (by omega)) ?_
        try simp only [zcl (show p ≤ 100000 by omega)]
        refine z_vret dX9_hour_282 rfl ?_
        subst hQ0
        have hs := (zb_0 sh).mp (by assumption)
        rw [hs, if_neg (by decide), if_neg (show ¬ mga I (nI (24 * D + 6 * h + p)) G < 0 by assumption), ej, zcl (show j ≤ 100000 by omega)] at he
        exact ⟨rfl, by rw [he]; rfl⟩
    · skip
      refine z_aload_n (i := 0) dX9_hour_127 rfl rfl ?_
      refine z_gR zf9_104.g dX9_hour_128 (by decide) rfl rfl ?_
      refine z_iload_n (i := 2) dX9_hour_131 rfl rfl ?_
      refine z_dup2 dX9_hour_132 rfl rfl ?_
      refine z_iald dX9_hour_133 (by decide) rfl (zvin (by omega) (by omega)) ?_
      simp only [zcl (show p ≤ 100000 by omega)]
      refine z_iconst (v := 1) dX9_hour_134 (by decide) ?_
      refine z_iadd dX9_hour_135 ?_
      refine z_iast dX9_hour_136 (by decide) rfl (zvin (by omega) (by omega)) ?_
      simp only [zcl (show p ≤ 100000 by omega)]
      refine z_iload dX9_hour_137 rfl ?_
      refine z_if_lt 282 dX9_hour_139 (by decide) (fun c_4 => ?_) (fun c_4 => ?_)
      · skip
        try simp only [zcl (show p ≤ 100000 by omega)]
        refine z_vret dX9_hour_282 rfl ?_
        subst hQ0
        have hs := (zb_n sh).mp (by assumption)
        rw [hs, if_pos rfl, if_pos (show mga I (nI (24 * D + 6 * h + p)) G < 0 by assumption)] at he
        exact ⟨rfl, by rw [he]⟩
      · skip
        obtain ⟨j, hj, ej⟩ := mga_j c_4
        obtain ⟨a, b, ha, hb, e25, e26⟩ := hcl j hj
        obtain ⟨W, hW, e29⟩ := hw j hj
        rw [ej]
        refine z_aload_n (i := 0) dX9_hour_142 rfl rfl ?_
        refine z_gR zf9_134.g dX9_hour_143 (by decide) rfl rfl ?_
        refine z_aload_n (i := 0) dX9_hour_146 rfl rfl ?_
        refine z_gR zf9_107.g dX9_hour_147 (by decide) rfl rfl ?_
        refine z_iload dX9_hour_150 rfl ?_
        refine z_iald dX9_hour_152 (by decide) rfl (zvin (by omega) (by omega)) ?_
        rw [zcl (show j ≤ 100000 by omega), show (zu J 24 p (J 24 p + 1)) 25 j = nI a from (congrFun (hJ 25 (by decide)) j).trans e25]
        refine z_dup2 dX9_hour_153 rfl rfl ?_
        refine z_iald dX9_hour_154 (by decide) rfl (zvin (by omega) (by omega)) ?_
        rw [zcl (show a ≤ 100000 by omega)]
        refine z_iconst (v := 1) dX9_hour_155 (by decide) ?_
        refine z_iadd dX9_hour_156 ?_
        refine z_iast dX9_hour_157 (by decide) rfl (zvin (by omega) (by omega)) ?_
        simp only [zcl (show a ≤ 100000 by omega)]
        refine z_aload_n (i := 0) dX9_hour_158 rfl rfl ?_
        refine z_gR zf9_134.g dX9_hour_159 (by decide) rfl rfl ?_
        refine z_aload_n (i := 0) dX9_hour_162 rfl rfl ?_
        refine z_gR zf9_110.g dX9_hour_163 (by decide) rfl rfl ?_
        refine z_iload dX9_hour_166 rfl ?_
        refine z_iald dX9_hour_168 (by decide) rfl (zvin (by omega) (by omega)) ?_
        rw [zcl (show j ≤ 100000 by omega), show (zu (zu J 24 p (J 24 p + 1)) 34 a (zu J 24 p (J 24 p + 1) 34 a + 1)) 26 j = nI b from (congrFun (hJ 26 (by decide)) j).trans e26]
        refine z_dup2 dX9_hour_169 rfl rfl ?_
        refine z_iald dX9_hour_170 (by decide) rfl (zvin (by omega) (by omega)) ?_
        rw [zcl (show b ≤ 100000 by omega)]
        refine z_iconst (v := 1) dX9_hour_171 (by decide) ?_
        refine z_iadd dX9_hour_172 ?_
        refine z_iast dX9_hour_173 (by decide) rfl (zvin (by omega) (by omega)) ?_
        simp only [zcl (show b ≤ 100000 by omega)]
        refine z_aload_n (i := 0) dX9_hour_174 rfl rfl ?_
        refine z_iload dX9_hour_175 rfl ?_
        refine z_callV (st := []) (mc2 := 0) (ms2 := 0) zi9_295 zv_yX9_movesOn (c9_movesOn (mlost (mlost (zu J 24 p (J 24 p + 1)) a) b) L P G D hP hG hD ((congrFun (hJ 0 (by decide)) 24).trans h24) ((congrFun (hJ 0 (by decide)) 35).trans h35) ((congrFun (hJ 0 (by decide)) 34).trans h34) j W hW hj ((congrFun (hJ 29 (by decide)) j).trans e29)) dX9_hour_177 (show (0 : Nat) < 35 by decide) rfl rfl rfl rfl (by decide) (by decide) (Nat.le_of_ble_eq_true rfl) (by decide) (by decide) (fun r h2 hq => ?_)
        obtain ⟨rfl, rfl⟩ := hq
        try simp only [Option.toList, List.nil_append]
        refine z_goto 282 dX9_hour_180 (by decide) ?_
        try simp only [zcl (show p ≤ 100000 by omega)]
        refine z_vret dX9_hour_282 rfl ?_
        subst hQ0
        have hs := (zb_n sh).mp (by assumption)
        rw [hs, if_pos rfl, if_neg (show ¬ mga I (nI (24 * D + 6 * h + p)) G < 0 by assumption), ej, zcl (show j ≤ 100000 by omega), show J 25 j = nI a from (congrFun (hJ 25 (by decide)) j).trans e25, show J 26 j = nI b from (congrFun (hJ 26 (by decide)) j).trans e26, zcl (show a ≤ 100000 by omega), zcl (show b ≤ 100000 by omega)] at he
        unfold mmv at he
        rw [mWk_of (I := mlost (mlost (zu J 24 p (J 24 p + 1)) a) b) ((congrFun (hJ 29 (by decide)) j).trans e29) hW] at he
        exact ⟨rfl, by rw [he]⟩
  · skip
    refine z_iconst (v := (-1)) dX9_hour_107 (by decide) ?_
    refine z_goto 118 dX9_hour_108 (by decide) ?_
    refine z_topi (fun w hw0 => ?_)
    have e2 : w = (if 0 ≤ mga I (nI (24 * D + 6 * h + p)) G then I 27 (mga I (nI (24 * D + 6 * h + p)) G).toNatClampNeg else -1) := by
      rw [hw0]
      first | exact (if_pos c_1).symm | exact (if_neg (Int32.not_le.mpr c_1)).symm | exact (if_neg c_1).symm
    subst e2
    refine z_iast dX9_hour_118 (by decide) rfl (zvin (n := 7) (by omega) (by omega)) ?_
    simp only [zt7]
    refine z_hp (h2 := mh (mkn I D h p warm wet (mga I (nI (24 * D + 6 * h + p)) G)) L) rfl ?_
    refine z_aload_n (i := 0) dX9_hour_119 rfl rfl ?_
    refine z_iload_n (i := 2) dX9_hour_120 rfl rfl ?_
    refine z_callV (st := []) (mc2 := 0) (ms2 := 0) zi9_292 zv_yX9_isShut (c9_isShut (mkn I D h p warm wet (mga I (nI (24 * D + 6 * h + p)) G)) L hd p ts (by omega) (mtx_cong ht rfl rfl rfl rfl rfl rfl)) dX9_hour_121 (show (0 : Nat) < 35 by decide) rfl rfl rfl rfl (by decide) (by decide) (Nat.le_of_ble_eq_true rfl) (by decide) (by decide) (fun r h2 hq => ?_)
    obtain ⟨rfl, rfl⟩ := hq
    have hJ := fun a => mshut_ne ts (mkn I D h p warm wet (mga I (nI (24 * D + 6 * h + p)) G)) (nI p) a
    have he : mhour I P G D ts h p warm wet = (if (mshut ts (mkn I D h p warm wet (mga I (nI (24 * D + 6 * h + p)) G)) (nI p)).2 = true then (if mga I (nI (24 * D + 6 * h + p)) G < 0 then zu (mshut ts (mkn I D h p warm wet (mga I (nI (24 * D + 6 * h + p)) G)) (nI p)).1 24 p ((mshut ts (mkn I D h p warm wet (mga I (nI (24 * D + 6 * h + p)) G)) (nI p)).1 24 p + 1) else mmv (mlost (mlost (zu (mshut ts (mkn I D h p warm wet (mga I (nI (24 * D + 6 * h + p)) G)) (nI p)).1 24 p ((mshut ts (mkn I D h p warm wet (mga I (nI (24 * D + 6 * h + p)) G)) (nI p)).1 24 p + 1)) ((mshut ts (mkn I D h p warm wet (mga I (nI (24 * D + 6 * h + p)) G)) (nI p)).1 25 (mga I (nI (24 * D + 6 * h + p)) G).toNatClampNeg).toNatClampNeg) ((mshut ts (mkn I D h p warm wet (mga I (nI (24 * D + 6 * h + p)) G)) (nI p)).1 26 (mga I (nI (24 * D + 6 * h + p)) G).toNatClampNeg).toNatClampNeg) P G D (mga I (nI (24 * D + 6 * h + p)) G).toNatClampNeg) else (if mga I (nI (24 * D + 6 * h + p)) G < 0 then (mshut ts (mkn I D h p warm wet (mga I (nI (24 * D + 6 * h + p)) G)) (nI p)).1 else mplay2 (mplay (mshut ts (mkn I D h p warm wet (mga I (nI (24 * D + 6 * h + p)) G)) (nI p)).1 p (mga I (nI (24 * D + 6 * h + p)) G).toNatClampNeg wet) p (mga I (nI (24 * D + 6 * h + p)) G).toNatClampNeg wet)) := rfl
    generalize mshut ts (mkn I D h p warm wet (mga I (nI (24 * D + 6 * h + p)) G)) (nI p) = x at hJ he ⊢
    obtain ⟨J, sh⟩ := x
    dsimp only at hJ he ⊢
    refine z_if_eq 183 dX9_hour_124 (by decide) (fun c_5 => ?_) (fun c_5 => ?_)
    · skip
      refine z_iload dX9_hour_183 rfl ?_
      refine z_if_lt 282 dX9_hour_185 (by decide) (fun c_6 => ?_) (fun c_6 => ?_)
      · skip
        try simp only [zcl (show p ≤ 100000 by omega)]
        refine z_vret dX9_hour_282 rfl ?_
        subst hQ0
        have hs := (zb_0 sh).mp (by assumption)
        rw [hs, if_neg (by decide), if_pos (show mga I (nI (24 * D + 6 * h + p)) G < 0 by assumption)] at he
        exact ⟨rfl, by rw [he]⟩
      · skip
        obtain ⟨j, hj, ej⟩ := mga_j c_6
        obtain ⟨a, b, ha, hb, e25, e26⟩ := hcl j hj
        obtain ⟨W, hW, e29⟩ := hw j hj
        rw [ej]
        refine z_aload_n (i := 0) dX9_hour_188 rfl rfl ?_
        refine z_gR zf9_125.g dX9_hour_189 (by decide) rfl rfl ?_
        refine z_iload dX9_hour_192 rfl ?_
        refine z_iconst (v := 2) dX9_hour_194 (by decide) ?_
        refine z_iast dX9_hour_195 (by decide) rfl (zvin (by omega) (by omega)) ?_
        simp only [zcl (show j ≤ 100000 by omega)]
        refine z_aload_n (i := 0) dX9_hour_196 rfl rfl ?_
        refine z_gR zf9_98.g dX9_hour_197 (by decide) rfl rfl ?_
        refine z_iload_n (i := 2) dX9_hour_200 rfl rfl ?_
        refine z_dup2 dX9_hour_201 rfl rfl ?_
        refine z_iald dX9_hour_202 (by decide) rfl (zvin (by omega) (by omega)) ?_
        simp only [zcl (show p ≤ 100000 by omega)]
        refine z_iconst (v := 1) dX9_hour_203 (by decide) ?_
        refine z_iadd dX9_hour_204 ?_
        refine z_iast dX9_hour_205 (by decide) rfl (zvin (by omega) (by omega)) ?_
        simp only [zcl (show p ≤ 100000 by omega)]
        refine z_aload_n (i := 0) dX9_hour_206 rfl rfl ?_
        refine z_gR zf9_101.g dX9_hour_207 (by decide) rfl rfl ?_
        refine z_iload_n (i := 2) dX9_hour_210 rfl rfl ?_
        refine z_dup2 dX9_hour_211 rfl rfl ?_
        refine z_iald dX9_hour_212 (by decide) rfl (zvin (by omega) (by omega)) ?_
        simp only [zcl (show p ≤ 100000 by omega)]
        refine z_iconst (v := 1) dX9_hour_213 (by decide) ?_
        refine z_iadd dX9_hour_214 ?_
        refine z_iast dX9_hour_215 (by decide) rfl (zvin (by omega) (by omega)) ?_
        simp only [zcl (show p ≤ 100000 by omega)]
        refine z_aload_n (i := 0) dX9_hour_216 rfl rfl ?_
        refine z_gR zf9_92.g dX9_hour_217 (by decide) rfl rfl ?_
        refine z_iload_n (i := 2) dX9_hour_220 rfl rfl ?_
        refine z_dup2 dX9_hour_221 rfl rfl ?_
        refine z_iald dX9_hour_222 (by decide) rfl (zvin (by omega) (by omega)) ?_
        simp only [zcl (show p ≤ 100000 by omega)]
        refine z_aload_n (i := 0) dX9_hour_223 rfl rfl ?_
        refine z_gR zf9_86.g dX9_hour_224 (by decide) rfl rfl ?_
        refine z_iload_n (i := 2) dX9_hour_227 rfl rfl ?_
        refine z_aload_n (i := 0) dX9_hour_228 rfl rfl ?_
        refine z_gR zf9_83.g dX9_hour_229 (by decide) rfl rfl ?_
        refine z_iload_n (i := 2) dX9_hour_232 rfl rfl ?_
        refine z_iald dX9_hour_233 (by decide) rfl (zvin (by omega) (by omega)) ?_
        simp only [zcl (show p ≤ 100000 by omega)]
        refine z_aload_n (i := 0) dX9_hour_234 rfl rfl ?_
        refine z_gR zf9_113.g dX9_hour_235 (by decide) rfl rfl ?_
        refine z_iload dX9_hour_238 rfl ?_
        refine z_iald dX9_hour_240 (by decide) rfl (zvin (by omega) (by omega)) ?_
        simp only [zcl (show j ≤ 100000 by omega)]
        refine z_iload dX9_hour_241 rfl ?_
        refine z_callS (st := [_, _, _]) (mc2 := 0) (ms2 := 0) zi9_298 zs_yX9_wears (c9_wears _ L 18 p _ _ _ (by decide) rfl (by omega)) dX9_hour_243 rfl rfl (by decide) (by decide) (Nat.le_of_ble_eq_true rfl) (by decide) (by decide) (fun r h2 hq => ?_)
        obtain ⟨rfl, rfl⟩ := hq
        refine z_iadd dX9_hour_246 ?_
        refine z_iast dX9_hour_247 (by decide) rfl (zvin (by omega) (by omega)) ?_
        simp only [zcl (show p ≤ 100000 by omega)]
        refine z_aload_n (i := 0) dX9_hour_248 rfl rfl ?_
        refine z_gR zf9_95.g dX9_hour_249 (by decide) rfl rfl ?_
        refine z_iload_n (i := 2) dX9_hour_252 rfl rfl ?_
        refine z_dup2 dX9_hour_253 rfl rfl ?_
        refine z_iald dX9_hour_254 (by decide) rfl (zvin (by omega) (by omega)) ?_
        simp only [zcl (show p ≤ 100000 by omega)]
        refine z_aload_n (i := 0) dX9_hour_255 rfl rfl ?_
        refine z_gR zf9_89.g dX9_hour_256 (by decide) rfl rfl ?_
        refine z_iload_n (i := 2) dX9_hour_259 rfl rfl ?_
        refine z_iconst (v := 1) dX9_hour_260 (by decide) ?_
        refine z_aload_n (i := 0) dX9_hour_261 rfl rfl ?_
        refine z_gR zf9_83.g dX9_hour_262 (by decide) rfl rfl ?_
        refine z_iload_n (i := 2) dX9_hour_265 rfl rfl ?_
        refine z_iald dX9_hour_266 (by decide) rfl (zvin (by omega) (by omega)) ?_
        simp only [zcl (show p ≤ 100000 by omega)]
        refine z_isub dX9_hour_267 ?_
        refine z_aload_n (i := 0) dX9_hour_268 rfl rfl ?_
        refine z_gR zf9_113.g dX9_hour_269 (by decide) rfl rfl ?_
        refine z_iload dX9_hour_272 rfl ?_
        refine z_iald dX9_hour_274 (by decide) rfl (zvin (by omega) (by omega)) ?_
        simp only [zcl (show j ≤ 100000 by omega)]
        refine z_iload dX9_hour_275 rfl ?_
        refine z_callS (st := [_, _, _]) (mc2 := 0) (ms2 := 0) zi9_298 zs_yX9_wears (c9_wears _ L 19 p _ _ _ (by decide) rfl (by omega)) dX9_hour_277 rfl rfl (by decide) (by decide) (Nat.le_of_ble_eq_true rfl) (by decide) (by decide) (fun r h2 hq => ?_)
        obtain ⟨rfl, rfl⟩ := hq
        refine z_iadd dX9_hour_280 ?_
        refine z_iast dX9_hour_281 (by decide) rfl (zvin (by omega) (by omega)) ?_
        try simp only [zcl (show p ≤ 100000 by omega)]
        refine z_vret dX9_hour_282 rfl ?_
        subst hQ0
        have hs := (zb_0 sh).mp (by assumption)
        rw [hs, if_neg (by decide), if_neg (show ¬ mga I (nI (24 * D + 6 * h + p)) G < 0 by assumption), ej, zcl (show j ≤ 100000 by omega)] at he
        exact ⟨rfl, by rw [he]; rfl⟩
    · skip
      refine z_aload_n (i := 0) dX9_hour_127 rfl rfl ?_
      refine z_gR zf9_104.g dX9_hour_128 (by decide) rfl rfl ?_
      refine z_iload_n (i := 2) dX9_hour_131 rfl rfl ?_
      refine z_dup2 dX9_hour_132 rfl rfl ?_
      refine z_iald dX9_hour_133 (by decide) rfl (zvin (by omega) (by omega)) ?_
      simp only [zcl (show p ≤ 100000 by omega)]
      refine z_iconst (v := 1) dX9_hour_134 (by decide) ?_
      refine z_iadd dX9_hour_135 ?_
      refine z_iast dX9_hour_136 (by decide) rfl (zvin (by omega) (by omega)) ?_
      simp only [zcl (show p ≤ 100000 by omega)]
      refine z_iload dX9_hour_137 rfl ?_
      refine z_if_lt 282 dX9_hour_139 (by decide) (fun c_7 => ?_) (fun c_7 => ?_)
      · skip
        try simp only [zcl (show p ≤ 100000 by omega)]
        refine z_vret dX9_hour_282 rfl ?_
        subst hQ0
        have hs := (zb_n sh).mp (by assumption)
        rw [hs, if_pos rfl, if_pos (show mga I (nI (24 * D + 6 * h + p)) G < 0 by assumption)] at he
        exact ⟨rfl, by rw [he]⟩
      · skip
        obtain ⟨j, hj, ej⟩ := mga_j c_7
        obtain ⟨a, b, ha, hb, e25, e26⟩ := hcl j hj
        obtain ⟨W, hW, e29⟩ := hw j hj
        rw [ej]
        refine z_aload_n (i := 0) dX9_hour_142 rfl rfl ?_
        refine z_gR zf9_134.g dX9_hour_143 (by decide) rfl rfl ?_
        refine z_aload_n (i := 0) dX9_hour_146 rfl rfl ?_
        refine z_gR zf9_107.g dX9_hour_147 (by decide) rfl rfl ?_
        refine z_iload dX9_hour_150 rfl ?_
        refine z_iald dX9_hour_152 (by decide) rfl (zvin (by omega) (by omega)) ?_
        rw [zcl (show j ≤ 100000 by omega), show (zu J 24 p (J 24 p + 1)) 25 j = nI a from (congrFun (hJ 25 (by decide)) j).trans e25]
        refine z_dup2 dX9_hour_153 rfl rfl ?_
        refine z_iald dX9_hour_154 (by decide) rfl (zvin (by omega) (by omega)) ?_
        rw [zcl (show a ≤ 100000 by omega)]
        refine z_iconst (v := 1) dX9_hour_155 (by decide) ?_
        refine z_iadd dX9_hour_156 ?_
        refine z_iast dX9_hour_157 (by decide) rfl (zvin (by omega) (by omega)) ?_
        simp only [zcl (show a ≤ 100000 by omega)]
        refine z_aload_n (i := 0) dX9_hour_158 rfl rfl ?_
        refine z_gR zf9_134.g dX9_hour_159 (by decide) rfl rfl ?_
        refine z_aload_n (i := 0) dX9_hour_162 rfl rfl ?_
        refine z_gR zf9_110.g dX9_hour_163 (by decide) rfl rfl ?_
        refine z_iload dX9_hour_166 rfl ?_
        refine z_iald dX9_hour_168 (by decide) rfl (zvin (by omega) (by omega)) ?_
        rw [zcl (show j ≤ 100000 by omega), show (zu (zu J 24 p (J 24 p + 1)) 34 a (zu J 24 p (J 24 p + 1) 34 a + 1)) 26 j = nI b from (congrFun (hJ 26 (by decide)) j).trans e26]
        refine z_dup2 dX9_hour_169 rfl rfl ?_
        refine z_iald dX9_hour_170 (by decide) rfl (zvin (by omega) (by omega)) ?_
        rw [zcl (show b ≤ 100000 by omega)]
        refine z_iconst (v := 1) dX9_hour_171 (by decide) ?_
        refine z_iadd dX9_hour_172 ?_
        refine z_iast dX9_hour_173 (by decide) rfl (zvin (by omega) (by omega)) ?_
        simp only [zcl (show b ≤ 100000 by omega)]
        refine z_aload_n (i := 0) dX9_hour_174 rfl rfl ?_
        refine z_iload dX9_hour_175 rfl ?_
        refine z_callV (st := []) (mc2 := 0) (ms2 := 0) zi9_295 zv_yX9_movesOn (c9_movesOn (mlost (mlost (zu J 24 p (J 24 p + 1)) a) b) L P G D hP hG hD ((congrFun (hJ 0 (by decide)) 24).trans h24) ((congrFun (hJ 0 (by decide)) 35).trans h35) ((congrFun (hJ 0 (by decide)) 34).trans h34) j W hW hj ((congrFun (hJ 29 (by decide)) j).trans e29)) dX9_hour_177 (show (0 : Nat) < 35 by decide) rfl rfl rfl rfl (by decide) (by decide) (Nat.le_of_ble_eq_true rfl) (by decide) (by decide) (fun r h2 hq => ?_)
        obtain ⟨rfl, rfl⟩ := hq
        try simp only [Option.toList, List.nil_append]
        refine z_goto 282 dX9_hour_180 (by decide) ?_
        try simp only [zcl (show p ≤ 100000 by omega)]
        refine z_vret dX9_hour_282 rfl ?_
        subst hQ0
        have hs := (zb_n sh).mp (by assumption)
        rw [hs, if_pos rfl, if_neg (show ¬ mga I (nI (24 * D + 6 * h + p)) G < 0 by assumption), ej, zcl (show j ≤ 100000 by omega), show J 25 j = nI a from (congrFun (hJ 25 (by decide)) j).trans e25, show J 26 j = nI b from (congrFun (hJ 26 (by decide)) j).trans e26, zcl (show a ≤ 100000 by omega), zcl (show b ≤ 100000 by omega)] at he
        unfold mmv at he
        rw [mWk_of (I := mlost (mlost (zu J 24 p (J 24 p + 1)) a) b) ((congrFun (hJ 29 (by decide)) j).trans e29) hW] at he
        exact ⟨rfl, by rw [he]⟩
end
section
def mcl (I : Nat → Nat → Int32) (G : Nat) : Prop := ∀ g, g < G → ∃ a b, a < 16 ∧ b < 16 ∧ I 25 g = nI a ∧ I 26 g = nI b
def mpre (I : Nat → Nat → Int32) (P G D hd : Nat) (ts : List MLn) : Prop := mok I P G D ∧ mtx I hd ts ∧ mcl I G
theorem mpre_cong {I J : Nat → Nat → Int32} {P G D hd : Nat} {ts : List MLn} (h : mpre I P G D hd ts) (hJ : ∀ a, (a = 6 ∨ a = 7 ∨ a = 8 ∨ a = 9 ∨ a = 10 ∨ a = 25 ∨ a = 26 ∨ a = 29) → J a = I a) (h0 : ∀ k, k = 15 ∨ k = 24 ∨ k = 34 ∨ k = 35 → J 0 k = I 0 k) (hn : ∀ g, g < G → J 31 g = 0 → J 32 g = -1) : mpre J P G D hd ts := by
  obtain ⟨⟨h1, h2, h3, h4, h5, h6, h7, h8⟩, ht, hc⟩ := h
  refine ⟨⟨h1, h2, h3, by rw [h0 24 (by omega)]; exact h4, by rw [h0 35 (by omega)]; exact h5, by rw [h0 34 (by omega)]; exact h6, fun g hg => by rw [hJ 29 (by omega)]; exact h7 g hg, hn⟩, mtx_cong ht (h0 15 (by omega)) (hJ 6 (by omega)) (hJ 7 (by omega)) (hJ 8 (by omega)) (hJ 9 (by omega)) (hJ 10 (by omega)), fun g hg => by rw [hJ 25 (by omega), hJ 26 (by omega)]; exact hc g hg⟩
/-- a row that no word of mpre speaks of -/
theorem mpre_zu {I : Nat → Nat → Int32} {P G D hd : Nat} {ts : List MLn} (h : mpre I P G D hd ts) (a k : Nat) (v : Int32) (ha : a ≠ 0 ∧ a ≠ 6 ∧ a ≠ 7 ∧ a ≠ 8 ∧ a ≠ 9 ∧ a ≠ 10 ∧ a ≠ 25 ∧ a ≠ 26 ∧ a ≠ 29 ∧ a ≠ 31 ∧ a ≠ 32) : mpre (zu I a k v) P G D hd ts :=
  mpre_cong h (fun b hb => zu_ne _ _ _ (by omega)) (fun k _ => congrFun (zu_ne _ _ _ (by omega)) k) (fun g hg h0 => by
    rw [zu_ne _ _ _ (by omega)] at h0 ⊢
    exact h.1.2.2.2.2.2.2.2 g hg h0)
theorem mpre_lays {I : Nat → Nat → Int32} {P G D hd : Nat} {ts : List MLn} (h : mpre I P G D hd ts) (g : Nat) (s : Int32) : mpre (mlays I g s) P G D hd ts :=
  ⟨mok_lays h.1 g s, (mpre_cong (J := mlays I g s) h (fun b hb => by unfold mlays; rw [zu_ne _ _ _ (by omega), zu_ne _ _ _ (by omega)]) (fun k _ => rfl) (mok_lays h.1 g s).2.2.2.2.2.2.2).2⟩
theorem mpre_off {I : Nat → Nat → Int32} {P G D hd : Nat} {ts : List MLn} (h : mpre I P G D hd ts) (g : Nat) : mpre (zu (zu I 31 g 3) 32 g (-1)) P G D hd ts :=
  mpre_cong h (fun b hb => by rw [zu_ne _ _ _ (by omega), zu_ne _ _ _ (by omega)]) (fun k _ => rfl) (fun q hq h0 => by
    rw [zu_apply, if_neg (by omega), zu_apply] at h0
    rw [zu_apply]
    by_cases e : q = g
    · rw [if_pos ⟨rfl, e⟩]
    · rw [if_neg (by omega)] at h0
      rw [if_neg (by omega), zu_apply, if_neg (by omega)]
      exact h.1.2.2.2.2.2.2.2 q hq h0)
theorem mpre_pl {I : Nat → Nat → Int32} {P G D hd : Nat} {ts : List MLn} (h : mpre I P G D hd ts) (g : Nat) : mpre (zu I 31 g 2) P G D hd ts :=
  mpre_cong h (fun b hb => by rw [zu_ne _ _ _ (by omega)]) (fun k _ => rfl) (fun q hq h0 => by
    rw [zu_apply] at h0
    rw [zu_apply, if_neg (by omega)]
    by_cases e : q = g
    · rw [if_pos ⟨rfl, e⟩] at h0; exact absurd h0 (by decide)
    · rw [if_neg (by omega)] at h0
      exact h.1.2.2.2.2.2.2.2 q hq h0)
theorem mwI_ne (I : Nat → Nat → Int32) {A p : Nat} {how age wet : Int32} {m a : Nat} (h : a ≠ A) : mwI I A p how age wet m a = I a := by
  funext j
  unfold mwI
  rw [if_neg (fun q => h q.1)]
theorem mpre_row {I J : Nat → Nat → Int32} {P G D hd : Nat} {ts : List MLn} (h : mpre I P G D hd ts) (A : Nat) (hA : 11 ≤ A ∧ A ≤ 24) (hJ : ∀ a, a ≠ A → J a = I a) : mpre J P G D hd ts :=
  mpre_cong h (fun b hb => hJ b (by omega)) (fun k _ => by rw [hJ 0 (by omega)]) (fun g hg h0 => by
    rw [hJ 31 (by omega)] at h0
    rw [hJ 32 (by omega)]
    exact h.1.2.2.2.2.2.2.2 g hg h0)
theorem mpre_hour {I : Nat → Nat → Int32} {P G D hd : Nat} {ts : List MLn} (h : mpre I P G D hd ts) (hr p : Nat) (warm wet : Int32) : mpre (mhour I P G D ts hr p warm wet) P G D hd ts := by
  have h1 : mpre (mkn I D hr p warm wet (mga I (nI (24 * D + 6 * hr + p)) G)) P G D hd ts := mpre_row h 14 (by omega) (fun a ha => by unfold mkn; simp only [zu_ne _ _ _ ha])
  have h2 : mpre (mshut ts (mkn I D hr p warm wet (mga I (nI (24 * D + 6 * hr + p)) G)) (nI p)).1 P G D hd ts := mpre_row h1 15 (by omega) (fun a ha => mshut_ne _ _ _ a ha)
  unfold mhour
  dsimp only
  split
  · have h3 := mpre_zu h2 24 p ((mshut ts (mkn I D hr p warm wet (mga I (nI (24 * D + 6 * hr + p)) G)) (nI p)).1 24 p + 1) (by omega)
    split
    · exact h3
    · have h4 := fun c => mpre_zu h3 34 c (zu (mshut ts (mkn I D hr p warm wet (mga I (nI (24 * D + 6 * hr + p)) G)) (nI p)).1 24 p ((mshut ts (mkn I D hr p warm wet (mga I (nI (24 * D + 6 * hr + p)) G)) (nI p)).1 24 p + 1) 34 c + 1) (by omega)
      have h5 : ∀ (J : Nat → Nat → Int32) (c : Nat), mpre J P G D hd ts → mpre (mlost J c) P G D hd ts := fun J c q => mpre_zu q 34 c _ (by omega)
      have h6 : ∀ (J : Nat → Nat → Int32) (g : Nat), mpre J P G D hd ts → mpre (mmv J P G D g) P G D hd ts := fun J g q => by
        unfold mmv
        split
        · exact mpre_off q g
        · exact mpre_zu (mpre_lays q _ _) 33 _ _ (by omega)
      exact h6 _ _ (h5 _ _ (h5 _ _ h3))
  · split
    · exact h2
    · have h5 : ∀ (J : Nat → Nat → Int32) (g : Nat), mpre J P G D hd ts → mpre (mplay J p g wet) P G D hd ts := fun J g q => by
        unfold mplay
        refine mpre_zu ?_ 20 _ _ (by omega)
        refine mpre_row ?_ 18 (by omega) (fun a ha => mwI_ne _ ha)
        exact mpre_zu (mpre_zu (mpre_pl q g) 22 _ _ (by omega)) 23 _ _ (by omega)
      have h6 : ∀ (J : Nat → Nat → Int32) (g : Nat), mpre J P G D hd ts → mpre (mplay2 J p g wet) P G D hd ts := fun J g q => by
        unfold mplay2
        refine mpre_zu ?_ 21 _ _ (by omega)
        exact mpre_row q 19 (by omega) (fun a ha => mwI_ne _ ha)
      exact h6 _ _ (h5 _ _ h2)
def mpn (I : Nat → Nat → Int32) (D m : Nat) : Nat → Nat → Int32 := fun a j => if a = 23 ∧ j < m ∧ D % 7 = 0 then 0 else I a j
theorem mpn_0 (I : Nat → Nat → Int32) (D : Nat) : mpn I D 0 = I := by
  funext a j
  unfold mpn
  rw [if_neg (by omega)]
theorem mpn_s (I : Nat → Nat → Int32) (D m : Nat) {v : Int32} (hv : v = if D % 7 = 0 then 0 else I 23 m) : zu (mpn I D m) 23 m v = mpn I D (m + 1) := by
  funext a j
  rw [zu_apply]
  unfold mpn
  by_cases h : a = 23 ∧ j = m
  · obtain ⟨rfl, rfl⟩ := h
    rw [if_pos ⟨rfl, rfl⟩, hv]
    by_cases hd : D % 7 = 0
    · rw [if_pos hd, if_pos ⟨rfl, by omega, hd⟩]
    · rw [if_neg hd, if_neg (fun q => hd q.2.2)]
  · rw [if_neg h]
    by_cases h2 : a = 23 ∧ j < m ∧ D % 7 = 0
    · rw [if_pos h2, if_pos ⟨h2.1, by omega, h2.2.2⟩]
    · rw [if_neg h2, if_neg (fun q => h2 ⟨q.1, by
        have := q.1
        have : ¬ j = m := fun e => h ⟨q.1, e⟩
        omega, q.2.2⟩)]
theorem mpn_ne (I : Nat → Nat → Int32) (D m : Nat) {a : Nat} (h : a ≠ 23) : mpn I D m a = I a := by
  funext j
  unfold mpn
  rw [if_neg (fun q => h q.1)]
def mdp (I : Nat → Nat → Int32) (P G D : Nat) (ts : List MLn) (h : Nat) (warm wet : Int32) : Nat → Nat → Nat → Int32
  | 0 => I
  | j + 1 => mhour (mdp I P G D ts h warm wet j) P G D ts h j warm wet
def mdh (I : Nat → Nat → Int32) (P G D : Nat) (ts : List MLn) (warm wet : Int32) : Nat → Nat → Nat → Int32
  | 0 => I
  | i + 1 => mdp (mdh I P G D ts warm wet i) P G D ts i warm wet P
theorem mpre_dp {I : Nat → Nat → Int32} {P G D hd : Nat} {ts : List MLn} (h : mpre I P G D hd ts) (hr : Nat) (warm wet : Int32) : ∀ j, mpre (mdp I P G D ts hr warm wet j) P G D hd ts
  | 0 => h
  | j + 1 => mpre_hour (mpre_dp h hr warm wet j) hr j warm wet
theorem mpre_dh {I : Nat → Nat → Int32} {P G D hd : Nat} {ts : List MLn} (h : mpre I P G D hd ts) (warm wet : Int32) : ∀ i, mpre (mdh I P G D ts warm wet i) P G D hd ts
  | 0 => h
  | i + 1 => mpre_dp (mpre_dh h warm wet i) i warm wet P
abbrev x9_day : ZX := (RX9, cX9_day, 5, (some .int), "day", 6, 240, false)
set_option maxHeartbeats 4000000 in
theorem l9_dayN {I : Nat → Nat → Int32} {L : Nat → Nat → Int64} {Q : Option Value → ZH → Prop} {P G D hd : Nat} {ts : List MLn} {warm wet : Int32} (hI : mpre I P G D hd ts) (hx : ∀ ls : Nat → Option Value, ls 0 = some (.ref 0) → ls 1 = some (.int warm) → ls 2 = some (.int wet) → Zf x9_day 0 0 79 ls [] (mh (mpn I D P) L) Q) : ∀ (m j : Nat), P - j < m → j ≤ P → ∀ (J : Nat → Nat → Int32) (ls : Nat → Option Value), J = mpn I D j → ls 0 = some (.ref 0) → ls 1 = some (.int warm) → ls 2 = some (.int wet) → ls 3 = some (.int (nI j)) → Zf x9_day 0 0 39 ls [] (mh J L) Q := by
  intro m
  induction m with
  | zero => intro j h; omega
  | succ m ih =>
  intro j hm hj J ls hJ hl0 hl1 hl2 hl3
  subst hJ
  obtain ⟨hP, hG, hD, h24, h35, h34, hw, hn⟩ := hI.1
  have e24 : mpn I D j 0 24 = nI P := (congrFun (mpn_ne I D j (by decide)) 24).trans h24
  have e34 : mpn I D j 0 34 = nI D := (congrFun (mpn_ne I D j (by decide)) 34).trans h34
  have e23 : mpn I D j 23 j = I 23 j := by unfold mpn; rw [if_neg (by omega)]
  refine z_iload_n (i := 3) dX9_day_39 rfl hl3 ?_
  refine z_aload_n (i := 0) dX9_day_40 rfl hl0 ?_
  refine z_gI zf9_236.g dX9_day_41 (by decide) rfl ?_
  rw [e24]
  refine z_icmp_ge 79 dX9_day_44 (by decide) (fun c_1 => ?_) (fun c_1 => ?_)
  · skip
    have h1 := (zle (by omega) (by omega)).mp c_1
    have h2 : j = P := by omega
    subst h2
    exact hx _ hl0 hl1 hl2
  · skip
    have h1 : ¬ P ≤ j := fun q => c_1 ((zle (by omega) (by omega)).mpr q)
    refine z_aload_n (i := 0) dX9_day_47 rfl hl0 ?_
    refine z_gR zf9_101.g dX9_day_48 (by decide) rfl rfl ?_
    refine z_iload_n (i := 3) dX9_day_51 rfl hl3 ?_
    refine z_aload_n (i := 0) dX9_day_52 rfl hl0 ?_
    refine z_gI zf9_239.g dX9_day_53 (by decide) rfl ?_
    rw [e34]
    refine z_bipush (v := 7) dX9_day_56 (by decide) ?_
    refine z_irem dX9_day_58 (by decide) ?_
    rw [zl7, zrem (by omega) (by omega) (by omega)]
    refine z_if_ne 66 dX9_day_59 (by decide) (fun c_2 => ?_) (fun c_2 => ?_)
    · skip
      refine z_aload_n (i := 0) dX9_day_66 rfl hl0 ?_
      refine z_gR zf9_101.g dX9_day_67 (by decide) rfl rfl ?_
      refine z_iload_n (i := 3) dX9_day_70 rfl hl3 ?_
      refine z_iald dX9_day_71 (by decide) rfl (zvin (by omega) (by omega)) ?_
      try rw [zcl (show j ≤ 100000 by omega), e23]
      refine z_iast dX9_day_72 (by decide) rfl (zvin (by omega) (by omega)) ?_
      refine z_iinc dX9_day_73 hl3 rfl ?_
      refine z_goto 39 dX9_day_76 (by decide) ?_
      rw [zinc]
      have hD7 : ¬ D % 7 = 0 := fun e => c_2 (by rw [e]; rfl)
      exact ih (j + 1) (by omega) (by omega) _ _ (by rw [zcl (by omega)]; exact mpn_s I D j (by rw [if_neg hD7])) hl0 hl1 hl2 rfl
    · skip
      refine z_iconst (v := 0) dX9_day_62 (by decide) ?_
      refine z_goto 72 dX9_day_63 (by decide) ?_
      try rw [zcl (show j ≤ 100000 by omega), e23]
      refine z_iast dX9_day_72 (by decide) rfl (zvin (by omega) (by omega)) ?_
      refine z_iinc dX9_day_73 hl3 rfl ?_
      refine z_goto 39 dX9_day_76 (by decide) ?_
      rw [zinc]
      have hD7 : D % 7 = 0 := by
        have := c_2
        rw [show (0 : Int32) = nI 0 from rfl, zeq (by omega) (by omega)] at this
        exact this
      exact ih (j + 1) (by omega) (by omega) _ _ (by rw [zcl (by omega)]; exact mpn_s I D j (by rw [if_pos hD7])) hl0 hl1 hl2 rfl
set_option maxHeartbeats 4000000 in
theorem l9_dayP {I : Nat → Nat → Int32} {L : Nat → Nat → Int64} {Q : Option Value → ZH → Prop} {P G D hd : Nat} {ts : List MLn} {warm wet : Int32} {h : Nat} (hh : h < 4) (hI : mpre I P G D hd ts) (hx : ∀ ls : Nat → Option Value, ls 0 = some (.ref 0) → ls 1 = some (.int warm) → ls 2 = some (.int wet) → ls 3 = some (.int (nI h)) → Zf x9_day 0 0 113 ls [] (mh (mdp I P G D ts h warm wet P) L) Q) : ∀ (m j : Nat), P - j < m → j ≤ P → ∀ (J : Nat → Nat → Int32) (ls : Nat → Option Value), J = mdp I P G D ts h warm wet j → ls 0 = some (.ref 0) → ls 1 = some (.int warm) → ls 2 = some (.int wet) → ls 3 = some (.int (nI h)) → ls 4 = some (.int (nI j)) → Zf x9_day 0 0 89 ls [] (mh J L) Q := by
  intro m
  induction m with
  | zero => intro j h; omega
  | succ m ih =>
  intro j hm hj J ls hJ hl0 hl1 hl2 hl3 hl4
  subst hJ
  obtain ⟨ok, ht, hcl⟩ := mpre_dp hI h warm wet j
  obtain ⟨hP, hG, hD, h24, h35, h34, hw, hn⟩ := id ok
  refine z_iload dX9_day_89 hl4 ?_
  refine z_aload_n (i := 0) dX9_day_91 rfl hl0 ?_
  refine z_gI zf9_236.g dX9_day_92 (by decide) rfl ?_
  rw [h24]
  refine z_icmp_ge 113 dX9_day_95 (by decide) (fun c_1 => ?_) (fun c_1 => ?_)
  · skip
    have h1 := (zle (by omega) (by omega)).mp c_1
    have h2 : j = P := by omega
    subst h2
    exact hx _ hl0 hl1 hl2 hl3
  · skip
    have h1 : ¬ P ≤ j := fun q => c_1 ((zle (by omega) (by omega)).mpr q)
    refine z_aload_n (i := 0) dX9_day_98 rfl hl0 ?_
    refine z_iload_n (i := 3) dX9_day_99 rfl hl3 ?_
    refine z_iload dX9_day_100 hl4 ?_
    refine z_iload_n (i := 1) dX9_day_102 rfl hl1 ?_
    refine z_iload_n (i := 2) dX9_day_103 rfl hl2 ?_
    refine z_callV (st := []) (mc2 := 0) (ms2 := 0) zi9_302 zv_yX9_hour (c9_hour _ L P G D ok hd ts ht hcl h j hh (by omega) warm wet) dX9_day_104 (show (0 : Nat) < 35 by decide) rfl rfl rfl rfl (by decide) (by decide) (Nat.le_of_ble_eq_true rfl) (by decide) (by decide) (fun r h2 hq => ?_)
    obtain ⟨rfl, rfl⟩ := hq
    try simp only [Option.toList, List.nil_append]
    refine z_iinc dX9_day_107 hl4 rfl ?_
    refine z_goto 89 dX9_day_110 (by decide) ?_
    rw [zinc]
    exact ih (j + 1) (by omega) (by omega) _ _ rfl hl0 hl1 hl2 hl3 rfl
set_option maxHeartbeats 4000000 in
theorem l9_dayH {I : Nat → Nat → Int32} {L : Nat → Nat → Int64} {Q : Option Value → ZH → Prop} {P G D hd : Nat} {ts : List MLn} {warm wet : Int32} (hI : mpre I P G D hd ts) (hx : ∀ ls : Nat → Option Value, ls 0 = some (.ref 0) → ls 1 = some (.int warm) → ls 2 = some (.int wet) → Zf x9_day 0 0 119 ls [] (mh (mdh I P G D ts warm wet 4) L) Q) : ∀ (m j : Nat), 4 - j < m → j ≤ 4 → ∀ (J : Nat → Nat → Int32) (ls : Nat → Option Value), J = mdh I P G D ts warm wet j → ls 0 = some (.ref 0) → ls 1 = some (.int warm) → ls 2 = some (.int wet) → ls 3 = some (.int (nI j)) → Zf x9_day 0 0 81 ls [] (mh J L) Q := by
  intro m
  induction m with
  | zero => intro j h; omega
  | succ m ih =>
  intro j hm hj J ls hJ hl0 hl1 hl2 hl3
  subst hJ
  refine z_iload_n (i := 3) dX9_day_81 rfl hl3 ?_
  refine z_iconst (v := 4) dX9_day_82 (by decide) ?_
  rw [zl4]
  refine z_icmp_ge 119 dX9_day_83 (by decide) (fun c_1 => ?_) (fun c_1 => ?_)
  · skip
    have h1 := (zle (by omega) (by omega)).mp c_1
    have h2 : j = 4 := by omega
    subst h2
    exact hx _ hl0 hl1 hl2
  · skip
    have h1 : ¬ 4 ≤ j := fun q => c_1 ((zle (by omega) (by omega)).mpr q)
    refine z_iconst (v := 0) dX9_day_86 (by decide) ?_
    refine z_istore (i := 4) dX9_day_87 (by decide) rfl ?_
    refine l9_dayP (h := j) (by omega) (mpre_dh hI warm wet j) (fun ls2 a0 a1 a2 a3 => ?_) (P + 1) 0 (by omega) (by omega) _ _ rfl hl0 hl1 hl2 hl3 rfl
    refine z_iinc dX9_day_113 a3 rfl ?_
    refine z_goto 81 dX9_day_116 (by decide) ?_
    rw [zinc]
    exact ih (j + 1) (by omega) (by omega) _ _ rfl a0 a1 a2 rfl
def mdayI (I : Nat → Nat → Int32) (P G D : Nat) (ts : List MLn) (warm wet : Int32) : Nat → Nat → Int32 := zu (mgI (mgI (mdh (mpn (zu I 0 0 0) D P) P G D ts warm wet 4) 18 warm wet (24 * P)) 19 warm wet (24 * P)) 0 34 (nI (D + 1))
abbrev mdayB (I : Nat → Nat → Int32) (warm wet : Int32) : Prop := warm < 0 ∨ 10 < warm ∨ wet < 0 ∨ 10 < wet ∨ I 0 34 = 357
theorem mpre_thr {I : Nat → Nat → Int32} {P G D hd : Nat} {ts : List MLn} (h : mpre I P G D hd ts) (v : Int32) : mpre (zu I 0 0 v) P G D hd ts :=
  mpre_cong h (fun b hb => zu_ne _ _ _ (by omega)) (fun k hk => by rw [zu_apply, if_neg (by omega)]) (fun g hg h0 => h.1.2.2.2.2.2.2.2 g hg h0)
set_option maxHeartbeats 4000000 in
theorem c9_day (I : Nat → Nat → Int32) (L : Nat → Nat → Int64) (P G D hd : Nat) (ts : List MLn) (warm wet : Int32) (hI : mpre I P G D hd ts) : Zm yX9_day cX9_day 5 (some .int) 6 240 0 0 [.ref 0, .int warm, .int wet] (mh I L) (mQ (some (.int (if mdayB I warm wet then -1 else nI D))) (if mdayB I warm wet then zu I 0 0 0 else mdayI I P G D ts warm wet) L) := by
  refine Zm_of (lg := false) (by decide) (fun _ => by simp [Value.category]) (fun _ => Nat.le_of_ble_eq_true rfl) ?_
  show Zf x9_day 0 0 0 (zargs [.ref 0, .int warm, .int wet]) [] (mh I L) _
  generalize hQ0 : (mQ (some (.int (if mdayB I warm wet then -1 else nI D))) (if mdayB I warm wet then zu I 0 0 0 else mdayI I P G D ts warm wet) L : Option Value → ZH → Prop) = Q0
  obtain ⟨hP, hG, hD, h24, h35, h34, hw, hn⟩ := id hI.1
  have i34 : zu I 0 0 0 0 34 = nI D := h34
  refine z_aload_n (i := 0) dX9_day_0 rfl rfl ?_
  refine z_iconst (v := 0) dX9_day_1 (by decide) ?_
  refine z_putI zf9_137 dX9_day_2 (fun h => by cases h) (by decide) rfl ?_
  refine z_iload_n (i := 1) dX9_day_5 rfl rfl ?_
  refine z_if_lt 35 dX9_day_6 (by decide) (fun c_1 => ?_) (fun c_1 => ?_)
  · skip
    refine z_iconst (v := (-1)) dX9_day_35 (by decide) ?_
    refine z_iret dX9_day_36 rfl ?_
    subst hQ0
    have hb : mdayB I warm wet := by simp_all [mdayB]
    rw [if_pos hb, if_pos hb]
    exact ⟨rfl, rfl⟩
  · skip
    refine z_iload_n (i := 1) dX9_day_9 rfl rfl ?_
    refine z_bipush (v := 10) dX9_day_10 (by decide) ?_
    refine z_icmp_gt 35 dX9_day_12 (by decide) (fun c_2 => ?_) (fun c_2 => ?_)
    · skip
      refine z_iconst (v := (-1)) dX9_day_35 (by decide) ?_
      refine z_iret dX9_day_36 rfl ?_
      subst hQ0
      have hb : mdayB I warm wet := by simp_all [mdayB]
      rw [if_pos hb, if_pos hb]
      exact ⟨rfl, rfl⟩
    · skip
      refine z_iload_n (i := 2) dX9_day_15 rfl rfl ?_
      refine z_if_lt 35 dX9_day_16 (by decide) (fun c_3 => ?_) (fun c_3 => ?_)
      · skip
        refine z_iconst (v := (-1)) dX9_day_35 (by decide) ?_
        refine z_iret dX9_day_36 rfl ?_
        subst hQ0
        have hb : mdayB I warm wet := by simp_all [mdayB]
        rw [if_pos hb, if_pos hb]
        exact ⟨rfl, rfl⟩
      · skip
        refine z_iload_n (i := 2) dX9_day_19 rfl rfl ?_
        refine z_bipush (v := 10) dX9_day_20 (by decide) ?_
        refine z_icmp_gt 35 dX9_day_22 (by decide) (fun c_4 => ?_) (fun c_4 => ?_)
        · skip
          refine z_iconst (v := (-1)) dX9_day_35 (by decide) ?_
          refine z_iret dX9_day_36 rfl ?_
          subst hQ0
          have hb : mdayB I warm wet := by simp_all [mdayB]
          rw [if_pos hb, if_pos hb]
          exact ⟨rfl, rfl⟩
        · skip
          refine z_aload_n (i := 0) dX9_day_25 rfl rfl ?_
          refine z_gI zf9_239.g dX9_day_26 (by decide) rfl ?_
          refine z_sipush (v := 357) dX9_day_29 (by decide) ?_
          refine z_icmp_ne 37 dX9_day_32 (by decide) (fun c_5 => ?_) (fun c_5 => ?_)
          · skip
            refine z_iconst (v := 0) dX9_day_37 (by decide) ?_
            refine z_istore_n (i := 3) dX9_day_38 rfl (by decide) rfl ?_
            subst hQ0
            have hnb : ¬ mdayB I warm wet := by simp_all [mdayB]
            refine l9_dayN (D := D) (hd := hd) (ts := ts) (warm := warm) (wet := wet) (mpre_thr hI 0) (fun ls1 b0 b1 b2 => ?_) (P + 1) 0 (by omega) (by omega) _ _ (mpn_0 _ _).symm rfl rfl rfl rfl
            refine z_iconst (v := 0) dX9_day_79 (by decide) ?_
            refine z_istore_n (i := 3) dX9_day_80 rfl (by decide) rfl ?_
            have hI2 : mpre (mpn (zu I 0 0 0) D P) P G D hd ts := mpre_row (mpre_thr hI 0) 23 (by omega) (fun a ha => mpn_ne _ _ _ ha)
            refine l9_dayH hI2 (fun ls2 a0 a1 a2 => ?_) 5 0 (by omega) (by omega) _ _ rfl b0 b1 b2 rfl
            have hI3 := mpre_dh hI2 warm wet 4
            generalize hF : mdh (mpn (zu I 0 0 0) D P) P G D ts warm wet 4 = F at hI3 ⊢
            obtain ⟨-, -, -, f24, f35, f34, -⟩ := hI3.1
            refine z_aload_n (i := 0) dX9_day_119 rfl a0 ?_
            refine z_aload_n (i := 0) dX9_day_120 rfl a0 ?_
            refine z_gR zf9_86.g dX9_day_121 (by decide) rfl rfl ?_
            refine z_iload_n (i := 1) dX9_day_124 rfl a1 ?_
            refine z_iload_n (i := 2) dX9_day_125 rfl a2 ?_
            refine z_callV (st := []) (mc2 := 0) (ms2 := 0) zi9_306 zv_yX9_grows (c9_grows F L 18 P warm wet (by decide) (by decide) rfl hP f24) dX9_day_126 (show (0 : Nat) < 35 by decide) rfl rfl rfl rfl (by decide) (by decide) (Nat.le_of_ble_eq_true rfl) (by decide) (by decide) (fun r h2 hq => ?_)
            obtain ⟨rfl, rfl⟩ := hq
            try simp only [Option.toList, List.nil_append]
            refine z_aload_n (i := 0) dX9_day_129 rfl a0 ?_
            refine z_aload_n (i := 0) dX9_day_130 rfl a0 ?_
            refine z_gR zf9_89.g dX9_day_131 (by decide) rfl rfl ?_
            refine z_iload_n (i := 1) dX9_day_134 rfl a1 ?_
            refine z_iload_n (i := 2) dX9_day_135 rfl a2 ?_
            refine z_callV (st := []) (mc2 := 0) (ms2 := 0) zi9_306 zv_yX9_grows (c9_grows (mgI F 18 warm wet (24 * P)) L 19 P warm wet (by decide) (by decide) rfl hP (by rw [mgI_ne _ _ _ _ _ _ _ (by decide)]; exact f24)) dX9_day_136 (show (0 : Nat) < 35 by decide) rfl rfl rfl rfl (by decide) (by decide) (Nat.le_of_ble_eq_true rfl) (by decide) (by decide) (fun r h2 hq => ?_)
            obtain ⟨rfl, rfl⟩ := hq
            try simp only [Option.toList, List.nil_append]
            have g34 : mgI (mgI F 18 warm wet (24 * P)) 19 warm wet (24 * P) 0 34 = nI D := by rw [mgI_ne _ _ _ _ _ _ _ (by decide), mgI_ne _ _ _ _ _ _ _ (by decide)]; exact f34
            refine z_aload_n (i := 0) dX9_day_139 rfl a0 ?_
            refine z_dup dX9_day_140 rfl ?_
            refine z_gI zf9_239.g dX9_day_141 (by decide) rfl ?_
            refine z_iconst (v := 1) dX9_day_144 (by decide) ?_
            refine z_iadd dX9_day_145 ?_
            refine z_top (y := .int (nI (D + 1))) (by rw [g34, zl1, nI_add]) ?_
            refine z_putI zf9_239 dX9_day_146 (fun h => by cases h) (by decide) rfl ?_
            refine z_aload_n (i := 0) dX9_day_149 rfl a0 ?_
            refine z_gI zf9_239.g dX9_day_150 (by decide) rfl ?_
            refine z_iconst (v := 1) dX9_day_153 (by decide) ?_
            refine z_isub dX9_day_154 ?_
            refine z_top (y := .int (nI D)) (by rw [show zu (mgI (mgI F 18 warm wet (24 * P)) 19 warm wet (24 * P)) 0 34 (nI (D + 1)) 0 34 = nI (D + 1) from rfl, zsub1]) ?_
            refine z_iret dX9_day_155 rfl ?_
            rw [if_neg hnb]
            refine ⟨rfl, ?_⟩
            unfold mdayI
            rw [hF, if_neg hnb]
          · skip
            refine z_iconst (v := (-1)) dX9_day_35 (by decide) ?_
            refine z_iret dX9_day_36 rfl ?_
            subst hQ0
            have hb : mdayB I warm wet := by simp_all [mdayB]
            rw [if_pos hb, if_pos hb]
            exact ⟨rfl, rfl⟩
end
