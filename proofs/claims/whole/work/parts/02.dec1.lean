theorem dX0_init_0 : decode cX0_init 0 = .ok (.aload_n 0, 1) := by decide +kernel
theorem dX0_init_1 : decode cX0_init 1 = .ok (.invokespecial 3, 3) := by decide +kernel
theorem dX0_init_4 : decode cX0_init 4 = .ok (.aload_n 0, 1) := by decide +kernel
theorem dX0_init_5 : decode cX0_init 5 = .ok (.bipush 7, 2) := by decide +kernel
theorem dX0_init_7 : decode cX0_init 7 = .ok (.newarray .int, 2) := by decide +kernel
theorem dX0_init_9 : decode cX0_init 9 = .ok (.putfield 9, 3) := by decide +kernel
theorem dX0_init_12 : decode cX0_init 12 = .ok (.aload_n 0, 1) := by decide +kernel
theorem dX0_init_13 : decode cX0_init 13 = .ok (.bipush 7, 2) := by decide +kernel
theorem dX0_init_15 : decode cX0_init 15 = .ok (.newarray .int, 2) := by decide +kernel
theorem dX0_init_17 : decode cX0_init 17 = .ok (.putfield 15, 3) := by decide +kernel
theorem dX0_init_20 : decode cX0_init 20 = .ok (.return_, 1) := by decide +kernel
theorem dX0_clear_0 : decode cX0_clear 0 = .ok (.iconst 0, 1) := by decide +kernel
theorem dX0_clear_1 : decode cX0_clear 1 = .ok (.istore_n 1, 1) := by decide +kernel
theorem dX0_clear_2 : decode cX0_clear 2 = .ok (.iload_n 1, 1) := by decide +kernel
theorem dX0_clear_3 : decode cX0_clear 3 = .ok (.bipush 7, 2) := by decide +kernel
theorem dX0_clear_5 : decode cX0_clear 5 = .ok (.if_icmp .ge 23, 3) := by decide +kernel
theorem dX0_clear_8 : decode cX0_clear 8 = .ok (.aload_n 0, 1) := by decide +kernel
theorem dX0_clear_9 : decode cX0_clear 9 = .ok (.getfield 9, 3) := by decide +kernel
theorem dX0_clear_12 : decode cX0_clear 12 = .ok (.iload_n 1, 1) := by decide +kernel
theorem dX0_clear_13 : decode cX0_clear 13 = .ok (.iconst 0, 1) := by decide +kernel
theorem dX0_clear_14 : decode cX0_clear 14 = .ok (.iastore, 1) := by decide +kernel
theorem dX0_clear_15 : decode cX0_clear 15 = .ok (.aload_n 0, 1) := by decide +kernel
theorem dX0_clear_16 : decode cX0_clear 16 = .ok (.getfield 15, 3) := by decide +kernel
theorem dX0_clear_19 : decode cX0_clear 19 = .ok (.iload_n 1, 1) := by decide +kernel
theorem dX0_clear_20 : decode cX0_clear 20 = .ok (.iconst 0, 1) := by decide +kernel
theorem dX0_clear_21 : decode cX0_clear 21 = .ok (.iastore, 1) := by decide +kernel
theorem dX0_clear_22 : decode cX0_clear 22 = .ok (.iinc 1 1, 3) := by decide +kernel
theorem dX0_clear_25 : decode cX0_clear 25 = .ok (.goto (-23), 3) := by decide +kernel
theorem dX0_clear_28 : decode cX0_clear 28 = .ok (.return_, 1) := by decide +kernel
theorem dX0_put_0 : decode cX0_put 0 = .ok (.iload_n 1, 1) := by decide +kernel
theorem dX0_put_1 : decode cX0_put 1 = .ok (.invokestatic 18, 3) := by decide +kernel
theorem dX0_put_4 : decode cX0_put 4 = .ok (.ifCond .eq 34, 3) := by decide +kernel
theorem dX0_put_7 : decode cX0_put 7 = .ok (.aload_n 0, 1) := by decide +kernel
theorem dX0_put_8 : decode cX0_put 8 = .ok (.getfield 9, 3) := by decide +kernel
theorem dX0_put_11 : decode cX0_put 11 = .ok (.iload_n 1, 1) := by decide +kernel
theorem dX0_put_12 : decode cX0_put 12 = .ok (.bipush 24, 2) := by decide +kernel
theorem dX0_put_14 : decode cX0_put 14 = .ok (.idiv, 1) := by decide +kernel
theorem dX0_put_15 : decode cX0_put 15 = .ok (.dup2, 1) := by decide +kernel
theorem dX0_put_16 : decode cX0_put 16 = .ok (.iaload, 1) := by decide +kernel
theorem dX0_put_17 : decode cX0_put 17 = .ok (.iconst 1, 1) := by decide +kernel
theorem dX0_put_18 : decode cX0_put 18 = .ok (.iload_n 1, 1) := by decide +kernel
theorem dX0_put_19 : decode cX0_put 19 = .ok (.bipush 24, 2) := by decide +kernel
theorem dX0_put_21 : decode cX0_put 21 = .ok (.irem, 1) := by decide +kernel
theorem dX0_put_22 : decode cX0_put 22 = .ok (.ishl, 1) := by decide +kernel
theorem dX0_put_23 : decode cX0_put 23 = .ok (.ior, 1) := by decide +kernel
theorem dX0_put_24 : decode cX0_put 24 = .ok (.iastore, 1) := by decide +kernel
theorem dX0_put_25 : decode cX0_put 25 = .ok (.aload_n 0, 1) := by decide +kernel
theorem dX0_put_26 : decode cX0_put 26 = .ok (.getfield 15, 3) := by decide +kernel
theorem dX0_put_29 : decode cX0_put 29 = .ok (.iload_n 1, 1) := by decide +kernel
theorem dX0_put_30 : decode cX0_put 30 = .ok (.bipush 24, 2) := by decide +kernel
theorem dX0_put_32 : decode cX0_put 32 = .ok (.idiv, 1) := by decide +kernel
theorem dX0_put_33 : decode cX0_put 33 = .ok (.dup2, 1) := by decide +kernel
theorem dX0_put_34 : decode cX0_put 34 = .ok (.iaload, 1) := by decide +kernel
theorem dX0_put_35 : decode cX0_put 35 = .ok (.iload_n 2, 1) := by decide +kernel
theorem dX0_put_36 : decode cX0_put 36 = .ok (.ior, 1) := by decide +kernel
theorem dX0_put_37 : decode cX0_put 37 = .ok (.iastore, 1) := by decide +kernel
theorem dX0_put_38 : decode cX0_put 38 = .ok (.return_, 1) := by decide +kernel
theorem dX0_drop_0 : decode cX0_drop 0 = .ok (.iload_n 1, 1) := by decide +kernel
theorem dX0_drop_1 : decode cX0_drop 1 = .ok (.invokestatic 18, 3) := by decide +kernel
theorem dX0_drop_4 : decode cX0_drop 4 = .ok (.ifCond .eq 38, 3) := by decide +kernel
theorem dX0_drop_7 : decode cX0_drop 7 = .ok (.aload_n 0, 1) := by decide +kernel
theorem dX0_drop_8 : decode cX0_drop 8 = .ok (.getfield 9, 3) := by decide +kernel
theorem dX0_drop_11 : decode cX0_drop 11 = .ok (.iload_n 1, 1) := by decide +kernel
theorem dX0_drop_12 : decode cX0_drop 12 = .ok (.bipush 24, 2) := by decide +kernel
theorem dX0_drop_14 : decode cX0_drop 14 = .ok (.idiv, 1) := by decide +kernel
theorem dX0_drop_15 : decode cX0_drop 15 = .ok (.dup2, 1) := by decide +kernel
theorem dX0_drop_16 : decode cX0_drop 16 = .ok (.iaload, 1) := by decide +kernel
theorem dX0_drop_17 : decode cX0_drop 17 = .ok (.iconst 1, 1) := by decide +kernel
theorem dX0_drop_18 : decode cX0_drop 18 = .ok (.iload_n 1, 1) := by decide +kernel
theorem dX0_drop_19 : decode cX0_drop 19 = .ok (.bipush 24, 2) := by decide +kernel
theorem dX0_drop_21 : decode cX0_drop 21 = .ok (.irem, 1) := by decide +kernel
theorem dX0_drop_22 : decode cX0_drop 22 = .ok (.ishl, 1) := by decide +kernel
theorem dX0_drop_23 : decode cX0_drop 23 = .ok (.iconst (-1), 1) := by decide +kernel
theorem dX0_drop_24 : decode cX0_drop 24 = .ok (.ixor, 1) := by decide +kernel
theorem dX0_drop_25 : decode cX0_drop 25 = .ok (.iand, 1) := by decide +kernel
theorem dX0_drop_26 : decode cX0_drop 26 = .ok (.iastore, 1) := by decide +kernel
theorem dX0_drop_27 : decode cX0_drop 27 = .ok (.aload_n 0, 1) := by decide +kernel
theorem dX0_drop_28 : decode cX0_drop 28 = .ok (.getfield 15, 3) := by decide +kernel
theorem dX0_drop_31 : decode cX0_drop 31 = .ok (.iload_n 1, 1) := by decide +kernel
theorem dX0_drop_32 : decode cX0_drop 32 = .ok (.bipush 24, 2) := by decide +kernel
theorem dX0_drop_34 : decode cX0_drop 34 = .ok (.idiv, 1) := by decide +kernel
theorem dX0_drop_35 : decode cX0_drop 35 = .ok (.dup2, 1) := by decide +kernel
theorem dX0_drop_36 : decode cX0_drop 36 = .ok (.iaload, 1) := by decide +kernel
theorem dX0_drop_37 : decode cX0_drop 37 = .ok (.iload_n 2, 1) := by decide +kernel
theorem dX0_drop_38 : decode cX0_drop 38 = .ok (.iconst (-1), 1) := by decide +kernel
theorem dX0_drop_39 : decode cX0_drop 39 = .ok (.ixor, 1) := by decide +kernel
theorem dX0_drop_40 : decode cX0_drop 40 = .ok (.iand, 1) := by decide +kernel
theorem dX0_drop_41 : decode cX0_drop 41 = .ok (.iastore, 1) := by decide +kernel
theorem dX0_drop_42 : decode cX0_drop 42 = .ok (.return_, 1) := by decide +kernel
theorem dX0_has_0 : decode cX0_has 0 = .ok (.iload_n 1, 1) := by decide +kernel
theorem dX0_has_1 : decode cX0_has 1 = .ok (.invokestatic 18, 3) := by decide +kernel
theorem dX0_has_4 : decode cX0_has 4 = .ok (.ifCond .eq 26, 3) := by decide +kernel
theorem dX0_has_7 : decode cX0_has 7 = .ok (.aload_n 0, 1) := by decide +kernel
theorem dX0_has_8 : decode cX0_has 8 = .ok (.getfield 9, 3) := by decide +kernel
theorem dX0_has_11 : decode cX0_has 11 = .ok (.iload_n 1, 1) := by decide +kernel
theorem dX0_has_12 : decode cX0_has 12 = .ok (.bipush 24, 2) := by decide +kernel
theorem dX0_has_14 : decode cX0_has 14 = .ok (.idiv, 1) := by decide +kernel
theorem dX0_has_15 : decode cX0_has 15 = .ok (.iaload, 1) := by decide +kernel
theorem dX0_has_16 : decode cX0_has 16 = .ok (.iload_n 1, 1) := by decide +kernel
theorem dX0_has_17 : decode cX0_has 17 = .ok (.bipush 24, 2) := by decide +kernel
theorem dX0_has_19 : decode cX0_has 19 = .ok (.irem, 1) := by decide +kernel
theorem dX0_has_20 : decode cX0_has 20 = .ok (.iushr, 1) := by decide +kernel
theorem dX0_has_21 : decode cX0_has 21 = .ok (.iconst 1, 1) := by decide +kernel
theorem dX0_has_22 : decode cX0_has 22 = .ok (.iand, 1) := by decide +kernel
theorem dX0_has_23 : decode cX0_has 23 = .ok (.ifCond .eq 7, 3) := by decide +kernel
theorem dX0_has_26 : decode cX0_has 26 = .ok (.iconst 1, 1) := by decide +kernel
theorem dX0_has_27 : decode cX0_has 27 = .ok (.goto 4, 3) := by decide +kernel
theorem dX0_has_30 : decode cX0_has 30 = .ok (.iconst 0, 1) := by decide +kernel
theorem dX0_has_31 : decode cX0_has 31 = .ok (.ireturn, 1) := by decide +kernel
theorem dX0_firstSlot_0 : decode cX0_firstSlot 0 = .ok (.iconst 0, 1) := by decide +kernel
theorem dX0_firstSlot_1 : decode cX0_firstSlot 1 = .ok (.iload 4, 2) := by decide +kernel
theorem dX0_firstSlot_3 : decode cX0_firstSlot 3 = .ok (.invokestatic 22, 3) := by decide +kernel
theorem dX0_firstSlot_6 : decode cX0_firstSlot 6 = .ok (.istore 6, 2) := by decide +kernel
theorem dX0_firstSlot_8 : decode cX0_firstSlot 8 = .ok (.iload 6, 2) := by decide +kernel
theorem dX0_firstSlot_10 : decode cX0_firstSlot 10 = .ok (.bipush 7, 2) := by decide +kernel
theorem dX0_firstSlot_12 : decode cX0_firstSlot 12 = .ok (.if_icmp .ge 92, 3) := by decide +kernel
theorem dX0_firstSlot_15 : decode cX0_firstSlot 15 = .ok (.aload_n 0, 1) := by decide +kernel
theorem dX0_firstSlot_16 : decode cX0_firstSlot 16 = .ok (.getfield 15, 3) := by decide +kernel
theorem dX0_firstSlot_19 : decode cX0_firstSlot 19 = .ok (.iload 6, 2) := by decide +kernel
theorem dX0_firstSlot_21 : decode cX0_firstSlot 21 = .ok (.iaload, 1) := by decide +kernel
theorem dX0_firstSlot_22 : decode cX0_firstSlot 22 = .ok (.iload_n 1, 1) := by decide +kernel
theorem dX0_firstSlot_23 : decode cX0_firstSlot 23 = .ok (.iand, 1) := by decide +kernel
theorem dX0_firstSlot_24 : decode cX0_firstSlot 24 = .ok (.ifCond .ne 74, 3) := by decide +kernel
theorem dX0_firstSlot_27 : decode cX0_firstSlot 27 = .ok (.iload_n 2, 1) := by decide +kernel
theorem dX0_firstSlot_28 : decode cX0_firstSlot 28 = .ok (.iload_n 3, 1) := by decide +kernel
theorem dX0_firstSlot_29 : decode cX0_firstSlot 29 = .ok (.iload 6, 2) := by decide +kernel
theorem dX0_firstSlot_31 : decode cX0_firstSlot 31 = .ok (.iconst 4, 1) := by decide +kernel
theorem dX0_firstSlot_32 : decode cX0_firstSlot 32 = .ok (.imul, 1) := by decide +kernel
theorem dX0_firstSlot_33 : decode cX0_firstSlot 33 = .ok (.iushr, 1) := by decide +kernel
theorem dX0_firstSlot_34 : decode cX0_firstSlot 34 = .ok (.invokestatic 28, 3) := by decide +kernel
theorem dX0_firstSlot_37 : decode cX0_firstSlot 37 = .ok (.aload_n 0, 1) := by decide +kernel
theorem dX0_firstSlot_38 : decode cX0_firstSlot 38 = .ok (.getfield 9, 3) := by decide +kernel
theorem dX0_firstSlot_41 : decode cX0_firstSlot 41 = .ok (.iload 6, 2) := by decide +kernel
theorem dX0_firstSlot_43 : decode cX0_firstSlot 43 = .ok (.iaload, 1) := by decide +kernel
theorem dX0_firstSlot_44 : decode cX0_firstSlot 44 = .ok (.iconst (-1), 1) := by decide +kernel
theorem dX0_firstSlot_45 : decode cX0_firstSlot 45 = .ok (.ixor, 1) := by decide +kernel
theorem dX0_firstSlot_46 : decode cX0_firstSlot 46 = .ok (.iand, 1) := by decide +kernel
theorem dX0_firstSlot_47 : decode cX0_firstSlot 47 = .ok (.istore 7, 2) := by decide +kernel
theorem dX0_firstSlot_49 : decode cX0_firstSlot 49 = .ok (.iload 5, 2) := by decide +kernel
theorem dX0_firstSlot_51 : decode cX0_firstSlot 51 = .ok (.invokestatic 18, 3) := by decide +kernel
theorem dX0_firstSlot_54 : decode cX0_firstSlot 54 = .ok (.ifCond .eq 27, 3) := by decide +kernel
theorem dX0_firstSlot_57 : decode cX0_firstSlot 57 = .ok (.iload 5, 2) := by decide +kernel
theorem dX0_firstSlot_59 : decode cX0_firstSlot 59 = .ok (.bipush 24, 2) := by decide +kernel
theorem dX0_firstSlot_61 : decode cX0_firstSlot 61 = .ok (.idiv, 1) := by decide +kernel
theorem dX0_firstSlot_62 : decode cX0_firstSlot 62 = .ok (.iload 6, 2) := by decide +kernel
theorem dX0_firstSlot_64 : decode cX0_firstSlot 64 = .ok (.if_icmp .ne 17, 3) := by decide +kernel
theorem dX0_firstSlot_67 : decode cX0_firstSlot 67 = .ok (.iload 7, 2) := by decide +kernel
theorem dX0_firstSlot_69 : decode cX0_firstSlot 69 = .ok (.iconst 1, 1) := by decide +kernel
theorem dX0_firstSlot_70 : decode cX0_firstSlot 70 = .ok (.iload 5, 2) := by decide +kernel
theorem dX0_firstSlot_72 : decode cX0_firstSlot 72 = .ok (.bipush 24, 2) := by decide +kernel
theorem dX0_firstSlot_74 : decode cX0_firstSlot 74 = .ok (.irem, 1) := by decide +kernel
theorem dX0_firstSlot_75 : decode cX0_firstSlot 75 = .ok (.ishl, 1) := by decide +kernel
theorem dX0_firstSlot_76 : decode cX0_firstSlot 76 = .ok (.iconst (-1), 1) := by decide +kernel
theorem dX0_firstSlot_77 : decode cX0_firstSlot 77 = .ok (.ixor, 1) := by decide +kernel
theorem dX0_firstSlot_78 : decode cX0_firstSlot 78 = .ok (.iand, 1) := by decide +kernel
theorem dX0_firstSlot_79 : decode cX0_firstSlot 79 = .ok (.istore 7, 2) := by decide +kernel
theorem dX0_firstSlot_81 : decode cX0_firstSlot 81 = .ok (.iload 7, 2) := by decide +kernel
theorem dX0_firstSlot_83 : decode cX0_firstSlot 83 = .ok (.ifCond .eq 15, 3) := by decide +kernel
theorem dX0_firstSlot_86 : decode cX0_firstSlot 86 = .ok (.iload 6, 2) := by decide +kernel
theorem dX0_firstSlot_88 : decode cX0_firstSlot 88 = .ok (.bipush 24, 2) := by decide +kernel
theorem dX0_firstSlot_90 : decode cX0_firstSlot 90 = .ok (.imul, 1) := by decide +kernel
theorem dX0_firstSlot_91 : decode cX0_firstSlot 91 = .ok (.iload 7, 2) := by decide +kernel
theorem dX0_firstSlot_93 : decode cX0_firstSlot 93 = .ok (.invokestatic 31, 3) := by decide +kernel
theorem dX0_firstSlot_96 : decode cX0_firstSlot 96 = .ok (.iadd, 1) := by decide +kernel
theorem dX0_firstSlot_97 : decode cX0_firstSlot 97 = .ok (.ireturn, 1) := by decide +kernel
theorem dX0_firstSlot_98 : decode cX0_firstSlot 98 = .ok (.iinc 6 1, 3) := by decide +kernel
theorem dX0_firstSlot_101 : decode cX0_firstSlot 101 = .ok (.goto (-93), 3) := by decide +kernel
theorem dX0_firstSlot_104 : decode cX0_firstSlot 104 = .ok (.iconst (-1), 1) := by decide +kernel
theorem dX0_firstSlot_105 : decode cX0_firstSlot 105 = .ok (.ireturn, 1) := by decide +kernel
theorem dX0_isSlot_0 : decode cX0_isSlot 0 = .ok (.iload_n 0, 1) := by decide +kernel
theorem dX0_isSlot_1 : decode cX0_isSlot 1 = .ok (.ifCond .lt 14, 3) := by decide +kernel
theorem dX0_isSlot_4 : decode cX0_isSlot 4 = .ok (.iload_n 0, 1) := by decide +kernel
theorem dX0_isSlot_5 : decode cX0_isSlot 5 = .ok (.sipush 168, 3) := by decide +kernel
theorem dX0_isSlot_8 : decode cX0_isSlot 8 = .ok (.if_icmp .ge 7, 3) := by decide +kernel
theorem dX0_isSlot_11 : decode cX0_isSlot 11 = .ok (.iconst 1, 1) := by decide +kernel
theorem dX0_isSlot_12 : decode cX0_isSlot 12 = .ok (.goto 4, 3) := by decide +kernel
theorem dX0_isSlot_15 : decode cX0_isSlot 15 = .ok (.iconst 0, 1) := by decide +kernel
theorem dX0_isSlot_16 : decode cX0_isSlot 16 = .ok (.ireturn, 1) := by decide +kernel
theorem dX0_slotsOfDay_0 : decode cX0_slotsOfDay 0 = .ok (.iconst 0, 1) := by decide +kernel
theorem dX0_slotsOfDay_1 : decode cX0_slotsOfDay 1 = .ok (.istore_n 2, 1) := by decide +kernel
theorem dX0_slotsOfDay_2 : decode cX0_slotsOfDay 2 = .ok (.iconst 0, 1) := by decide +kernel
theorem dX0_slotsOfDay_3 : decode cX0_slotsOfDay 3 = .ok (.istore_n 3, 1) := by decide +kernel
theorem dX0_slotsOfDay_4 : decode cX0_slotsOfDay 4 = .ok (.iload_n 3, 1) := by decide +kernel
theorem dX0_slotsOfDay_5 : decode cX0_slotsOfDay 5 = .ok (.iconst 4, 1) := by decide +kernel
theorem dX0_slotsOfDay_6 : decode cX0_slotsOfDay 6 = .ok (.if_icmp .ge 29, 3) := by decide +kernel
theorem dX0_slotsOfDay_9 : decode cX0_slotsOfDay 9 = .ok (.iload_n 1, 1) := by decide +kernel
theorem dX0_slotsOfDay_10 : decode cX0_slotsOfDay 10 = .ok (.iload_n 3, 1) := by decide +kernel
theorem dX0_slotsOfDay_11 : decode cX0_slotsOfDay 11 = .ok (.iushr, 1) := by decide +kernel
theorem dX0_slotsOfDay_12 : decode cX0_slotsOfDay 12 = .ok (.iconst 1, 1) := by decide +kernel
theorem dX0_slotsOfDay_13 : decode cX0_slotsOfDay 13 = .ok (.iand, 1) := by decide +kernel
theorem dX0_slotsOfDay_14 : decode cX0_slotsOfDay 14 = .ok (.ifCond .eq 15, 3) := by decide +kernel
theorem dX0_slotsOfDay_17 : decode cX0_slotsOfDay 17 = .ok (.iload_n 2, 1) := by decide +kernel
theorem dX0_slotsOfDay_18 : decode cX0_slotsOfDay 18 = .ok (.iload_n 0, 1) := by decide +kernel
theorem dX0_slotsOfDay_19 : decode cX0_slotsOfDay 19 = .ok (.bipush 63, 2) := by decide +kernel
theorem dX0_slotsOfDay_21 : decode cX0_slotsOfDay 21 = .ok (.iand, 1) := by decide +kernel
theorem dX0_slotsOfDay_22 : decode cX0_slotsOfDay 22 = .ok (.iload_n 3, 1) := by decide +kernel
theorem dX0_slotsOfDay_23 : decode cX0_slotsOfDay 23 = .ok (.bipush 6, 2) := by decide +kernel
theorem dX0_slotsOfDay_25 : decode cX0_slotsOfDay 25 = .ok (.imul, 1) := by decide +kernel
theorem dX0_slotsOfDay_26 : decode cX0_slotsOfDay 26 = .ok (.ishl, 1) := by decide +kernel
theorem dX0_slotsOfDay_27 : decode cX0_slotsOfDay 27 = .ok (.ior, 1) := by decide +kernel
theorem dX0_slotsOfDay_28 : decode cX0_slotsOfDay 28 = .ok (.istore_n 2, 1) := by decide +kernel
theorem dX0_slotsOfDay_29 : decode cX0_slotsOfDay 29 = .ok (.iinc 3 1, 3) := by decide +kernel
theorem dX0_slotsOfDay_32 : decode cX0_slotsOfDay 32 = .ok (.goto (-28), 3) := by decide +kernel
theorem dX0_slotsOfDay_35 : decode cX0_slotsOfDay 35 = .ok (.iload_n 2, 1) := by decide +kernel
theorem dX0_slotsOfDay_36 : decode cX0_slotsOfDay 36 = .ok (.ireturn, 1) := by decide +kernel
theorem dX0_lowestBit_0 : decode cX0_lowestBit 0 = .ok (.iconst 0, 1) := by decide +kernel
theorem dX0_lowestBit_1 : decode cX0_lowestBit 1 = .ok (.istore_n 1, 1) := by decide +kernel
theorem dX0_lowestBit_2 : decode cX0_lowestBit 2 = .ok (.iload_n 1, 1) := by decide +kernel
theorem dX0_lowestBit_3 : decode cX0_lowestBit 3 = .ok (.bipush 23, 2) := by decide +kernel
theorem dX0_lowestBit_5 : decode cX0_lowestBit 5 = .ok (.if_icmp .ge 17, 3) := by decide +kernel
theorem dX0_lowestBit_8 : decode cX0_lowestBit 8 = .ok (.iload_n 0, 1) := by decide +kernel
theorem dX0_lowestBit_9 : decode cX0_lowestBit 9 = .ok (.iload_n 1, 1) := by decide +kernel
theorem dX0_lowestBit_10 : decode cX0_lowestBit 10 = .ok (.iushr, 1) := by decide +kernel
theorem dX0_lowestBit_11 : decode cX0_lowestBit 11 = .ok (.iconst 1, 1) := by decide +kernel
theorem dX0_lowestBit_12 : decode cX0_lowestBit 12 = .ok (.iand, 1) := by decide +kernel
theorem dX0_lowestBit_13 : decode cX0_lowestBit 13 = .ok (.ifCond .ne 9, 3) := by decide +kernel
theorem dX0_lowestBit_16 : decode cX0_lowestBit 16 = .ok (.iinc 1 1, 3) := by decide +kernel
theorem dX0_lowestBit_19 : decode cX0_lowestBit 19 = .ok (.goto (-17), 3) := by decide +kernel
theorem dX0_lowestBit_22 : decode cX0_lowestBit 22 = .ok (.iload_n 1, 1) := by decide +kernel
theorem dX0_lowestBit_23 : decode cX0_lowestBit 23 = .ok (.ireturn, 1) := by decide +kernel
theorem dX1_init_0 : decode cX1_init 0 = .ok (.aload_n 0, 1) := by decide +kernel
theorem dX1_init_1 : decode cX1_init 1 = .ok (.invokespecial 3, 3) := by decide +kernel
theorem dX1_init_4 : decode cX1_init 4 = .ok (.aload_n 0, 1) := by decide +kernel
theorem dX1_init_5 : decode cX1_init 5 = .ok (.iconst 0, 1) := by decide +kernel
theorem dX1_init_6 : decode cX1_init 6 = .ok (.putfield 9, 3) := by decide +kernel
theorem dX1_init_9 : decode cX1_init 9 = .ok (.aload_n 0, 1) := by decide +kernel
theorem dX1_init_10 : decode cX1_init 10 = .ok (.iconst (-1), 1) := by decide +kernel
theorem dX1_init_11 : decode cX1_init 11 = .ok (.putfield 15, 3) := by decide +kernel
theorem dX1_init_14 : decode cX1_init 14 = .ok (.aload_n 0, 1) := by decide +kernel
theorem dX1_init_15 : decode cX1_init 15 = .ok (.iload_n 1, 1) := by decide +kernel
theorem dX1_init_16 : decode cX1_init 16 = .ok (.putfield 18, 3) := by decide +kernel
theorem dX1_init_19 : decode cX1_init 19 = .ok (.aload_n 0, 1) := by decide +kernel
theorem dX1_init_20 : decode cX1_init 20 = .ok (.iload_n 2, 1) := by decide +kernel
theorem dX1_init_21 : decode cX1_init 21 = .ok (.putfield 21, 3) := by decide +kernel
theorem dX1_init_24 : decode cX1_init 24 = .ok (.aload_n 0, 1) := by decide +kernel
theorem dX1_init_25 : decode cX1_init 25 = .ok (.iconst 1, 1) := by decide +kernel
theorem dX1_init_26 : decode cX1_init 26 = .ok (.iload_n 1, 1) := by decide +kernel
theorem dX1_init_27 : decode cX1_init 27 = .ok (.ishl, 1) := by decide +kernel
theorem dX1_init_28 : decode cX1_init 28 = .ok (.iconst 1, 1) := by decide +kernel
theorem dX1_init_29 : decode cX1_init 29 = .ok (.iload_n 2, 1) := by decide +kernel
theorem dX1_init_30 : decode cX1_init 30 = .ok (.ishl, 1) := by decide +kernel
theorem dX1_init_31 : decode cX1_init 31 = .ok (.ior, 1) := by decide +kernel
theorem dX1_init_32 : decode cX1_init 32 = .ok (.putfield 24, 3) := by decide +kernel
theorem dX1_init_35 : decode cX1_init 35 = .ok (.aload_n 0, 1) := by decide +kernel
theorem dX1_init_36 : decode cX1_init 36 = .ok (.iload_n 3, 1) := by decide +kernel
theorem dX1_init_37 : decode cX1_init 37 = .ok (.putfield 27, 3) := by decide +kernel
theorem dX1_init_40 : decode cX1_init 40 = .ok (.aload_n 0, 1) := by decide +kernel
theorem dX1_init_41 : decode cX1_init 41 = .ok (.iload 4, 2) := by decide +kernel
theorem dX1_init_43 : decode cX1_init 43 = .ok (.putfield 30, 3) := by decide +kernel
theorem dX1_init_46 : decode cX1_init 46 = .ok (.aload_n 0, 1) := by decide +kernel
theorem dX1_init_47 : decode cX1_init 47 = .ok (.iload 5, 2) := by decide +kernel
theorem dX1_init_49 : decode cX1_init 49 = .ok (.putfield 33, 3) := by decide +kernel
theorem dX1_init_52 : decode cX1_init 52 = .ok (.aload_n 0, 1) := by decide +kernel
theorem dX1_init_53 : decode cX1_init 53 = .ok (.iload 6, 2) := by decide +kernel
theorem dX1_init_55 : decode cX1_init 55 = .ok (.putfield 36, 3) := by decide +kernel
theorem dX1_init_58 : decode cX1_init 58 = .ok (.return_, 1) := by decide +kernel
theorem dX2_init_0 : decode cX2_init 0 = .ok (.aload_n 0, 1) := by decide +kernel
theorem dX2_init_1 : decode cX2_init 1 = .ok (.invokespecial 1, 3) := by decide +kernel
theorem dX2_init_4 : decode cX2_init 4 = .ok (.aload_n 0, 1) := by decide +kernel
theorem dX2_init_5 : decode cX2_init 5 = .ok (.new 7, 3) := by decide +kernel
theorem dX2_init_8 : decode cX2_init 8 = .ok (.dup, 1) := by decide +kernel
theorem dX2_init_9 : decode cX2_init 9 = .ok (.iload_n 1, 1) := by decide +kernel
theorem dX2_init_10 : decode cX2_init 10 = .ok (.invokespecial 9, 3) := by decide +kernel
theorem dX2_init_13 : decode cX2_init 13 = .ok (.putfield 12, 3) := by decide +kernel
theorem dX2_init_16 : decode cX2_init 16 = .ok (.aload_n 0, 1) := by decide +kernel
theorem dX2_init_17 : decode cX2_init 17 = .ok (.new 7, 3) := by decide +kernel
theorem dX2_init_20 : decode cX2_init 20 = .ok (.dup, 1) := by decide +kernel
theorem dX2_init_21 : decode cX2_init 21 = .ok (.iconst 1, 1) := by decide +kernel
theorem dX2_init_22 : decode cX2_init 22 = .ok (.iload_n 1, 1) := by decide +kernel
theorem dX2_init_23 : decode cX2_init 23 = .ok (.isub, 1) := by decide +kernel
theorem dX2_init_24 : decode cX2_init 24 = .ok (.invokespecial 9, 3) := by decide +kernel
theorem dX2_init_27 : decode cX2_init 27 = .ok (.putfield 18, 3) := by decide +kernel
theorem dX2_init_30 : decode cX2_init 30 = .ok (.return_, 1) := by decide +kernel
theorem dX3_init_0 : decode cX3_init 0 = .ok (.aload_n 0, 1) := by decide +kernel
theorem dX3_init_1 : decode cX3_init 1 = .ok (.invokespecial 3, 3) := by decide +kernel
theorem dX3_init_4 : decode cX3_init 4 = .ok (.aload_n 0, 1) := by decide +kernel
theorem dX3_init_5 : decode cX3_init 5 = .ok (.aload_n 1, 1) := by decide +kernel
theorem dX3_init_6 : decode cX3_init 6 = .ok (.putfield 9, 3) := by decide +kernel
theorem dX3_init_9 : decode cX3_init 9 = .ok (.return_, 1) := by decide +kernel
theorem dX3_read_0 : decode cX3_read 0 = .ok (.aload_n 0, 1) := by decide +kernel
theorem dX3_read_1 : decode cX3_read 1 = .ok (.aload_n 1, 1) := by decide +kernel
theorem dX3_read_2 : decode cX3_read 2 = .ok (.putfield 15, 3) := by decide +kernel
theorem dX3_read_5 : decode cX3_read 5 = .ok (.aload_n 0, 1) := by decide +kernel
theorem dX3_read_6 : decode cX3_read 6 = .ok (.getfield 15, 3) := by decide +kernel
theorem dX3_read_9 : decode cX3_read 9 = .ok (.invokevirtual 19, 3) := by decide +kernel
theorem dX3_read_12 : decode cX3_read 12 = .ok (.aload_n 0, 1) := by decide +kernel
theorem dX3_read_13 : decode cX3_read 13 = .ok (.iconst 0, 1) := by decide +kernel
theorem dX3_read_14 : decode cX3_read 14 = .ok (.putfield 24, 3) := by decide +kernel
theorem dX3_read_17 : decode cX3_read 17 = .ok (.aload_n 0, 1) := by decide +kernel
theorem dX3_read_18 : decode cX3_read 18 = .ok (.iconst 0, 1) := by decide +kernel
theorem dX3_read_19 : decode cX3_read 19 = .ok (.putfield 28, 3) := by decide +kernel
theorem dX3_read_22 : decode cX3_read 22 = .ok (.iconst 0, 1) := by decide +kernel
theorem dX3_read_23 : decode cX3_read 23 = .ok (.istore_n 2, 1) := by decide +kernel
theorem dX3_read_24 : decode cX3_read 24 = .ok (.iload_n 2, 1) := by decide +kernel
theorem dX3_read_25 : decode cX3_read 25 = .ok (.bipush 16, 2) := by decide +kernel
theorem dX3_read_27 : decode cX3_read 27 = .ok (.if_icmp .gt 29, 3) := by decide +kernel
theorem dX3_read_30 : decode cX3_read 30 = .ok (.aload_n 0, 1) := by decide +kernel
theorem dX3_read_31 : decode cX3_read 31 = .ok (.getfield 28, 3) := by decide +kernel
theorem dX3_read_34 : decode cX3_read 34 = .ok (.ifCond .ne 22, 3) := by decide +kernel
theorem dX3_read_37 : decode cX3_read 37 = .ok (.aload_n 0, 1) := by decide +kernel
theorem dX3_read_38 : decode cX3_read 38 = .ok (.iconst 0, 1) := by decide +kernel
theorem dX3_read_39 : decode cX3_read 39 = .ok (.invokevirtual 33, 3) := by decide +kernel
theorem dX3_read_42 : decode cX3_read 42 = .ok (.ifCond .ne 14, 3) := by decide +kernel
theorem dX3_read_45 : decode cX3_read 45 = .ok (.aload_n 0, 1) := by decide +kernel
theorem dX3_read_46 : decode cX3_read 46 = .ok (.iload_n 2, 1) := by decide +kernel
theorem dX3_read_47 : decode cX3_read 47 = .ok (.invokevirtual 37, 3) := by decide +kernel
theorem dX3_read_50 : decode cX3_read 50 = .ok (.iinc 2 1, 3) := by decide +kernel
theorem dX3_read_53 : decode cX3_read 53 = .ok (.goto (-29), 3) := by decide +kernel
theorem dX3_read_56 : decode cX3_read 56 = .ok (.aload_n 0, 1) := by decide +kernel
theorem dX3_read_57 : decode cX3_read 57 = .ok (.getfield 28, 3) := by decide +kernel
theorem dX3_read_60 : decode cX3_read 60 = .ok (.ireturn, 1) := by decide +kernel
theorem dX3_readLine_0 : decode cX3_readLine 0 = .ok (.aload_n 0, 1) := by decide +kernel
theorem dX3_readLine_1 : decode cX3_readLine 1 = .ok (.iconst 3, 1) := by decide +kernel
theorem dX3_readLine_2 : decode cX3_readLine 2 = .ok (.invokevirtual 33, 3) := by decide +kernel
theorem dX3_readLine_5 : decode cX3_readLine 5 = .ok (.ifCond .eq 15, 3) := by decide +kernel
theorem dX3_readLine_8 : decode cX3_readLine 8 = .ok (.iload_n 1, 1) := by decide +kernel
theorem dX3_readLine_9 : decode cX3_readLine 9 = .ok (.bipush 16, 2) := by decide +kernel
theorem dX3_readLine_11 : decode cX3_readLine 11 = .ok (.if_icmp .lt 9, 3) := by decide +kernel
theorem dX3_readLine_14 : decode cX3_readLine 14 = .ok (.aload_n 0, 1) := by decide +kernel
theorem dX3_readLine_15 : decode cX3_readLine 15 = .ok (.iconst 5, 1) := by decide +kernel
theorem dX3_readLine_16 : decode cX3_readLine 16 = .ok (.invokevirtual 41, 3) := by decide +kernel
theorem dX3_readLine_19 : decode cX3_readLine 19 = .ok (.return_, 1) := by decide +kernel
theorem dX3_readLine_20 : decode cX3_readLine 20 = .ok (.aload_n 0, 1) := by decide +kernel
theorem dX3_readLine_21 : decode cX3_readLine 21 = .ok (.iconst 3, 1) := by decide +kernel
theorem dX3_readLine_22 : decode cX3_readLine 22 = .ok (.invokevirtual 44, 3) := by decide +kernel
theorem dX3_readLine_25 : decode cX3_readLine 25 = .ok (.aload_n 0, 1) := by decide +kernel
theorem dX3_readLine_26 : decode cX3_readLine 26 = .ok (.invokevirtual 47, 3) := by decide +kernel
theorem dX3_readLine_29 : decode cX3_readLine 29 = .ok (.istore_n 2, 1) := by decide +kernel
theorem dX3_readLine_30 : decode cX3_readLine 30 = .ok (.aload_n 0, 1) := by decide +kernel
theorem dX3_readLine_31 : decode cX3_readLine 31 = .ok (.iconst 5, 1) := by decide +kernel
theorem dX3_readLine_32 : decode cX3_readLine 32 = .ok (.invokevirtual 44, 3) := by decide +kernel
theorem dX3_readLine_35 : decode cX3_readLine 35 = .ok (.aload_n 0, 1) := by decide +kernel
theorem dX3_readLine_36 : decode cX3_readLine 36 = .ok (.iconst 0, 1) := by decide +kernel
theorem dX3_readLine_37 : decode cX3_readLine 37 = .ok (.invokevirtual 51, 3) := by decide +kernel
theorem dX3_readLine_40 : decode cX3_readLine 40 = .ok (.aload_n 0, 1) := by decide +kernel
theorem dX3_readLine_41 : decode cX3_readLine 41 = .ok (.bipush 59, 2) := by decide +kernel
theorem dX3_readLine_43 : decode cX3_readLine 43 = .ok (.invokevirtual 44, 3) := by decide +kernel
theorem dX3_readLine_46 : decode cX3_readLine 46 = .ok (.aload_n 0, 1) := by decide +kernel
theorem dX3_readLine_47 : decode cX3_readLine 47 = .ok (.getfield 28, 3) := by decide +kernel
theorem dX3_readLine_50 : decode cX3_readLine 50 = .ok (.ifCond .ne 11, 3) := by decide +kernel
theorem dX3_readLine_53 : decode cX3_readLine 53 = .ok (.aload_n 0, 1) := by decide +kernel
theorem dX3_readLine_54 : decode cX3_readLine 54 = .ok (.getfield 15, 3) := by decide +kernel
theorem dX3_readLine_57 : decode cX3_readLine 57 = .ok (.iload_n 2, 1) := by decide +kernel
theorem dX3_readLine_58 : decode cX3_readLine 58 = .ok (.invokevirtual 54, 3) := by decide +kernel
theorem dX3_readLine_61 : decode cX3_readLine 61 = .ok (.return_, 1) := by decide +kernel
theorem dX3_readWhich_0 : decode cX3_readWhich 0 = .ok (.aload_n 0, 1) := by decide +kernel
theorem dX3_readWhich_1 : decode cX3_readWhich 1 = .ok (.iconst 4, 1) := by decide +kernel
theorem dX3_readWhich_2 : decode cX3_readWhich 2 = .ok (.invokevirtual 33, 3) := by decide +kernel
theorem dX3_readWhich_5 : decode cX3_readWhich 5 = .ok (.ifCond .eq 9, 3) := by decide +kernel
theorem dX3_readWhich_8 : decode cX3_readWhich 8 = .ok (.aload_n 0, 1) := by decide +kernel
theorem dX3_readWhich_9 : decode cX3_readWhich 9 = .ok (.invokevirtual 57, 3) := by decide +kernel
theorem dX3_readWhich_12 : decode cX3_readWhich 12 = .ok (.iconst (-1), 1) := by decide +kernel
theorem dX3_readWhich_13 : decode cX3_readWhich 13 = .ok (.ireturn, 1) := by decide +kernel
theorem dX3_readWhich_14 : decode cX3_readWhich 14 = .ok (.aload_n 0, 1) := by decide +kernel
theorem dX3_readWhich_15 : decode cX3_readWhich 15 = .ok (.getfield 9, 3) := by decide +kernel
theorem dX3_readWhich_18 : decode cX3_readWhich 18 = .ok (.getfield 60, 3) := by decide +kernel
theorem dX3_readWhich_21 : decode cX3_readWhich 21 = .ok (.aload_n 0, 1) := by decide +kernel
theorem dX3_readWhich_22 : decode cX3_readWhich 22 = .ok (.getfield 24, 3) := by decide +kernel
theorem dX3_readWhich_25 : decode cX3_readWhich 25 = .ok (.iaload, 1) := by decide +kernel
theorem dX3_readWhich_26 : decode cX3_readWhich 26 = .ok (.istore_n 1, 1) := by decide +kernel
theorem dX3_readWhich_27 : decode cX3_readWhich 27 = .ok (.aload_n 0, 1) := by decide +kernel
theorem dX3_readWhich_28 : decode cX3_readWhich 28 = .ok (.iconst 2, 1) := by decide +kernel
theorem dX3_readWhich_29 : decode cX3_readWhich 29 = .ok (.invokevirtual 33, 3) := by decide +kernel
theorem dX3_readWhich_32 : decode cX3_readWhich 32 = .ok (.ifCond .eq 14, 3) := by decide +kernel
theorem dX3_readWhich_35 : decode cX3_readWhich 35 = .ok (.iload_n 1, 1) := by decide +kernel
theorem dX3_readWhich_36 : decode cX3_readWhich 36 = .ok (.bipush 6, 2) := by decide +kernel
theorem dX3_readWhich_38 : decode cX3_readWhich 38 = .ok (.if_icmp .lt 8, 3) := by decide +kernel
theorem dX3_readWhich_41 : decode cX3_readWhich 41 = .ok (.aload_n 0, 1) := by decide +kernel
theorem dX3_readWhich_42 : decode cX3_readWhich 42 = .ok (.iconst 4, 1) := by decide +kernel
theorem dX3_readWhich_43 : decode cX3_readWhich 43 = .ok (.invokevirtual 41, 3) := by decide +kernel
theorem dX3_readWhich_46 : decode cX3_readWhich 46 = .ok (.aload_n 0, 1) := by decide +kernel
theorem dX3_readWhich_47 : decode cX3_readWhich 47 = .ok (.iconst 2, 1) := by decide +kernel
theorem dX3_readWhich_48 : decode cX3_readWhich 48 = .ok (.invokevirtual 44, 3) := by decide +kernel
theorem dX3_readWhich_51 : decode cX3_readWhich 51 = .ok (.iload_n 1, 1) := by decide +kernel
theorem dX3_readWhich_52 : decode cX3_readWhich 52 = .ok (.ireturn, 1) := by decide +kernel
theorem dX3_readAnds_0 : decode cX3_readAnds 0 = .ok (.aload_n 0, 1) := by decide +kernel
theorem dX3_readAnds_1 : decode cX3_readAnds 1 = .ok (.iload_n 1, 1) := by decide +kernel
theorem dX3_readAnds_2 : decode cX3_readAnds 2 = .ok (.invokevirtual 64, 3) := by decide +kernel
theorem dX3_readAnds_5 : decode cX3_readAnds 5 = .ok (.iconst 0, 1) := by decide +kernel
theorem dX3_readAnds_6 : decode cX3_readAnds 6 = .ok (.istore_n 2, 1) := by decide +kernel
theorem dX3_readAnds_7 : decode cX3_readAnds 7 = .ok (.iload_n 2, 1) := by decide +kernel
theorem dX3_readAnds_8 : decode cX3_readAnds 8 = .ok (.sipush 600, 3) := by decide +kernel
theorem dX3_readAnds_11 : decode cX3_readAnds 11 = .ok (.if_icmp .ge 37, 3) := by decide +kernel
theorem dX3_readAnds_14 : decode cX3_readAnds 14 = .ok (.aload_n 0, 1) := by decide +kernel
theorem dX3_readAnds_15 : decode cX3_readAnds 15 = .ok (.bipush 6, 2) := by decide +kernel
theorem dX3_readAnds_17 : decode cX3_readAnds 17 = .ok (.invokevirtual 33, 3) := by decide +kernel
theorem dX3_readAnds_20 : decode cX3_readAnds 20 = .ok (.ifCond .eq 28, 3) := by decide +kernel
theorem dX3_readAnds_23 : decode cX3_readAnds 23 = .ok (.aload_n 0, 1) := by decide +kernel
theorem dX3_readAnds_24 : decode cX3_readAnds 24 = .ok (.invokevirtual 57, 3) := by decide +kernel
theorem dX3_readAnds_27 : decode cX3_readAnds 27 = .ok (.aload_n 0, 1) := by decide +kernel
theorem dX3_readAnds_28 : decode cX3_readAnds 28 = .ok (.iload_n 1, 1) := by decide +kernel
theorem dX3_readAnds_29 : decode cX3_readAnds 29 = .ok (.invokevirtual 64, 3) := by decide +kernel
theorem dX3_readAnds_32 : decode cX3_readAnds 32 = .ok (.aload_n 0, 1) := by decide +kernel
theorem dX3_readAnds_33 : decode cX3_readAnds 33 = .ok (.getfield 15, 3) := by decide +kernel
theorem dX3_readAnds_36 : decode cX3_readAnds 36 = .ok (.sipush 20006, 3) := by decide +kernel
theorem dX3_readAnds_39 : decode cX3_readAnds 39 = .ok (.invokevirtual 69, 3) := by decide +kernel
theorem dX3_readAnds_42 : decode cX3_readAnds 42 = .ok (.iinc 2 1, 3) := by decide +kernel
theorem dX3_readAnds_45 : decode cX3_readAnds 45 = .ok (.goto (-38), 3) := by decide +kernel
theorem dX3_readAnds_48 : decode cX3_readAnds 48 = .ok (.return_, 1) := by decide +kernel
theorem dX3_readTest_0 : decode cX3_readTest 0 = .ok (.aload_n 0, 1) := by decide +kernel
theorem dX3_readTest_1 : decode cX3_readTest 1 = .ok (.iload_n 1, 1) := by decide +kernel
theorem dX3_readTest_2 : decode cX3_readTest 2 = .ok (.invokevirtual 72, 3) := by decide +kernel
theorem dX3_readTest_5 : decode cX3_readTest 5 = .ok (.aload_n 0, 1) := by decide +kernel
theorem dX3_readTest_6 : decode cX3_readTest 6 = .ok (.bipush 60, 2) := by decide +kernel
theorem dX3_readTest_8 : decode cX3_readTest 8 = .ok (.invokevirtual 33, 3) := by decide +kernel
theorem dX3_readTest_11 : decode cX3_readTest 11 = .ok (.ifCond .ne 12, 3) := by decide +kernel
theorem dX3_readTest_14 : decode cX3_readTest 14 = .ok (.aload_n 0, 1) := by decide +kernel
theorem dX3_readTest_15 : decode cX3_readTest 15 = .ok (.bipush 61, 2) := by decide +kernel
theorem dX3_readTest_17 : decode cX3_readTest 17 = .ok (.invokevirtual 33, 3) := by decide +kernel
theorem dX3_readTest_20 : decode cX3_readTest 20 = .ok (.ifCond .eq 37, 3) := by decide +kernel
theorem dX3_readTest_23 : decode cX3_readTest 23 = .ok (.aload_n 0, 1) := by decide +kernel
theorem dX3_readTest_24 : decode cX3_readTest 24 = .ok (.getfield 9, 3) := by decide +kernel
theorem dX3_readTest_27 : decode cX3_readTest 27 = .ok (.getfield 75, 3) := by decide +kernel
theorem dX3_readTest_30 : decode cX3_readTest 30 = .ok (.aload_n 0, 1) := by decide +kernel
theorem dX3_readTest_31 : decode cX3_readTest 31 = .ok (.getfield 24, 3) := by decide +kernel
theorem dX3_readTest_34 : decode cX3_readTest 34 = .ok (.iaload, 1) := by decide +kernel
theorem dX3_readTest_35 : decode cX3_readTest 35 = .ok (.istore_n 2, 1) := by decide +kernel
theorem dX3_readTest_36 : decode cX3_readTest 36 = .ok (.aload_n 0, 1) := by decide +kernel
theorem dX3_readTest_37 : decode cX3_readTest 37 = .ok (.invokevirtual 57, 3) := by decide +kernel
theorem dX3_readTest_40 : decode cX3_readTest 40 = .ok (.aload_n 0, 1) := by decide +kernel
theorem dX3_readTest_41 : decode cX3_readTest 41 = .ok (.iload_n 1, 1) := by decide +kernel
theorem dX3_readTest_42 : decode cX3_readTest 42 = .ok (.invokevirtual 72, 3) := by decide +kernel
theorem dX3_readTest_45 : decode cX3_readTest 45 = .ok (.aload_n 0, 1) := by decide +kernel
theorem dX3_readTest_46 : decode cX3_readTest 46 = .ok (.getfield 15, 3) := by decide +kernel
theorem dX3_readTest_49 : decode cX3_readTest 49 = .ok (.sipush 20000, 3) := by decide +kernel
theorem dX3_readTest_52 : decode cX3_readTest 52 = .ok (.iload_n 2, 1) := by decide +kernel
theorem dX3_readTest_53 : decode cX3_readTest 53 = .ok (.iadd, 1) := by decide +kernel
theorem dX3_readTest_54 : decode cX3_readTest 54 = .ok (.invokevirtual 69, 3) := by decide +kernel
theorem dX3_readTest_57 : decode cX3_readTest 57 = .ok (.return_, 1) := by decide +kernel
theorem dX3_readSum_0 : decode cX3_readSum 0 = .ok (.aload_n 0, 1) := by decide +kernel
theorem dX3_readSum_1 : decode cX3_readSum 1 = .ok (.iload_n 1, 1) := by decide +kernel
theorem dX3_readSum_2 : decode cX3_readSum 2 = .ok (.invokevirtual 78, 3) := by decide +kernel
theorem dX3_readSum_5 : decode cX3_readSum 5 = .ok (.iconst 0, 1) := by decide +kernel
theorem dX3_readSum_6 : decode cX3_readSum 6 = .ok (.istore_n 2, 1) := by decide +kernel
theorem dX3_readSum_7 : decode cX3_readSum 7 = .ok (.iload_n 2, 1) := by decide +kernel
theorem dX3_readSum_8 : decode cX3_readSum 8 = .ok (.sipush 600, 3) := by decide +kernel
theorem dX3_readSum_11 : decode cX3_readSum 11 = .ok (.if_icmp .ge 61, 3) := by decide +kernel
theorem dX3_readSum_14 : decode cX3_readSum 14 = .ok (.aload_n 0, 1) := by decide +kernel
theorem dX3_readSum_15 : decode cX3_readSum 15 = .ok (.bipush 43, 2) := by decide +kernel
theorem dX3_readSum_17 : decode cX3_readSum 17 = .ok (.invokevirtual 33, 3) := by decide +kernel
theorem dX3_readSum_20 : decode cX3_readSum 20 = .ok (.ifCond .ne 12, 3) := by decide +kernel
theorem dX3_readSum_23 : decode cX3_readSum 23 = .ok (.aload_n 0, 1) := by decide +kernel
theorem dX3_readSum_24 : decode cX3_readSum 24 = .ok (.bipush 45, 2) := by decide +kernel
theorem dX3_readSum_26 : decode cX3_readSum 26 = .ok (.invokevirtual 33, 3) := by decide +kernel
theorem dX3_readSum_29 : decode cX3_readSum 29 = .ok (.ifCond .eq 43, 3) := by decide +kernel
theorem dX3_readSum_32 : decode cX3_readSum 32 = .ok (.aload_n 0, 1) := by decide +kernel
theorem dX3_readSum_33 : decode cX3_readSum 33 = .ok (.getfield 9, 3) := by decide +kernel
theorem dX3_readSum_36 : decode cX3_readSum 36 = .ok (.getfield 75, 3) := by decide +kernel
theorem dX3_readSum_39 : decode cX3_readSum 39 = .ok (.aload_n 0, 1) := by decide +kernel
theorem dX3_readSum_40 : decode cX3_readSum 40 = .ok (.getfield 24, 3) := by decide +kernel
theorem dX3_readSum_43 : decode cX3_readSum 43 = .ok (.iaload, 1) := by decide +kernel
theorem dX3_readSum_44 : decode cX3_readSum 44 = .ok (.istore_n 3, 1) := by decide +kernel
theorem dX3_readSum_45 : decode cX3_readSum 45 = .ok (.aload_n 0, 1) := by decide +kernel
theorem dX3_readSum_46 : decode cX3_readSum 46 = .ok (.invokevirtual 57, 3) := by decide +kernel
theorem dX3_readSum_49 : decode cX3_readSum 49 = .ok (.aload_n 0, 1) := by decide +kernel
theorem dX3_readSum_50 : decode cX3_readSum 50 = .ok (.iload_n 1, 1) := by decide +kernel
theorem dX3_readSum_51 : decode cX3_readSum 51 = .ok (.invokevirtual 78, 3) := by decide +kernel
theorem dX3_readSum_54 : decode cX3_readSum 54 = .ok (.aload_n 0, 1) := by decide +kernel
theorem dX3_readSum_55 : decode cX3_readSum 55 = .ok (.getfield 15, 3) := by decide +kernel
theorem dX3_readSum_58 : decode cX3_readSum 58 = .ok (.sipush 20000, 3) := by decide +kernel
theorem dX3_readSum_61 : decode cX3_readSum 61 = .ok (.iload_n 3, 1) := by decide +kernel
theorem dX3_readSum_62 : decode cX3_readSum 62 = .ok (.iadd, 1) := by decide +kernel
theorem dX3_readSum_63 : decode cX3_readSum 63 = .ok (.invokevirtual 69, 3) := by decide +kernel
theorem dX3_readSum_66 : decode cX3_readSum 66 = .ok (.iinc 2 1, 3) := by decide +kernel
theorem dX3_readSum_69 : decode cX3_readSum 69 = .ok (.goto (-62), 3) := by decide +kernel
theorem dX3_readSum_72 : decode cX3_readSum 72 = .ok (.return_, 1) := by decide +kernel
theorem dX3_readPart_0 : decode cX3_readPart 0 = .ok (.aload_n 0, 1) := by decide +kernel
theorem dX3_readPart_1 : decode cX3_readPart 1 = .ok (.getfield 9, 3) := by decide +kernel
theorem dX3_readPart_4 : decode cX3_readPart 4 = .ok (.getfield 75, 3) := by decide +kernel
theorem dX3_readPart_7 : decode cX3_readPart 7 = .ok (.aload_n 0, 1) := by decide +kernel
theorem dX3_readPart_8 : decode cX3_readPart 8 = .ok (.getfield 24, 3) := by decide +kernel
theorem dX3_readPart_11 : decode cX3_readPart 11 = .ok (.iaload, 1) := by decide +kernel
theorem dX3_readPart_12 : decode cX3_readPart 12 = .ok (.istore_n 2, 1) := by decide +kernel
theorem dX3_readPart_13 : decode cX3_readPart 13 = .ok (.iload_n 2, 1) := by decide +kernel
theorem dX3_readPart_14 : decode cX3_readPart 14 = .ok (.bipush 7, 2) := by decide +kernel
theorem dX3_readPart_16 : decode cX3_readPart 16 = .ok (.if_icmp .lt 13, 3) := by decide +kernel
theorem dX3_readPart_19 : decode cX3_readPart 19 = .ok (.iload_n 2, 1) := by decide +kernel
theorem dX3_readPart_20 : decode cX3_readPart 20 = .ok (.bipush 14, 2) := by decide +kernel
theorem dX3_readPart_22 : decode cX3_readPart 22 = .ok (.if_icmp .gt 7, 3) := by decide +kernel
theorem dX3_readPart_25 : decode cX3_readPart 25 = .ok (.iconst 1, 1) := by decide +kernel
theorem dX3_readPart_26 : decode cX3_readPart 26 = .ok (.goto 4, 3) := by decide +kernel
theorem dX3_readPart_29 : decode cX3_readPart 29 = .ok (.iconst 0, 1) := by decide +kernel
theorem dX3_readPart_30 : decode cX3_readPart 30 = .ok (.istore_n 3, 1) := by decide +kernel
theorem dX3_readPart_31 : decode cX3_readPart 31 = .ok (.iload_n 2, 1) := by decide +kernel
theorem dX3_readPart_32 : decode cX3_readPart 32 = .ok (.iconst 2, 1) := by decide +kernel
theorem dX3_readPart_33 : decode cX3_readPart 33 = .ok (.if_icmp .eq 21, 3) := by decide +kernel
theorem dX3_readPart_36 : decode cX3_readPart 36 = .ok (.iload_n 2, 1) := by decide +kernel
theorem dX3_readPart_37 : decode cX3_readPart 37 = .ok (.bipush 40, 2) := by decide +kernel
theorem dX3_readPart_39 : decode cX3_readPart 39 = .ok (.if_icmp .eq 15, 3) := by decide +kernel
theorem dX3_readPart_42 : decode cX3_readPart 42 = .ok (.iload_n 3, 1) := by decide +kernel
theorem dX3_readPart_43 : decode cX3_readPart 43 = .ok (.ifCond .ne 11, 3) := by decide +kernel
theorem dX3_readPart_46 : decode cX3_readPart 46 = .ok (.aload_n 0, 1) := by decide +kernel
theorem dX3_readPart_47 : decode cX3_readPart 47 = .ok (.iconst 1, 1) := by decide +kernel
theorem dX3_readPart_48 : decode cX3_readPart 48 = .ok (.invokevirtual 41, 3) := by decide +kernel
theorem dX3_readPart_51 : decode cX3_readPart 51 = .ok (.goto 13, 3) := by decide +kernel
theorem dX3_readPart_54 : decode cX3_readPart 54 = .ok (.iload_n 1, 1) := by decide +kernel
theorem dX3_readPart_55 : decode cX3_readPart 55 = .ok (.iconst 5, 1) := by decide +kernel
theorem dX3_readPart_56 : decode cX3_readPart 56 = .ok (.if_icmp .lt 8, 3) := by decide +kernel
theorem dX3_readPart_59 : decode cX3_readPart 59 = .ok (.aload_n 0, 1) := by decide +kernel
theorem dX3_readPart_60 : decode cX3_readPart 60 = .ok (.iconst 5, 1) := by decide +kernel
theorem dX3_readPart_61 : decode cX3_readPart 61 = .ok (.invokevirtual 41, 3) := by decide +kernel
theorem dX3_readPart_64 : decode cX3_readPart 64 = .ok (.aload_n 0, 1) := by decide +kernel
theorem dX3_readPart_65 : decode cX3_readPart 65 = .ok (.getfield 28, 3) := by decide +kernel
theorem dX3_readPart_68 : decode cX3_readPart 68 = .ok (.ifCond .eq 4, 3) := by decide +kernel
theorem dX3_readPart_71 : decode cX3_readPart 71 = .ok (.return_, 1) := by decide +kernel
theorem dX3_readPart_72 : decode cX3_readPart 72 = .ok (.aload_n 0, 1) := by decide +kernel
theorem dX3_readPart_73 : decode cX3_readPart 73 = .ok (.getfield 9, 3) := by decide +kernel
theorem dX3_readPart_76 : decode cX3_readPart 76 = .ok (.getfield 60, 3) := by decide +kernel
theorem dX3_readPart_79 : decode cX3_readPart 79 = .ok (.aload_n 0, 1) := by decide +kernel
theorem dX3_readPart_80 : decode cX3_readPart 80 = .ok (.getfield 24, 3) := by decide +kernel
theorem dX3_readPart_83 : decode cX3_readPart 83 = .ok (.iaload, 1) := by decide +kernel
theorem dX3_readPart_84 : decode cX3_readPart 84 = .ok (.istore 4, 2) := by decide +kernel
theorem dX3_readPart_86 : decode cX3_readPart 86 = .ok (.aload_n 0, 1) := by decide +kernel
theorem dX3_readPart_87 : decode cX3_readPart 87 = .ok (.invokevirtual 57, 3) := by decide +kernel
theorem dX3_readPart_90 : decode cX3_readPart 90 = .ok (.iload_n 2, 1) := by decide +kernel
theorem dX3_readPart_91 : decode cX3_readPart 91 = .ok (.bipush 40, 2) := by decide +kernel
theorem dX3_readPart_93 : decode cX3_readPart 93 = .ok (.if_icmp .ne 19, 3) := by decide +kernel
theorem dX3_readPart_96 : decode cX3_readPart 96 = .ok (.aload_n 0, 1) := by decide +kernel
theorem dX3_readPart_97 : decode cX3_readPart 97 = .ok (.iload_n 1, 1) := by decide +kernel
theorem dX3_readPart_98 : decode cX3_readPart 98 = .ok (.iconst 1, 1) := by decide +kernel
theorem dX3_readPart_99 : decode cX3_readPart 99 = .ok (.iadd, 1) := by decide +kernel
theorem dX3_readPart_100 : decode cX3_readPart 100 = .ok (.invokevirtual 51, 3) := by decide +kernel
theorem dX3_readPart_103 : decode cX3_readPart 103 = .ok (.aload_n 0, 1) := by decide +kernel
theorem dX3_readPart_104 : decode cX3_readPart 104 = .ok (.bipush 41, 2) := by decide +kernel
theorem dX3_readPart_106 : decode cX3_readPart 106 = .ok (.invokevirtual 44, 3) := by decide +kernel
theorem dX3_readPart_109 : decode cX3_readPart 109 = .ok (.goto 34, 3) := by decide +kernel
theorem dX3_readPart_112 : decode cX3_readPart 112 = .ok (.iload_n 3, 1) := by decide +kernel
theorem dX3_readPart_113 : decode cX3_readPart 113 = .ok (.ifCond .eq 21, 3) := by decide +kernel
theorem dX3_readPart_116 : decode cX3_readPart 116 = .ok (.aload_n 0, 1) := by decide +kernel
theorem dX3_readPart_117 : decode cX3_readPart 117 = .ok (.getfield 15, 3) := by decide +kernel
theorem dX3_readPart_120 : decode cX3_readPart 120 = .ok (.sipush 10000, 3) := by decide +kernel
theorem dX3_readPart_123 : decode cX3_readPart 123 = .ok (.iload_n 2, 1) := by decide +kernel
theorem dX3_readPart_124 : decode cX3_readPart 124 = .ok (.iadd, 1) := by decide +kernel
theorem dX3_readPart_125 : decode cX3_readPart 125 = .ok (.bipush 7, 2) := by decide +kernel
theorem dX3_readPart_127 : decode cX3_readPart 127 = .ok (.isub, 1) := by decide +kernel
theorem dX3_readPart_128 : decode cX3_readPart 128 = .ok (.invokevirtual 69, 3) := by decide +kernel
theorem dX3_readPart_131 : decode cX3_readPart 131 = .ok (.goto 12, 3) := by decide +kernel
theorem dX3_readPart_134 : decode cX3_readPart 134 = .ok (.aload_n 0, 1) := by decide +kernel
theorem dX3_readPart_135 : decode cX3_readPart 135 = .ok (.getfield 15, 3) := by decide +kernel
theorem dX3_readPart_138 : decode cX3_readPart 138 = .ok (.iload 4, 2) := by decide +kernel
theorem dX3_readPart_140 : decode cX3_readPart 140 = .ok (.invokevirtual 69, 3) := by decide +kernel
theorem dX3_readPart_143 : decode cX3_readPart 143 = .ok (.return_, 1) := by decide +kernel
theorem dX3_sees_0 : decode cX3_sees 0 = .ok (.aload_n 0, 1) := by decide +kernel
theorem dX3_sees_1 : decode cX3_sees 1 = .ok (.getfield 28, 3) := by decide +kernel
theorem dX3_sees_4 : decode cX3_sees 4 = .ok (.ifCond .ne 23, 3) := by decide +kernel
theorem dX3_sees_7 : decode cX3_sees 7 = .ok (.aload_n 0, 1) := by decide +kernel
theorem dX3_sees_8 : decode cX3_sees 8 = .ok (.getfield 9, 3) := by decide +kernel
theorem dX3_sees_11 : decode cX3_sees 11 = .ok (.getfield 75, 3) := by decide +kernel
theorem dX3_sees_14 : decode cX3_sees 14 = .ok (.aload_n 0, 1) := by decide +kernel
theorem dX3_sees_15 : decode cX3_sees 15 = .ok (.getfield 24, 3) := by decide +kernel
theorem dX3_sees_18 : decode cX3_sees 18 = .ok (.iaload, 1) := by decide +kernel
theorem dX3_sees_19 : decode cX3_sees 19 = .ok (.iload_n 1, 1) := by decide +kernel
theorem dX3_sees_20 : decode cX3_sees 20 = .ok (.if_icmp .ne 7, 3) := by decide +kernel
theorem dX3_sees_23 : decode cX3_sees 23 = .ok (.iconst 1, 1) := by decide +kernel
theorem dX3_sees_24 : decode cX3_sees 24 = .ok (.goto 4, 3) := by decide +kernel
theorem dX3_sees_27 : decode cX3_sees 27 = .ok (.iconst 0, 1) := by decide +kernel
theorem dX3_sees_28 : decode cX3_sees 28 = .ok (.ireturn, 1) := by decide +kernel
theorem dX3_step_0 : decode cX3_step 0 = .ok (.aload_n 0, 1) := by decide +kernel
theorem dX3_step_1 : decode cX3_step 1 = .ok (.getfield 24, 3) := by decide +kernel
theorem dX3_step_4 : decode cX3_step 4 = .ok (.aload_n 0, 1) := by decide +kernel
theorem dX3_step_5 : decode cX3_step 5 = .ok (.getfield 9, 3) := by decide +kernel
theorem dX3_step_8 : decode cX3_step 8 = .ok (.getfield 81, 3) := by decide +kernel
theorem dX3_step_11 : decode cX3_step 11 = .ok (.if_icmp .ge 13, 3) := by decide +kernel
theorem dX3_step_14 : decode cX3_step 14 = .ok (.aload_n 0, 1) := by decide +kernel
theorem dX3_step_15 : decode cX3_step 15 = .ok (.dup, 1) := by decide +kernel
theorem dX3_step_16 : decode cX3_step 16 = .ok (.getfield 24, 3) := by decide +kernel
theorem dX3_step_19 : decode cX3_step 19 = .ok (.iconst 1, 1) := by decide +kernel
theorem dX3_step_20 : decode cX3_step 20 = .ok (.iadd, 1) := by decide +kernel
theorem dX3_step_21 : decode cX3_step 21 = .ok (.putfield 24, 3) := by decide +kernel
theorem dX3_step_24 : decode cX3_step 24 = .ok (.return_, 1) := by decide +kernel
theorem dX3_take_0 : decode cX3_take 0 = .ok (.aload_n 0, 1) := by decide +kernel
theorem dX3_take_1 : decode cX3_take 1 = .ok (.getfield 28, 3) := by decide +kernel
theorem dX3_take_4 : decode cX3_take 4 = .ok (.ifCond .ne 43, 3) := by decide +kernel
theorem dX3_take_7 : decode cX3_take 7 = .ok (.aload_n 0, 1) := by decide +kernel
theorem dX3_take_8 : decode cX3_take 8 = .ok (.getfield 9, 3) := by decide +kernel
theorem dX3_take_11 : decode cX3_take 11 = .ok (.getfield 75, 3) := by decide +kernel
theorem dX3_take_14 : decode cX3_take 14 = .ok (.aload_n 0, 1) := by decide +kernel
theorem dX3_take_15 : decode cX3_take 15 = .ok (.getfield 24, 3) := by decide +kernel
theorem dX3_take_18 : decode cX3_take 18 = .ok (.iaload, 1) := by decide +kernel
theorem dX3_take_19 : decode cX3_take 19 = .ok (.iload_n 1, 1) := by decide +kernel
theorem dX3_take_20 : decode cX3_take 20 = .ok (.if_icmp .eq 27, 3) := by decide +kernel
theorem dX3_take_23 : decode cX3_take 23 = .ok (.aload_n 0, 1) := by decide +kernel
theorem dX3_take_24 : decode cX3_take 24 = .ok (.iconst 1, 1) := by decide +kernel
theorem dX3_take_25 : decode cX3_take 25 = .ok (.bipush 16, 2) := by decide +kernel
theorem dX3_take_27 : decode cX3_take 27 = .ok (.aload_n 0, 1) := by decide +kernel
theorem dX3_take_28 : decode cX3_take 28 = .ok (.getfield 9, 3) := by decide +kernel
theorem dX3_take_31 : decode cX3_take 31 = .ok (.getfield 84, 3) := by decide +kernel
theorem dX3_take_34 : decode cX3_take 34 = .ok (.aload_n 0, 1) := by decide +kernel
theorem dX3_take_35 : decode cX3_take 35 = .ok (.getfield 24, 3) := by decide +kernel
theorem dX3_take_38 : decode cX3_take 38 = .ok (.iaload, 1) := by decide +kernel
theorem dX3_take_39 : decode cX3_take 39 = .ok (.imul, 1) := by decide +kernel
theorem dX3_take_40 : decode cX3_take 40 = .ok (.iadd, 1) := by decide +kernel
theorem dX3_take_41 : decode cX3_take 41 = .ok (.putfield 28, 3) := by decide +kernel
theorem dX3_take_44 : decode cX3_take 44 = .ok (.goto 34, 3) := by decide +kernel
theorem dX3_take_47 : decode cX3_take 47 = .ok (.aload_n 0, 1) := by decide +kernel
theorem dX3_take_48 : decode cX3_take 48 = .ok (.getfield 28, 3) := by decide +kernel
theorem dX3_take_51 : decode cX3_take 51 = .ok (.ifCond .ne 27, 3) := by decide +kernel
theorem dX3_take_54 : decode cX3_take 54 = .ok (.aload_n 0, 1) := by decide +kernel
theorem dX3_take_55 : decode cX3_take 55 = .ok (.getfield 24, 3) := by decide +kernel
theorem dX3_take_58 : decode cX3_take 58 = .ok (.aload_n 0, 1) := by decide +kernel
theorem dX3_take_59 : decode cX3_take 59 = .ok (.getfield 9, 3) := by decide +kernel
theorem dX3_take_62 : decode cX3_take 62 = .ok (.getfield 81, 3) := by decide +kernel
theorem dX3_take_65 : decode cX3_take 65 = .ok (.if_icmp .ge 13, 3) := by decide +kernel
theorem dX3_take_68 : decode cX3_take 68 = .ok (.aload_n 0, 1) := by decide +kernel
theorem dX3_take_69 : decode cX3_take 69 = .ok (.dup, 1) := by decide +kernel
theorem dX3_take_70 : decode cX3_take 70 = .ok (.getfield 24, 3) := by decide +kernel
theorem dX3_take_73 : decode cX3_take 73 = .ok (.iconst 1, 1) := by decide +kernel
theorem dX3_take_74 : decode cX3_take 74 = .ok (.iadd, 1) := by decide +kernel
theorem dX3_take_75 : decode cX3_take 75 = .ok (.putfield 24, 3) := by decide +kernel
theorem dX3_take_78 : decode cX3_take 78 = .ok (.return_, 1) := by decide +kernel
theorem dX3_refuse_0 : decode cX3_refuse 0 = .ok (.aload_n 0, 1) := by decide +kernel
theorem dX3_refuse_1 : decode cX3_refuse 1 = .ok (.getfield 28, 3) := by decide +kernel
theorem dX3_refuse_4 : decode cX3_refuse 4 = .ok (.ifCond .ne 24, 3) := by decide +kernel
theorem dX3_refuse_7 : decode cX3_refuse 7 = .ok (.aload_n 0, 1) := by decide +kernel
theorem dX3_refuse_8 : decode cX3_refuse 8 = .ok (.iload_n 1, 1) := by decide +kernel
theorem dX3_refuse_9 : decode cX3_refuse 9 = .ok (.bipush 16, 2) := by decide +kernel
theorem dX3_refuse_11 : decode cX3_refuse 11 = .ok (.aload_n 0, 1) := by decide +kernel
theorem dX3_refuse_12 : decode cX3_refuse 12 = .ok (.getfield 9, 3) := by decide +kernel
theorem dX3_refuse_15 : decode cX3_refuse 15 = .ok (.getfield 84, 3) := by decide +kernel
theorem dX3_refuse_18 : decode cX3_refuse 18 = .ok (.aload_n 0, 1) := by decide +kernel
theorem dX3_refuse_19 : decode cX3_refuse 19 = .ok (.getfield 24, 3) := by decide +kernel
theorem dX3_refuse_22 : decode cX3_refuse 22 = .ok (.iaload, 1) := by decide +kernel
theorem dX3_refuse_23 : decode cX3_refuse 23 = .ok (.imul, 1) := by decide +kernel
theorem dX3_refuse_24 : decode cX3_refuse 24 = .ok (.iadd, 1) := by decide +kernel
theorem dX3_refuse_25 : decode cX3_refuse 25 = .ok (.putfield 28, 3) := by decide +kernel
theorem dX3_refuse_28 : decode cX3_refuse 28 = .ok (.return_, 1) := by decide +kernel
theorem dX4_init_0 : decode cX4_init 0 = .ok (.aload_n 0, 1) := by decide +kernel
theorem dX4_init_1 : decode cX4_init 1 = .ok (.invokespecial 1, 3) := by decide +kernel
theorem dX4_init_4 : decode cX4_init 4 = .ok (.aload_n 0, 1) := by decide +kernel
theorem dX4_init_5 : decode cX4_init 5 = .ok (.sipush 600, 3) := by decide +kernel
theorem dX4_init_8 : decode cX4_init 8 = .ok (.newarray .int, 2) := by decide +kernel
theorem dX4_init_10 : decode cX4_init 10 = .ok (.putfield 9, 3) := by decide +kernel
theorem dX4_init_13 : decode cX4_init 13 = .ok (.aload_n 0, 1) := by decide +kernel
theorem dX4_init_14 : decode cX4_init 14 = .ok (.bipush 16, 2) := by decide +kernel
theorem dX4_init_16 : decode cX4_init 16 = .ok (.newarray .int, 2) := by decide +kernel
theorem dX4_init_18 : decode cX4_init 18 = .ok (.putfield 15, 3) := by decide +kernel
theorem dX4_init_21 : decode cX4_init 21 = .ok (.aload_n 0, 1) := by decide +kernel
theorem dX4_init_22 : decode cX4_init 22 = .ok (.bipush 16, 2) := by decide +kernel
theorem dX4_init_24 : decode cX4_init 24 = .ok (.newarray .int, 2) := by decide +kernel
theorem dX4_init_26 : decode cX4_init 26 = .ok (.putfield 18, 3) := by decide +kernel
theorem dX4_init_29 : decode cX4_init 29 = .ok (.aload_n 0, 1) := by decide +kernel
theorem dX4_init_30 : decode cX4_init 30 = .ok (.bipush 16, 2) := by decide +kernel
theorem dX4_init_32 : decode cX4_init 32 = .ok (.newarray .int, 2) := by decide +kernel
theorem dX4_init_34 : decode cX4_init 34 = .ok (.putfield 21, 3) := by decide +kernel
theorem dX4_init_37 : decode cX4_init 37 = .ok (.return_, 1) := by decide +kernel
theorem dX4_clear_0 : decode cX4_clear 0 = .ok (.aload_n 0, 1) := by decide +kernel
theorem dX4_clear_1 : decode cX4_clear 1 = .ok (.iconst 0, 1) := by decide +kernel
theorem dX4_clear_2 : decode cX4_clear 2 = .ok (.putfield 24, 3) := by decide +kernel
theorem dX4_clear_5 : decode cX4_clear 5 = .ok (.aload_n 0, 1) := by decide +kernel
theorem dX4_clear_6 : decode cX4_clear 6 = .ok (.iconst 0, 1) := by decide +kernel
theorem dX4_clear_7 : decode cX4_clear 7 = .ok (.putfield 28, 3) := by decide +kernel
theorem dX4_clear_10 : decode cX4_clear 10 = .ok (.return_, 1) := by decide +kernel
theorem dX4_put_0 : decode cX4_put 0 = .ok (.aload_n 0, 1) := by decide +kernel
theorem dX4_put_1 : decode cX4_put 1 = .ok (.getfield 24, 3) := by decide +kernel
theorem dX4_put_4 : decode cX4_put 4 = .ok (.aload_n 0, 1) := by decide +kernel
theorem dX4_put_5 : decode cX4_put 5 = .ok (.getfield 9, 3) := by decide +kernel
theorem dX4_put_8 : decode cX4_put 8 = .ok (.arraylength, 1) := by decide +kernel
theorem dX4_put_9 : decode cX4_put 9 = .ok (.if_icmp .ge 23, 3) := by decide +kernel
theorem dX4_put_12 : decode cX4_put 12 = .ok (.aload_n 0, 1) := by decide +kernel
theorem dX4_put_13 : decode cX4_put 13 = .ok (.getfield 9, 3) := by decide +kernel
theorem dX4_put_16 : decode cX4_put 16 = .ok (.aload_n 0, 1) := by decide +kernel
theorem dX4_put_17 : decode cX4_put 17 = .ok (.getfield 24, 3) := by decide +kernel
theorem dX4_put_20 : decode cX4_put 20 = .ok (.iload_n 1, 1) := by decide +kernel
theorem dX4_put_21 : decode cX4_put 21 = .ok (.iastore, 1) := by decide +kernel
theorem dX4_put_22 : decode cX4_put 22 = .ok (.aload_n 0, 1) := by decide +kernel
theorem dX4_put_23 : decode cX4_put 23 = .ok (.dup, 1) := by decide +kernel
theorem dX4_put_24 : decode cX4_put 24 = .ok (.getfield 24, 3) := by decide +kernel
theorem dX4_put_27 : decode cX4_put 27 = .ok (.iconst 1, 1) := by decide +kernel
theorem dX4_put_28 : decode cX4_put 28 = .ok (.iadd, 1) := by decide +kernel
theorem dX4_put_29 : decode cX4_put 29 = .ok (.putfield 24, 3) := by decide +kernel
theorem dX4_put_32 : decode cX4_put 32 = .ok (.return_, 1) := by decide +kernel
theorem dX4_endLine_0 : decode cX4_endLine 0 = .ok (.aload_n 0, 1) := by decide +kernel
theorem dX4_endLine_1 : decode cX4_endLine 1 = .ok (.getfield 28, 3) := by decide +kernel
theorem dX4_endLine_4 : decode cX4_endLine 4 = .ok (.bipush 16, 2) := by decide +kernel
theorem dX4_endLine_6 : decode cX4_endLine 6 = .ok (.if_icmp .ge 36, 3) := by decide +kernel
theorem dX4_endLine_9 : decode cX4_endLine 9 = .ok (.aload_n 0, 1) := by decide +kernel
theorem dX4_endLine_10 : decode cX4_endLine 10 = .ok (.getfield 15, 3) := by decide +kernel
theorem dX4_endLine_13 : decode cX4_endLine 13 = .ok (.aload_n 0, 1) := by decide +kernel
theorem dX4_endLine_14 : decode cX4_endLine 14 = .ok (.getfield 28, 3) := by decide +kernel
theorem dX4_endLine_17 : decode cX4_endLine 17 = .ok (.aload_n 0, 1) := by decide +kernel
theorem dX4_endLine_18 : decode cX4_endLine 18 = .ok (.getfield 24, 3) := by decide +kernel
theorem dX4_endLine_21 : decode cX4_endLine 21 = .ok (.iastore, 1) := by decide +kernel
theorem dX4_endLine_22 : decode cX4_endLine 22 = .ok (.aload_n 0, 1) := by decide +kernel
theorem dX4_endLine_23 : decode cX4_endLine 23 = .ok (.getfield 18, 3) := by decide +kernel
theorem dX4_endLine_26 : decode cX4_endLine 26 = .ok (.aload_n 0, 1) := by decide +kernel
theorem dX4_endLine_27 : decode cX4_endLine 27 = .ok (.getfield 28, 3) := by decide +kernel
theorem dX4_endLine_30 : decode cX4_endLine 30 = .ok (.iload_n 1, 1) := by decide +kernel
theorem dX4_endLine_31 : decode cX4_endLine 31 = .ok (.iastore, 1) := by decide +kernel
theorem dX4_endLine_32 : decode cX4_endLine 32 = .ok (.aload_n 0, 1) := by decide +kernel
theorem dX4_endLine_33 : decode cX4_endLine 33 = .ok (.dup, 1) := by decide +kernel
theorem dX4_endLine_34 : decode cX4_endLine 34 = .ok (.getfield 28, 3) := by decide +kernel
theorem dX4_endLine_37 : decode cX4_endLine 37 = .ok (.iconst 1, 1) := by decide +kernel
theorem dX4_endLine_38 : decode cX4_endLine 38 = .ok (.iadd, 1) := by decide +kernel
theorem dX4_endLine_39 : decode cX4_endLine 39 = .ok (.putfield 28, 3) := by decide +kernel
theorem dX4_endLine_42 : decode cX4_endLine 42 = .ok (.return_, 1) := by decide +kernel
theorem dX4_shut_0 : decode cX4_shut 0 = .ok (.iconst 0, 1) := by decide +kernel
theorem dX4_shut_1 : decode cX4_shut 1 = .ok (.istore_n 3, 1) := by decide +kernel
theorem dX4_shut_2 : decode cX4_shut 2 = .ok (.iconst 0, 1) := by decide +kernel
theorem dX4_shut_3 : decode cX4_shut 3 = .ok (.istore 4, 2) := by decide +kernel
theorem dX4_shut_5 : decode cX4_shut 5 = .ok (.iload 4, 2) := by decide +kernel
theorem dX4_shut_7 : decode cX4_shut 7 = .ok (.aload_n 0, 1) := by decide +kernel
theorem dX4_shut_8 : decode cX4_shut 8 = .ok (.getfield 28, 3) := by decide +kernel
theorem dX4_shut_11 : decode cX4_shut 11 = .ok (.if_icmp .ge 69, 3) := by decide +kernel
theorem dX4_shut_14 : decode cX4_shut 14 = .ok (.aload_n 0, 1) := by decide +kernel
theorem dX4_shut_15 : decode cX4_shut 15 = .ok (.getfield 18, 3) := by decide +kernel
theorem dX4_shut_18 : decode cX4_shut 18 = .ok (.iload 4, 2) := by decide +kernel
theorem dX4_shut_20 : decode cX4_shut 20 = .ok (.iaload, 1) := by decide +kernel
theorem dX4_shut_21 : decode cX4_shut 21 = .ok (.iconst (-1), 1) := by decide +kernel
theorem dX4_shut_22 : decode cX4_shut 22 = .ok (.if_icmp .eq 14, 3) := by decide +kernel
theorem dX4_shut_25 : decode cX4_shut 25 = .ok (.aload_n 0, 1) := by decide +kernel
theorem dX4_shut_26 : decode cX4_shut 26 = .ok (.getfield 18, 3) := by decide +kernel
theorem dX4_shut_29 : decode cX4_shut 29 = .ok (.iload 4, 2) := by decide +kernel
theorem dX4_shut_31 : decode cX4_shut 31 = .ok (.iaload, 1) := by decide +kernel
theorem dX4_shut_32 : decode cX4_shut 32 = .ok (.iload_n 1, 1) := by decide +kernel
theorem dX4_shut_33 : decode cX4_shut 33 = .ok (.if_icmp .ne 7, 3) := by decide +kernel
theorem dX4_shut_36 : decode cX4_shut 36 = .ok (.iconst 1, 1) := by decide +kernel
theorem dX4_shut_37 : decode cX4_shut 37 = .ok (.goto 4, 3) := by decide +kernel
theorem dX4_shut_40 : decode cX4_shut 40 = .ok (.iconst 0, 1) := by decide +kernel
theorem dX4_shut_41 : decode cX4_shut 41 = .ok (.istore 5, 2) := by decide +kernel
theorem dX4_shut_43 : decode cX4_shut 43 = .ok (.iload 5, 2) := by decide +kernel
theorem dX4_shut_45 : decode cX4_shut 45 = .ok (.ifCond .eq 21, 3) := by decide +kernel
theorem dX4_shut_48 : decode cX4_shut 48 = .ok (.aload_n 0, 1) := by decide +kernel
theorem dX4_shut_49 : decode cX4_shut 49 = .ok (.iload_n 3, 1) := by decide +kernel
theorem dX4_shut_50 : decode cX4_shut 50 = .ok (.aload_n 0, 1) := by decide +kernel
theorem dX4_shut_51 : decode cX4_shut 51 = .ok (.getfield 15, 3) := by decide +kernel
theorem dX4_shut_54 : decode cX4_shut 54 = .ok (.iload 4, 2) := by decide +kernel
theorem dX4_shut_56 : decode cX4_shut 56 = .ok (.iaload, 1) := by decide +kernel
theorem dX4_shut_57 : decode cX4_shut 57 = .ok (.aload_n 2, 1) := by decide +kernel
theorem dX4_shut_58 : decode cX4_shut 58 = .ok (.invokevirtual 31, 3) := by decide +kernel
theorem dX4_shut_61 : decode cX4_shut 61 = .ok (.ifCond .eq 5, 3) := by decide +kernel
theorem dX4_shut_64 : decode cX4_shut 64 = .ok (.iconst 1, 1) := by decide +kernel
theorem dX4_shut_65 : decode cX4_shut 65 = .ok (.ireturn, 1) := by decide +kernel
theorem dX4_shut_66 : decode cX4_shut 66 = .ok (.aload_n 0, 1) := by decide +kernel
theorem dX4_shut_67 : decode cX4_shut 67 = .ok (.getfield 15, 3) := by decide +kernel
theorem dX4_shut_70 : decode cX4_shut 70 = .ok (.iload 4, 2) := by decide +kernel
theorem dX4_shut_72 : decode cX4_shut 72 = .ok (.iaload, 1) := by decide +kernel
theorem dX4_shut_73 : decode cX4_shut 73 = .ok (.istore_n 3, 1) := by decide +kernel
theorem dX4_shut_74 : decode cX4_shut 74 = .ok (.iinc 4 1, 3) := by decide +kernel
theorem dX4_shut_77 : decode cX4_shut 77 = .ok (.goto (-72), 3) := by decide +kernel
theorem dX4_shut_80 : decode cX4_shut 80 = .ok (.iconst 0, 1) := by decide +kernel
theorem dX4_shut_81 : decode cX4_shut 81 = .ok (.ireturn, 1) := by decide +kernel
theorem dX4_worth_0 : decode cX4_worth 0 = .ok (.aload_n 0, 1) := by decide +kernel
theorem dX4_worth_1 : decode cX4_worth 1 = .ok (.iconst 0, 1) := by decide +kernel
theorem dX4_worth_2 : decode cX4_worth 2 = .ok (.putfield 35, 3) := by decide +kernel
theorem dX4_worth_5 : decode cX4_worth 5 = .ok (.iload_n 1, 1) := by decide +kernel
theorem dX4_worth_6 : decode cX4_worth 6 = .ok (.istore 4, 2) := by decide +kernel
theorem dX4_worth_8 : decode cX4_worth 8 = .ok (.iload 4, 2) := by decide +kernel
theorem dX4_worth_10 : decode cX4_worth 10 = .ok (.iload_n 2, 1) := by decide +kernel
theorem dX4_worth_11 : decode cX4_worth 11 = .ok (.if_icmp .ge 112, 3) := by decide +kernel
theorem dX4_worth_14 : decode cX4_worth 14 = .ok (.iload 4, 2) := by decide +kernel
theorem dX4_worth_16 : decode cX4_worth 16 = .ok (.aload_n 0, 1) := by decide +kernel
theorem dX4_worth_17 : decode cX4_worth 17 = .ok (.getfield 9, 3) := by decide +kernel
theorem dX4_worth_20 : decode cX4_worth 20 = .ok (.arraylength, 1) := by decide +kernel
theorem dX4_worth_21 : decode cX4_worth 21 = .ok (.if_icmp .ge 102, 3) := by decide +kernel
theorem dX4_worth_24 : decode cX4_worth 24 = .ok (.aload_n 0, 1) := by decide +kernel
theorem dX4_worth_25 : decode cX4_worth 25 = .ok (.getfield 9, 3) := by decide +kernel
theorem dX4_worth_28 : decode cX4_worth 28 = .ok (.iload 4, 2) := by decide +kernel
theorem dX4_worth_30 : decode cX4_worth 30 = .ok (.iaload, 1) := by decide +kernel
theorem dX4_worth_31 : decode cX4_worth 31 = .ok (.istore 5, 2) := by decide +kernel
theorem dX4_worth_33 : decode cX4_worth 33 = .ok (.iload 5, 2) := by decide +kernel
theorem dX4_worth_35 : decode cX4_worth 35 = .ok (.sipush 10000, 3) := by decide +kernel
theorem dX4_worth_38 : decode cX4_worth 38 = .ok (.if_icmp .ge 12, 3) := by decide +kernel
theorem dX4_worth_41 : decode cX4_worth 41 = .ok (.aload_n 0, 1) := by decide +kernel
theorem dX4_worth_42 : decode cX4_worth 42 = .ok (.iload 5, 2) := by decide +kernel
theorem dX4_worth_44 : decode cX4_worth 44 = .ok (.invokevirtual 38, 3) := by decide +kernel
theorem dX4_worth_47 : decode cX4_worth 47 = .ok (.goto 70, 3) := by decide +kernel
theorem dX4_worth_50 : decode cX4_worth 50 = .ok (.iload 5, 2) := by decide +kernel
theorem dX4_worth_52 : decode cX4_worth 52 = .ok (.sipush 20000, 3) := by decide +kernel
theorem dX4_worth_55 : decode cX4_worth 55 = .ok (.if_icmp .ge 33, 3) := by decide +kernel
theorem dX4_worth_58 : decode cX4_worth 58 = .ok (.iload 5, 2) := by decide +kernel
theorem dX4_worth_60 : decode cX4_worth 60 = .ok (.sipush 10000, 3) := by decide +kernel
theorem dX4_worth_63 : decode cX4_worth 63 = .ok (.isub, 1) := by decide +kernel
theorem dX4_worth_64 : decode cX4_worth 64 = .ok (.istore 6, 2) := by decide +kernel
theorem dX4_worth_66 : decode cX4_worth 66 = .ok (.aload_n 0, 1) := by decide +kernel
theorem dX4_worth_67 : decode cX4_worth 67 = .ok (.iload 6, 2) := by decide +kernel
theorem dX4_worth_69 : decode cX4_worth 69 = .ok (.aload_n 3, 1) := by decide +kernel
theorem dX4_worth_70 : decode cX4_worth 70 = .ok (.arraylength, 1) := by decide +kernel
theorem dX4_worth_71 : decode cX4_worth 71 = .ok (.if_icmp .ge 10, 3) := by decide +kernel
theorem dX4_worth_74 : decode cX4_worth 74 = .ok (.aload_n 3, 1) := by decide +kernel
theorem dX4_worth_75 : decode cX4_worth 75 = .ok (.iload 6, 2) := by decide +kernel
theorem dX4_worth_77 : decode cX4_worth 77 = .ok (.iaload, 1) := by decide +kernel
theorem dX4_worth_78 : decode cX4_worth 78 = .ok (.goto 4, 3) := by decide +kernel
theorem dX4_worth_81 : decode cX4_worth 81 = .ok (.iconst 0, 1) := by decide +kernel
theorem dX4_worth_82 : decode cX4_worth 82 = .ok (.invokevirtual 38, 3) := by decide +kernel
theorem dX4_worth_85 : decode cX4_worth 85 = .ok (.goto 32, 3) := by decide +kernel
theorem dX4_worth_88 : decode cX4_worth 88 = .ok (.aload_n 0, 1) := by decide +kernel
theorem dX4_worth_89 : decode cX4_worth 89 = .ok (.invokevirtual 42, 3) := by decide +kernel
theorem dX4_worth_92 : decode cX4_worth 92 = .ok (.istore 6, 2) := by decide +kernel
theorem dX4_worth_94 : decode cX4_worth 94 = .ok (.aload_n 0, 1) := by decide +kernel
theorem dX4_worth_95 : decode cX4_worth 95 = .ok (.invokevirtual 42, 3) := by decide +kernel
theorem dX4_worth_98 : decode cX4_worth 98 = .ok (.istore 7, 2) := by decide +kernel
theorem dX4_worth_100 : decode cX4_worth 100 = .ok (.aload_n 0, 1) := by decide +kernel
theorem dX4_worth_101 : decode cX4_worth 101 = .ok (.iload 5, 2) := by decide +kernel
theorem dX4_worth_103 : decode cX4_worth 103 = .ok (.sipush 20000, 3) := by decide +kernel
theorem dX4_worth_106 : decode cX4_worth 106 = .ok (.isub, 1) := by decide +kernel
theorem dX4_worth_107 : decode cX4_worth 107 = .ok (.iload 7, 2) := by decide +kernel
theorem dX4_worth_109 : decode cX4_worth 109 = .ok (.iload 6, 2) := by decide +kernel
theorem dX4_worth_111 : decode cX4_worth 111 = .ok (.invokestatic 46, 3) := by decide +kernel
theorem dX4_worth_114 : decode cX4_worth 114 = .ok (.invokevirtual 38, 3) := by decide +kernel
theorem dX4_worth_117 : decode cX4_worth 117 = .ok (.iinc 4 1, 3) := by decide +kernel
theorem dX4_worth_120 : decode cX4_worth 120 = .ok (.goto (-112), 3) := by decide +kernel
theorem dX4_worth_123 : decode cX4_worth 123 = .ok (.aload_n 0, 1) := by decide +kernel
theorem dX4_worth_124 : decode cX4_worth 124 = .ok (.invokevirtual 42, 3) := by decide +kernel
theorem dX4_worth_127 : decode cX4_worth 127 = .ok (.ireturn, 1) := by decide +kernel
theorem dX4_push_0 : decode cX4_push 0 = .ok (.aload_n 0, 1) := by decide +kernel
theorem dX4_push_1 : decode cX4_push 1 = .ok (.getfield 35, 3) := by decide +kernel
theorem dX4_push_4 : decode cX4_push 4 = .ok (.aload_n 0, 1) := by decide +kernel
theorem dX4_push_5 : decode cX4_push 5 = .ok (.getfield 21, 3) := by decide +kernel
theorem dX4_push_8 : decode cX4_push 8 = .ok (.arraylength, 1) := by decide +kernel
theorem dX4_push_9 : decode cX4_push 9 = .ok (.if_icmp .ge 23, 3) := by decide +kernel
theorem dX4_push_12 : decode cX4_push 12 = .ok (.aload_n 0, 1) := by decide +kernel
theorem dX4_push_13 : decode cX4_push 13 = .ok (.getfield 21, 3) := by decide +kernel
theorem dX4_push_16 : decode cX4_push 16 = .ok (.aload_n 0, 1) := by decide +kernel
theorem dX4_push_17 : decode cX4_push 17 = .ok (.getfield 35, 3) := by decide +kernel
theorem dX4_push_20 : decode cX4_push 20 = .ok (.iload_n 1, 1) := by decide +kernel
theorem dX4_push_21 : decode cX4_push 21 = .ok (.iastore, 1) := by decide +kernel
theorem dX4_push_22 : decode cX4_push 22 = .ok (.aload_n 0, 1) := by decide +kernel
theorem dX4_push_23 : decode cX4_push 23 = .ok (.dup, 1) := by decide +kernel
theorem dX4_push_24 : decode cX4_push 24 = .ok (.getfield 35, 3) := by decide +kernel
theorem dX4_push_27 : decode cX4_push 27 = .ok (.iconst 1, 1) := by decide +kernel
theorem dX4_push_28 : decode cX4_push 28 = .ok (.iadd, 1) := by decide +kernel
theorem dX4_push_29 : decode cX4_push 29 = .ok (.putfield 35, 3) := by decide +kernel
theorem dX4_push_32 : decode cX4_push 32 = .ok (.return_, 1) := by decide +kernel
theorem dX4_pop_0 : decode cX4_pop 0 = .ok (.aload_n 0, 1) := by decide +kernel
theorem dX4_pop_1 : decode cX4_pop 1 = .ok (.getfield 35, 3) := by decide +kernel
theorem dX4_pop_4 : decode cX4_pop 4 = .ok (.ifCond .ne 5, 3) := by decide +kernel
theorem dX4_pop_7 : decode cX4_pop 7 = .ok (.iconst 0, 1) := by decide +kernel
theorem dX4_pop_8 : decode cX4_pop 8 = .ok (.ireturn, 1) := by decide +kernel
theorem dX4_pop_9 : decode cX4_pop 9 = .ok (.aload_n 0, 1) := by decide +kernel
theorem dX4_pop_10 : decode cX4_pop 10 = .ok (.dup, 1) := by decide +kernel
theorem dX4_pop_11 : decode cX4_pop 11 = .ok (.getfield 35, 3) := by decide +kernel
theorem dX4_pop_14 : decode cX4_pop 14 = .ok (.iconst 1, 1) := by decide +kernel
theorem dX4_pop_15 : decode cX4_pop 15 = .ok (.isub, 1) := by decide +kernel
theorem dX4_pop_16 : decode cX4_pop 16 = .ok (.putfield 35, 3) := by decide +kernel
theorem dX4_pop_19 : decode cX4_pop 19 = .ok (.aload_n 0, 1) := by decide +kernel
theorem dX4_pop_20 : decode cX4_pop 20 = .ok (.getfield 21, 3) := by decide +kernel
theorem dX4_pop_23 : decode cX4_pop 23 = .ok (.aload_n 0, 1) := by decide +kernel
theorem dX4_pop_24 : decode cX4_pop 24 = .ok (.getfield 35, 3) := by decide +kernel
theorem dX4_pop_27 : decode cX4_pop 27 = .ok (.iaload, 1) := by decide +kernel
theorem dX4_pop_28 : decode cX4_pop 28 = .ok (.ireturn, 1) := by decide +kernel
theorem dX4_join_0 : decode cX4_join 0 = .ok (.iload_n 0, 1) := by decide +kernel
theorem dX4_join_1 : decode cX4_join 1 = .ok (.lookupswitch 73 #[(43, 43), (45, 47), (60, 51), (61, 62)], 43) := by decide +kernel
theorem dX4_join_44 : decode cX4_join 44 = .ok (.iload_n 1, 1) := by decide +kernel
theorem dX4_join_45 : decode cX4_join 45 = .ok (.iload_n 2, 1) := by decide +kernel
theorem dX4_join_46 : decode cX4_join 46 = .ok (.iadd, 1) := by decide +kernel
theorem dX4_join_47 : decode cX4_join 47 = .ok (.ireturn, 1) := by decide +kernel
theorem dX4_join_48 : decode cX4_join 48 = .ok (.iload_n 1, 1) := by decide +kernel
theorem dX4_join_49 : decode cX4_join 49 = .ok (.iload_n 2, 1) := by decide +kernel
theorem dX4_join_50 : decode cX4_join 50 = .ok (.isub, 1) := by decide +kernel
theorem dX4_join_51 : decode cX4_join 51 = .ok (.ireturn, 1) := by decide +kernel
theorem dX4_join_52 : decode cX4_join 52 = .ok (.iload_n 1, 1) := by decide +kernel
theorem dX4_join_53 : decode cX4_join 53 = .ok (.iload_n 2, 1) := by decide +kernel
theorem dX4_join_54 : decode cX4_join 54 = .ok (.if_icmp .ge 7, 3) := by decide +kernel
theorem dX4_join_57 : decode cX4_join 57 = .ok (.iconst 1, 1) := by decide +kernel
theorem dX4_join_58 : decode cX4_join 58 = .ok (.goto 4, 3) := by decide +kernel
theorem dX4_join_61 : decode cX4_join 61 = .ok (.iconst 0, 1) := by decide +kernel
theorem dX4_join_62 : decode cX4_join 62 = .ok (.ireturn, 1) := by decide +kernel
theorem dX4_join_63 : decode cX4_join 63 = .ok (.iload_n 1, 1) := by decide +kernel
theorem dX4_join_64 : decode cX4_join 64 = .ok (.iload_n 2, 1) := by decide +kernel
theorem dX4_join_65 : decode cX4_join 65 = .ok (.if_icmp .ne 7, 3) := by decide +kernel
theorem dX4_join_68 : decode cX4_join 68 = .ok (.iconst 1, 1) := by decide +kernel
theorem dX4_join_69 : decode cX4_join 69 = .ok (.goto 4, 3) := by decide +kernel
theorem dX4_join_72 : decode cX4_join 72 = .ok (.iconst 0, 1) := by decide +kernel
theorem dX4_join_73 : decode cX4_join 73 = .ok (.ireturn, 1) := by decide +kernel
theorem dX4_join_74 : decode cX4_join 74 = .ok (.iload_n 1, 1) := by decide +kernel
theorem dX4_join_75 : decode cX4_join 75 = .ok (.ifCond .eq 11, 3) := by decide +kernel
theorem dX4_join_78 : decode cX4_join 78 = .ok (.iload_n 2, 1) := by decide +kernel
theorem dX4_join_79 : decode cX4_join 79 = .ok (.ifCond .eq 7, 3) := by decide +kernel
theorem dX4_join_82 : decode cX4_join 82 = .ok (.iconst 1, 1) := by decide +kernel
theorem dX4_join_83 : decode cX4_join 83 = .ok (.goto 4, 3) := by decide +kernel
theorem dX4_join_86 : decode cX4_join 86 = .ok (.iconst 0, 1) := by decide +kernel
theorem dX4_join_87 : decode cX4_join 87 = .ok (.ireturn, 1) := by decide +kernel
theorem dX5_init_0 : decode cX5_init 0 = .ok (.aload_n 0, 1) := by decide +kernel
theorem dX5_init_1 : decode cX5_init 1 = .ok (.invokespecial 1, 3) := by decide +kernel
theorem dX5_init_4 : decode cX5_init 4 = .ok (.aload_n 0, 1) := by decide +kernel
theorem dX5_init_5 : decode cX5_init 5 = .ok (.sipush 600, 3) := by decide +kernel
theorem dX5_init_8 : decode cX5_init 8 = .ok (.newarray .char, 2) := by decide +kernel
theorem dX5_init_10 : decode cX5_init 10 = .ok (.putfield 9, 3) := by decide +kernel
theorem dX5_init_13 : decode cX5_init 13 = .ok (.return_, 1) := by decide +kernel
theorem dX5_addBytes_0 : decode cX5_addBytes 0 = .ok (.bipush 56, 2) := by decide +kernel
theorem dX5_addBytes_2 : decode cX5_addBytes 2 = .ok (.istore_n 3, 1) := by decide +kernel
theorem dX5_addBytes_3 : decode cX5_addBytes 3 = .ok (.iload_n 3, 1) := by decide +kernel
theorem dX5_addBytes_4 : decode cX5_addBytes 4 = .ok (.ifCond .lt 84, 3) := by decide +kernel
theorem dX5_addBytes_7 : decode cX5_addBytes 7 = .ok (.lload_n 1, 1) := by decide +kernel
theorem dX5_addBytes_8 : decode cX5_addBytes 8 = .ok (.iload_n 3, 1) := by decide +kernel
theorem dX5_addBytes_9 : decode cX5_addBytes 9 = .ok (.lushr, 1) := by decide +kernel
theorem dX5_addBytes_10 : decode cX5_addBytes 10 = .ok (.ldc2_w 13, 3) := by decide +kernel
theorem dX5_addBytes_13 : decode cX5_addBytes 13 = .ok (.land, 1) := by decide +kernel
theorem dX5_addBytes_14 : decode cX5_addBytes 14 = .ok (.l2i, 1) := by decide +kernel
theorem dX5_addBytes_15 : decode cX5_addBytes 15 = .ok (.istore 4, 2) := by decide +kernel
theorem dX5_addBytes_17 : decode cX5_addBytes 17 = .ok (.iload 4, 2) := by decide +kernel
theorem dX5_addBytes_19 : decode cX5_addBytes 19 = .ok (.bipush 10, 2) := by decide +kernel
theorem dX5_addBytes_21 : decode cX5_addBytes 21 = .ok (.if_icmp .eq 17, 3) := by decide +kernel
theorem dX5_addBytes_24 : decode cX5_addBytes 24 = .ok (.iload 4, 2) := by decide +kernel
theorem dX5_addBytes_26 : decode cX5_addBytes 26 = .ok (.bipush 32, 2) := by decide +kernel
theorem dX5_addBytes_28 : decode cX5_addBytes 28 = .ok (.if_icmp .lt 14, 3) := by decide +kernel
theorem dX5_addBytes_31 : decode cX5_addBytes 31 = .ok (.iload 4, 2) := by decide +kernel
theorem dX5_addBytes_33 : decode cX5_addBytes 33 = .ok (.bipush 126, 2) := by decide +kernel
theorem dX5_addBytes_35 : decode cX5_addBytes 35 = .ok (.if_icmp .gt 7, 3) := by decide +kernel
theorem dX5_addBytes_38 : decode cX5_addBytes 38 = .ok (.iconst 1, 1) := by decide +kernel
theorem dX5_addBytes_39 : decode cX5_addBytes 39 = .ok (.goto 4, 3) := by decide +kernel
theorem dX5_addBytes_42 : decode cX5_addBytes 42 = .ok (.iconst 0, 1) := by decide +kernel
theorem dX5_addBytes_43 : decode cX5_addBytes 43 = .ok (.istore 5, 2) := by decide +kernel
theorem dX5_addBytes_45 : decode cX5_addBytes 45 = .ok (.iload 5, 2) := by decide +kernel
theorem dX5_addBytes_47 : decode cX5_addBytes 47 = .ok (.ifCond .eq 35, 3) := by decide +kernel
theorem dX5_addBytes_50 : decode cX5_addBytes 50 = .ok (.aload_n 0, 1) := by decide +kernel
theorem dX5_addBytes_51 : decode cX5_addBytes 51 = .ok (.getfield 15, 3) := by decide +kernel
theorem dX5_addBytes_54 : decode cX5_addBytes 54 = .ok (.sipush 600, 3) := by decide +kernel
theorem dX5_addBytes_57 : decode cX5_addBytes 57 = .ok (.if_icmp .ge 25, 3) := by decide +kernel
theorem dX5_addBytes_60 : decode cX5_addBytes 60 = .ok (.aload_n 0, 1) := by decide +kernel
theorem dX5_addBytes_61 : decode cX5_addBytes 61 = .ok (.getfield 9, 3) := by decide +kernel
theorem dX5_addBytes_64 : decode cX5_addBytes 64 = .ok (.aload_n 0, 1) := by decide +kernel
theorem dX5_addBytes_65 : decode cX5_addBytes 65 = .ok (.getfield 15, 3) := by decide +kernel
theorem dX5_addBytes_68 : decode cX5_addBytes 68 = .ok (.iload 4, 2) := by decide +kernel
theorem dX5_addBytes_70 : decode cX5_addBytes 70 = .ok (.i2c, 1) := by decide +kernel
theorem dX5_addBytes_71 : decode cX5_addBytes 71 = .ok (.castore, 1) := by decide +kernel
theorem dX5_addBytes_72 : decode cX5_addBytes 72 = .ok (.aload_n 0, 1) := by decide +kernel
theorem dX5_addBytes_73 : decode cX5_addBytes 73 = .ok (.dup, 1) := by decide +kernel
theorem dX5_addBytes_74 : decode cX5_addBytes 74 = .ok (.getfield 15, 3) := by decide +kernel
theorem dX5_addBytes_77 : decode cX5_addBytes 77 = .ok (.iconst 1, 1) := by decide +kernel
theorem dX5_addBytes_78 : decode cX5_addBytes 78 = .ok (.iadd, 1) := by decide +kernel
theorem dX5_addBytes_79 : decode cX5_addBytes 79 = .ok (.putfield 15, 3) := by decide +kernel
theorem dX5_addBytes_82 : decode cX5_addBytes 82 = .ok (.iinc 3 (-8), 3) := by decide +kernel
theorem dX5_addBytes_85 : decode cX5_addBytes 85 = .ok (.goto (-82), 3) := by decide +kernel
theorem dX5_addBytes_88 : decode cX5_addBytes 88 = .ok (.return_, 1) := by decide +kernel
theorem dX6_init_0 : decode cX6_init 0 = .ok (.aload_n 0, 1) := by decide +kernel
theorem dX6_init_1 : decode cX6_init 1 = .ok (.invokespecial 3, 3) := by decide +kernel
theorem dX6_init_4 : decode cX6_init 4 = .ok (.aload_n 0, 1) := by decide +kernel
theorem dX6_init_5 : decode cX6_init 5 = .ok (.sipush 601, 3) := by decide +kernel
theorem dX6_init_8 : decode cX6_init 8 = .ok (.newarray .int, 2) := by decide +kernel
theorem dX6_init_10 : decode cX6_init 10 = .ok (.putfield 11, 3) := by decide +kernel
theorem dX6_init_13 : decode cX6_init 13 = .ok (.aload_n 0, 1) := by decide +kernel
theorem dX6_init_14 : decode cX6_init 14 = .ok (.sipush 601, 3) := by decide +kernel
theorem dX6_init_17 : decode cX6_init 17 = .ok (.newarray .int, 2) := by decide +kernel
theorem dX6_init_19 : decode cX6_init 19 = .ok (.putfield 15, 3) := by decide +kernel
theorem dX6_init_22 : decode cX6_init 22 = .ok (.aload_n 0, 1) := by decide +kernel
theorem dX6_init_23 : decode cX6_init 23 = .ok (.sipush 601, 3) := by decide +kernel
theorem dX6_init_26 : decode cX6_init 26 = .ok (.newarray .int, 2) := by decide +kernel
theorem dX6_init_28 : decode cX6_init 28 = .ok (.putfield 18, 3) := by decide +kernel
theorem dX6_init_31 : decode cX6_init 31 = .ok (.return_, 1) := by decide +kernel
theorem dX6_cut_0 : decode cX6_cut 0 = .ok (.iconst 0, 1) := by decide +kernel
theorem dX6_cut_1 : decode cX6_cut 1 = .ok (.istore_n 2, 1) := by decide +kernel
theorem dX6_cut_2 : decode cX6_cut 2 = .ok (.iconst 0, 1) := by decide +kernel
theorem dX6_cut_3 : decode cX6_cut 3 = .ok (.istore_n 3, 1) := by decide +kernel
theorem dX6_cut_4 : decode cX6_cut 4 = .ok (.aload_n 0, 1) := by decide +kernel
theorem dX6_cut_5 : decode cX6_cut 5 = .ok (.iconst 0, 1) := by decide +kernel
theorem dX6_cut_6 : decode cX6_cut 6 = .ok (.putfield 21, 3) := by decide +kernel
theorem dX6_cut_9 : decode cX6_cut 9 = .ok (.iconst 0, 1) := by decide +kernel
theorem dX6_cut_10 : decode cX6_cut 10 = .ok (.istore 4, 2) := by decide +kernel
theorem dX6_cut_12 : decode cX6_cut 12 = .ok (.iload 4, 2) := by decide +kernel
theorem dX6_cut_14 : decode cX6_cut 14 = .ok (.aload_n 1, 1) := by decide +kernel
theorem dX6_cut_15 : decode cX6_cut 15 = .ok (.getfield 25, 3) := by decide +kernel
theorem dX6_cut_18 : decode cX6_cut 18 = .ok (.if_icmp .ge 48, 3) := by decide +kernel
theorem dX6_cut_21 : decode cX6_cut 21 = .ok (.aload_n 1, 1) := by decide +kernel
theorem dX6_cut_22 : decode cX6_cut 22 = .ok (.getfield 26, 3) := by decide +kernel
theorem dX6_cut_25 : decode cX6_cut 25 = .ok (.iload 4, 2) := by decide +kernel
theorem dX6_cut_27 : decode cX6_cut 27 = .ok (.caload, 1) := by decide +kernel
theorem dX6_cut_28 : decode cX6_cut 28 = .ok (.invokestatic 30, 3) := by decide +kernel
theorem dX6_cut_31 : decode cX6_cut 31 = .ok (.istore 5, 2) := by decide +kernel
theorem dX6_cut_33 : decode cX6_cut 33 = .ok (.iload 5, 2) := by decide +kernel
theorem dX6_cut_35 : decode cX6_cut 35 = .ok (.iload_n 3, 1) := by decide +kernel
theorem dX6_cut_36 : decode cX6_cut 36 = .ok (.if_icmp .ne 9, 3) := by decide +kernel
theorem dX6_cut_39 : decode cX6_cut 39 = .ok (.iload 5, 2) := by decide +kernel
theorem dX6_cut_41 : decode cX6_cut 41 = .ok (.iconst 3, 1) := by decide +kernel
theorem dX6_cut_42 : decode cX6_cut 42 = .ok (.if_icmp .ne 15, 3) := by decide +kernel
theorem dX6_cut_45 : decode cX6_cut 45 = .ok (.aload_n 0, 1) := by decide +kernel
theorem dX6_cut_46 : decode cX6_cut 46 = .ok (.aload_n 1, 1) := by decide +kernel
theorem dX6_cut_47 : decode cX6_cut 47 = .ok (.iload_n 3, 1) := by decide +kernel
theorem dX6_cut_48 : decode cX6_cut 48 = .ok (.iload_n 2, 1) := by decide +kernel
theorem dX6_cut_49 : decode cX6_cut 49 = .ok (.iload 4, 2) := by decide +kernel
theorem dX6_cut_51 : decode cX6_cut 51 = .ok (.invokevirtual 34, 3) := by decide +kernel
theorem dX6_cut_54 : decode cX6_cut 54 = .ok (.iload 4, 2) := by decide +kernel
theorem dX6_cut_56 : decode cX6_cut 56 = .ok (.istore_n 2, 1) := by decide +kernel
theorem dX6_cut_57 : decode cX6_cut 57 = .ok (.iload 5, 2) := by decide +kernel
theorem dX6_cut_59 : decode cX6_cut 59 = .ok (.istore_n 3, 1) := by decide +kernel
theorem dX6_cut_60 : decode cX6_cut 60 = .ok (.iinc 4 1, 3) := by decide +kernel
theorem dX6_cut_63 : decode cX6_cut 63 = .ok (.goto (-51), 3) := by decide +kernel
theorem dX6_cut_66 : decode cX6_cut 66 = .ok (.aload_n 0, 1) := by decide +kernel
theorem dX6_cut_67 : decode cX6_cut 67 = .ok (.aload_n 1, 1) := by decide +kernel
theorem dX6_cut_68 : decode cX6_cut 68 = .ok (.iload_n 3, 1) := by decide +kernel
theorem dX6_cut_69 : decode cX6_cut 69 = .ok (.iload_n 2, 1) := by decide +kernel
theorem dX6_cut_70 : decode cX6_cut 70 = .ok (.aload_n 1, 1) := by decide +kernel
theorem dX6_cut_71 : decode cX6_cut 71 = .ok (.getfield 25, 3) := by decide +kernel
theorem dX6_cut_74 : decode cX6_cut 74 = .ok (.invokevirtual 34, 3) := by decide +kernel
theorem dX6_cut_77 : decode cX6_cut 77 = .ok (.aload_n 0, 1) := by decide +kernel
theorem dX6_cut_78 : decode cX6_cut 78 = .ok (.getfield 11, 3) := by decide +kernel
theorem dX6_cut_81 : decode cX6_cut 81 = .ok (.aload_n 0, 1) := by decide +kernel
theorem dX6_cut_82 : decode cX6_cut 82 = .ok (.getfield 21, 3) := by decide +kernel
theorem dX6_cut_85 : decode cX6_cut 85 = .ok (.iconst 0, 1) := by decide +kernel
theorem dX6_cut_86 : decode cX6_cut 86 = .ok (.iastore, 1) := by decide +kernel
theorem dX6_cut_87 : decode cX6_cut 87 = .ok (.aload_n 0, 1) := by decide +kernel
theorem dX6_cut_88 : decode cX6_cut 88 = .ok (.getfield 15, 3) := by decide +kernel
theorem dX6_cut_91 : decode cX6_cut 91 = .ok (.aload_n 0, 1) := by decide +kernel
theorem dX6_cut_92 : decode cX6_cut 92 = .ok (.getfield 21, 3) := by decide +kernel
theorem dX6_cut_95 : decode cX6_cut 95 = .ok (.aload_n 1, 1) := by decide +kernel
theorem dX6_cut_96 : decode cX6_cut 96 = .ok (.getfield 25, 3) := by decide +kernel
theorem dX6_cut_99 : decode cX6_cut 99 = .ok (.iastore, 1) := by decide +kernel
theorem dX6_cut_100 : decode cX6_cut 100 = .ok (.return_, 1) := by decide +kernel
theorem dX6_sortOf_0 : decode cX6_sortOf 0 = .ok (.iload_n 0, 1) := by decide +kernel
theorem dX6_sortOf_1 : decode cX6_sortOf 1 = .ok (.bipush 10, 2) := by decide +kernel
