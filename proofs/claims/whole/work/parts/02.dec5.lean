theorem dX9_meanOf_1 : decode cX9_meanOf 1 = .ok (.istore_n 2, 1) := by decide +kernel
theorem dX9_meanOf_2 : decode cX9_meanOf 2 = .ok (.bipush 24, 2) := by decide +kernel
theorem dX9_meanOf_4 : decode cX9_meanOf 4 = .ok (.iload_n 1, 1) := by decide +kernel
theorem dX9_meanOf_5 : decode cX9_meanOf 5 = .ok (.imul, 1) := by decide +kernel
theorem dX9_meanOf_6 : decode cX9_meanOf 6 = .ok (.istore_n 3, 1) := by decide +kernel
theorem dX9_meanOf_7 : decode cX9_meanOf 7 = .ok (.iload_n 3, 1) := by decide +kernel
theorem dX9_meanOf_8 : decode cX9_meanOf 8 = .ok (.bipush 24, 2) := by decide +kernel
theorem dX9_meanOf_10 : decode cX9_meanOf 10 = .ok (.iload_n 1, 1) := by decide +kernel
theorem dX9_meanOf_11 : decode cX9_meanOf 11 = .ok (.imul, 1) := by decide +kernel
theorem dX9_meanOf_12 : decode cX9_meanOf 12 = .ok (.bipush 24, 2) := by decide +kernel
theorem dX9_meanOf_14 : decode cX9_meanOf 14 = .ok (.iadd, 1) := by decide +kernel
theorem dX9_meanOf_15 : decode cX9_meanOf 15 = .ok (.if_icmp .ge 15, 3) := by decide +kernel
theorem dX9_meanOf_18 : decode cX9_meanOf 18 = .ok (.iload_n 2, 1) := by decide +kernel
theorem dX9_meanOf_19 : decode cX9_meanOf 19 = .ok (.aload_n 0, 1) := by decide +kernel
theorem dX9_meanOf_20 : decode cX9_meanOf 20 = .ok (.iload_n 3, 1) := by decide +kernel
theorem dX9_meanOf_21 : decode cX9_meanOf 21 = .ok (.iaload, 1) := by decide +kernel
theorem dX9_meanOf_22 : decode cX9_meanOf 22 = .ok (.iadd, 1) := by decide +kernel
theorem dX9_meanOf_23 : decode cX9_meanOf 23 = .ok (.istore_n 2, 1) := by decide +kernel
theorem dX9_meanOf_24 : decode cX9_meanOf 24 = .ok (.iinc 3 1, 3) := by decide +kernel
theorem dX9_meanOf_27 : decode cX9_meanOf 27 = .ok (.goto (-20), 3) := by decide +kernel
theorem dX9_meanOf_30 : decode cX9_meanOf 30 = .ok (.iload_n 2, 1) := by decide +kernel
theorem dX9_meanOf_31 : decode cX9_meanOf 31 = .ok (.bipush 24, 2) := by decide +kernel
theorem dX9_meanOf_33 : decode cX9_meanOf 33 = .ok (.idiv, 1) := by decide +kernel
theorem dX9_meanOf_34 : decode cX9_meanOf 34 = .ok (.ireturn, 1) := by decide +kernel
theorem dX9_share_0 : decode cX9_share 0 = .ok (.iload_n 1, 1) := by decide +kernel
theorem dX9_share_1 : decode cX9_share 1 = .ok (.iconst 1, 1) := by decide +kernel
theorem dX9_share_2 : decode cX9_share 2 = .ok (.if_icmp .eq 8, 3) := by decide +kernel
theorem dX9_share_5 : decode cX9_share 5 = .ok (.iload_n 1, 1) := by decide +kernel
theorem dX9_share_6 : decode cX9_share 6 = .ok (.iconst 2, 1) := by decide +kernel
theorem dX9_share_7 : decode cX9_share 7 = .ok (.if_icmp .ne 7, 3) := by decide +kernel
theorem dX9_share_10 : decode cX9_share 10 = .ok (.iconst 1, 1) := by decide +kernel
theorem dX9_share_11 : decode cX9_share 11 = .ok (.goto 4, 3) := by decide +kernel
theorem dX9_share_14 : decode cX9_share 14 = .ok (.iconst 0, 1) := by decide +kernel
theorem dX9_share_15 : decode cX9_share 15 = .ok (.istore_n 3, 1) := by decide +kernel
theorem dX9_share_16 : decode cX9_share 16 = .ok (.iload_n 2, 1) := by decide +kernel
theorem dX9_share_17 : decode cX9_share 17 = .ok (.iconst 2, 1) := by decide +kernel
theorem dX9_share_18 : decode cX9_share 18 = .ok (.if_icmp .eq 8, 3) := by decide +kernel
theorem dX9_share_21 : decode cX9_share 21 = .ok (.iload_n 2, 1) := by decide +kernel
theorem dX9_share_22 : decode cX9_share 22 = .ok (.iconst 3, 1) := by decide +kernel
theorem dX9_share_23 : decode cX9_share 23 = .ok (.if_icmp .ne 7, 3) := by decide +kernel
theorem dX9_share_26 : decode cX9_share 26 = .ok (.iconst 1, 1) := by decide +kernel
theorem dX9_share_27 : decode cX9_share 27 = .ok (.goto 4, 3) := by decide +kernel
theorem dX9_share_30 : decode cX9_share 30 = .ok (.iconst 0, 1) := by decide +kernel
theorem dX9_share_31 : decode cX9_share 31 = .ok (.istore 4, 2) := by decide +kernel
theorem dX9_share_33 : decode cX9_share 33 = .ok (.iload_n 0, 1) := by decide +kernel
theorem dX9_share_34 : decode cX9_share 34 = .ok (.ifCond .ne 35, 3) := by decide +kernel
theorem dX9_share_37 : decode cX9_share 37 = .ok (.iload_n 3, 1) := by decide +kernel
theorem dX9_share_38 : decode cX9_share 38 = .ok (.ifCond .ne 7, 3) := by decide +kernel
theorem dX9_share_41 : decode cX9_share 41 = .ok (.iconst 1, 1) := by decide +kernel
theorem dX9_share_42 : decode cX9_share 42 = .ok (.goto 26, 3) := by decide +kernel
theorem dX9_share_45 : decode cX9_share 45 = .ok (.iload_n 2, 1) := by decide +kernel
theorem dX9_share_46 : decode cX9_share 46 = .ok (.ifCond .eq 8, 3) := by decide +kernel
theorem dX9_share_49 : decode cX9_share 49 = .ok (.iload_n 2, 1) := by decide +kernel
theorem dX9_share_50 : decode cX9_share 50 = .ok (.iconst 5, 1) := by decide +kernel
theorem dX9_share_51 : decode cX9_share 51 = .ok (.if_icmp .ne 7, 3) := by decide +kernel
theorem dX9_share_54 : decode cX9_share 54 = .ok (.iconst 3, 1) := by decide +kernel
theorem dX9_share_55 : decode cX9_share 55 = .ok (.goto 13, 3) := by decide +kernel
theorem dX9_share_58 : decode cX9_share 58 = .ok (.iload 4, 2) := by decide +kernel
theorem dX9_share_60 : decode cX9_share 60 = .ok (.ifCond .eq 7, 3) := by decide +kernel
theorem dX9_share_63 : decode cX9_share 63 = .ok (.iconst 2, 1) := by decide +kernel
theorem dX9_share_64 : decode cX9_share 64 = .ok (.goto 4, 3) := by decide +kernel
theorem dX9_share_67 : decode cX9_share 67 = .ok (.iconst 1, 1) := by decide +kernel
theorem dX9_share_68 : decode cX9_share 68 = .ok (.ireturn, 1) := by decide +kernel
theorem dX9_share_69 : decode cX9_share 69 = .ok (.iload 4, 2) := by decide +kernel
theorem dX9_share_71 : decode cX9_share 71 = .ok (.ifCond .ne 7, 3) := by decide +kernel
theorem dX9_share_74 : decode cX9_share 74 = .ok (.iconst 1, 1) := by decide +kernel
theorem dX9_share_75 : decode cX9_share 75 = .ok (.goto 12, 3) := by decide +kernel
theorem dX9_share_78 : decode cX9_share 78 = .ok (.iload_n 3, 1) := by decide +kernel
theorem dX9_share_79 : decode cX9_share 79 = .ok (.ifCond .eq 7, 3) := by decide +kernel
theorem dX9_share_82 : decode cX9_share 82 = .ok (.iconst 2, 1) := by decide +kernel
theorem dX9_share_83 : decode cX9_share 83 = .ok (.goto 4, 3) := by decide +kernel
theorem dX9_share_86 : decode cX9_share 86 = .ok (.iconst 3, 1) := by decide +kernel
theorem dX9_share_87 : decode cX9_share 87 = .ok (.ireturn, 1) := by decide +kernel
theorem dX9_wears_0 : decode cX9_wears 0 = .ok (.iconst 0, 1) := by decide +kernel
theorem dX9_wears_1 : decode cX9_wears 1 = .ok (.istore 5, 2) := by decide +kernel
theorem dX9_wears_3 : decode cX9_wears 3 = .ok (.iconst 0, 1) := by decide +kernel
theorem dX9_wears_4 : decode cX9_wears 4 = .ok (.istore 6, 2) := by decide +kernel
theorem dX9_wears_6 : decode cX9_wears 6 = .ok (.iload 6, 2) := by decide +kernel
theorem dX9_wears_8 : decode cX9_wears 8 = .ok (.bipush 24, 2) := by decide +kernel
theorem dX9_wears_10 : decode cX9_wears 10 = .ok (.if_icmp .ge 85, 3) := by decide +kernel
theorem dX9_wears_13 : decode cX9_wears 13 = .ok (.iconst 4, 1) := by decide +kernel
theorem dX9_wears_14 : decode cX9_wears 14 = .ok (.iconst 2, 1) := by decide +kernel
theorem dX9_wears_15 : decode cX9_wears 15 = .ok (.iload_n 3, 1) := by decide +kernel
theorem dX9_wears_16 : decode cX9_wears 16 = .ok (.imul, 1) := by decide +kernel
theorem dX9_wears_17 : decode cX9_wears 17 = .ok (.iadd, 1) := by decide +kernel
theorem dX9_wears_18 : decode cX9_wears 18 = .ok (.iload_n 2, 1) := by decide +kernel
theorem dX9_wears_19 : decode cX9_wears 19 = .ok (.iload 6, 2) := by decide +kernel
theorem dX9_wears_21 : decode cX9_wears 21 = .ok (.bipush 6, 2) := by decide +kernel
theorem dX9_wears_23 : decode cX9_wears 23 = .ok (.idiv, 1) := by decide +kernel
theorem dX9_wears_24 : decode cX9_wears 24 = .ok (.iload 6, 2) := by decide +kernel
theorem dX9_wears_26 : decode cX9_wears 26 = .ok (.bipush 6, 2) := by decide +kernel
theorem dX9_wears_28 : decode cX9_wears 28 = .ok (.irem, 1) := by decide +kernel
theorem dX9_wears_29 : decode cX9_wears 29 = .ok (.invokestatic 245, 3) := by decide +kernel
theorem dX9_wears_32 : decode cX9_wears 32 = .ok (.imul, 1) := by decide +kernel
theorem dX9_wears_33 : decode cX9_wears 33 = .ok (.bipush 10, 2) := by decide +kernel
theorem dX9_wears_35 : decode cX9_wears 35 = .ok (.iload 4, 2) := by decide +kernel
theorem dX9_wears_37 : decode cX9_wears 37 = .ok (.iadd, 1) := by decide +kernel
theorem dX9_wears_38 : decode cX9_wears 38 = .ok (.imul, 1) := by decide +kernel
theorem dX9_wears_39 : decode cX9_wears 39 = .ok (.bipush 10, 2) := by decide +kernel
theorem dX9_wears_41 : decode cX9_wears 41 = .ok (.idiv, 1) := by decide +kernel
theorem dX9_wears_42 : decode cX9_wears 42 = .ok (.istore 7, 2) := by decide +kernel
theorem dX9_wears_44 : decode cX9_wears 44 = .ok (.bipush 24, 2) := by decide +kernel
theorem dX9_wears_46 : decode cX9_wears 46 = .ok (.iload_n 1, 1) := by decide +kernel
theorem dX9_wears_47 : decode cX9_wears 47 = .ok (.imul, 1) := by decide +kernel
theorem dX9_wears_48 : decode cX9_wears 48 = .ok (.iload 6, 2) := by decide +kernel
theorem dX9_wears_50 : decode cX9_wears 50 = .ok (.iadd, 1) := by decide +kernel
theorem dX9_wears_51 : decode cX9_wears 51 = .ok (.istore 8, 2) := by decide +kernel
theorem dX9_wears_53 : decode cX9_wears 53 = .ok (.iload 7, 2) := by decide +kernel
theorem dX9_wears_55 : decode cX9_wears 55 = .ok (.aload_n 0, 1) := by decide +kernel
theorem dX9_wears_56 : decode cX9_wears 56 = .ok (.iload 8, 2) := by decide +kernel
theorem dX9_wears_58 : decode cX9_wears 58 = .ok (.iaload, 1) := by decide +kernel
theorem dX9_wears_59 : decode cX9_wears 59 = .ok (.if_icmp .le 10, 3) := by decide +kernel
theorem dX9_wears_62 : decode cX9_wears 62 = .ok (.aload_n 0, 1) := by decide +kernel
theorem dX9_wears_63 : decode cX9_wears 63 = .ok (.iload 8, 2) := by decide +kernel
theorem dX9_wears_65 : decode cX9_wears 65 = .ok (.iaload, 1) := by decide +kernel
theorem dX9_wears_66 : decode cX9_wears 66 = .ok (.goto 5, 3) := by decide +kernel
theorem dX9_wears_69 : decode cX9_wears 69 = .ok (.iload 7, 2) := by decide +kernel
theorem dX9_wears_71 : decode cX9_wears 71 = .ok (.istore 7, 2) := by decide +kernel
theorem dX9_wears_73 : decode cX9_wears 73 = .ok (.aload_n 0, 1) := by decide +kernel
theorem dX9_wears_74 : decode cX9_wears 74 = .ok (.iload 8, 2) := by decide +kernel
theorem dX9_wears_76 : decode cX9_wears 76 = .ok (.dup2, 1) := by decide +kernel
theorem dX9_wears_77 : decode cX9_wears 77 = .ok (.iaload, 1) := by decide +kernel
theorem dX9_wears_78 : decode cX9_wears 78 = .ok (.iload 7, 2) := by decide +kernel
theorem dX9_wears_80 : decode cX9_wears 80 = .ok (.isub, 1) := by decide +kernel
theorem dX9_wears_81 : decode cX9_wears 81 = .ok (.iastore, 1) := by decide +kernel
theorem dX9_wears_82 : decode cX9_wears 82 = .ok (.iload 5, 2) := by decide +kernel
theorem dX9_wears_84 : decode cX9_wears 84 = .ok (.iload 7, 2) := by decide +kernel
theorem dX9_wears_86 : decode cX9_wears 86 = .ok (.iadd, 1) := by decide +kernel
theorem dX9_wears_87 : decode cX9_wears 87 = .ok (.istore 5, 2) := by decide +kernel
theorem dX9_wears_89 : decode cX9_wears 89 = .ok (.iinc 6 1, 3) := by decide +kernel
theorem dX9_wears_92 : decode cX9_wears 92 = .ok (.goto (-86), 3) := by decide +kernel
theorem dX9_wears_95 : decode cX9_wears 95 = .ok (.iload 5, 2) := by decide +kernel
theorem dX9_wears_97 : decode cX9_wears 97 = .ok (.ireturn, 1) := by decide +kernel
theorem dX9_grows_0 : decode cX9_grows 0 = .ok (.iload_n 3, 1) := by decide +kernel
theorem dX9_grows_1 : decode cX9_grows 1 = .ok (.iconst 5, 1) := by decide +kernel
theorem dX9_grows_2 : decode cX9_grows 2 = .ok (.if_icmp .le 11, 3) := by decide +kernel
theorem dX9_grows_5 : decode cX9_grows 5 = .ok (.iconst 2, 1) := by decide +kernel
theorem dX9_grows_6 : decode cX9_grows 6 = .ok (.iload_n 3, 1) := by decide +kernel
theorem dX9_grows_7 : decode cX9_grows 7 = .ok (.iconst 5, 1) := by decide +kernel
theorem dX9_grows_8 : decode cX9_grows 8 = .ok (.isub, 1) := by decide +kernel
theorem dX9_grows_9 : decode cX9_grows 9 = .ok (.imul, 1) := by decide +kernel
theorem dX9_grows_10 : decode cX9_grows 10 = .ok (.goto 8, 3) := by decide +kernel
theorem dX9_grows_13 : decode cX9_grows 13 = .ok (.iconst 2, 1) := by decide +kernel
theorem dX9_grows_14 : decode cX9_grows 14 = .ok (.iconst 5, 1) := by decide +kernel
theorem dX9_grows_15 : decode cX9_grows 15 = .ok (.iload_n 3, 1) := by decide +kernel
theorem dX9_grows_16 : decode cX9_grows 16 = .ok (.isub, 1) := by decide +kernel
theorem dX9_grows_17 : decode cX9_grows 17 = .ok (.imul, 1) := by decide +kernel
theorem dX9_grows_18 : decode cX9_grows 18 = .ok (.istore 4, 2) := by decide +kernel
theorem dX9_grows_20 : decode cX9_grows 20 = .ok (.iconst 0, 1) := by decide +kernel
theorem dX9_grows_21 : decode cX9_grows 21 = .ok (.istore 5, 2) := by decide +kernel
theorem dX9_grows_23 : decode cX9_grows 23 = .ok (.iload 5, 2) := by decide +kernel
theorem dX9_grows_25 : decode cX9_grows 25 = .ok (.bipush 24, 2) := by decide +kernel
theorem dX9_grows_27 : decode cX9_grows 27 = .ok (.aload_n 0, 1) := by decide +kernel
theorem dX9_grows_28 : decode cX9_grows 28 = .ok (.getfield 236, 3) := by decide +kernel
theorem dX9_grows_31 : decode cX9_grows 31 = .ok (.imul, 1) := by decide +kernel
theorem dX9_grows_32 : decode cX9_grows 32 = .ok (.if_icmp .ge 69, 3) := by decide +kernel
theorem dX9_grows_35 : decode cX9_grows 35 = .ok (.iload_n 3, 1) := by decide +kernel
theorem dX9_grows_36 : decode cX9_grows 36 = .ok (.bipush 9, 2) := by decide +kernel
theorem dX9_grows_38 : decode cX9_grows 38 = .ok (.if_icmp .lt 26, 3) := by decide +kernel
theorem dX9_grows_41 : decode cX9_grows 41 = .ok (.aload_n 1, 1) := by decide +kernel
theorem dX9_grows_42 : decode cX9_grows 42 = .ok (.iload 5, 2) := by decide +kernel
theorem dX9_grows_44 : decode cX9_grows 44 = .ok (.iaload, 1) := by decide +kernel
theorem dX9_grows_45 : decode cX9_grows 45 = .ok (.bipush 10, 2) := by decide +kernel
theorem dX9_grows_47 : decode cX9_grows 47 = .ok (.if_icmp .le 13, 3) := by decide +kernel
theorem dX9_grows_50 : decode cX9_grows 50 = .ok (.aload_n 1, 1) := by decide +kernel
theorem dX9_grows_51 : decode cX9_grows 51 = .ok (.iload 5, 2) := by decide +kernel
theorem dX9_grows_53 : decode cX9_grows 53 = .ok (.iaload, 1) := by decide +kernel
theorem dX9_grows_54 : decode cX9_grows 54 = .ok (.bipush 10, 2) := by decide +kernel
theorem dX9_grows_56 : decode cX9_grows 56 = .ok (.isub, 1) := by decide +kernel
theorem dX9_grows_57 : decode cX9_grows 57 = .ok (.goto 11, 3) := by decide +kernel
theorem dX9_grows_60 : decode cX9_grows 60 = .ok (.iconst 0, 1) := by decide +kernel
theorem dX9_grows_61 : decode cX9_grows 61 = .ok (.goto 7, 3) := by decide +kernel
theorem dX9_grows_64 : decode cX9_grows 64 = .ok (.aload_n 1, 1) := by decide +kernel
theorem dX9_grows_65 : decode cX9_grows 65 = .ok (.iload 5, 2) := by decide +kernel
theorem dX9_grows_67 : decode cX9_grows 67 = .ok (.iaload, 1) := by decide +kernel
theorem dX9_grows_68 : decode cX9_grows 68 = .ok (.istore 6, 2) := by decide +kernel
theorem dX9_grows_70 : decode cX9_grows 70 = .ok (.aload_n 1, 1) := by decide +kernel
theorem dX9_grows_71 : decode cX9_grows 71 = .ok (.iload 5, 2) := by decide +kernel
theorem dX9_grows_73 : decode cX9_grows 73 = .ok (.iload 6, 2) := by decide +kernel
theorem dX9_grows_75 : decode cX9_grows 75 = .ok (.sipush 1000, 3) := by decide +kernel
theorem dX9_grows_78 : decode cX9_grows 78 = .ok (.iload 6, 2) := by decide +kernel
theorem dX9_grows_80 : decode cX9_grows 80 = .ok (.isub, 1) := by decide +kernel
theorem dX9_grows_81 : decode cX9_grows 81 = .ok (.iload_n 2, 1) := by decide +kernel
theorem dX9_grows_82 : decode cX9_grows 82 = .ok (.imul, 1) := by decide +kernel
theorem dX9_grows_83 : decode cX9_grows 83 = .ok (.bipush 10, 2) := by decide +kernel
theorem dX9_grows_85 : decode cX9_grows 85 = .ok (.iload 4, 2) := by decide +kernel
theorem dX9_grows_87 : decode cX9_grows 87 = .ok (.isub, 1) := by decide +kernel
theorem dX9_grows_88 : decode cX9_grows 88 = .ok (.imul, 1) := by decide +kernel
theorem dX9_grows_89 : decode cX9_grows 89 = .ok (.sipush 2000, 3) := by decide +kernel
theorem dX9_grows_92 : decode cX9_grows 92 = .ok (.idiv, 1) := by decide +kernel
theorem dX9_grows_93 : decode cX9_grows 93 = .ok (.iadd, 1) := by decide +kernel
theorem dX9_grows_94 : decode cX9_grows 94 = .ok (.iastore, 1) := by decide +kernel
theorem dX9_grows_95 : decode cX9_grows 95 = .ok (.iinc 5 1, 3) := by decide +kernel
theorem dX9_grows_98 : decode cX9_grows 98 = .ok (.goto (-75), 3) := by decide +kernel
theorem dX9_grows_101 : decode cX9_grows 101 = .ok (.return_, 1) := by decide +kernel
theorem dX9_game_0 : decode cX9_game 0 = .ok (.aload_n 0, 1) := by decide +kernel
theorem dX9_game_1 : decode cX9_game 1 = .ok (.iconst 0, 1) := by decide +kernel
theorem dX9_game_2 : decode cX9_game 2 = .ok (.putfield 137, 3) := by decide +kernel
theorem dX9_game_5 : decode cX9_game 5 = .ok (.iload_n 1, 1) := by decide +kernel
theorem dX9_game_6 : decode cX9_game 6 = .ok (.ifCond .lt 75, 3) := by decide +kernel
theorem dX9_game_9 : decode cX9_game 9 = .ok (.iload_n 1, 1) := by decide +kernel
theorem dX9_game_10 : decode cX9_game 10 = .ok (.bipush 15, 2) := by decide +kernel
theorem dX9_game_12 : decode cX9_game 12 = .ok (.if_icmp .gt 69, 3) := by decide +kernel
theorem dX9_game_15 : decode cX9_game 15 = .ok (.iload_n 2, 1) := by decide +kernel
theorem dX9_game_16 : decode cX9_game 16 = .ok (.ifCond .lt 65, 3) := by decide +kernel
theorem dX9_game_19 : decode cX9_game 19 = .ok (.iload_n 2, 1) := by decide +kernel
theorem dX9_game_20 : decode cX9_game 20 = .ok (.bipush 15, 2) := by decide +kernel
theorem dX9_game_22 : decode cX9_game 22 = .ok (.if_icmp .gt 59, 3) := by decide +kernel
theorem dX9_game_25 : decode cX9_game 25 = .ok (.iload_n 1, 1) := by decide +kernel
theorem dX9_game_26 : decode cX9_game 26 = .ok (.iload_n 2, 1) := by decide +kernel
theorem dX9_game_27 : decode cX9_game 27 = .ok (.if_icmp .eq 54, 3) := by decide +kernel
theorem dX9_game_30 : decode cX9_game 30 = .ok (.iload_n 3, 1) := by decide +kernel
theorem dX9_game_31 : decode cX9_game 31 = .ok (.ifCond .lt 50, 3) := by decide +kernel
theorem dX9_game_34 : decode cX9_game 34 = .ok (.iload_n 3, 1) := by decide +kernel
theorem dX9_game_35 : decode cX9_game 35 = .ok (.iconst 2, 1) := by decide +kernel
theorem dX9_game_36 : decode cX9_game 36 = .ok (.if_icmp .gt 45, 3) := by decide +kernel
theorem dX9_game_39 : decode cX9_game 39 = .ok (.iload 4, 2) := by decide +kernel
theorem dX9_game_41 : decode cX9_game 41 = .ok (.ifCond .lt 40, 3) := by decide +kernel
theorem dX9_game_44 : decode cX9_game 44 = .ok (.iload 4, 2) := by decide +kernel
theorem dX9_game_46 : decode cX9_game 46 = .ok (.bipush 9, 2) := by decide +kernel
theorem dX9_game_48 : decode cX9_game 48 = .ok (.if_icmp .gt 33, 3) := by decide +kernel
theorem dX9_game_51 : decode cX9_game 51 = .ok (.aload_n 0, 1) := by decide +kernel
theorem dX9_game_52 : decode cX9_game 52 = .ok (.iload 5, 2) := by decide +kernel
theorem dX9_game_54 : decode cX9_game 54 = .ok (.invokevirtual 249, 3) := by decide +kernel
theorem dX9_game_57 : decode cX9_game 57 = .ok (.ifCond .ne 24, 3) := by decide +kernel
theorem dX9_game_60 : decode cX9_game 60 = .ok (.iload 6, 2) := by decide +kernel
theorem dX9_game_62 : decode cX9_game 62 = .ok (.ifCond .le 19, 3) := by decide +kernel
theorem dX9_game_65 : decode cX9_game 65 = .ok (.iload 6, 2) := by decide +kernel
theorem dX9_game_67 : decode cX9_game 67 = .ok (.ldc 252, 2) := by decide +kernel
theorem dX9_game_69 : decode cX9_game 69 = .ok (.if_icmp .ge 12, 3) := by decide +kernel
theorem dX9_game_72 : decode cX9_game 72 = .ok (.aload_n 0, 1) := by decide +kernel
theorem dX9_game_73 : decode cX9_game 73 = .ok (.getfield 253, 3) := by decide +kernel
theorem dX9_game_76 : decode cX9_game 76 = .ok (.bipush 60, 2) := by decide +kernel
theorem dX9_game_78 : decode cX9_game 78 = .ok (.if_icmp .ne 5, 3) := by decide +kernel
theorem dX9_game_81 : decode cX9_game 81 = .ok (.iconst (-1), 1) := by decide +kernel
theorem dX9_game_82 : decode cX9_game 82 = .ok (.ireturn, 1) := by decide +kernel
theorem dX9_game_83 : decode cX9_game 83 = .ok (.aload_n 0, 1) := by decide +kernel
theorem dX9_game_84 : decode cX9_game 84 = .ok (.getfield 107, 3) := by decide +kernel
theorem dX9_game_87 : decode cX9_game 87 = .ok (.aload_n 0, 1) := by decide +kernel
theorem dX9_game_88 : decode cX9_game 88 = .ok (.getfield 253, 3) := by decide +kernel
theorem dX9_game_91 : decode cX9_game 91 = .ok (.iload_n 1, 1) := by decide +kernel
theorem dX9_game_92 : decode cX9_game 92 = .ok (.iastore, 1) := by decide +kernel
theorem dX9_game_93 : decode cX9_game 93 = .ok (.aload_n 0, 1) := by decide +kernel
theorem dX9_game_94 : decode cX9_game 94 = .ok (.getfield 110, 3) := by decide +kernel
theorem dX9_game_97 : decode cX9_game 97 = .ok (.aload_n 0, 1) := by decide +kernel
theorem dX9_game_98 : decode cX9_game 98 = .ok (.getfield 253, 3) := by decide +kernel
theorem dX9_game_101 : decode cX9_game 101 = .ok (.iload_n 2, 1) := by decide +kernel
theorem dX9_game_102 : decode cX9_game 102 = .ok (.iastore, 1) := by decide +kernel
theorem dX9_game_103 : decode cX9_game 103 = .ok (.aload_n 0, 1) := by decide +kernel
theorem dX9_game_104 : decode cX9_game 104 = .ok (.getfield 113, 3) := by decide +kernel
theorem dX9_game_107 : decode cX9_game 107 = .ok (.aload_n 0, 1) := by decide +kernel
theorem dX9_game_108 : decode cX9_game 108 = .ok (.getfield 253, 3) := by decide +kernel
theorem dX9_game_111 : decode cX9_game 111 = .ok (.iload_n 3, 1) := by decide +kernel
theorem dX9_game_112 : decode cX9_game 112 = .ok (.iastore, 1) := by decide +kernel
theorem dX9_game_113 : decode cX9_game 113 = .ok (.aload_n 0, 1) := by decide +kernel
theorem dX9_game_114 : decode cX9_game 114 = .ok (.getfield 116, 3) := by decide +kernel
theorem dX9_game_117 : decode cX9_game 117 = .ok (.aload_n 0, 1) := by decide +kernel
theorem dX9_game_118 : decode cX9_game 118 = .ok (.getfield 253, 3) := by decide +kernel
theorem dX9_game_121 : decode cX9_game 121 = .ok (.iload 4, 2) := by decide +kernel
theorem dX9_game_123 : decode cX9_game 123 = .ok (.iastore, 1) := by decide +kernel
theorem dX9_game_124 : decode cX9_game 124 = .ok (.aload_n 0, 1) := by decide +kernel
theorem dX9_game_125 : decode cX9_game 125 = .ok (.getfield 119, 3) := by decide +kernel
theorem dX9_game_128 : decode cX9_game 128 = .ok (.aload_n 0, 1) := by decide +kernel
theorem dX9_game_129 : decode cX9_game 129 = .ok (.getfield 253, 3) := by decide +kernel
theorem dX9_game_132 : decode cX9_game 132 = .ok (.iload 5, 2) := by decide +kernel
theorem dX9_game_134 : decode cX9_game 134 = .ok (.iastore, 1) := by decide +kernel
theorem dX9_game_135 : decode cX9_game 135 = .ok (.aload_n 0, 1) := by decide +kernel
theorem dX9_game_136 : decode cX9_game 136 = .ok (.getfield 122, 3) := by decide +kernel
theorem dX9_game_139 : decode cX9_game 139 = .ok (.aload_n 0, 1) := by decide +kernel
theorem dX9_game_140 : decode cX9_game 140 = .ok (.getfield 253, 3) := by decide +kernel
theorem dX9_game_143 : decode cX9_game 143 = .ok (.iload 6, 2) := by decide +kernel
theorem dX9_game_145 : decode cX9_game 145 = .ok (.iastore, 1) := by decide +kernel
theorem dX9_game_146 : decode cX9_game 146 = .ok (.aload_n 0, 1) := by decide +kernel
theorem dX9_game_147 : decode cX9_game 147 = .ok (.getfield 125, 3) := by decide +kernel
theorem dX9_game_150 : decode cX9_game 150 = .ok (.aload_n 0, 1) := by decide +kernel
theorem dX9_game_151 : decode cX9_game 151 = .ok (.getfield 253, 3) := by decide +kernel
theorem dX9_game_154 : decode cX9_game 154 = .ok (.iconst 0, 1) := by decide +kernel
theorem dX9_game_155 : decode cX9_game 155 = .ok (.iastore, 1) := by decide +kernel
theorem dX9_game_156 : decode cX9_game 156 = .ok (.aload_n 0, 1) := by decide +kernel
theorem dX9_game_157 : decode cX9_game 157 = .ok (.getfield 128, 3) := by decide +kernel
theorem dX9_game_160 : decode cX9_game 160 = .ok (.aload_n 0, 1) := by decide +kernel
theorem dX9_game_161 : decode cX9_game 161 = .ok (.getfield 253, 3) := by decide +kernel
theorem dX9_game_164 : decode cX9_game 164 = .ok (.iconst (-1), 1) := by decide +kernel
theorem dX9_game_165 : decode cX9_game 165 = .ok (.iastore, 1) := by decide +kernel
theorem dX9_game_166 : decode cX9_game 166 = .ok (.aload_n 0, 1) := by decide +kernel
theorem dX9_game_167 : decode cX9_game 167 = .ok (.dup, 1) := by decide +kernel
theorem dX9_game_168 : decode cX9_game 168 = .ok (.getfield 253, 3) := by decide +kernel
theorem dX9_game_171 : decode cX9_game 171 = .ok (.iconst 1, 1) := by decide +kernel
theorem dX9_game_172 : decode cX9_game 172 = .ok (.iadd, 1) := by decide +kernel
theorem dX9_game_173 : decode cX9_game 173 = .ok (.putfield 253, 3) := by decide +kernel
theorem dX9_game_176 : decode cX9_game 176 = .ok (.aload_n 0, 1) := by decide +kernel
theorem dX9_game_177 : decode cX9_game 177 = .ok (.getfield 253, 3) := by decide +kernel
theorem dX9_game_180 : decode cX9_game 180 = .ok (.iconst 1, 1) := by decide +kernel
theorem dX9_game_181 : decode cX9_game 181 = .ok (.isub, 1) := by decide +kernel
theorem dX9_game_182 : decode cX9_game 182 = .ok (.ireturn, 1) := by decide +kernel
theorem dX9_isGone_0 : decode cX9_isGone 0 = .ok (.iload_n 1, 1) := by decide +kernel
theorem dX9_isGone_1 : decode cX9_isGone 1 = .ok (.ifCond .lt 22, 3) := by decide +kernel
theorem dX9_isGone_4 : decode cX9_isGone 4 = .ok (.iload_n 1, 1) := by decide +kernel
theorem dX9_isGone_5 : decode cX9_isGone 5 = .ok (.bipush 50, 2) := by decide +kernel
theorem dX9_isGone_7 : decode cX9_isGone 7 = .ok (.if_icmp .gt 16, 3) := by decide +kernel
theorem dX9_isGone_10 : decode cX9_isGone 10 = .ok (.bipush 7, 2) := by decide +kernel
theorem dX9_isGone_12 : decode cX9_isGone 12 = .ok (.iload_n 1, 1) := by decide +kernel
theorem dX9_isGone_13 : decode cX9_isGone 13 = .ok (.iconst 1, 1) := by decide +kernel
theorem dX9_isGone_14 : decode cX9_isGone 14 = .ok (.iadd, 1) := by decide +kernel
theorem dX9_isGone_15 : decode cX9_isGone 15 = .ok (.imul, 1) := by decide +kernel
theorem dX9_isGone_16 : decode cX9_isGone 16 = .ok (.aload_n 0, 1) := by decide +kernel
theorem dX9_isGone_17 : decode cX9_isGone 17 = .ok (.getfield 239, 3) := by decide +kernel
theorem dX9_isGone_20 : decode cX9_isGone 20 = .ok (.if_icmp .gt 7, 3) := by decide +kernel
theorem dX9_isGone_23 : decode cX9_isGone 23 = .ok (.iconst 1, 1) := by decide +kernel
theorem dX9_isGone_24 : decode cX9_isGone 24 = .ok (.goto 4, 3) := by decide +kernel
theorem dX9_isGone_27 : decode cX9_isGone 27 = .ok (.iconst 0, 1) := by decide +kernel
theorem dX9_isGone_28 : decode cX9_isGone 28 = .ok (.ireturn, 1) := by decide +kernel
theorem dX9_isThere_0 : decode cX9_isThere 0 = .ok (.aload_n 0, 1) := by decide +kernel
theorem dX9_isThere_1 : decode cX9_isThere 1 = .ok (.getfield 125, 3) := by decide +kernel
theorem dX9_isThere_4 : decode cX9_isThere 4 = .ok (.iload_n 1, 1) := by decide +kernel
theorem dX9_isThere_5 : decode cX9_isThere 5 = .ok (.iaload, 1) := by decide +kernel
theorem dX9_isThere_6 : decode cX9_isThere 6 = .ok (.iconst 1, 1) := by decide +kernel
theorem dX9_isThere_7 : decode cX9_isThere 7 = .ok (.if_icmp .eq 13, 3) := by decide +kernel
theorem dX9_isThere_10 : decode cX9_isThere 10 = .ok (.aload_n 0, 1) := by decide +kernel
theorem dX9_isThere_11 : decode cX9_isThere 11 = .ok (.getfield 125, 3) := by decide +kernel
theorem dX9_isThere_14 : decode cX9_isThere 14 = .ok (.iload_n 1, 1) := by decide +kernel
theorem dX9_isThere_15 : decode cX9_isThere 15 = .ok (.iaload, 1) := by decide +kernel
theorem dX9_isThere_16 : decode cX9_isThere 16 = .ok (.iconst 2, 1) := by decide +kernel
theorem dX9_isThere_17 : decode cX9_isThere 17 = .ok (.if_icmp .ne 7, 3) := by decide +kernel
theorem dX9_isThere_20 : decode cX9_isThere 20 = .ok (.iconst 1, 1) := by decide +kernel
theorem dX9_isThere_21 : decode cX9_isThere 21 = .ok (.goto 4, 3) := by decide +kernel
theorem dX9_isThere_24 : decode cX9_isThere 24 = .ok (.iconst 0, 1) := by decide +kernel
theorem dX9_isThere_25 : decode cX9_isThere 25 = .ok (.ireturn, 1) := by decide +kernel
theorem dX9_gameAt_0 : decode cX9_gameAt 0 = .ok (.iconst (-1), 1) := by decide +kernel
theorem dX9_gameAt_1 : decode cX9_gameAt 1 = .ok (.istore_n 2, 1) := by decide +kernel
theorem dX9_gameAt_2 : decode cX9_gameAt 2 = .ok (.iconst 0, 1) := by decide +kernel
theorem dX9_gameAt_3 : decode cX9_gameAt 3 = .ok (.istore_n 3, 1) := by decide +kernel
theorem dX9_gameAt_4 : decode cX9_gameAt 4 = .ok (.iload_n 3, 1) := by decide +kernel
theorem dX9_gameAt_5 : decode cX9_gameAt 5 = .ok (.aload_n 0, 1) := by decide +kernel
theorem dX9_gameAt_6 : decode cX9_gameAt 6 = .ok (.getfield 253, 3) := by decide +kernel
theorem dX9_gameAt_9 : decode cX9_gameAt 9 = .ok (.if_icmp .ge 33, 3) := by decide +kernel
theorem dX9_gameAt_12 : decode cX9_gameAt 12 = .ok (.aload_n 0, 1) := by decide +kernel
theorem dX9_gameAt_13 : decode cX9_gameAt 13 = .ok (.iload_n 3, 1) := by decide +kernel
theorem dX9_gameAt_14 : decode cX9_gameAt 14 = .ok (.invokevirtual 256, 3) := by decide +kernel
theorem dX9_gameAt_17 : decode cX9_gameAt 17 = .ok (.ifCond .eq 17, 3) := by decide +kernel
theorem dX9_gameAt_20 : decode cX9_gameAt 20 = .ok (.aload_n 0, 1) := by decide +kernel
theorem dX9_gameAt_21 : decode cX9_gameAt 21 = .ok (.getfield 128, 3) := by decide +kernel
theorem dX9_gameAt_24 : decode cX9_gameAt 24 = .ok (.iload_n 3, 1) := by decide +kernel
theorem dX9_gameAt_25 : decode cX9_gameAt 25 = .ok (.iaload, 1) := by decide +kernel
theorem dX9_gameAt_26 : decode cX9_gameAt 26 = .ok (.iload_n 1, 1) := by decide +kernel
theorem dX9_gameAt_27 : decode cX9_gameAt 27 = .ok (.if_icmp .ne 7, 3) := by decide +kernel
theorem dX9_gameAt_30 : decode cX9_gameAt 30 = .ok (.iload_n 3, 1) := by decide +kernel
theorem dX9_gameAt_31 : decode cX9_gameAt 31 = .ok (.goto 4, 3) := by decide +kernel
theorem dX9_gameAt_34 : decode cX9_gameAt 34 = .ok (.iload_n 2, 1) := by decide +kernel
theorem dX9_gameAt_35 : decode cX9_gameAt 35 = .ok (.istore_n 2, 1) := by decide +kernel
theorem dX9_gameAt_36 : decode cX9_gameAt 36 = .ok (.iinc 3 1, 3) := by decide +kernel
theorem dX9_gameAt_39 : decode cX9_gameAt 39 = .ok (.goto (-35), 3) := by decide +kernel
theorem dX9_gameAt_42 : decode cX9_gameAt 42 = .ok (.iload_n 2, 1) := by decide +kernel
theorem dX9_gameAt_43 : decode cX9_gameAt 43 = .ok (.ireturn, 1) := by decide +kernel
theorem dX9_hasClub_0 : decode cX9_hasClub 0 = .ok (.aload_n 0, 1) := by decide +kernel
theorem dX9_hasClub_1 : decode cX9_hasClub 1 = .ok (.getfield 107, 3) := by decide +kernel
theorem dX9_hasClub_4 : decode cX9_hasClub 4 = .ok (.iload_n 1, 1) := by decide +kernel
theorem dX9_hasClub_5 : decode cX9_hasClub 5 = .ok (.iaload, 1) := by decide +kernel
theorem dX9_hasClub_6 : decode cX9_hasClub 6 = .ok (.iload_n 2, 1) := by decide +kernel
theorem dX9_hasClub_7 : decode cX9_hasClub 7 = .ok (.if_icmp .eq 13, 3) := by decide +kernel
theorem dX9_hasClub_10 : decode cX9_hasClub 10 = .ok (.aload_n 0, 1) := by decide +kernel
theorem dX9_hasClub_11 : decode cX9_hasClub 11 = .ok (.getfield 110, 3) := by decide +kernel
theorem dX9_hasClub_14 : decode cX9_hasClub 14 = .ok (.iload_n 1, 1) := by decide +kernel
theorem dX9_hasClub_15 : decode cX9_hasClub 15 = .ok (.iaload, 1) := by decide +kernel
theorem dX9_hasClub_16 : decode cX9_hasClub 16 = .ok (.iload_n 2, 1) := by decide +kernel
theorem dX9_hasClub_17 : decode cX9_hasClub 17 = .ok (.if_icmp .ne 7, 3) := by decide +kernel
theorem dX9_hasClub_20 : decode cX9_hasClub 20 = .ok (.iconst 1, 1) := by decide +kernel
theorem dX9_hasClub_21 : decode cX9_hasClub 21 = .ok (.goto 4, 3) := by decide +kernel
theorem dX9_hasClub_24 : decode cX9_hasClub 24 = .ok (.iconst 0, 1) := by decide +kernel
theorem dX9_hasClub_25 : decode cX9_hasClub 25 = .ok (.ireturn, 1) := by decide +kernel
theorem dX9_suits_0 : decode cX9_suits 0 = .ok (.aload_n 0, 1) := by decide +kernel
theorem dX9_suits_1 : decode cX9_suits 1 = .ok (.getfield 80, 3) := by decide +kernel
theorem dX9_suits_4 : decode cX9_suits 4 = .ok (.iload_n 2, 1) := by decide +kernel
theorem dX9_suits_5 : decode cX9_suits 5 = .ok (.bipush 6, 2) := by decide +kernel
theorem dX9_suits_7 : decode cX9_suits 7 = .ok (.irem, 1) := by decide +kernel
theorem dX9_suits_8 : decode cX9_suits 8 = .ok (.iaload, 1) := by decide +kernel
theorem dX9_suits_9 : decode cX9_suits 9 = .ok (.aload_n 0, 1) := by decide +kernel
theorem dX9_suits_10 : decode cX9_suits 10 = .ok (.getfield 113, 3) := by decide +kernel
theorem dX9_suits_13 : decode cX9_suits 13 = .ok (.iload_n 1, 1) := by decide +kernel
theorem dX9_suits_14 : decode cX9_suits 14 = .ok (.iaload, 1) := by decide +kernel
theorem dX9_suits_15 : decode cX9_suits 15 = .ok (.if_icmp .lt 11, 3) := by decide +kernel
theorem dX9_suits_18 : decode cX9_suits 18 = .ok (.aload_n 0, 1) := by decide +kernel
theorem dX9_suits_19 : decode cX9_suits 19 = .ok (.iload_n 2, 1) := by decide +kernel
theorem dX9_suits_20 : decode cX9_suits 20 = .ok (.invokevirtual 259, 3) := by decide +kernel
theorem dX9_suits_23 : decode cX9_suits 23 = .ok (.ifCond .lt 5, 3) := by decide +kernel
theorem dX9_suits_26 : decode cX9_suits 26 = .ok (.iconst 0, 1) := by decide +kernel
theorem dX9_suits_27 : decode cX9_suits 27 = .ok (.ireturn, 1) := by decide +kernel
theorem dX9_suits_28 : decode cX9_suits 28 = .ok (.iconst 1, 1) := by decide +kernel
theorem dX9_suits_29 : decode cX9_suits 29 = .ok (.istore_n 3, 1) := by decide +kernel
theorem dX9_suits_30 : decode cX9_suits 30 = .ok (.iconst 0, 1) := by decide +kernel
theorem dX9_suits_31 : decode cX9_suits 31 = .ok (.istore 4, 2) := by decide +kernel
theorem dX9_suits_33 : decode cX9_suits 33 = .ok (.iload 4, 2) := by decide +kernel
theorem dX9_suits_35 : decode cX9_suits 35 = .ok (.aload_n 0, 1) := by decide +kernel
theorem dX9_suits_36 : decode cX9_suits 36 = .ok (.getfield 253, 3) := by decide +kernel
theorem dX9_suits_39 : decode cX9_suits 39 = .ok (.if_icmp .ge 81, 3) := by decide +kernel
theorem dX9_suits_42 : decode cX9_suits 42 = .ok (.iload 4, 2) := by decide +kernel
theorem dX9_suits_44 : decode cX9_suits 44 = .ok (.iload_n 1, 1) := by decide +kernel
theorem dX9_suits_45 : decode cX9_suits 45 = .ok (.if_icmp .eq 69, 3) := by decide +kernel
theorem dX9_suits_48 : decode cX9_suits 48 = .ok (.aload_n 0, 1) := by decide +kernel
theorem dX9_suits_49 : decode cX9_suits 49 = .ok (.iload 4, 2) := by decide +kernel
theorem dX9_suits_51 : decode cX9_suits 51 = .ok (.invokevirtual 256, 3) := by decide +kernel
theorem dX9_suits_54 : decode cX9_suits 54 = .ok (.ifCond .eq 60, 3) := by decide +kernel
theorem dX9_suits_57 : decode cX9_suits 57 = .ok (.aload_n 0, 1) := by decide +kernel
theorem dX9_suits_58 : decode cX9_suits 58 = .ok (.getfield 128, 3) := by decide +kernel
theorem dX9_suits_61 : decode cX9_suits 61 = .ok (.iload 4, 2) := by decide +kernel
theorem dX9_suits_63 : decode cX9_suits 63 = .ok (.iaload, 1) := by decide +kernel
theorem dX9_suits_64 : decode cX9_suits 64 = .ok (.bipush 24, 2) := by decide +kernel
theorem dX9_suits_66 : decode cX9_suits 66 = .ok (.idiv, 1) := by decide +kernel
theorem dX9_suits_67 : decode cX9_suits 67 = .ok (.iload_n 2, 1) := by decide +kernel
theorem dX9_suits_68 : decode cX9_suits 68 = .ok (.bipush 24, 2) := by decide +kernel
theorem dX9_suits_70 : decode cX9_suits 70 = .ok (.idiv, 1) := by decide +kernel
theorem dX9_suits_71 : decode cX9_suits 71 = .ok (.if_icmp .ne 43, 3) := by decide +kernel
theorem dX9_suits_74 : decode cX9_suits 74 = .ok (.iload_n 3, 1) := by decide +kernel
theorem dX9_suits_75 : decode cX9_suits 75 = .ok (.ifCond .eq 37, 3) := by decide +kernel
theorem dX9_suits_78 : decode cX9_suits 78 = .ok (.aload_n 0, 1) := by decide +kernel
theorem dX9_suits_79 : decode cX9_suits 79 = .ok (.iload 4, 2) := by decide +kernel
theorem dX9_suits_81 : decode cX9_suits 81 = .ok (.aload_n 0, 1) := by decide +kernel
theorem dX9_suits_82 : decode cX9_suits 82 = .ok (.getfield 107, 3) := by decide +kernel
theorem dX9_suits_85 : decode cX9_suits 85 = .ok (.iload_n 1, 1) := by decide +kernel
theorem dX9_suits_86 : decode cX9_suits 86 = .ok (.iaload, 1) := by decide +kernel
theorem dX9_suits_87 : decode cX9_suits 87 = .ok (.invokevirtual 262, 3) := by decide +kernel
theorem dX9_suits_90 : decode cX9_suits 90 = .ok (.ifCond .ne 22, 3) := by decide +kernel
theorem dX9_suits_93 : decode cX9_suits 93 = .ok (.aload_n 0, 1) := by decide +kernel
theorem dX9_suits_94 : decode cX9_suits 94 = .ok (.iload 4, 2) := by decide +kernel
theorem dX9_suits_96 : decode cX9_suits 96 = .ok (.aload_n 0, 1) := by decide +kernel
theorem dX9_suits_97 : decode cX9_suits 97 = .ok (.getfield 110, 3) := by decide +kernel
theorem dX9_suits_100 : decode cX9_suits 100 = .ok (.iload_n 1, 1) := by decide +kernel
theorem dX9_suits_101 : decode cX9_suits 101 = .ok (.iaload, 1) := by decide +kernel
theorem dX9_suits_102 : decode cX9_suits 102 = .ok (.invokevirtual 262, 3) := by decide +kernel
theorem dX9_suits_105 : decode cX9_suits 105 = .ok (.ifCond .ne 7, 3) := by decide +kernel
theorem dX9_suits_108 : decode cX9_suits 108 = .ok (.iconst 1, 1) := by decide +kernel
theorem dX9_suits_109 : decode cX9_suits 109 = .ok (.goto 4, 3) := by decide +kernel
theorem dX9_suits_112 : decode cX9_suits 112 = .ok (.iconst 0, 1) := by decide +kernel
theorem dX9_suits_113 : decode cX9_suits 113 = .ok (.istore_n 3, 1) := by decide +kernel
theorem dX9_suits_114 : decode cX9_suits 114 = .ok (.iinc 4 1, 3) := by decide +kernel
theorem dX9_suits_117 : decode cX9_suits 117 = .ok (.goto (-84), 3) := by decide +kernel
theorem dX9_suits_120 : decode cX9_suits 120 = .ok (.iload_n 3, 1) := by decide +kernel
theorem dX9_suits_121 : decode cX9_suits 121 = .ok (.ireturn, 1) := by decide +kernel
theorem dX9_firstSlot_0 : decode cX9_firstSlot 0 = .ok (.bipush 7, 2) := by decide +kernel
theorem dX9_firstSlot_2 : decode cX9_firstSlot 2 = .ok (.aload_n 0, 1) := by decide +kernel
theorem dX9_firstSlot_3 : decode cX9_firstSlot 3 = .ok (.getfield 119, 3) := by decide +kernel
theorem dX9_firstSlot_6 : decode cX9_firstSlot 6 = .ok (.iload_n 1, 1) := by decide +kernel
theorem dX9_firstSlot_7 : decode cX9_firstSlot 7 = .ok (.iaload, 1) := by decide +kernel
theorem dX9_firstSlot_8 : decode cX9_firstSlot 8 = .ok (.imul, 1) := by decide +kernel
theorem dX9_firstSlot_9 : decode cX9_firstSlot 9 = .ok (.iload_n 2, 1) := by decide +kernel
theorem dX9_firstSlot_10 : decode cX9_firstSlot 10 = .ok (.if_icmp .le 15, 3) := by decide +kernel
theorem dX9_firstSlot_13 : decode cX9_firstSlot 13 = .ok (.bipush 7, 2) := by decide +kernel
theorem dX9_firstSlot_15 : decode cX9_firstSlot 15 = .ok (.aload_n 0, 1) := by decide +kernel
theorem dX9_firstSlot_16 : decode cX9_firstSlot 16 = .ok (.getfield 119, 3) := by decide +kernel
theorem dX9_firstSlot_19 : decode cX9_firstSlot 19 = .ok (.iload_n 1, 1) := by decide +kernel
theorem dX9_firstSlot_20 : decode cX9_firstSlot 20 = .ok (.iaload, 1) := by decide +kernel
theorem dX9_firstSlot_21 : decode cX9_firstSlot 21 = .ok (.imul, 1) := by decide +kernel
theorem dX9_firstSlot_22 : decode cX9_firstSlot 22 = .ok (.goto 4, 3) := by decide +kernel
theorem dX9_firstSlot_25 : decode cX9_firstSlot 25 = .ok (.iload_n 2, 1) := by decide +kernel
theorem dX9_firstSlot_26 : decode cX9_firstSlot 26 = .ok (.istore 5, 2) := by decide +kernel
theorem dX9_firstSlot_28 : decode cX9_firstSlot 28 = .ok (.iload 5, 2) := by decide +kernel
theorem dX9_firstSlot_30 : decode cX9_firstSlot 30 = .ok (.istore 6, 2) := by decide +kernel
theorem dX9_firstSlot_32 : decode cX9_firstSlot 32 = .ok (.iload 6, 2) := by decide +kernel
theorem dX9_firstSlot_34 : decode cX9_firstSlot 34 = .ok (.bipush 7, 2) := by decide +kernel
theorem dX9_firstSlot_36 : decode cX9_firstSlot 36 = .ok (.aload_n 0, 1) := by decide +kernel
theorem dX9_firstSlot_37 : decode cX9_firstSlot 37 = .ok (.getfield 119, 3) := by decide +kernel
theorem dX9_firstSlot_40 : decode cX9_firstSlot 40 = .ok (.iload_n 1, 1) := by decide +kernel
theorem dX9_firstSlot_41 : decode cX9_firstSlot 41 = .ok (.iaload, 1) := by decide +kernel
theorem dX9_firstSlot_42 : decode cX9_firstSlot 42 = .ok (.imul, 1) := by decide +kernel
theorem dX9_firstSlot_43 : decode cX9_firstSlot 43 = .ok (.bipush 7, 2) := by decide +kernel
theorem dX9_firstSlot_45 : decode cX9_firstSlot 45 = .ok (.iadd, 1) := by decide +kernel
theorem dX9_firstSlot_46 : decode cX9_firstSlot 46 = .ok (.if_icmp .ge 117, 3) := by decide +kernel
theorem dX9_firstSlot_49 : decode cX9_firstSlot 49 = .ok (.iconst 0, 1) := by decide +kernel
theorem dX9_firstSlot_50 : decode cX9_firstSlot 50 = .ok (.istore 7, 2) := by decide +kernel
theorem dX9_firstSlot_52 : decode cX9_firstSlot 52 = .ok (.iload 7, 2) := by decide +kernel
theorem dX9_firstSlot_54 : decode cX9_firstSlot 54 = .ok (.iconst 4, 1) := by decide +kernel
theorem dX9_firstSlot_55 : decode cX9_firstSlot 55 = .ok (.if_icmp .ge 102, 3) := by decide +kernel
theorem dX9_firstSlot_58 : decode cX9_firstSlot 58 = .ok (.iload_n 3, 1) := by decide +kernel
theorem dX9_firstSlot_59 : decode cX9_firstSlot 59 = .ok (.ifCond .eq 26, 3) := by decide +kernel
theorem dX9_firstSlot_62 : decode cX9_firstSlot 62 = .ok (.aload_n 0, 1) := by decide +kernel
theorem dX9_firstSlot_63 : decode cX9_firstSlot 63 = .ok (.getfield 122, 3) := by decide +kernel
theorem dX9_firstSlot_66 : decode cX9_firstSlot 66 = .ok (.iload_n 1, 1) := by decide +kernel
theorem dX9_firstSlot_67 : decode cX9_firstSlot 67 = .ok (.iaload, 1) := by decide +kernel
theorem dX9_firstSlot_68 : decode cX9_firstSlot 68 = .ok (.iconst 4, 1) := by decide +kernel
theorem dX9_firstSlot_69 : decode cX9_firstSlot 69 = .ok (.iload 6, 2) := by decide +kernel
theorem dX9_firstSlot_71 : decode cX9_firstSlot 71 = .ok (.bipush 7, 2) := by decide +kernel
theorem dX9_firstSlot_73 : decode cX9_firstSlot 73 = .ok (.irem, 1) := by decide +kernel
theorem dX9_firstSlot_74 : decode cX9_firstSlot 74 = .ok (.imul, 1) := by decide +kernel
theorem dX9_firstSlot_75 : decode cX9_firstSlot 75 = .ok (.iload 7, 2) := by decide +kernel
theorem dX9_firstSlot_77 : decode cX9_firstSlot 77 = .ok (.iadd, 1) := by decide +kernel
theorem dX9_firstSlot_78 : decode cX9_firstSlot 78 = .ok (.ishr, 1) := by decide +kernel
theorem dX9_firstSlot_79 : decode cX9_firstSlot 79 = .ok (.iconst 1, 1) := by decide +kernel
theorem dX9_firstSlot_80 : decode cX9_firstSlot 80 = .ok (.iand, 1) := by decide +kernel
theorem dX9_firstSlot_81 : decode cX9_firstSlot 81 = .ok (.iconst 1, 1) := by decide +kernel
theorem dX9_firstSlot_82 : decode cX9_firstSlot 82 = .ok (.if_icmp .ne 7, 3) := by decide +kernel
theorem dX9_firstSlot_85 : decode cX9_firstSlot 85 = .ok (.iconst 1, 1) := by decide +kernel
theorem dX9_firstSlot_86 : decode cX9_firstSlot 86 = .ok (.goto 4, 3) := by decide +kernel
theorem dX9_firstSlot_89 : decode cX9_firstSlot 89 = .ok (.iconst 0, 1) := by decide +kernel
theorem dX9_firstSlot_90 : decode cX9_firstSlot 90 = .ok (.istore 8, 2) := by decide +kernel
theorem dX9_firstSlot_92 : decode cX9_firstSlot 92 = .ok (.iconst 0, 1) := by decide +kernel
theorem dX9_firstSlot_93 : decode cX9_firstSlot 93 = .ok (.istore 9, 2) := by decide +kernel
theorem dX9_firstSlot_95 : decode cX9_firstSlot 95 = .ok (.iload 9, 2) := by decide +kernel
theorem dX9_firstSlot_97 : decode cX9_firstSlot 97 = .ok (.aload_n 0, 1) := by decide +kernel
theorem dX9_firstSlot_98 : decode cX9_firstSlot 98 = .ok (.getfield 236, 3) := by decide +kernel
theorem dX9_firstSlot_101 : decode cX9_firstSlot 101 = .ok (.if_icmp .ge 50, 3) := by decide +kernel
theorem dX9_firstSlot_104 : decode cX9_firstSlot 104 = .ok (.iload 8, 2) := by decide +kernel
theorem dX9_firstSlot_106 : decode cX9_firstSlot 106 = .ok (.ifCond .eq 45, 3) := by decide +kernel
theorem dX9_firstSlot_109 : decode cX9_firstSlot 109 = .ok (.bipush 24, 2) := by decide +kernel
theorem dX9_firstSlot_111 : decode cX9_firstSlot 111 = .ok (.iload 6, 2) := by decide +kernel
theorem dX9_firstSlot_113 : decode cX9_firstSlot 113 = .ok (.imul, 1) := by decide +kernel
theorem dX9_firstSlot_114 : decode cX9_firstSlot 114 = .ok (.bipush 6, 2) := by decide +kernel
theorem dX9_firstSlot_116 : decode cX9_firstSlot 116 = .ok (.iload 7, 2) := by decide +kernel
theorem dX9_firstSlot_118 : decode cX9_firstSlot 118 = .ok (.imul, 1) := by decide +kernel
theorem dX9_firstSlot_119 : decode cX9_firstSlot 119 = .ok (.iadd, 1) := by decide +kernel
theorem dX9_firstSlot_120 : decode cX9_firstSlot 120 = .ok (.iload 9, 2) := by decide +kernel
theorem dX9_firstSlot_122 : decode cX9_firstSlot 122 = .ok (.iadd, 1) := by decide +kernel
theorem dX9_firstSlot_123 : decode cX9_firstSlot 123 = .ok (.istore 10, 2) := by decide +kernel
theorem dX9_firstSlot_125 : decode cX9_firstSlot 125 = .ok (.iload 10, 2) := by decide +kernel
theorem dX9_firstSlot_127 : decode cX9_firstSlot 127 = .ok (.iload 4, 2) := by decide +kernel
theorem dX9_firstSlot_129 : decode cX9_firstSlot 129 = .ok (.if_icmp .eq 16, 3) := by decide +kernel
theorem dX9_firstSlot_132 : decode cX9_firstSlot 132 = .ok (.aload_n 0, 1) := by decide +kernel
theorem dX9_firstSlot_133 : decode cX9_firstSlot 133 = .ok (.iload_n 1, 1) := by decide +kernel
theorem dX9_firstSlot_134 : decode cX9_firstSlot 134 = .ok (.iload 10, 2) := by decide +kernel
theorem dX9_firstSlot_136 : decode cX9_firstSlot 136 = .ok (.invokevirtual 266, 3) := by decide +kernel
theorem dX9_firstSlot_139 : decode cX9_firstSlot 139 = .ok (.ifCond .eq 6, 3) := by decide +kernel
theorem dX9_firstSlot_142 : decode cX9_firstSlot 142 = .ok (.iload 10, 2) := by decide +kernel
theorem dX9_firstSlot_144 : decode cX9_firstSlot 144 = .ok (.ireturn, 1) := by decide +kernel
theorem dX9_firstSlot_145 : decode cX9_firstSlot 145 = .ok (.iinc 9 1, 3) := by decide +kernel
theorem dX9_firstSlot_148 : decode cX9_firstSlot 148 = .ok (.goto (-53), 3) := by decide +kernel
theorem dX9_firstSlot_151 : decode cX9_firstSlot 151 = .ok (.iinc 7 1, 3) := by decide +kernel
theorem dX9_firstSlot_154 : decode cX9_firstSlot 154 = .ok (.goto (-102), 3) := by decide +kernel
theorem dX9_firstSlot_157 : decode cX9_firstSlot 157 = .ok (.iinc 6 1, 3) := by decide +kernel
theorem dX9_firstSlot_160 : decode cX9_firstSlot 160 = .ok (.goto (-128), 3) := by decide +kernel
theorem dX9_firstSlot_163 : decode cX9_firstSlot 163 = .ok (.iconst (-1), 1) := by decide +kernel
theorem dX9_firstSlot_164 : decode cX9_firstSlot 164 = .ok (.ireturn, 1) := by decide +kernel
theorem dX9_lays_0 : decode cX9_lays 0 = .ok (.aload_n 0, 1) := by decide +kernel
theorem dX9_lays_1 : decode cX9_lays 1 = .ok (.getfield 125, 3) := by decide +kernel
theorem dX9_lays_4 : decode cX9_lays 4 = .ok (.iload_n 1, 1) := by decide +kernel
theorem dX9_lays_5 : decode cX9_lays 5 = .ok (.iconst 1, 1) := by decide +kernel
theorem dX9_lays_6 : decode cX9_lays 6 = .ok (.iastore, 1) := by decide +kernel
theorem dX9_lays_7 : decode cX9_lays 7 = .ok (.aload_n 0, 1) := by decide +kernel
theorem dX9_lays_8 : decode cX9_lays 8 = .ok (.getfield 128, 3) := by decide +kernel
theorem dX9_lays_11 : decode cX9_lays 11 = .ok (.iload_n 1, 1) := by decide +kernel
theorem dX9_lays_12 : decode cX9_lays 12 = .ok (.iload_n 2, 1) := by decide +kernel
theorem dX9_lays_13 : decode cX9_lays 13 = .ok (.iastore, 1) := by decide +kernel
theorem dX9_lays_14 : decode cX9_lays 14 = .ok (.return_, 1) := by decide +kernel
theorem dX9_laysOne_0 : decode cX9_laysOne 0 = .ok (.aload_n 0, 1) := by decide +kernel
theorem dX9_laysOne_1 : decode cX9_laysOne 1 = .ok (.iload_n 1, 1) := by decide +kernel
theorem dX9_laysOne_2 : decode cX9_laysOne 2 = .ok (.aload_n 0, 1) := by decide +kernel
theorem dX9_laysOne_3 : decode cX9_laysOne 3 = .ok (.getfield 239, 3) := by decide +kernel
theorem dX9_laysOne_6 : decode cX9_laysOne 6 = .ok (.iconst 1, 1) := by decide +kernel
theorem dX9_laysOne_7 : decode cX9_laysOne 7 = .ok (.iconst (-1), 1) := by decide +kernel
theorem dX9_laysOne_8 : decode cX9_laysOne 8 = .ok (.invokevirtual 269, 3) := by decide +kernel
theorem dX9_laysOne_11 : decode cX9_laysOne 11 = .ok (.istore_n 2, 1) := by decide +kernel
theorem dX9_laysOne_12 : decode cX9_laysOne 12 = .ok (.iload_n 2, 1) := by decide +kernel
theorem dX9_laysOne_13 : decode cX9_laysOne 13 = .ok (.ifCond .lt 11, 3) := by decide +kernel
theorem dX9_laysOne_16 : decode cX9_laysOne 16 = .ok (.aload_n 0, 1) := by decide +kernel
theorem dX9_laysOne_17 : decode cX9_laysOne 17 = .ok (.iload_n 1, 1) := by decide +kernel
theorem dX9_laysOne_18 : decode cX9_laysOne 18 = .ok (.iload_n 2, 1) := by decide +kernel
theorem dX9_laysOne_19 : decode cX9_laysOne 19 = .ok (.invokevirtual 273, 3) := by decide +kernel
theorem dX9_laysOne_22 : decode cX9_laysOne 22 = .ok (.iconst 1, 1) := by decide +kernel
theorem dX9_laysOne_23 : decode cX9_laysOne 23 = .ok (.ireturn, 1) := by decide +kernel
theorem dX9_laysOne_24 : decode cX9_laysOne 24 = .ok (.iconst 0, 1) := by decide +kernel
theorem dX9_laysOne_25 : decode cX9_laysOne 25 = .ok (.istore_n 3, 1) := by decide +kernel
theorem dX9_laysOne_26 : decode cX9_laysOne 26 = .ok (.iload_n 3, 1) := by decide +kernel
theorem dX9_laysOne_27 : decode cX9_laysOne 27 = .ok (.aload_n 0, 1) := by decide +kernel
theorem dX9_laysOne_28 : decode cX9_laysOne 28 = .ok (.getfield 253, 3) := by decide +kernel
theorem dX9_laysOne_31 : decode cX9_laysOne 31 = .ok (.if_icmp .ge 45, 3) := by decide +kernel
theorem dX9_laysOne_34 : decode cX9_laysOne 34 = .ok (.aload_n 0, 1) := by decide +kernel
theorem dX9_laysOne_35 : decode cX9_laysOne 35 = .ok (.getfield 125, 3) := by decide +kernel
theorem dX9_laysOne_38 : decode cX9_laysOne 38 = .ok (.iload_n 3, 1) := by decide +kernel
theorem dX9_laysOne_39 : decode cX9_laysOne 39 = .ok (.iaload, 1) := by decide +kernel
theorem dX9_laysOne_40 : decode cX9_laysOne 40 = .ok (.iconst 1, 1) := by decide +kernel
theorem dX9_laysOne_41 : decode cX9_laysOne 41 = .ok (.if_icmp .ne 29, 3) := by decide +kernel
theorem dX9_laysOne_44 : decode cX9_laysOne 44 = .ok (.aload_n 0, 1) := by decide +kernel
theorem dX9_laysOne_45 : decode cX9_laysOne 45 = .ok (.getfield 119, 3) := by decide +kernel
theorem dX9_laysOne_48 : decode cX9_laysOne 48 = .ok (.iload_n 3, 1) := by decide +kernel
theorem dX9_laysOne_49 : decode cX9_laysOne 49 = .ok (.iaload, 1) := by decide +kernel
theorem dX9_laysOne_50 : decode cX9_laysOne 50 = .ok (.aload_n 0, 1) := by decide +kernel
theorem dX9_laysOne_51 : decode cX9_laysOne 51 = .ok (.getfield 119, 3) := by decide +kernel
theorem dX9_laysOne_54 : decode cX9_laysOne 54 = .ok (.iload_n 1, 1) := by decide +kernel
theorem dX9_laysOne_55 : decode cX9_laysOne 55 = .ok (.iaload, 1) := by decide +kernel
theorem dX9_laysOne_56 : decode cX9_laysOne 56 = .ok (.if_icmp .ne 14, 3) := by decide +kernel
theorem dX9_laysOne_59 : decode cX9_laysOne 59 = .ok (.aload_n 0, 1) := by decide +kernel
theorem dX9_laysOne_60 : decode cX9_laysOne 60 = .ok (.iload_n 3, 1) := by decide +kernel
theorem dX9_laysOne_61 : decode cX9_laysOne 61 = .ok (.iload_n 1, 1) := by decide +kernel
theorem dX9_laysOne_62 : decode cX9_laysOne 62 = .ok (.invokevirtual 276, 3) := by decide +kernel
theorem dX9_laysOne_65 : decode cX9_laysOne 65 = .ok (.ifCond .eq 5, 3) := by decide +kernel
theorem dX9_laysOne_68 : decode cX9_laysOne 68 = .ok (.iconst 1, 1) := by decide +kernel
theorem dX9_laysOne_69 : decode cX9_laysOne 69 = .ok (.ireturn, 1) := by decide +kernel
theorem dX9_laysOne_70 : decode cX9_laysOne 70 = .ok (.iinc 3 1, 3) := by decide +kernel
theorem dX9_laysOne_73 : decode cX9_laysOne 73 = .ok (.goto (-47), 3) := by decide +kernel
theorem dX9_laysOne_76 : decode cX9_laysOne 76 = .ok (.iconst 0, 1) := by decide +kernel
theorem dX9_laysOne_77 : decode cX9_laysOne 77 = .ok (.ireturn, 1) := by decide +kernel
theorem dX9_givesWay_0 : decode cX9_givesWay 0 = .ok (.aload_n 0, 1) := by decide +kernel
theorem dX9_givesWay_1 : decode cX9_givesWay 1 = .ok (.getfield 128, 3) := by decide +kernel
theorem dX9_givesWay_4 : decode cX9_givesWay 4 = .ok (.iload_n 1, 1) := by decide +kernel
theorem dX9_givesWay_5 : decode cX9_givesWay 5 = .ok (.iaload, 1) := by decide +kernel
theorem dX9_givesWay_6 : decode cX9_givesWay 6 = .ok (.istore_n 3, 1) := by decide +kernel
theorem dX9_givesWay_7 : decode cX9_givesWay 7 = .ok (.aload_n 0, 1) := by decide +kernel
theorem dX9_givesWay_8 : decode cX9_givesWay 8 = .ok (.getfield 125, 3) := by decide +kernel
theorem dX9_givesWay_11 : decode cX9_givesWay 11 = .ok (.iload_n 1, 1) := by decide +kernel
theorem dX9_givesWay_12 : decode cX9_givesWay 12 = .ok (.iconst 0, 1) := by decide +kernel
theorem dX9_givesWay_13 : decode cX9_givesWay 13 = .ok (.iastore, 1) := by decide +kernel
theorem dX9_givesWay_14 : decode cX9_givesWay 14 = .ok (.aload_n 0, 1) := by decide +kernel
theorem dX9_givesWay_15 : decode cX9_givesWay 15 = .ok (.getfield 128, 3) := by decide +kernel
theorem dX9_givesWay_18 : decode cX9_givesWay 18 = .ok (.iload_n 1, 1) := by decide +kernel
theorem dX9_givesWay_19 : decode cX9_givesWay 19 = .ok (.iconst (-1), 1) := by decide +kernel
theorem dX9_givesWay_20 : decode cX9_givesWay 20 = .ok (.iastore, 1) := by decide +kernel
theorem dX9_givesWay_21 : decode cX9_givesWay 21 = .ok (.aload_n 0, 1) := by decide +kernel
theorem dX9_givesWay_22 : decode cX9_givesWay 22 = .ok (.iload_n 2, 1) := by decide +kernel
theorem dX9_givesWay_23 : decode cX9_givesWay 23 = .ok (.aload_n 0, 1) := by decide +kernel
theorem dX9_givesWay_24 : decode cX9_givesWay 24 = .ok (.getfield 239, 3) := by decide +kernel
theorem dX9_givesWay_27 : decode cX9_givesWay 27 = .ok (.iconst 1, 1) := by decide +kernel
theorem dX9_givesWay_28 : decode cX9_givesWay 28 = .ok (.iconst (-1), 1) := by decide +kernel
theorem dX9_givesWay_29 : decode cX9_givesWay 29 = .ok (.invokevirtual 269, 3) := by decide +kernel
theorem dX9_givesWay_32 : decode cX9_givesWay 32 = .ok (.istore 4, 2) := by decide +kernel
theorem dX9_givesWay_34 : decode cX9_givesWay 34 = .ok (.iload 4, 2) := by decide +kernel
theorem dX9_givesWay_36 : decode cX9_givesWay 36 = .ok (.ifCond .lt 51, 3) := by decide +kernel
theorem dX9_givesWay_39 : decode cX9_givesWay 39 = .ok (.aload_n 0, 1) := by decide +kernel
theorem dX9_givesWay_40 : decode cX9_givesWay 40 = .ok (.iload_n 2, 1) := by decide +kernel
theorem dX9_givesWay_41 : decode cX9_givesWay 41 = .ok (.iload 4, 2) := by decide +kernel
theorem dX9_givesWay_43 : decode cX9_givesWay 43 = .ok (.invokevirtual 273, 3) := by decide +kernel
theorem dX9_givesWay_46 : decode cX9_givesWay 46 = .ok (.aload_n 0, 1) := by decide +kernel
theorem dX9_givesWay_47 : decode cX9_givesWay 47 = .ok (.iload_n 1, 1) := by decide +kernel
theorem dX9_givesWay_48 : decode cX9_givesWay 48 = .ok (.aload_n 0, 1) := by decide +kernel
theorem dX9_givesWay_49 : decode cX9_givesWay 49 = .ok (.getfield 239, 3) := by decide +kernel
theorem dX9_givesWay_52 : decode cX9_givesWay 52 = .ok (.iconst 1, 1) := by decide +kernel
theorem dX9_givesWay_53 : decode cX9_givesWay 53 = .ok (.iload_n 3, 1) := by decide +kernel
theorem dX9_givesWay_54 : decode cX9_givesWay 54 = .ok (.invokevirtual 269, 3) := by decide +kernel
theorem dX9_givesWay_57 : decode cX9_givesWay 57 = .ok (.istore 5, 2) := by decide +kernel
theorem dX9_givesWay_59 : decode cX9_givesWay 59 = .ok (.iload 5, 2) := by decide +kernel
theorem dX9_givesWay_61 : decode cX9_givesWay 61 = .ok (.ifCond .lt 12, 3) := by decide +kernel
theorem dX9_givesWay_64 : decode cX9_givesWay 64 = .ok (.aload_n 0, 1) := by decide +kernel
theorem dX9_givesWay_65 : decode cX9_givesWay 65 = .ok (.iload_n 1, 1) := by decide +kernel
theorem dX9_givesWay_66 : decode cX9_givesWay 66 = .ok (.iload 5, 2) := by decide +kernel
theorem dX9_givesWay_68 : decode cX9_givesWay 68 = .ok (.invokevirtual 273, 3) := by decide +kernel
theorem dX9_givesWay_71 : decode cX9_givesWay 71 = .ok (.iconst 1, 1) := by decide +kernel
theorem dX9_givesWay_72 : decode cX9_givesWay 72 = .ok (.ireturn, 1) := by decide +kernel
theorem dX9_givesWay_73 : decode cX9_givesWay 73 = .ok (.aload_n 0, 1) := by decide +kernel
theorem dX9_givesWay_74 : decode cX9_givesWay 74 = .ok (.getfield 125, 3) := by decide +kernel
theorem dX9_givesWay_77 : decode cX9_givesWay 77 = .ok (.iload_n 2, 1) := by decide +kernel
theorem dX9_givesWay_78 : decode cX9_givesWay 78 = .ok (.iconst 0, 1) := by decide +kernel
theorem dX9_givesWay_79 : decode cX9_givesWay 79 = .ok (.iastore, 1) := by decide +kernel
theorem dX9_givesWay_80 : decode cX9_givesWay 80 = .ok (.aload_n 0, 1) := by decide +kernel
theorem dX9_givesWay_81 : decode cX9_givesWay 81 = .ok (.getfield 128, 3) := by decide +kernel
theorem dX9_givesWay_84 : decode cX9_givesWay 84 = .ok (.iload_n 2, 1) := by decide +kernel
theorem dX9_givesWay_85 : decode cX9_givesWay 85 = .ok (.iconst (-1), 1) := by decide +kernel
theorem dX9_givesWay_86 : decode cX9_givesWay 86 = .ok (.iastore, 1) := by decide +kernel
theorem dX9_givesWay_87 : decode cX9_givesWay 87 = .ok (.aload_n 0, 1) := by decide +kernel
theorem dX9_givesWay_88 : decode cX9_givesWay 88 = .ok (.iload_n 1, 1) := by decide +kernel
theorem dX9_givesWay_89 : decode cX9_givesWay 89 = .ok (.iload_n 3, 1) := by decide +kernel
theorem dX9_givesWay_90 : decode cX9_givesWay 90 = .ok (.invokevirtual 273, 3) := by decide +kernel
theorem dX9_givesWay_93 : decode cX9_givesWay 93 = .ok (.iconst 0, 1) := by decide +kernel
theorem dX9_givesWay_94 : decode cX9_givesWay 94 = .ok (.ireturn, 1) := by decide +kernel
theorem dX9_lay__0 : decode cX9_lay_ 0 = .ok (.aload_n 0, 1) := by decide +kernel
theorem dX9_lay__1 : decode cX9_lay_ 1 = .ok (.iconst 0, 1) := by decide +kernel
theorem dX9_lay__2 : decode cX9_lay_ 2 = .ok (.putfield 137, 3) := by decide +kernel
theorem dX9_lay__5 : decode cX9_lay_ 5 = .ok (.aload_n 0, 1) := by decide +kernel
theorem dX9_lay__6 : decode cX9_lay_ 6 = .ok (.iload_n 1, 1) := by decide +kernel
theorem dX9_lay__7 : decode cX9_lay_ 7 = .ok (.invokevirtual 249, 3) := by decide +kernel
theorem dX9_lay__10 : decode cX9_lay_ 10 = .ok (.ifCond .eq 5, 3) := by decide +kernel
theorem dX9_lay__13 : decode cX9_lay_ 13 = .ok (.iconst (-1), 1) := by decide +kernel
theorem dX9_lay__14 : decode cX9_lay_ 14 = .ok (.ireturn, 1) := by decide +kernel
theorem dX9_lay__15 : decode cX9_lay_ 15 = .ok (.iconst 0, 1) := by decide +kernel
theorem dX9_lay__16 : decode cX9_lay_ 16 = .ok (.istore_n 2, 1) := by decide +kernel
theorem dX9_lay__17 : decode cX9_lay_ 17 = .ok (.bipush 9, 2) := by decide +kernel
theorem dX9_lay__19 : decode cX9_lay_ 19 = .ok (.istore_n 3, 1) := by decide +kernel
theorem dX9_lay__20 : decode cX9_lay_ 20 = .ok (.iload_n 3, 1) := by decide +kernel
theorem dX9_lay__21 : decode cX9_lay_ 21 = .ok (.ifCond .lt 71, 3) := by decide +kernel
theorem dX9_lay__24 : decode cX9_lay_ 24 = .ok (.iconst 0, 1) := by decide +kernel
theorem dX9_lay__25 : decode cX9_lay_ 25 = .ok (.istore 4, 2) := by decide +kernel
theorem dX9_lay__27 : decode cX9_lay_ 27 = .ok (.iload 4, 2) := by decide +kernel
theorem dX9_lay__29 : decode cX9_lay_ 29 = .ok (.aload_n 0, 1) := by decide +kernel
theorem dX9_lay__30 : decode cX9_lay_ 30 = .ok (.getfield 253, 3) := by decide +kernel
theorem dX9_lay__33 : decode cX9_lay_ 33 = .ok (.if_icmp .ge 53, 3) := by decide +kernel
theorem dX9_lay__36 : decode cX9_lay_ 36 = .ok (.aload_n 0, 1) := by decide +kernel
theorem dX9_lay__37 : decode cX9_lay_ 37 = .ok (.getfield 125, 3) := by decide +kernel
theorem dX9_lay__40 : decode cX9_lay_ 40 = .ok (.iload 4, 2) := by decide +kernel
theorem dX9_lay__42 : decode cX9_lay_ 42 = .ok (.iaload, 1) := by decide +kernel
theorem dX9_lay__43 : decode cX9_lay_ 43 = .ok (.ifCond .ne 37, 3) := by decide +kernel
theorem dX9_lay__46 : decode cX9_lay_ 46 = .ok (.aload_n 0, 1) := by decide +kernel
theorem dX9_lay__47 : decode cX9_lay_ 47 = .ok (.getfield 119, 3) := by decide +kernel
theorem dX9_lay__50 : decode cX9_lay_ 50 = .ok (.iload 4, 2) := by decide +kernel
theorem dX9_lay__52 : decode cX9_lay_ 52 = .ok (.iaload, 1) := by decide +kernel
theorem dX9_lay__53 : decode cX9_lay_ 53 = .ok (.iload_n 1, 1) := by decide +kernel
theorem dX9_lay__54 : decode cX9_lay_ 54 = .ok (.if_icmp .ne 26, 3) := by decide +kernel
theorem dX9_lay__57 : decode cX9_lay_ 57 = .ok (.aload_n 0, 1) := by decide +kernel
theorem dX9_lay__58 : decode cX9_lay_ 58 = .ok (.getfield 116, 3) := by decide +kernel
theorem dX9_lay__61 : decode cX9_lay_ 61 = .ok (.iload 4, 2) := by decide +kernel
theorem dX9_lay__63 : decode cX9_lay_ 63 = .ok (.iaload, 1) := by decide +kernel
theorem dX9_lay__64 : decode cX9_lay_ 64 = .ok (.iload_n 3, 1) := by decide +kernel
theorem dX9_lay__65 : decode cX9_lay_ 65 = .ok (.if_icmp .ne 15, 3) := by decide +kernel
theorem dX9_lay__68 : decode cX9_lay_ 68 = .ok (.aload_n 0, 1) := by decide +kernel
theorem dX9_lay__69 : decode cX9_lay_ 69 = .ok (.iload 4, 2) := by decide +kernel
theorem dX9_lay__71 : decode cX9_lay_ 71 = .ok (.invokevirtual 279, 3) := by decide +kernel
theorem dX9_lay__74 : decode cX9_lay_ 74 = .ok (.ifCond .ne 6, 3) := by decide +kernel
theorem dX9_lay__77 : decode cX9_lay_ 77 = .ok (.iinc 2 1, 3) := by decide +kernel
theorem dX9_lay__80 : decode cX9_lay_ 80 = .ok (.iinc 4 1, 3) := by decide +kernel
theorem dX9_lay__83 : decode cX9_lay_ 83 = .ok (.goto (-56), 3) := by decide +kernel
theorem dX9_lay__86 : decode cX9_lay_ 86 = .ok (.iinc 3 (-1), 3) := by decide +kernel
theorem dX9_lay__89 : decode cX9_lay_ 89 = .ok (.goto (-69), 3) := by decide +kernel
theorem dX9_lay__92 : decode cX9_lay_ 92 = .ok (.iload_n 2, 1) := by decide +kernel
theorem dX9_lay__93 : decode cX9_lay_ 93 = .ok (.ireturn, 1) := by decide +kernel
theorem dX9_isShut_0 : decode cX9_isShut 0 = .ok (.iconst 0, 1) := by decide +kernel
theorem dX9_isShut_1 : decode cX9_isShut 1 = .ok (.istore_n 2, 1) := by decide +kernel
theorem dX9_isShut_2 : decode cX9_isShut 2 = .ok (.bipush 16, 2) := by decide +kernel
theorem dX9_isShut_4 : decode cX9_isShut 4 = .ok (.aload_n 0, 1) := by decide +kernel
theorem dX9_isShut_5 : decode cX9_isShut 5 = .ok (.getfield 198, 3) := by decide +kernel
theorem dX9_isShut_8 : decode cX9_isShut 8 = .ok (.imul, 1) := by decide +kernel
theorem dX9_isShut_9 : decode cX9_isShut 9 = .ok (.istore_n 3, 1) := by decide +kernel
theorem dX9_isShut_10 : decode cX9_isShut 10 = .ok (.iload_n 3, 1) := by decide +kernel
theorem dX9_isShut_11 : decode cX9_isShut 11 = .ok (.bipush 16, 2) := by decide +kernel
theorem dX9_isShut_13 : decode cX9_isShut 13 = .ok (.aload_n 0, 1) := by decide +kernel
theorem dX9_isShut_14 : decode cX9_isShut 14 = .ok (.getfield 198, 3) := by decide +kernel
theorem dX9_isShut_17 : decode cX9_isShut 17 = .ok (.imul, 1) := by decide +kernel
theorem dX9_isShut_18 : decode cX9_isShut 18 = .ok (.aload_n 0, 1) := by decide +kernel
theorem dX9_isShut_19 : decode cX9_isShut 19 = .ok (.getfield 50, 3) := by decide +kernel
theorem dX9_isShut_22 : decode cX9_isShut 22 = .ok (.aload_n 0, 1) := by decide +kernel
theorem dX9_isShut_23 : decode cX9_isShut 23 = .ok (.getfield 198, 3) := by decide +kernel
theorem dX9_isShut_26 : decode cX9_isShut 26 = .ok (.iaload, 1) := by decide +kernel
theorem dX9_isShut_27 : decode cX9_isShut 27 = .ok (.iadd, 1) := by decide +kernel
theorem dX9_isShut_28 : decode cX9_isShut 28 = .ok (.if_icmp .ge 51, 3) := by decide +kernel
theorem dX9_isShut_31 : decode cX9_isShut 31 = .ok (.iload_n 2, 1) := by decide +kernel
theorem dX9_isShut_32 : decode cX9_isShut 32 = .ok (.ifCond .ne 47, 3) := by decide +kernel
theorem dX9_isShut_35 : decode cX9_isShut 35 = .ok (.aload_n 0, 1) := by decide +kernel
theorem dX9_isShut_36 : decode cX9_isShut 36 = .ok (.getfield 53, 3) := by decide +kernel
theorem dX9_isShut_39 : decode cX9_isShut 39 = .ok (.iload_n 3, 1) := by decide +kernel
theorem dX9_isShut_40 : decode cX9_isShut 40 = .ok (.iaload, 1) := by decide +kernel
theorem dX9_isShut_41 : decode cX9_isShut 41 = .ok (.ifCond .lt 13, 3) := by decide +kernel
theorem dX9_isShut_44 : decode cX9_isShut 44 = .ok (.aload_n 0, 1) := by decide +kernel
theorem dX9_isShut_45 : decode cX9_isShut 45 = .ok (.getfield 53, 3) := by decide +kernel
theorem dX9_isShut_48 : decode cX9_isShut 48 = .ok (.iload_n 3, 1) := by decide +kernel
theorem dX9_isShut_49 : decode cX9_isShut 49 = .ok (.iaload, 1) := by decide +kernel
theorem dX9_isShut_50 : decode cX9_isShut 50 = .ok (.iload_n 1, 1) := by decide +kernel
theorem dX9_isShut_51 : decode cX9_isShut 51 = .ok (.if_icmp .ne 20, 3) := by decide +kernel
theorem dX9_isShut_54 : decode cX9_isShut 54 = .ok (.aload_n 0, 1) := by decide +kernel
theorem dX9_isShut_55 : decode cX9_isShut 55 = .ok (.aload_n 0, 1) := by decide +kernel
theorem dX9_isShut_56 : decode cX9_isShut 56 = .ok (.getfield 56, 3) := by decide +kernel
theorem dX9_isShut_59 : decode cX9_isShut 59 = .ok (.iload_n 3, 1) := by decide +kernel
theorem dX9_isShut_60 : decode cX9_isShut 60 = .ok (.iaload, 1) := by decide +kernel
theorem dX9_isShut_61 : decode cX9_isShut 61 = .ok (.invokevirtual 282, 3) := by decide +kernel
theorem dX9_isShut_64 : decode cX9_isShut 64 = .ok (.ifCond .eq 7, 3) := by decide +kernel
theorem dX9_isShut_67 : decode cX9_isShut 67 = .ok (.iconst 1, 1) := by decide +kernel
theorem dX9_isShut_68 : decode cX9_isShut 68 = .ok (.goto 4, 3) := by decide +kernel
theorem dX9_isShut_71 : decode cX9_isShut 71 = .ok (.iconst 0, 1) := by decide +kernel
theorem dX9_isShut_72 : decode cX9_isShut 72 = .ok (.istore_n 2, 1) := by decide +kernel
theorem dX9_isShut_73 : decode cX9_isShut 73 = .ok (.iinc 3 1, 3) := by decide +kernel
theorem dX9_isShut_76 : decode cX9_isShut 76 = .ok (.goto (-66), 3) := by decide +kernel
theorem dX9_isShut_79 : decode cX9_isShut 79 = .ok (.iload_n 2, 1) := by decide +kernel
theorem dX9_isShut_80 : decode cX9_isShut 80 = .ok (.ireturn, 1) := by decide +kernel
theorem dX9_hour_0 : decode cX9_hour 0 = .ok (.aload_n 0, 1) := by decide +kernel
theorem dX9_hour_1 : decode cX9_hour 1 = .ok (.bipush 24, 2) := by decide +kernel
theorem dX9_hour_3 : decode cX9_hour 3 = .ok (.aload_n 0, 1) := by decide +kernel
theorem dX9_hour_4 : decode cX9_hour 4 = .ok (.getfield 239, 3) := by decide +kernel
theorem dX9_hour_7 : decode cX9_hour 7 = .ok (.imul, 1) := by decide +kernel
theorem dX9_hour_8 : decode cX9_hour 8 = .ok (.bipush 6, 2) := by decide +kernel
theorem dX9_hour_10 : decode cX9_hour 10 = .ok (.iload_n 1, 1) := by decide +kernel
theorem dX9_hour_11 : decode cX9_hour 11 = .ok (.imul, 1) := by decide +kernel
theorem dX9_hour_12 : decode cX9_hour 12 = .ok (.iadd, 1) := by decide +kernel
theorem dX9_hour_13 : decode cX9_hour 13 = .ok (.iload_n 2, 1) := by decide +kernel
theorem dX9_hour_14 : decode cX9_hour 14 = .ok (.iadd, 1) := by decide +kernel
theorem dX9_hour_15 : decode cX9_hour 15 = .ok (.invokevirtual 259, 3) := by decide +kernel
theorem dX9_hour_18 : decode cX9_hour 18 = .ok (.istore 5, 2) := by decide +kernel
theorem dX9_hour_20 : decode cX9_hour 20 = .ok (.aload_n 0, 1) := by decide +kernel
theorem dX9_hour_21 : decode cX9_hour 21 = .ok (.getfield 74, 3) := by decide +kernel
theorem dX9_hour_24 : decode cX9_hour 24 = .ok (.iconst 0, 1) := by decide +kernel
theorem dX9_hour_25 : decode cX9_hour 25 = .ok (.iload 4, 2) := by decide +kernel
theorem dX9_hour_27 : decode cX9_hour 27 = .ok (.iastore, 1) := by decide +kernel
theorem dX9_hour_28 : decode cX9_hour 28 = .ok (.aload_n 0, 1) := by decide +kernel
theorem dX9_hour_29 : decode cX9_hour 29 = .ok (.getfield 74, 3) := by decide +kernel
theorem dX9_hour_32 : decode cX9_hour 32 = .ok (.iconst 1, 1) := by decide +kernel
theorem dX9_hour_33 : decode cX9_hour 33 = .ok (.iload_n 3, 1) := by decide +kernel
theorem dX9_hour_34 : decode cX9_hour 34 = .ok (.iastore, 1) := by decide +kernel
theorem dX9_hour_35 : decode cX9_hour 35 = .ok (.aload_n 0, 1) := by decide +kernel
theorem dX9_hour_36 : decode cX9_hour 36 = .ok (.getfield 74, 3) := by decide +kernel
theorem dX9_hour_39 : decode cX9_hour 39 = .ok (.iconst 2, 1) := by decide +kernel
theorem dX9_hour_40 : decode cX9_hour 40 = .ok (.aload_n 0, 1) := by decide +kernel
theorem dX9_hour_41 : decode cX9_hour 41 = .ok (.getfield 86, 3) := by decide +kernel
theorem dX9_hour_44 : decode cX9_hour 44 = .ok (.iload_n 2, 1) := by decide +kernel
theorem dX9_hour_45 : decode cX9_hour 45 = .ok (.invokestatic 285, 3) := by decide +kernel
theorem dX9_hour_48 : decode cX9_hour 48 = .ok (.iastore, 1) := by decide +kernel
theorem dX9_hour_49 : decode cX9_hour 49 = .ok (.aload_n 0, 1) := by decide +kernel
theorem dX9_hour_50 : decode cX9_hour 50 = .ok (.getfield 74, 3) := by decide +kernel
theorem dX9_hour_53 : decode cX9_hour 53 = .ok (.iconst 3, 1) := by decide +kernel
theorem dX9_hour_54 : decode cX9_hour 54 = .ok (.aload_n 0, 1) := by decide +kernel
theorem dX9_hour_55 : decode cX9_hour 55 = .ok (.getfield 86, 3) := by decide +kernel
theorem dX9_hour_58 : decode cX9_hour 58 = .ok (.iload_n 2, 1) := by decide +kernel
theorem dX9_hour_59 : decode cX9_hour 59 = .ok (.invokestatic 289, 3) := by decide +kernel
theorem dX9_hour_62 : decode cX9_hour 62 = .ok (.iastore, 1) := by decide +kernel
theorem dX9_hour_63 : decode cX9_hour 63 = .ok (.aload_n 0, 1) := by decide +kernel
theorem dX9_hour_64 : decode cX9_hour 64 = .ok (.getfield 74, 3) := by decide +kernel
theorem dX9_hour_67 : decode cX9_hour 67 = .ok (.iconst 4, 1) := by decide +kernel
theorem dX9_hour_68 : decode cX9_hour 68 = .ok (.aload_n 0, 1) := by decide +kernel
theorem dX9_hour_69 : decode cX9_hour 69 = .ok (.getfield 101, 3) := by decide +kernel
theorem dX9_hour_72 : decode cX9_hour 72 = .ok (.iload_n 2, 1) := by decide +kernel
theorem dX9_hour_73 : decode cX9_hour 73 = .ok (.iaload, 1) := by decide +kernel
theorem dX9_hour_74 : decode cX9_hour 74 = .ok (.iastore, 1) := by decide +kernel
theorem dX9_hour_75 : decode cX9_hour 75 = .ok (.aload_n 0, 1) := by decide +kernel
theorem dX9_hour_76 : decode cX9_hour 76 = .ok (.getfield 74, 3) := by decide +kernel
theorem dX9_hour_79 : decode cX9_hour 79 = .ok (.iconst 5, 1) := by decide +kernel
theorem dX9_hour_80 : decode cX9_hour 80 = .ok (.aload_n 0, 1) := by decide +kernel
theorem dX9_hour_81 : decode cX9_hour 81 = .ok (.getfield 239, 3) := by decide +kernel
theorem dX9_hour_84 : decode cX9_hour 84 = .ok (.bipush 7, 2) := by decide +kernel
theorem dX9_hour_86 : decode cX9_hour 86 = .ok (.irem, 1) := by decide +kernel
theorem dX9_hour_87 : decode cX9_hour 87 = .ok (.iastore, 1) := by decide +kernel
theorem dX9_hour_88 : decode cX9_hour 88 = .ok (.aload_n 0, 1) := by decide +kernel
theorem dX9_hour_89 : decode cX9_hour 89 = .ok (.getfield 74, 3) := by decide +kernel
theorem dX9_hour_92 : decode cX9_hour 92 = .ok (.bipush 6, 2) := by decide +kernel
theorem dX9_hour_94 : decode cX9_hour 94 = .ok (.iload_n 1, 1) := by decide +kernel
theorem dX9_hour_95 : decode cX9_hour 95 = .ok (.iastore, 1) := by decide +kernel
theorem dX9_hour_96 : decode cX9_hour 96 = .ok (.aload_n 0, 1) := by decide +kernel
theorem dX9_hour_97 : decode cX9_hour 97 = .ok (.getfield 74, 3) := by decide +kernel
theorem dX9_hour_100 : decode cX9_hour 100 = .ok (.bipush 7, 2) := by decide +kernel
theorem dX9_hour_102 : decode cX9_hour 102 = .ok (.iload 5, 2) := by decide +kernel
theorem dX9_hour_104 : decode cX9_hour 104 = .ok (.ifCond .ge 7, 3) := by decide +kernel
theorem dX9_hour_107 : decode cX9_hour 107 = .ok (.iconst (-1), 1) := by decide +kernel
theorem dX9_hour_108 : decode cX9_hour 108 = .ok (.goto 10, 3) := by decide +kernel
theorem dX9_hour_111 : decode cX9_hour 111 = .ok (.aload_n 0, 1) := by decide +kernel
theorem dX9_hour_112 : decode cX9_hour 112 = .ok (.getfield 113, 3) := by decide +kernel
theorem dX9_hour_115 : decode cX9_hour 115 = .ok (.iload 5, 2) := by decide +kernel
theorem dX9_hour_117 : decode cX9_hour 117 = .ok (.iaload, 1) := by decide +kernel
theorem dX9_hour_118 : decode cX9_hour 118 = .ok (.iastore, 1) := by decide +kernel
theorem dX9_hour_119 : decode cX9_hour 119 = .ok (.aload_n 0, 1) := by decide +kernel
theorem dX9_hour_120 : decode cX9_hour 120 = .ok (.iload_n 2, 1) := by decide +kernel
theorem dX9_hour_121 : decode cX9_hour 121 = .ok (.invokevirtual 292, 3) := by decide +kernel
theorem dX9_hour_124 : decode cX9_hour 124 = .ok (.ifCond .eq 59, 3) := by decide +kernel
theorem dX9_hour_127 : decode cX9_hour 127 = .ok (.aload_n 0, 1) := by decide +kernel
theorem dX9_hour_128 : decode cX9_hour 128 = .ok (.getfield 104, 3) := by decide +kernel
theorem dX9_hour_131 : decode cX9_hour 131 = .ok (.iload_n 2, 1) := by decide +kernel
theorem dX9_hour_132 : decode cX9_hour 132 = .ok (.dup2, 1) := by decide +kernel
theorem dX9_hour_133 : decode cX9_hour 133 = .ok (.iaload, 1) := by decide +kernel
theorem dX9_hour_134 : decode cX9_hour 134 = .ok (.iconst 1, 1) := by decide +kernel
theorem dX9_hour_135 : decode cX9_hour 135 = .ok (.iadd, 1) := by decide +kernel
theorem dX9_hour_136 : decode cX9_hour 136 = .ok (.iastore, 1) := by decide +kernel
theorem dX9_hour_137 : decode cX9_hour 137 = .ok (.iload 5, 2) := by decide +kernel
theorem dX9_hour_139 : decode cX9_hour 139 = .ok (.ifCond .lt 143, 3) := by decide +kernel
theorem dX9_hour_142 : decode cX9_hour 142 = .ok (.aload_n 0, 1) := by decide +kernel
theorem dX9_hour_143 : decode cX9_hour 143 = .ok (.getfield 134, 3) := by decide +kernel
theorem dX9_hour_146 : decode cX9_hour 146 = .ok (.aload_n 0, 1) := by decide +kernel
theorem dX9_hour_147 : decode cX9_hour 147 = .ok (.getfield 107, 3) := by decide +kernel
theorem dX9_hour_150 : decode cX9_hour 150 = .ok (.iload 5, 2) := by decide +kernel
theorem dX9_hour_152 : decode cX9_hour 152 = .ok (.iaload, 1) := by decide +kernel
theorem dX9_hour_153 : decode cX9_hour 153 = .ok (.dup2, 1) := by decide +kernel
theorem dX9_hour_154 : decode cX9_hour 154 = .ok (.iaload, 1) := by decide +kernel
theorem dX9_hour_155 : decode cX9_hour 155 = .ok (.iconst 1, 1) := by decide +kernel
theorem dX9_hour_156 : decode cX9_hour 156 = .ok (.iadd, 1) := by decide +kernel
theorem dX9_hour_157 : decode cX9_hour 157 = .ok (.iastore, 1) := by decide +kernel
theorem dX9_hour_158 : decode cX9_hour 158 = .ok (.aload_n 0, 1) := by decide +kernel
theorem dX9_hour_159 : decode cX9_hour 159 = .ok (.getfield 134, 3) := by decide +kernel
theorem dX9_hour_162 : decode cX9_hour 162 = .ok (.aload_n 0, 1) := by decide +kernel
theorem dX9_hour_163 : decode cX9_hour 163 = .ok (.getfield 110, 3) := by decide +kernel
theorem dX9_hour_166 : decode cX9_hour 166 = .ok (.iload 5, 2) := by decide +kernel
theorem dX9_hour_168 : decode cX9_hour 168 = .ok (.iaload, 1) := by decide +kernel
theorem dX9_hour_169 : decode cX9_hour 169 = .ok (.dup2, 1) := by decide +kernel
theorem dX9_hour_170 : decode cX9_hour 170 = .ok (.iaload, 1) := by decide +kernel
theorem dX9_hour_171 : decode cX9_hour 171 = .ok (.iconst 1, 1) := by decide +kernel
theorem dX9_hour_172 : decode cX9_hour 172 = .ok (.iadd, 1) := by decide +kernel
theorem dX9_hour_173 : decode cX9_hour 173 = .ok (.iastore, 1) := by decide +kernel
theorem dX9_hour_174 : decode cX9_hour 174 = .ok (.aload_n 0, 1) := by decide +kernel
theorem dX9_hour_175 : decode cX9_hour 175 = .ok (.iload 5, 2) := by decide +kernel
theorem dX9_hour_177 : decode cX9_hour 177 = .ok (.invokevirtual 295, 3) := by decide +kernel
theorem dX9_hour_180 : decode cX9_hour 180 = .ok (.goto 102, 3) := by decide +kernel
theorem dX9_hour_183 : decode cX9_hour 183 = .ok (.iload 5, 2) := by decide +kernel
theorem dX9_hour_185 : decode cX9_hour 185 = .ok (.ifCond .lt 97, 3) := by decide +kernel
theorem dX9_hour_188 : decode cX9_hour 188 = .ok (.aload_n 0, 1) := by decide +kernel
theorem dX9_hour_189 : decode cX9_hour 189 = .ok (.getfield 125, 3) := by decide +kernel
theorem dX9_hour_192 : decode cX9_hour 192 = .ok (.iload 5, 2) := by decide +kernel
theorem dX9_hour_194 : decode cX9_hour 194 = .ok (.iconst 2, 1) := by decide +kernel
theorem dX9_hour_195 : decode cX9_hour 195 = .ok (.iastore, 1) := by decide +kernel
theorem dX9_hour_196 : decode cX9_hour 196 = .ok (.aload_n 0, 1) := by decide +kernel
theorem dX9_hour_197 : decode cX9_hour 197 = .ok (.getfield 98, 3) := by decide +kernel
theorem dX9_hour_200 : decode cX9_hour 200 = .ok (.iload_n 2, 1) := by decide +kernel
theorem dX9_hour_201 : decode cX9_hour 201 = .ok (.dup2, 1) := by decide +kernel
theorem dX9_hour_202 : decode cX9_hour 202 = .ok (.iaload, 1) := by decide +kernel
theorem dX9_hour_203 : decode cX9_hour 203 = .ok (.iconst 1, 1) := by decide +kernel
theorem dX9_hour_204 : decode cX9_hour 204 = .ok (.iadd, 1) := by decide +kernel
theorem dX9_hour_205 : decode cX9_hour 205 = .ok (.iastore, 1) := by decide +kernel
theorem dX9_hour_206 : decode cX9_hour 206 = .ok (.aload_n 0, 1) := by decide +kernel
theorem dX9_hour_207 : decode cX9_hour 207 = .ok (.getfield 101, 3) := by decide +kernel
theorem dX9_hour_210 : decode cX9_hour 210 = .ok (.iload_n 2, 1) := by decide +kernel
theorem dX9_hour_211 : decode cX9_hour 211 = .ok (.dup2, 1) := by decide +kernel
theorem dX9_hour_212 : decode cX9_hour 212 = .ok (.iaload, 1) := by decide +kernel
theorem dX9_hour_213 : decode cX9_hour 213 = .ok (.iconst 1, 1) := by decide +kernel
theorem dX9_hour_214 : decode cX9_hour 214 = .ok (.iadd, 1) := by decide +kernel
theorem dX9_hour_215 : decode cX9_hour 215 = .ok (.iastore, 1) := by decide +kernel
theorem dX9_hour_216 : decode cX9_hour 216 = .ok (.aload_n 0, 1) := by decide +kernel
theorem dX9_hour_217 : decode cX9_hour 217 = .ok (.getfield 92, 3) := by decide +kernel
theorem dX9_hour_220 : decode cX9_hour 220 = .ok (.iload_n 2, 1) := by decide +kernel
theorem dX9_hour_221 : decode cX9_hour 221 = .ok (.dup2, 1) := by decide +kernel
theorem dX9_hour_222 : decode cX9_hour 222 = .ok (.iaload, 1) := by decide +kernel
theorem dX9_hour_223 : decode cX9_hour 223 = .ok (.aload_n 0, 1) := by decide +kernel
theorem dX9_hour_224 : decode cX9_hour 224 = .ok (.getfield 86, 3) := by decide +kernel
theorem dX9_hour_227 : decode cX9_hour 227 = .ok (.iload_n 2, 1) := by decide +kernel
theorem dX9_hour_228 : decode cX9_hour 228 = .ok (.aload_n 0, 1) := by decide +kernel
theorem dX9_hour_229 : decode cX9_hour 229 = .ok (.getfield 83, 3) := by decide +kernel
theorem dX9_hour_232 : decode cX9_hour 232 = .ok (.iload_n 2, 1) := by decide +kernel
theorem dX9_hour_233 : decode cX9_hour 233 = .ok (.iaload, 1) := by decide +kernel
theorem dX9_hour_234 : decode cX9_hour 234 = .ok (.aload_n 0, 1) := by decide +kernel
theorem dX9_hour_235 : decode cX9_hour 235 = .ok (.getfield 113, 3) := by decide +kernel
theorem dX9_hour_238 : decode cX9_hour 238 = .ok (.iload 5, 2) := by decide +kernel
theorem dX9_hour_240 : decode cX9_hour 240 = .ok (.iaload, 1) := by decide +kernel
theorem dX9_hour_241 : decode cX9_hour 241 = .ok (.iload 4, 2) := by decide +kernel
theorem dX9_hour_243 : decode cX9_hour 243 = .ok (.invokestatic 298, 3) := by decide +kernel
theorem dX9_hour_246 : decode cX9_hour 246 = .ok (.iadd, 1) := by decide +kernel
theorem dX9_hour_247 : decode cX9_hour 247 = .ok (.iastore, 1) := by decide +kernel
theorem dX9_hour_248 : decode cX9_hour 248 = .ok (.aload_n 0, 1) := by decide +kernel
theorem dX9_hour_249 : decode cX9_hour 249 = .ok (.getfield 95, 3) := by decide +kernel
theorem dX9_hour_252 : decode cX9_hour 252 = .ok (.iload_n 2, 1) := by decide +kernel
theorem dX9_hour_253 : decode cX9_hour 253 = .ok (.dup2, 1) := by decide +kernel
theorem dX9_hour_254 : decode cX9_hour 254 = .ok (.iaload, 1) := by decide +kernel
theorem dX9_hour_255 : decode cX9_hour 255 = .ok (.aload_n 0, 1) := by decide +kernel
theorem dX9_hour_256 : decode cX9_hour 256 = .ok (.getfield 89, 3) := by decide +kernel
theorem dX9_hour_259 : decode cX9_hour 259 = .ok (.iload_n 2, 1) := by decide +kernel
theorem dX9_hour_260 : decode cX9_hour 260 = .ok (.iconst 1, 1) := by decide +kernel
theorem dX9_hour_261 : decode cX9_hour 261 = .ok (.aload_n 0, 1) := by decide +kernel
theorem dX9_hour_262 : decode cX9_hour 262 = .ok (.getfield 83, 3) := by decide +kernel
theorem dX9_hour_265 : decode cX9_hour 265 = .ok (.iload_n 2, 1) := by decide +kernel
theorem dX9_hour_266 : decode cX9_hour 266 = .ok (.iaload, 1) := by decide +kernel
theorem dX9_hour_267 : decode cX9_hour 267 = .ok (.isub, 1) := by decide +kernel
theorem dX9_hour_268 : decode cX9_hour 268 = .ok (.aload_n 0, 1) := by decide +kernel
theorem dX9_hour_269 : decode cX9_hour 269 = .ok (.getfield 113, 3) := by decide +kernel
theorem dX9_hour_272 : decode cX9_hour 272 = .ok (.iload 5, 2) := by decide +kernel
theorem dX9_hour_274 : decode cX9_hour 274 = .ok (.iaload, 1) := by decide +kernel
theorem dX9_hour_275 : decode cX9_hour 275 = .ok (.iload 4, 2) := by decide +kernel
theorem dX9_hour_277 : decode cX9_hour 277 = .ok (.invokestatic 298, 3) := by decide +kernel
theorem dX9_hour_280 : decode cX9_hour 280 = .ok (.iadd, 1) := by decide +kernel
theorem dX9_hour_281 : decode cX9_hour 281 = .ok (.iastore, 1) := by decide +kernel
theorem dX9_hour_282 : decode cX9_hour 282 = .ok (.return_, 1) := by decide +kernel
theorem dX9_movesOn_0 : decode cX9_movesOn 0 = .ok (.aload_n 0, 1) := by decide +kernel
theorem dX9_movesOn_1 : decode cX9_movesOn 1 = .ok (.iload_n 1, 1) := by decide +kernel
theorem dX9_movesOn_2 : decode cX9_movesOn 2 = .ok (.aload_n 0, 1) := by decide +kernel
theorem dX9_movesOn_3 : decode cX9_movesOn 3 = .ok (.getfield 239, 3) := by decide +kernel
theorem dX9_movesOn_6 : decode cX9_movesOn 6 = .ok (.iconst 1, 1) := by decide +kernel
theorem dX9_movesOn_7 : decode cX9_movesOn 7 = .ok (.iadd, 1) := by decide +kernel
theorem dX9_movesOn_8 : decode cX9_movesOn 8 = .ok (.iconst 0, 1) := by decide +kernel
theorem dX9_movesOn_9 : decode cX9_movesOn 9 = .ok (.iconst (-1), 1) := by decide +kernel
theorem dX9_movesOn_10 : decode cX9_movesOn 10 = .ok (.invokevirtual 269, 3) := by decide +kernel
theorem dX9_movesOn_13 : decode cX9_movesOn 13 = .ok (.istore_n 2, 1) := by decide +kernel
theorem dX9_movesOn_14 : decode cX9_movesOn 14 = .ok (.iload_n 2, 1) := by decide +kernel
theorem dX9_movesOn_15 : decode cX9_movesOn 15 = .ok (.ifCond .lt 22, 3) := by decide +kernel
theorem dX9_movesOn_18 : decode cX9_movesOn 18 = .ok (.aload_n 0, 1) := by decide +kernel
theorem dX9_movesOn_19 : decode cX9_movesOn 19 = .ok (.iload_n 1, 1) := by decide +kernel
theorem dX9_movesOn_20 : decode cX9_movesOn 20 = .ok (.iload_n 2, 1) := by decide +kernel
theorem dX9_movesOn_21 : decode cX9_movesOn 21 = .ok (.invokevirtual 273, 3) := by decide +kernel
theorem dX9_movesOn_24 : decode cX9_movesOn 24 = .ok (.aload_n 0, 1) := by decide +kernel
theorem dX9_movesOn_25 : decode cX9_movesOn 25 = .ok (.getfield 131, 3) := by decide +kernel
theorem dX9_movesOn_28 : decode cX9_movesOn 28 = .ok (.iload_n 1, 1) := by decide +kernel
theorem dX9_movesOn_29 : decode cX9_movesOn 29 = .ok (.dup2, 1) := by decide +kernel
theorem dX9_movesOn_30 : decode cX9_movesOn 30 = .ok (.iaload, 1) := by decide +kernel
theorem dX9_movesOn_31 : decode cX9_movesOn 31 = .ok (.iconst 1, 1) := by decide +kernel
theorem dX9_movesOn_32 : decode cX9_movesOn 32 = .ok (.iadd, 1) := by decide +kernel
theorem dX9_movesOn_33 : decode cX9_movesOn 33 = .ok (.iastore, 1) := by decide +kernel
theorem dX9_movesOn_34 : decode cX9_movesOn 34 = .ok (.goto 17, 3) := by decide +kernel
theorem dX9_movesOn_37 : decode cX9_movesOn 37 = .ok (.aload_n 0, 1) := by decide +kernel
theorem dX9_movesOn_38 : decode cX9_movesOn 38 = .ok (.getfield 125, 3) := by decide +kernel
theorem dX9_movesOn_41 : decode cX9_movesOn 41 = .ok (.iload_n 1, 1) := by decide +kernel
theorem dX9_movesOn_42 : decode cX9_movesOn 42 = .ok (.iconst 3, 1) := by decide +kernel
theorem dX9_movesOn_43 : decode cX9_movesOn 43 = .ok (.iastore, 1) := by decide +kernel
theorem dX9_movesOn_44 : decode cX9_movesOn 44 = .ok (.aload_n 0, 1) := by decide +kernel
theorem dX9_movesOn_45 : decode cX9_movesOn 45 = .ok (.getfield 128, 3) := by decide +kernel
theorem dX9_movesOn_48 : decode cX9_movesOn 48 = .ok (.iload_n 1, 1) := by decide +kernel
theorem dX9_movesOn_49 : decode cX9_movesOn 49 = .ok (.iconst (-1), 1) := by decide +kernel
theorem dX9_movesOn_50 : decode cX9_movesOn 50 = .ok (.iastore, 1) := by decide +kernel
theorem dX9_movesOn_51 : decode cX9_movesOn 51 = .ok (.return_, 1) := by decide +kernel
theorem dX9_day_0 : decode cX9_day 0 = .ok (.aload_n 0, 1) := by decide +kernel
theorem dX9_day_1 : decode cX9_day 1 = .ok (.iconst 0, 1) := by decide +kernel
theorem dX9_day_2 : decode cX9_day 2 = .ok (.putfield 137, 3) := by decide +kernel
theorem dX9_day_5 : decode cX9_day 5 = .ok (.iload_n 1, 1) := by decide +kernel
theorem dX9_day_6 : decode cX9_day 6 = .ok (.ifCond .lt 29, 3) := by decide +kernel
theorem dX9_day_9 : decode cX9_day 9 = .ok (.iload_n 1, 1) := by decide +kernel
theorem dX9_day_10 : decode cX9_day 10 = .ok (.bipush 10, 2) := by decide +kernel
theorem dX9_day_12 : decode cX9_day 12 = .ok (.if_icmp .gt 23, 3) := by decide +kernel
theorem dX9_day_15 : decode cX9_day 15 = .ok (.iload_n 2, 1) := by decide +kernel
theorem dX9_day_16 : decode cX9_day 16 = .ok (.ifCond .lt 19, 3) := by decide +kernel
theorem dX9_day_19 : decode cX9_day 19 = .ok (.iload_n 2, 1) := by decide +kernel
theorem dX9_day_20 : decode cX9_day 20 = .ok (.bipush 10, 2) := by decide +kernel
theorem dX9_day_22 : decode cX9_day 22 = .ok (.if_icmp .gt 13, 3) := by decide +kernel
theorem dX9_day_25 : decode cX9_day 25 = .ok (.aload_n 0, 1) := by decide +kernel
theorem dX9_day_26 : decode cX9_day 26 = .ok (.getfield 239, 3) := by decide +kernel
theorem dX9_day_29 : decode cX9_day 29 = .ok (.sipush 357, 3) := by decide +kernel
theorem dX9_day_32 : decode cX9_day 32 = .ok (.if_icmp .ne 5, 3) := by decide +kernel
theorem dX9_day_35 : decode cX9_day 35 = .ok (.iconst (-1), 1) := by decide +kernel
theorem dX9_day_36 : decode cX9_day 36 = .ok (.ireturn, 1) := by decide +kernel
theorem dX9_day_37 : decode cX9_day 37 = .ok (.iconst 0, 1) := by decide +kernel
theorem dX9_day_38 : decode cX9_day 38 = .ok (.istore_n 3, 1) := by decide +kernel
theorem dX9_day_39 : decode cX9_day 39 = .ok (.iload_n 3, 1) := by decide +kernel
theorem dX9_day_40 : decode cX9_day 40 = .ok (.aload_n 0, 1) := by decide +kernel
theorem dX9_day_41 : decode cX9_day 41 = .ok (.getfield 236, 3) := by decide +kernel
theorem dX9_day_44 : decode cX9_day 44 = .ok (.if_icmp .ge 35, 3) := by decide +kernel
theorem dX9_day_47 : decode cX9_day 47 = .ok (.aload_n 0, 1) := by decide +kernel
theorem dX9_day_48 : decode cX9_day 48 = .ok (.getfield 101, 3) := by decide +kernel
theorem dX9_day_51 : decode cX9_day 51 = .ok (.iload_n 3, 1) := by decide +kernel
theorem dX9_day_52 : decode cX9_day 52 = .ok (.aload_n 0, 1) := by decide +kernel
theorem dX9_day_53 : decode cX9_day 53 = .ok (.getfield 239, 3) := by decide +kernel
theorem dX9_day_56 : decode cX9_day 56 = .ok (.bipush 7, 2) := by decide +kernel
theorem dX9_day_58 : decode cX9_day 58 = .ok (.irem, 1) := by decide +kernel
theorem dX9_day_59 : decode cX9_day 59 = .ok (.ifCond .ne 7, 3) := by decide +kernel
theorem dX9_day_62 : decode cX9_day 62 = .ok (.iconst 0, 1) := by decide +kernel
theorem dX9_day_63 : decode cX9_day 63 = .ok (.goto 9, 3) := by decide +kernel
theorem dX9_day_66 : decode cX9_day 66 = .ok (.aload_n 0, 1) := by decide +kernel
theorem dX9_day_67 : decode cX9_day 67 = .ok (.getfield 101, 3) := by decide +kernel
theorem dX9_day_70 : decode cX9_day 70 = .ok (.iload_n 3, 1) := by decide +kernel
theorem dX9_day_71 : decode cX9_day 71 = .ok (.iaload, 1) := by decide +kernel
theorem dX9_day_72 : decode cX9_day 72 = .ok (.iastore, 1) := by decide +kernel
