theorem dX8_club_56 : decode cX8_club 56 = .ok (.ireturn, 1) := by decide +kernel
theorem dX8_club_57 : decode cX8_club 57 = .ok (.iconst (-1), 1) := by decide +kernel
theorem dX8_club_58 : decode cX8_club 58 = .ok (.ireturn, 1) := by decide +kernel
theorem dX8_field_0 : decode cX8_field 0 = .ok (.aload_n 0, 1) := by decide +kernel
theorem dX8_field_1 : decode cX8_field 1 = .ok (.iload_n 1, 1) := by decide +kernel
theorem dX8_field_2 : decode cX8_field 2 = .ok (.invokevirtual 156, 3) := by decide +kernel
theorem dX8_field_5 : decode cX8_field 5 = .ok (.ifCond .ne 5, 3) := by decide +kernel
theorem dX8_field_8 : decode cX8_field 8 = .ok (.iconst (-1), 1) := by decide +kernel
theorem dX8_field_9 : decode cX8_field 9 = .ok (.ireturn, 1) := by decide +kernel
theorem dX8_field_10 : decode cX8_field 10 = .ok (.aload_n 0, 1) := by decide +kernel
theorem dX8_field_11 : decode cX8_field 11 = .ok (.getfield 11, 3) := by decide +kernel
theorem dX8_field_14 : decode cX8_field 14 = .ok (.iload_n 1, 1) := by decide +kernel
theorem dX8_field_15 : decode cX8_field 15 = .ok (.aaload, 1) := by decide +kernel
theorem dX8_field_16 : decode cX8_field 16 = .ok (.astore_n 3, 1) := by decide +kernel
theorem dX8_field_17 : decode cX8_field 17 = .ok (.iload_n 2, 1) := by decide +kernel
theorem dX8_field_18 : decode cX8_field 18 = .ok (.tableswitch 80 0 5 #[38, 46, 54, 62, 67, 72], 38) := by decide +kernel
theorem dX8_field_56 : decode cX8_field 56 = .ok (.aload_n 3, 1) := by decide +kernel
theorem dX8_field_57 : decode cX8_field 57 = .ok (.getfield 143, 3) := by decide +kernel
theorem dX8_field_60 : decode cX8_field 60 = .ok (.getfield 159, 3) := by decide +kernel
theorem dX8_field_63 : decode cX8_field 63 = .ok (.ireturn, 1) := by decide +kernel
theorem dX8_field_64 : decode cX8_field 64 = .ok (.aload_n 3, 1) := by decide +kernel
theorem dX8_field_65 : decode cX8_field 65 = .ok (.getfield 143, 3) := by decide +kernel
theorem dX8_field_68 : decode cX8_field 68 = .ok (.invokevirtual 186, 3) := by decide +kernel
theorem dX8_field_71 : decode cX8_field 71 = .ok (.ireturn, 1) := by decide +kernel
theorem dX8_field_72 : decode cX8_field 72 = .ok (.aload_n 3, 1) := by decide +kernel
theorem dX8_field_73 : decode cX8_field 73 = .ok (.getfield 143, 3) := by decide +kernel
theorem dX8_field_76 : decode cX8_field 76 = .ok (.invokevirtual 190, 3) := by decide +kernel
theorem dX8_field_79 : decode cX8_field 79 = .ok (.ireturn, 1) := by decide +kernel
theorem dX8_field_80 : decode cX8_field 80 = .ok (.aload_n 3, 1) := by decide +kernel
theorem dX8_field_81 : decode cX8_field 81 = .ok (.getfield 193, 3) := by decide +kernel
theorem dX8_field_84 : decode cX8_field 84 = .ok (.ireturn, 1) := by decide +kernel
theorem dX8_field_85 : decode cX8_field 85 = .ok (.aload_n 3, 1) := by decide +kernel
theorem dX8_field_86 : decode cX8_field 86 = .ok (.getfield 196, 3) := by decide +kernel
theorem dX8_field_89 : decode cX8_field 89 = .ok (.ireturn, 1) := by decide +kernel
theorem dX8_field_90 : decode cX8_field 90 = .ok (.aload_n 3, 1) := by decide +kernel
theorem dX8_field_91 : decode cX8_field 91 = .ok (.getfield 143, 3) := by decide +kernel
theorem dX8_field_94 : decode cX8_field 94 = .ok (.getfield 199, 3) := by decide +kernel
theorem dX8_field_97 : decode cX8_field 97 = .ok (.ireturn, 1) := by decide +kernel
theorem dX8_field_98 : decode cX8_field 98 = .ok (.iconst (-1), 1) := by decide +kernel
theorem dX8_field_99 : decode cX8_field 99 = .ok (.ireturn, 1) := by decide +kernel
theorem dX8_would_0 : decode cX8_would 0 = .ok (.aload_n 0, 1) := by decide +kernel
theorem dX8_would_1 : decode cX8_would 1 = .ok (.iload_n 1, 1) := by decide +kernel
theorem dX8_would_2 : decode cX8_would 2 = .ok (.invokevirtual 156, 3) := by decide +kernel
theorem dX8_would_5 : decode cX8_would 5 = .ok (.ifCond .ne 5, 3) := by decide +kernel
theorem dX8_would_8 : decode cX8_would 8 = .ok (.iconst (-1), 1) := by decide +kernel
theorem dX8_would_9 : decode cX8_would 9 = .ok (.ireturn, 1) := by decide +kernel
theorem dX8_would_10 : decode cX8_would 10 = .ok (.aload_n 0, 1) := by decide +kernel
theorem dX8_would_11 : decode cX8_would 11 = .ok (.getfield 11, 3) := by decide +kernel
theorem dX8_would_14 : decode cX8_would 14 = .ok (.iload_n 1, 1) := by decide +kernel
theorem dX8_would_15 : decode cX8_would 15 = .ok (.aaload, 1) := by decide +kernel
theorem dX8_would_16 : decode cX8_would 16 = .ok (.getfield 153, 3) := by decide +kernel
theorem dX8_would_19 : decode cX8_would 19 = .ok (.astore_n 3, 1) := by decide +kernel
theorem dX8_would_20 : decode cX8_would 20 = .ok (.iload_n 2, 1) := by decide +kernel
theorem dX8_would_21 : decode cX8_would 21 = .ok (.tableswitch 42 0 2 #[27, 32, 37], 27) := by decide +kernel
theorem dX8_would_48 : decode cX8_would 48 = .ok (.aload_n 3, 1) := by decide +kernel
theorem dX8_would_49 : decode cX8_would 49 = .ok (.invokevirtual 186, 3) := by decide +kernel
theorem dX8_would_52 : decode cX8_would 52 = .ok (.ireturn, 1) := by decide +kernel
theorem dX8_would_53 : decode cX8_would 53 = .ok (.aload_n 3, 1) := by decide +kernel
theorem dX8_would_54 : decode cX8_would 54 = .ok (.invokevirtual 190, 3) := by decide +kernel
theorem dX8_would_57 : decode cX8_would 57 = .ok (.ireturn, 1) := by decide +kernel
theorem dX8_would_58 : decode cX8_would 58 = .ok (.aload_n 3, 1) := by decide +kernel
theorem dX8_would_59 : decode cX8_would 59 = .ok (.getfield 199, 3) := by decide +kernel
theorem dX8_would_62 : decode cX8_would 62 = .ok (.ireturn, 1) := by decide +kernel
theorem dX8_would_63 : decode cX8_would 63 = .ok (.iconst (-1), 1) := by decide +kernel
theorem dX8_would_64 : decode cX8_would 64 = .ok (.ireturn, 1) := by decide +kernel
theorem dX8_count_0 : decode cX8_count 0 = .ok (.iload_n 1, 1) := by decide +kernel
theorem dX8_count_1 : decode cX8_count 1 = .ok (.tableswitch 115 0 9 #[55, 60, 65, 70, 76, 82, 88, 94, 102, 110], 55) := by decide +kernel
theorem dX8_count_56 : decode cX8_count 56 = .ok (.aload_n 0, 1) := by decide +kernel
theorem dX8_count_57 : decode cX8_count 57 = .ok (.getfield 77, 3) := by decide +kernel
theorem dX8_count_60 : decode cX8_count 60 = .ok (.ireturn, 1) := by decide +kernel
theorem dX8_count_61 : decode cX8_count 61 = .ok (.aload_n 0, 1) := by decide +kernel
theorem dX8_count_62 : decode cX8_count 62 = .ok (.getfield 81, 3) := by decide +kernel
theorem dX8_count_65 : decode cX8_count 65 = .ok (.ireturn, 1) := by decide +kernel
theorem dX8_count_66 : decode cX8_count 66 = .ok (.aload_n 0, 1) := by decide +kernel
theorem dX8_count_67 : decode cX8_count 67 = .ok (.getfield 84, 3) := by decide +kernel
theorem dX8_count_70 : decode cX8_count 70 = .ok (.ireturn, 1) := by decide +kernel
theorem dX8_count_71 : decode cX8_count 71 = .ok (.aload_n 0, 1) := by decide +kernel
theorem dX8_count_72 : decode cX8_count 72 = .ok (.iconst 0, 1) := by decide +kernel
theorem dX8_count_73 : decode cX8_count 73 = .ok (.invokevirtual 202, 3) := by decide +kernel
theorem dX8_count_76 : decode cX8_count 76 = .ok (.ireturn, 1) := by decide +kernel
theorem dX8_count_77 : decode cX8_count 77 = .ok (.aload_n 0, 1) := by decide +kernel
theorem dX8_count_78 : decode cX8_count 78 = .ok (.iconst 1, 1) := by decide +kernel
theorem dX8_count_79 : decode cX8_count 79 = .ok (.invokevirtual 202, 3) := by decide +kernel
theorem dX8_count_82 : decode cX8_count 82 = .ok (.ireturn, 1) := by decide +kernel
theorem dX8_count_83 : decode cX8_count 83 = .ok (.aload_n 0, 1) := by decide +kernel
theorem dX8_count_84 : decode cX8_count 84 = .ok (.iconst 2, 1) := by decide +kernel
theorem dX8_count_85 : decode cX8_count 85 = .ok (.invokevirtual 202, 3) := by decide +kernel
theorem dX8_count_88 : decode cX8_count 88 = .ok (.ireturn, 1) := by decide +kernel
theorem dX8_count_89 : decode cX8_count 89 = .ok (.aload_n 0, 1) := by decide +kernel
theorem dX8_count_90 : decode cX8_count 90 = .ok (.iconst 3, 1) := by decide +kernel
theorem dX8_count_91 : decode cX8_count 91 = .ok (.invokevirtual 202, 3) := by decide +kernel
theorem dX8_count_94 : decode cX8_count 94 = .ok (.ireturn, 1) := by decide +kernel
theorem dX8_count_95 : decode cX8_count 95 = .ok (.aload_n 0, 1) := by decide +kernel
theorem dX8_count_96 : decode cX8_count 96 = .ok (.getfield 70, 3) := by decide +kernel
theorem dX8_count_99 : decode cX8_count 99 = .ok (.getfield 205, 3) := by decide +kernel
theorem dX8_count_102 : decode cX8_count 102 = .ok (.ireturn, 1) := by decide +kernel
theorem dX8_count_103 : decode cX8_count 103 = .ok (.aload_n 0, 1) := by decide +kernel
theorem dX8_count_104 : decode cX8_count 104 = .ok (.getfield 49, 3) := by decide +kernel
theorem dX8_count_107 : decode cX8_count 107 = .ok (.getfield 125, 3) := by decide +kernel
theorem dX8_count_110 : decode cX8_count 110 = .ok (.ireturn, 1) := by decide +kernel
theorem dX8_count_111 : decode cX8_count 111 = .ok (.aload_n 0, 1) := by decide +kernel
theorem dX8_count_112 : decode cX8_count 112 = .ok (.invokevirtual 208, 3) := by decide +kernel
theorem dX8_count_115 : decode cX8_count 115 = .ok (.ireturn, 1) := by decide +kernel
theorem dX8_count_116 : decode cX8_count 116 = .ok (.iconst (-1), 1) := by decide +kernel
theorem dX8_count_117 : decode cX8_count 117 = .ok (.ireturn, 1) := by decide +kernel
theorem dX8_isClub_0 : decode cX8_isClub 0 = .ok (.iload_n 0, 1) := by decide +kernel
theorem dX8_isClub_1 : decode cX8_isClub 1 = .ok (.ifCond .lt 13, 3) := by decide +kernel
theorem dX8_isClub_4 : decode cX8_isClub 4 = .ok (.iload_n 0, 1) := by decide +kernel
theorem dX8_isClub_5 : decode cX8_isClub 5 = .ok (.bipush 16, 2) := by decide +kernel
theorem dX8_isClub_7 : decode cX8_isClub 7 = .ok (.if_icmp .ge 7, 3) := by decide +kernel
theorem dX8_isClub_10 : decode cX8_isClub 10 = .ok (.iconst 1, 1) := by decide +kernel
theorem dX8_isClub_11 : decode cX8_isClub 11 = .ok (.goto 4, 3) := by decide +kernel
theorem dX8_isClub_14 : decode cX8_isClub 14 = .ok (.iconst 0, 1) := by decide +kernel
theorem dX8_isClub_15 : decode cX8_isClub 15 = .ok (.ireturn, 1) := by decide +kernel
theorem dX8_isPitch_0 : decode cX8_isPitch 0 = .ok (.iload_n 1, 1) := by decide +kernel
theorem dX8_isPitch_1 : decode cX8_isPitch 1 = .ok (.ifCond .lt 15, 3) := by decide +kernel
theorem dX8_isPitch_4 : decode cX8_isPitch 4 = .ok (.iload_n 1, 1) := by decide +kernel
theorem dX8_isPitch_5 : decode cX8_isPitch 5 = .ok (.aload_n 0, 1) := by decide +kernel
theorem dX8_isPitch_6 : decode cX8_isPitch 6 = .ok (.getfield 77, 3) := by decide +kernel
theorem dX8_isPitch_9 : decode cX8_isPitch 9 = .ok (.if_icmp .ge 7, 3) := by decide +kernel
theorem dX8_isPitch_12 : decode cX8_isPitch 12 = .ok (.iconst 1, 1) := by decide +kernel
theorem dX8_isPitch_13 : decode cX8_isPitch 13 = .ok (.goto 4, 3) := by decide +kernel
theorem dX8_isPitch_16 : decode cX8_isPitch 16 = .ok (.iconst 0, 1) := by decide +kernel
theorem dX8_isPitch_17 : decode cX8_isPitch 17 = .ok (.ireturn, 1) := by decide +kernel
theorem dX8_isWeekToCome_0 : decode cX8_isWeekToCome 0 = .ok (.iload_n 1, 1) := by decide +kernel
theorem dX8_isWeekToCome_1 : decode cX8_isWeekToCome 1 = .ok (.ifCond .lt 26, 3) := by decide +kernel
theorem dX8_isWeekToCome_4 : decode cX8_isWeekToCome 4 = .ok (.iload_n 1, 1) := by decide +kernel
theorem dX8_isWeekToCome_5 : decode cX8_isWeekToCome 5 = .ok (.bipush 51, 2) := by decide +kernel
theorem dX8_isWeekToCome_7 : decode cX8_isWeekToCome 7 = .ok (.if_icmp .ge 20, 3) := by decide +kernel
theorem dX8_isWeekToCome_10 : decode cX8_isWeekToCome 10 = .ok (.aload_n 0, 1) := by decide +kernel
theorem dX8_isWeekToCome_11 : decode cX8_isWeekToCome 11 = .ok (.getfield 84, 3) := by decide +kernel
theorem dX8_isWeekToCome_14 : decode cX8_isWeekToCome 14 = .ok (.iload_n 1, 1) := by decide +kernel
theorem dX8_isWeekToCome_15 : decode cX8_isWeekToCome 15 = .ok (.iconst 1, 1) := by decide +kernel
theorem dX8_isWeekToCome_16 : decode cX8_isWeekToCome 16 = .ok (.iadd, 1) := by decide +kernel
theorem dX8_isWeekToCome_17 : decode cX8_isWeekToCome 17 = .ok (.bipush 7, 2) := by decide +kernel
theorem dX8_isWeekToCome_19 : decode cX8_isWeekToCome 19 = .ok (.imul, 1) := by decide +kernel
theorem dX8_isWeekToCome_20 : decode cX8_isWeekToCome 20 = .ok (.if_icmp .ge 7, 3) := by decide +kernel
theorem dX8_isWeekToCome_23 : decode cX8_isWeekToCome 23 = .ok (.iconst 1, 1) := by decide +kernel
theorem dX8_isWeekToCome_24 : decode cX8_isWeekToCome 24 = .ok (.goto 4, 3) := by decide +kernel
theorem dX8_isWeekToCome_27 : decode cX8_isWeekToCome 27 = .ok (.iconst 0, 1) := by decide +kernel
theorem dX8_isWeekToCome_28 : decode cX8_isWeekToCome 28 = .ok (.ireturn, 1) := by decide +kernel
theorem dX8_slotOf_0 : decode cX8_slotOf 0 = .ok (.iload_n 0, 1) := by decide +kernel
theorem dX8_slotOf_1 : decode cX8_slotOf 1 = .ok (.bipush 7, 2) := by decide +kernel
theorem dX8_slotOf_3 : decode cX8_slotOf 3 = .ok (.irem, 1) := by decide +kernel
theorem dX8_slotOf_4 : decode cX8_slotOf 4 = .ok (.bipush 24, 2) := by decide +kernel
theorem dX8_slotOf_6 : decode cX8_slotOf 6 = .ok (.imul, 1) := by decide +kernel
theorem dX8_slotOf_7 : decode cX8_slotOf 7 = .ok (.iload_n 1, 1) := by decide +kernel
theorem dX8_slotOf_8 : decode cX8_slotOf 8 = .ok (.bipush 6, 2) := by decide +kernel
theorem dX8_slotOf_10 : decode cX8_slotOf 10 = .ok (.imul, 1) := by decide +kernel
theorem dX8_slotOf_11 : decode cX8_slotOf 11 = .ok (.iadd, 1) := by decide +kernel
theorem dX8_slotOf_12 : decode cX8_slotOf 12 = .ok (.iload_n 2, 1) := by decide +kernel
theorem dX8_slotOf_13 : decode cX8_slotOf 13 = .ok (.iadd, 1) := by decide +kernel
theorem dX8_slotOf_14 : decode cX8_slotOf 14 = .ok (.ireturn, 1) := by decide +kernel
theorem dX8_gameIn_0 : decode cX8_gameIn 0 = .ok (.iconst 0, 1) := by decide +kernel
theorem dX8_gameIn_1 : decode cX8_gameIn 1 = .ok (.istore_n 3, 1) := by decide +kernel
theorem dX8_gameIn_2 : decode cX8_gameIn 2 = .ok (.iload_n 3, 1) := by decide +kernel
theorem dX8_gameIn_3 : decode cX8_gameIn 3 = .ok (.aload_n 0, 1) := by decide +kernel
theorem dX8_gameIn_4 : decode cX8_gameIn 4 = .ok (.getfield 81, 3) := by decide +kernel
theorem dX8_gameIn_7 : decode cX8_gameIn 7 = .ok (.if_icmp .ge 37, 3) := by decide +kernel
theorem dX8_gameIn_10 : decode cX8_gameIn 10 = .ok (.aload_n 0, 1) := by decide +kernel
theorem dX8_gameIn_11 : decode cX8_gameIn 11 = .ok (.getfield 17, 3) := by decide +kernel
theorem dX8_gameIn_14 : decode cX8_gameIn 14 = .ok (.iload_n 3, 1) := by decide +kernel
theorem dX8_gameIn_15 : decode cX8_gameIn 15 = .ok (.aaload, 1) := by decide +kernel
theorem dX8_gameIn_16 : decode cX8_gameIn 16 = .ok (.getfield 104, 3) := by decide +kernel
theorem dX8_gameIn_19 : decode cX8_gameIn 19 = .ok (.iload_n 1, 1) := by decide +kernel
theorem dX8_gameIn_20 : decode cX8_gameIn 20 = .ok (.if_icmp .ne 18, 3) := by decide +kernel
theorem dX8_gameIn_23 : decode cX8_gameIn 23 = .ok (.aload_n 0, 1) := by decide +kernel
theorem dX8_gameIn_24 : decode cX8_gameIn 24 = .ok (.getfield 17, 3) := by decide +kernel
theorem dX8_gameIn_27 : decode cX8_gameIn 27 = .ok (.iload_n 3, 1) := by decide +kernel
theorem dX8_gameIn_28 : decode cX8_gameIn 28 = .ok (.aaload, 1) := by decide +kernel
theorem dX8_gameIn_29 : decode cX8_gameIn 29 = .ok (.getfield 172, 3) := by decide +kernel
theorem dX8_gameIn_32 : decode cX8_gameIn 32 = .ok (.iload_n 2, 1) := by decide +kernel
theorem dX8_gameIn_33 : decode cX8_gameIn 33 = .ok (.if_icmp .ne 5, 3) := by decide +kernel
theorem dX8_gameIn_36 : decode cX8_gameIn 36 = .ok (.iload_n 3, 1) := by decide +kernel
theorem dX8_gameIn_37 : decode cX8_gameIn 37 = .ok (.ireturn, 1) := by decide +kernel
theorem dX8_gameIn_38 : decode cX8_gameIn 38 = .ok (.iinc 3 1, 3) := by decide +kernel
theorem dX8_gameIn_41 : decode cX8_gameIn 41 = .ok (.goto (-39), 3) := by decide +kernel
theorem dX8_gameIn_44 : decode cX8_gameIn 44 = .ok (.iconst (-1), 1) := by decide +kernel
theorem dX8_gameIn_45 : decode cX8_gameIn 45 = .ok (.ireturn, 1) := by decide +kernel
theorem dX8_gamesThatAre_0 : decode cX8_gamesThatAre 0 = .ok (.iconst 0, 1) := by decide +kernel
theorem dX8_gamesThatAre_1 : decode cX8_gamesThatAre 1 = .ok (.istore_n 2, 1) := by decide +kernel
theorem dX8_gamesThatAre_2 : decode cX8_gamesThatAre 2 = .ok (.iconst 0, 1) := by decide +kernel
theorem dX8_gamesThatAre_3 : decode cX8_gamesThatAre 3 = .ok (.istore_n 3, 1) := by decide +kernel
theorem dX8_gamesThatAre_4 : decode cX8_gamesThatAre 4 = .ok (.iload_n 3, 1) := by decide +kernel
theorem dX8_gamesThatAre_5 : decode cX8_gamesThatAre 5 = .ok (.aload_n 0, 1) := by decide +kernel
theorem dX8_gamesThatAre_6 : decode cX8_gamesThatAre 6 = .ok (.getfield 81, 3) := by decide +kernel
theorem dX8_gamesThatAre_9 : decode cX8_gamesThatAre 9 = .ok (.if_icmp .ge 25, 3) := by decide +kernel
theorem dX8_gamesThatAre_12 : decode cX8_gamesThatAre 12 = .ok (.aload_n 0, 1) := by decide +kernel
theorem dX8_gamesThatAre_13 : decode cX8_gamesThatAre 13 = .ok (.getfield 17, 3) := by decide +kernel
theorem dX8_gamesThatAre_16 : decode cX8_gamesThatAre 16 = .ok (.iload_n 3, 1) := by decide +kernel
theorem dX8_gamesThatAre_17 : decode cX8_gamesThatAre 17 = .ok (.aaload, 1) := by decide +kernel
theorem dX8_gamesThatAre_18 : decode cX8_gamesThatAre 18 = .ok (.getfield 107, 3) := by decide +kernel
theorem dX8_gamesThatAre_21 : decode cX8_gamesThatAre 21 = .ok (.iload_n 1, 1) := by decide +kernel
theorem dX8_gamesThatAre_22 : decode cX8_gamesThatAre 22 = .ok (.if_icmp .ne 6, 3) := by decide +kernel
theorem dX8_gamesThatAre_25 : decode cX8_gamesThatAre 25 = .ok (.iinc 2 1, 3) := by decide +kernel
theorem dX8_gamesThatAre_28 : decode cX8_gamesThatAre 28 = .ok (.iinc 3 1, 3) := by decide +kernel
theorem dX8_gamesThatAre_31 : decode cX8_gamesThatAre 31 = .ok (.goto (-27), 3) := by decide +kernel
theorem dX8_gamesThatAre_34 : decode cX8_gamesThatAre 34 = .ok (.iload_n 2, 1) := by decide +kernel
theorem dX8_gamesThatAre_35 : decode cX8_gamesThatAre 35 = .ok (.ireturn, 1) := by decide +kernel
theorem dX8_newGamesOf_0 : decode cX8_newGamesOf 0 = .ok (.iconst 0, 1) := by decide +kernel
theorem dX8_newGamesOf_1 : decode cX8_newGamesOf 1 = .ok (.istore_n 2, 1) := by decide +kernel
theorem dX8_newGamesOf_2 : decode cX8_newGamesOf 2 = .ok (.iconst 0, 1) := by decide +kernel
theorem dX8_newGamesOf_3 : decode cX8_newGamesOf 3 = .ok (.istore_n 3, 1) := by decide +kernel
theorem dX8_newGamesOf_4 : decode cX8_newGamesOf 4 = .ok (.iload_n 3, 1) := by decide +kernel
theorem dX8_newGamesOf_5 : decode cX8_newGamesOf 5 = .ok (.aload_n 0, 1) := by decide +kernel
theorem dX8_newGamesOf_6 : decode cX8_newGamesOf 6 = .ok (.getfield 81, 3) := by decide +kernel
theorem dX8_newGamesOf_9 : decode cX8_newGamesOf 9 = .ok (.if_icmp .ge 37, 3) := by decide +kernel
theorem dX8_newGamesOf_12 : decode cX8_newGamesOf 12 = .ok (.aload_n 0, 1) := by decide +kernel
theorem dX8_newGamesOf_13 : decode cX8_newGamesOf 13 = .ok (.getfield 17, 3) := by decide +kernel
theorem dX8_newGamesOf_16 : decode cX8_newGamesOf 16 = .ok (.iload_n 3, 1) := by decide +kernel
theorem dX8_newGamesOf_17 : decode cX8_newGamesOf 17 = .ok (.aaload, 1) := by decide +kernel
theorem dX8_newGamesOf_18 : decode cX8_newGamesOf 18 = .ok (.getfield 104, 3) := by decide +kernel
theorem dX8_newGamesOf_21 : decode cX8_newGamesOf 21 = .ok (.iload_n 1, 1) := by decide +kernel
theorem dX8_newGamesOf_22 : decode cX8_newGamesOf 22 = .ok (.if_icmp .ne 18, 3) := by decide +kernel
theorem dX8_newGamesOf_25 : decode cX8_newGamesOf 25 = .ok (.aload_n 0, 1) := by decide +kernel
theorem dX8_newGamesOf_26 : decode cX8_newGamesOf 26 = .ok (.getfield 17, 3) := by decide +kernel
theorem dX8_newGamesOf_29 : decode cX8_newGamesOf 29 = .ok (.iload_n 3, 1) := by decide +kernel
theorem dX8_newGamesOf_30 : decode cX8_newGamesOf 30 = .ok (.aaload, 1) := by decide +kernel
theorem dX8_newGamesOf_31 : decode cX8_newGamesOf 31 = .ok (.getfield 107, 3) := by decide +kernel
theorem dX8_newGamesOf_34 : decode cX8_newGamesOf 34 = .ok (.ifCond .ne 6, 3) := by decide +kernel
theorem dX8_newGamesOf_37 : decode cX8_newGamesOf 37 = .ok (.iinc 2 1, 3) := by decide +kernel
theorem dX8_newGamesOf_40 : decode cX8_newGamesOf 40 = .ok (.iinc 3 1, 3) := by decide +kernel
theorem dX8_newGamesOf_43 : decode cX8_newGamesOf 43 = .ok (.goto (-39), 3) := by decide +kernel
theorem dX8_newGamesOf_46 : decode cX8_newGamesOf 46 = .ok (.iload_n 2, 1) := by decide +kernel
theorem dX8_newGamesOf_47 : decode cX8_newGamesOf 47 = .ok (.ireturn, 1) := by decide +kernel
theorem dX8_allHoursShut_0 : decode cX8_allHoursShut 0 = .ok (.iconst 0, 1) := by decide +kernel
theorem dX8_allHoursShut_1 : decode cX8_allHoursShut 1 = .ok (.istore_n 1, 1) := by decide +kernel
theorem dX8_allHoursShut_2 : decode cX8_allHoursShut 2 = .ok (.iconst 0, 1) := by decide +kernel
theorem dX8_allHoursShut_3 : decode cX8_allHoursShut 3 = .ok (.istore_n 2, 1) := by decide +kernel
theorem dX8_allHoursShut_4 : decode cX8_allHoursShut 4 = .ok (.iload_n 2, 1) := by decide +kernel
theorem dX8_allHoursShut_5 : decode cX8_allHoursShut 5 = .ok (.aload_n 0, 1) := by decide +kernel
theorem dX8_allHoursShut_6 : decode cX8_allHoursShut 6 = .ok (.getfield 77, 3) := by decide +kernel
theorem dX8_allHoursShut_9 : decode cX8_allHoursShut 9 = .ok (.if_icmp .ge 21, 3) := by decide +kernel
theorem dX8_allHoursShut_12 : decode cX8_allHoursShut 12 = .ok (.iload_n 1, 1) := by decide +kernel
theorem dX8_allHoursShut_13 : decode cX8_allHoursShut 13 = .ok (.aload_n 0, 1) := by decide +kernel
theorem dX8_allHoursShut_14 : decode cX8_allHoursShut 14 = .ok (.getfield 11, 3) := by decide +kernel
theorem dX8_allHoursShut_17 : decode cX8_allHoursShut 17 = .ok (.iload_n 2, 1) := by decide +kernel
theorem dX8_allHoursShut_18 : decode cX8_allHoursShut 18 = .ok (.aaload, 1) := by decide +kernel
theorem dX8_allHoursShut_19 : decode cX8_allHoursShut 19 = .ok (.getfield 196, 3) := by decide +kernel
theorem dX8_allHoursShut_22 : decode cX8_allHoursShut 22 = .ok (.iadd, 1) := by decide +kernel
theorem dX8_allHoursShut_23 : decode cX8_allHoursShut 23 = .ok (.istore_n 1, 1) := by decide +kernel
theorem dX8_allHoursShut_24 : decode cX8_allHoursShut 24 = .ok (.iinc 2 1, 3) := by decide +kernel
theorem dX8_allHoursShut_27 : decode cX8_allHoursShut 27 = .ok (.goto (-23), 3) := by decide +kernel
theorem dX8_allHoursShut_30 : decode cX8_allHoursShut 30 = .ok (.iload_n 1, 1) := by decide +kernel
theorem dX8_allHoursShut_31 : decode cX8_allHoursShut 31 = .ok (.ireturn, 1) := by decide +kernel
theorem dX8_showWeek_0 : decode cX8_showWeek 0 = .ok (.aload_n 0, 1) := by decide +kernel
theorem dX8_showWeek_1 : decode cX8_showWeek 1 = .ok (.getfield 42, 3) := by decide +kernel
theorem dX8_showWeek_4 : decode cX8_showWeek 4 = .ok (.invokevirtual 211, 3) := by decide +kernel
theorem dX8_showWeek_7 : decode cX8_showWeek 7 = .ok (.iconst 0, 1) := by decide +kernel
theorem dX8_showWeek_8 : decode cX8_showWeek 8 = .ok (.istore_n 2, 1) := by decide +kernel
theorem dX8_showWeek_9 : decode cX8_showWeek 9 = .ok (.iload_n 2, 1) := by decide +kernel
theorem dX8_showWeek_10 : decode cX8_showWeek 10 = .ok (.aload_n 0, 1) := by decide +kernel
theorem dX8_showWeek_11 : decode cX8_showWeek 11 = .ok (.getfield 81, 3) := by decide +kernel
theorem dX8_showWeek_14 : decode cX8_showWeek 14 = .ok (.if_icmp .ge 60, 3) := by decide +kernel
theorem dX8_showWeek_17 : decode cX8_showWeek 17 = .ok (.aload_n 0, 1) := by decide +kernel
theorem dX8_showWeek_18 : decode cX8_showWeek 18 = .ok (.getfield 17, 3) := by decide +kernel
theorem dX8_showWeek_21 : decode cX8_showWeek 21 = .ok (.iload_n 2, 1) := by decide +kernel
theorem dX8_showWeek_22 : decode cX8_showWeek 22 = .ok (.aaload, 1) := by decide +kernel
theorem dX8_showWeek_23 : decode cX8_showWeek 23 = .ok (.getfield 104, 3) := by decide +kernel
theorem dX8_showWeek_26 : decode cX8_showWeek 26 = .ok (.iload_n 1, 1) := by decide +kernel
theorem dX8_showWeek_27 : decode cX8_showWeek 27 = .ok (.if_icmp .ne 41, 3) := by decide +kernel
theorem dX8_showWeek_30 : decode cX8_showWeek 30 = .ok (.aload_n 0, 1) := by decide +kernel
theorem dX8_showWeek_31 : decode cX8_showWeek 31 = .ok (.getfield 17, 3) := by decide +kernel
theorem dX8_showWeek_34 : decode cX8_showWeek 34 = .ok (.iload_n 2, 1) := by decide +kernel
theorem dX8_showWeek_35 : decode cX8_showWeek 35 = .ok (.aaload, 1) := by decide +kernel
theorem dX8_showWeek_36 : decode cX8_showWeek 36 = .ok (.getfield 172, 3) := by decide +kernel
theorem dX8_showWeek_39 : decode cX8_showWeek 39 = .ok (.iconst (-1), 1) := by decide +kernel
theorem dX8_showWeek_40 : decode cX8_showWeek 40 = .ok (.if_icmp .eq 28, 3) := by decide +kernel
theorem dX8_showWeek_43 : decode cX8_showWeek 43 = .ok (.aload_n 0, 1) := by decide +kernel
theorem dX8_showWeek_44 : decode cX8_showWeek 44 = .ok (.getfield 42, 3) := by decide +kernel
theorem dX8_showWeek_47 : decode cX8_showWeek 47 = .ok (.aload_n 0, 1) := by decide +kernel
theorem dX8_showWeek_48 : decode cX8_showWeek 48 = .ok (.getfield 17, 3) := by decide +kernel
theorem dX8_showWeek_51 : decode cX8_showWeek 51 = .ok (.iload_n 2, 1) := by decide +kernel
theorem dX8_showWeek_52 : decode cX8_showWeek 52 = .ok (.aaload, 1) := by decide +kernel
theorem dX8_showWeek_53 : decode cX8_showWeek 53 = .ok (.getfield 172, 3) := by decide +kernel
theorem dX8_showWeek_56 : decode cX8_showWeek 56 = .ok (.aload_n 0, 1) := by decide +kernel
theorem dX8_showWeek_57 : decode cX8_showWeek 57 = .ok (.getfield 17, 3) := by decide +kernel
theorem dX8_showWeek_60 : decode cX8_showWeek 60 = .ok (.iload_n 2, 1) := by decide +kernel
theorem dX8_showWeek_61 : decode cX8_showWeek 61 = .ok (.aaload, 1) := by decide +kernel
theorem dX8_showWeek_62 : decode cX8_showWeek 62 = .ok (.getfield 214, 3) := by decide +kernel
theorem dX8_showWeek_65 : decode cX8_showWeek 65 = .ok (.invokevirtual 217, 3) := by decide +kernel
theorem dX8_showWeek_68 : decode cX8_showWeek 68 = .ok (.iinc 2 1, 3) := by decide +kernel
theorem dX8_showWeek_71 : decode cX8_showWeek 71 = .ok (.goto (-62), 3) := by decide +kernel
theorem dX8_showWeek_74 : decode cX8_showWeek 74 = .ok (.return_, 1) := by decide +kernel
theorem dX8_layGame_0 : decode cX8_layGame 0 = .ok (.aload_n 0, 1) := by decide +kernel
theorem dX8_layGame_1 : decode cX8_layGame 1 = .ok (.aload_n 1, 1) := by decide +kernel
theorem dX8_layGame_2 : decode cX8_layGame 2 = .ok (.iconst (-1), 1) := by decide +kernel
theorem dX8_layGame_3 : decode cX8_layGame 3 = .ok (.invokevirtual 220, 3) := by decide +kernel
theorem dX8_layGame_6 : decode cX8_layGame 6 = .ok (.istore_n 2, 1) := by decide +kernel
theorem dX8_layGame_7 : decode cX8_layGame 7 = .ok (.iload_n 2, 1) := by decide +kernel
theorem dX8_layGame_8 : decode cX8_layGame 8 = .ok (.iconst (-1), 1) := by decide +kernel
theorem dX8_layGame_9 : decode cX8_layGame 9 = .ok (.if_icmp .ne 11, 3) := by decide +kernel
theorem dX8_layGame_12 : decode cX8_layGame 12 = .ok (.aload_n 0, 1) := by decide +kernel
theorem dX8_layGame_13 : decode cX8_layGame 13 = .ok (.aload_n 1, 1) := by decide +kernel
theorem dX8_layGame_14 : decode cX8_layGame 14 = .ok (.invokevirtual 224, 3) := by decide +kernel
theorem dX8_layGame_17 : decode cX8_layGame 17 = .ok (.goto 25, 3) := by decide +kernel
theorem dX8_layGame_20 : decode cX8_layGame 20 = .ok (.aload_n 0, 1) := by decide +kernel
theorem dX8_layGame_21 : decode cX8_layGame 21 = .ok (.getfield 42, 3) := by decide +kernel
theorem dX8_layGame_24 : decode cX8_layGame 24 = .ok (.iload_n 2, 1) := by decide +kernel
theorem dX8_layGame_25 : decode cX8_layGame 25 = .ok (.aload_n 1, 1) := by decide +kernel
theorem dX8_layGame_26 : decode cX8_layGame 26 = .ok (.getfield 214, 3) := by decide +kernel
theorem dX8_layGame_29 : decode cX8_layGame 29 = .ok (.invokevirtual 217, 3) := by decide +kernel
theorem dX8_layGame_32 : decode cX8_layGame 32 = .ok (.aload_n 1, 1) := by decide +kernel
theorem dX8_layGame_33 : decode cX8_layGame 33 = .ok (.iload_n 2, 1) := by decide +kernel
theorem dX8_layGame_34 : decode cX8_layGame 34 = .ok (.putfield 172, 3) := by decide +kernel
theorem dX8_layGame_37 : decode cX8_layGame 37 = .ok (.aload_n 1, 1) := by decide +kernel
theorem dX8_layGame_38 : decode cX8_layGame 38 = .ok (.iconst 1, 1) := by decide +kernel
theorem dX8_layGame_39 : decode cX8_layGame 39 = .ok (.putfield 107, 3) := by decide +kernel
theorem dX8_layGame_42 : decode cX8_layGame 42 = .ok (.return_, 1) := by decide +kernel
theorem dX8_firstWish_0 : decode cX8_firstWish 0 = .ok (.aload_n 0, 1) := by decide +kernel
theorem dX8_firstWish_1 : decode cX8_firstWish 1 = .ok (.getfield 84, 3) := by decide +kernel
theorem dX8_firstWish_4 : decode cX8_firstWish 4 = .ok (.aload_n 1, 1) := by decide +kernel
theorem dX8_firstWish_5 : decode cX8_firstWish 5 = .ok (.getfield 104, 3) := by decide +kernel
theorem dX8_firstWish_8 : decode cX8_firstWish 8 = .ok (.bipush 7, 2) := by decide +kernel
theorem dX8_firstWish_10 : decode cX8_firstWish 10 = .ok (.imul, 1) := by decide +kernel
theorem dX8_firstWish_11 : decode cX8_firstWish 11 = .ok (.isub, 1) := by decide +kernel
theorem dX8_firstWish_12 : decode cX8_firstWish 12 = .ok (.istore_n 3, 1) := by decide +kernel
theorem dX8_firstWish_13 : decode cX8_firstWish 13 = .ok (.aload_n 0, 1) := by decide +kernel
theorem dX8_firstWish_14 : decode cX8_firstWish 14 = .ok (.getfield 42, 3) := by decide +kernel
theorem dX8_firstWish_17 : decode cX8_firstWish 17 = .ok (.aload_n 1, 1) := by decide +kernel
theorem dX8_firstWish_18 : decode cX8_firstWish 18 = .ok (.getfield 214, 3) := by decide +kernel
theorem dX8_firstWish_21 : decode cX8_firstWish 21 = .ok (.aload_n 0, 1) := by decide +kernel
theorem dX8_firstWish_22 : decode cX8_firstWish 22 = .ok (.getfield 21, 3) := by decide +kernel
theorem dX8_firstWish_25 : decode cX8_firstWish 25 = .ok (.aload_n 1, 1) := by decide +kernel
theorem dX8_firstWish_26 : decode cX8_firstWish 26 = .ok (.getfield 227, 3) := by decide +kernel
theorem dX8_firstWish_29 : decode cX8_firstWish 29 = .ok (.iaload, 1) := by decide +kernel
theorem dX8_firstWish_30 : decode cX8_firstWish 30 = .ok (.aload_n 1, 1) := by decide +kernel
theorem dX8_firstWish_31 : decode cX8_firstWish 31 = .ok (.getfield 230, 3) := by decide +kernel
theorem dX8_firstWish_34 : decode cX8_firstWish 34 = .ok (.iload_n 3, 1) := by decide +kernel
theorem dX8_firstWish_35 : decode cX8_firstWish 35 = .ok (.iload_n 2, 1) := by decide +kernel
theorem dX8_firstWish_36 : decode cX8_firstWish 36 = .ok (.invokevirtual 233, 3) := by decide +kernel
theorem dX8_firstWish_39 : decode cX8_firstWish 39 = .ok (.ireturn, 1) := by decide +kernel
theorem dX8_layInPlaceOfAnother_0 : decode cX8_layInPlaceOfAnother 0 = .ok (.iconst 0, 1) := by decide +kernel
theorem dX8_layInPlaceOfAnother_1 : decode cX8_layInPlaceOfAnother 1 = .ok (.istore_n 2, 1) := by decide +kernel
theorem dX8_layInPlaceOfAnother_2 : decode cX8_layInPlaceOfAnother 2 = .ok (.iconst 0, 1) := by decide +kernel
theorem dX8_layInPlaceOfAnother_3 : decode cX8_layInPlaceOfAnother 3 = .ok (.istore_n 3, 1) := by decide +kernel
theorem dX8_layInPlaceOfAnother_4 : decode cX8_layInPlaceOfAnother 4 = .ok (.iload_n 3, 1) := by decide +kernel
theorem dX8_layInPlaceOfAnother_5 : decode cX8_layInPlaceOfAnother 5 = .ok (.aload_n 0, 1) := by decide +kernel
theorem dX8_layInPlaceOfAnother_6 : decode cX8_layInPlaceOfAnother 6 = .ok (.getfield 81, 3) := by decide +kernel
theorem dX8_layInPlaceOfAnother_9 : decode cX8_layInPlaceOfAnother 9 = .ok (.if_icmp .ge 54, 3) := by decide +kernel
theorem dX8_layInPlaceOfAnother_12 : decode cX8_layInPlaceOfAnother 12 = .ok (.iload_n 2, 1) := by decide +kernel
theorem dX8_layInPlaceOfAnother_13 : decode cX8_layInPlaceOfAnother 13 = .ok (.ifCond .ne 50, 3) := by decide +kernel
theorem dX8_layInPlaceOfAnother_16 : decode cX8_layInPlaceOfAnother 16 = .ok (.aload_n 0, 1) := by decide +kernel
theorem dX8_layInPlaceOfAnother_17 : decode cX8_layInPlaceOfAnother 17 = .ok (.getfield 17, 3) := by decide +kernel
theorem dX8_layInPlaceOfAnother_20 : decode cX8_layInPlaceOfAnother 20 = .ok (.iload_n 3, 1) := by decide +kernel
theorem dX8_layInPlaceOfAnother_21 : decode cX8_layInPlaceOfAnother 21 = .ok (.aaload, 1) := by decide +kernel
theorem dX8_layInPlaceOfAnother_22 : decode cX8_layInPlaceOfAnother 22 = .ok (.getfield 104, 3) := by decide +kernel
theorem dX8_layInPlaceOfAnother_25 : decode cX8_layInPlaceOfAnother 25 = .ok (.aload_n 1, 1) := by decide +kernel
theorem dX8_layInPlaceOfAnother_26 : decode cX8_layInPlaceOfAnother 26 = .ok (.getfield 104, 3) := by decide +kernel
theorem dX8_layInPlaceOfAnother_29 : decode cX8_layInPlaceOfAnother 29 = .ok (.if_icmp .ne 28, 3) := by decide +kernel
theorem dX8_layInPlaceOfAnother_32 : decode cX8_layInPlaceOfAnother 32 = .ok (.aload_n 0, 1) := by decide +kernel
theorem dX8_layInPlaceOfAnother_33 : decode cX8_layInPlaceOfAnother 33 = .ok (.getfield 17, 3) := by decide +kernel
theorem dX8_layInPlaceOfAnother_36 : decode cX8_layInPlaceOfAnother 36 = .ok (.iload_n 3, 1) := by decide +kernel
theorem dX8_layInPlaceOfAnother_37 : decode cX8_layInPlaceOfAnother 37 = .ok (.aaload, 1) := by decide +kernel
theorem dX8_layInPlaceOfAnother_38 : decode cX8_layInPlaceOfAnother 38 = .ok (.getfield 107, 3) := by decide +kernel
theorem dX8_layInPlaceOfAnother_41 : decode cX8_layInPlaceOfAnother 41 = .ok (.iconst 1, 1) := by decide +kernel
theorem dX8_layInPlaceOfAnother_42 : decode cX8_layInPlaceOfAnother 42 = .ok (.if_icmp .ne 15, 3) := by decide +kernel
theorem dX8_layInPlaceOfAnother_45 : decode cX8_layInPlaceOfAnother 45 = .ok (.aload_n 0, 1) := by decide +kernel
theorem dX8_layInPlaceOfAnother_46 : decode cX8_layInPlaceOfAnother 46 = .ok (.aload_n 0, 1) := by decide +kernel
theorem dX8_layInPlaceOfAnother_47 : decode cX8_layInPlaceOfAnother 47 = .ok (.getfield 17, 3) := by decide +kernel
theorem dX8_layInPlaceOfAnother_50 : decode cX8_layInPlaceOfAnother 50 = .ok (.iload_n 3, 1) := by decide +kernel
theorem dX8_layInPlaceOfAnother_51 : decode cX8_layInPlaceOfAnother 51 = .ok (.aaload, 1) := by decide +kernel
theorem dX8_layInPlaceOfAnother_52 : decode cX8_layInPlaceOfAnother 52 = .ok (.aload_n 1, 1) := by decide +kernel
theorem dX8_layInPlaceOfAnother_53 : decode cX8_layInPlaceOfAnother 53 = .ok (.invokevirtual 237, 3) := by decide +kernel
theorem dX8_layInPlaceOfAnother_56 : decode cX8_layInPlaceOfAnother 56 = .ok (.istore_n 2, 1) := by decide +kernel
theorem dX8_layInPlaceOfAnother_57 : decode cX8_layInPlaceOfAnother 57 = .ok (.iinc 3 1, 3) := by decide +kernel
theorem dX8_layInPlaceOfAnother_60 : decode cX8_layInPlaceOfAnother 60 = .ok (.goto (-56), 3) := by decide +kernel
theorem dX8_layInPlaceOfAnother_63 : decode cX8_layInPlaceOfAnother 63 = .ok (.return_, 1) := by decide +kernel
theorem dX8_givesWay_0 : decode cX8_givesWay 0 = .ok (.aload_n 0, 1) := by decide +kernel
theorem dX8_givesWay_1 : decode cX8_givesWay 1 = .ok (.getfield 42, 3) := by decide +kernel
theorem dX8_givesWay_4 : decode cX8_givesWay 4 = .ok (.aload_n 1, 1) := by decide +kernel
theorem dX8_givesWay_5 : decode cX8_givesWay 5 = .ok (.getfield 172, 3) := by decide +kernel
theorem dX8_givesWay_8 : decode cX8_givesWay 8 = .ok (.aload_n 1, 1) := by decide +kernel
theorem dX8_givesWay_9 : decode cX8_givesWay 9 = .ok (.getfield 214, 3) := by decide +kernel
theorem dX8_givesWay_12 : decode cX8_givesWay 12 = .ok (.invokevirtual 241, 3) := by decide +kernel
theorem dX8_givesWay_15 : decode cX8_givesWay 15 = .ok (.aload_n 0, 1) := by decide +kernel
theorem dX8_givesWay_16 : decode cX8_givesWay 16 = .ok (.aload_n 2, 1) := by decide +kernel
theorem dX8_givesWay_17 : decode cX8_givesWay 17 = .ok (.iconst (-1), 1) := by decide +kernel
theorem dX8_givesWay_18 : decode cX8_givesWay 18 = .ok (.invokevirtual 220, 3) := by decide +kernel
theorem dX8_givesWay_21 : decode cX8_givesWay 21 = .ok (.istore_n 3, 1) := by decide +kernel
theorem dX8_givesWay_22 : decode cX8_givesWay 22 = .ok (.iload_n 3, 1) := by decide +kernel
theorem dX8_givesWay_23 : decode cX8_givesWay 23 = .ok (.iconst (-1), 1) := by decide +kernel
theorem dX8_givesWay_24 : decode cX8_givesWay 24 = .ok (.if_icmp .eq 75, 3) := by decide +kernel
theorem dX8_givesWay_27 : decode cX8_givesWay 27 = .ok (.aload_n 0, 1) := by decide +kernel
theorem dX8_givesWay_28 : decode cX8_givesWay 28 = .ok (.getfield 42, 3) := by decide +kernel
theorem dX8_givesWay_31 : decode cX8_givesWay 31 = .ok (.iload_n 3, 1) := by decide +kernel
theorem dX8_givesWay_32 : decode cX8_givesWay 32 = .ok (.aload_n 2, 1) := by decide +kernel
theorem dX8_givesWay_33 : decode cX8_givesWay 33 = .ok (.getfield 214, 3) := by decide +kernel
theorem dX8_givesWay_36 : decode cX8_givesWay 36 = .ok (.invokevirtual 217, 3) := by decide +kernel
theorem dX8_givesWay_39 : decode cX8_givesWay 39 = .ok (.aload_n 0, 1) := by decide +kernel
theorem dX8_givesWay_40 : decode cX8_givesWay 40 = .ok (.aload_n 1, 1) := by decide +kernel
theorem dX8_givesWay_41 : decode cX8_givesWay 41 = .ok (.aload_n 1, 1) := by decide +kernel
theorem dX8_givesWay_42 : decode cX8_givesWay 42 = .ok (.getfield 172, 3) := by decide +kernel
theorem dX8_givesWay_45 : decode cX8_givesWay 45 = .ok (.invokevirtual 220, 3) := by decide +kernel
theorem dX8_givesWay_48 : decode cX8_givesWay 48 = .ok (.istore 4, 2) := by decide +kernel
theorem dX8_givesWay_50 : decode cX8_givesWay 50 = .ok (.iload 4, 2) := by decide +kernel
theorem dX8_givesWay_52 : decode cX8_givesWay 52 = .ok (.iconst (-1), 1) := by decide +kernel
theorem dX8_givesWay_53 : decode cX8_givesWay 53 = .ok (.if_icmp .eq 34, 3) := by decide +kernel
theorem dX8_givesWay_56 : decode cX8_givesWay 56 = .ok (.aload_n 0, 1) := by decide +kernel
theorem dX8_givesWay_57 : decode cX8_givesWay 57 = .ok (.getfield 42, 3) := by decide +kernel
theorem dX8_givesWay_60 : decode cX8_givesWay 60 = .ok (.iload 4, 2) := by decide +kernel
theorem dX8_givesWay_62 : decode cX8_givesWay 62 = .ok (.aload_n 1, 1) := by decide +kernel
theorem dX8_givesWay_63 : decode cX8_givesWay 63 = .ok (.getfield 214, 3) := by decide +kernel
theorem dX8_givesWay_66 : decode cX8_givesWay 66 = .ok (.invokevirtual 217, 3) := by decide +kernel
theorem dX8_givesWay_69 : decode cX8_givesWay 69 = .ok (.aload_n 1, 1) := by decide +kernel
theorem dX8_givesWay_70 : decode cX8_givesWay 70 = .ok (.iload 4, 2) := by decide +kernel
theorem dX8_givesWay_72 : decode cX8_givesWay 72 = .ok (.putfield 172, 3) := by decide +kernel
theorem dX8_givesWay_75 : decode cX8_givesWay 75 = .ok (.aload_n 2, 1) := by decide +kernel
theorem dX8_givesWay_76 : decode cX8_givesWay 76 = .ok (.iload_n 3, 1) := by decide +kernel
theorem dX8_givesWay_77 : decode cX8_givesWay 77 = .ok (.putfield 172, 3) := by decide +kernel
theorem dX8_givesWay_80 : decode cX8_givesWay 80 = .ok (.aload_n 2, 1) := by decide +kernel
theorem dX8_givesWay_81 : decode cX8_givesWay 81 = .ok (.iconst 1, 1) := by decide +kernel
theorem dX8_givesWay_82 : decode cX8_givesWay 82 = .ok (.putfield 107, 3) := by decide +kernel
theorem dX8_givesWay_85 : decode cX8_givesWay 85 = .ok (.iconst 1, 1) := by decide +kernel
theorem dX8_givesWay_86 : decode cX8_givesWay 86 = .ok (.ireturn, 1) := by decide +kernel
theorem dX8_givesWay_87 : decode cX8_givesWay 87 = .ok (.aload_n 0, 1) := by decide +kernel
theorem dX8_givesWay_88 : decode cX8_givesWay 88 = .ok (.getfield 42, 3) := by decide +kernel
theorem dX8_givesWay_91 : decode cX8_givesWay 91 = .ok (.iload_n 3, 1) := by decide +kernel
theorem dX8_givesWay_92 : decode cX8_givesWay 92 = .ok (.aload_n 2, 1) := by decide +kernel
theorem dX8_givesWay_93 : decode cX8_givesWay 93 = .ok (.getfield 214, 3) := by decide +kernel
theorem dX8_givesWay_96 : decode cX8_givesWay 96 = .ok (.invokevirtual 241, 3) := by decide +kernel
theorem dX8_givesWay_99 : decode cX8_givesWay 99 = .ok (.aload_n 0, 1) := by decide +kernel
theorem dX8_givesWay_100 : decode cX8_givesWay 100 = .ok (.getfield 42, 3) := by decide +kernel
theorem dX8_givesWay_103 : decode cX8_givesWay 103 = .ok (.aload_n 1, 1) := by decide +kernel
theorem dX8_givesWay_104 : decode cX8_givesWay 104 = .ok (.getfield 172, 3) := by decide +kernel
theorem dX8_givesWay_107 : decode cX8_givesWay 107 = .ok (.aload_n 1, 1) := by decide +kernel
theorem dX8_givesWay_108 : decode cX8_givesWay 108 = .ok (.getfield 214, 3) := by decide +kernel
theorem dX8_givesWay_111 : decode cX8_givesWay 111 = .ok (.invokevirtual 217, 3) := by decide +kernel
theorem dX8_givesWay_114 : decode cX8_givesWay 114 = .ok (.iconst 0, 1) := by decide +kernel
theorem dX8_givesWay_115 : decode cX8_givesWay 115 = .ok (.ireturn, 1) := by decide +kernel
theorem dX8_beginWeek_0 : decode cX8_beginWeek 0 = .ok (.iconst 0, 1) := by decide +kernel
theorem dX8_beginWeek_1 : decode cX8_beginWeek 1 = .ok (.istore_n 1, 1) := by decide +kernel
theorem dX8_beginWeek_2 : decode cX8_beginWeek 2 = .ok (.iload_n 1, 1) := by decide +kernel
theorem dX8_beginWeek_3 : decode cX8_beginWeek 3 = .ok (.aload_n 0, 1) := by decide +kernel
theorem dX8_beginWeek_4 : decode cX8_beginWeek 4 = .ok (.getfield 77, 3) := by decide +kernel
theorem dX8_beginWeek_7 : decode cX8_beginWeek 7 = .ok (.if_icmp .ge 19, 3) := by decide +kernel
theorem dX8_beginWeek_10 : decode cX8_beginWeek 10 = .ok (.aload_n 0, 1) := by decide +kernel
theorem dX8_beginWeek_11 : decode cX8_beginWeek 11 = .ok (.getfield 11, 3) := by decide +kernel
theorem dX8_beginWeek_14 : decode cX8_beginWeek 14 = .ok (.iload_n 1, 1) := by decide +kernel
theorem dX8_beginWeek_15 : decode cX8_beginWeek 15 = .ok (.aaload, 1) := by decide +kernel
theorem dX8_beginWeek_16 : decode cX8_beginWeek 16 = .ok (.iconst 0, 1) := by decide +kernel
theorem dX8_beginWeek_17 : decode cX8_beginWeek 17 = .ok (.putfield 244, 3) := by decide +kernel
theorem dX8_beginWeek_20 : decode cX8_beginWeek 20 = .ok (.iinc 1 1, 3) := by decide +kernel
theorem dX8_beginWeek_23 : decode cX8_beginWeek 23 = .ok (.goto (-21), 3) := by decide +kernel
theorem dX8_beginWeek_26 : decode cX8_beginWeek 26 = .ok (.return_, 1) := by decide +kernel
theorem dX8_passHour_0 : decode cX8_passHour 0 = .ok (.iload_n 1, 1) := by decide +kernel
theorem dX8_passHour_1 : decode cX8_passHour 1 = .ok (.iload_n 2, 1) := by decide +kernel
theorem dX8_passHour_2 : decode cX8_passHour 2 = .ok (.iload_n 3, 1) := by decide +kernel
theorem dX8_passHour_3 : decode cX8_passHour 3 = .ok (.invokestatic 178, 3) := by decide +kernel
theorem dX8_passHour_6 : decode cX8_passHour 6 = .ok (.istore 4, 2) := by decide +kernel
theorem dX8_passHour_8 : decode cX8_passHour 8 = .ok (.aload_n 0, 1) := by decide +kernel
theorem dX8_passHour_9 : decode cX8_passHour 9 = .ok (.getfield 42, 3) := by decide +kernel
theorem dX8_passHour_12 : decode cX8_passHour 12 = .ok (.iload 4, 2) := by decide +kernel
theorem dX8_passHour_14 : decode cX8_passHour 14 = .ok (.invokevirtual 247, 3) := by decide +kernel
theorem dX8_passHour_17 : decode cX8_passHour 17 = .ok (.ifCond .eq 16, 3) := by decide +kernel
theorem dX8_passHour_20 : decode cX8_passHour 20 = .ok (.aload_n 0, 1) := by decide +kernel
theorem dX8_passHour_21 : decode cX8_passHour 21 = .ok (.iload_n 1, 1) := by decide +kernel
theorem dX8_passHour_22 : decode cX8_passHour 22 = .ok (.bipush 7, 2) := by decide +kernel
theorem dX8_passHour_24 : decode cX8_passHour 24 = .ok (.idiv, 1) := by decide +kernel
theorem dX8_passHour_25 : decode cX8_passHour 25 = .ok (.iload 4, 2) := by decide +kernel
theorem dX8_passHour_27 : decode cX8_passHour 27 = .ok (.invokevirtual 182, 3) := by decide +kernel
theorem dX8_passHour_30 : decode cX8_passHour 30 = .ok (.goto 4, 3) := by decide +kernel
theorem dX8_passHour_33 : decode cX8_passHour 33 = .ok (.iconst (-1), 1) := by decide +kernel
theorem dX8_passHour_34 : decode cX8_passHour 34 = .ok (.istore 5, 2) := by decide +kernel
theorem dX8_passHour_36 : decode cX8_passHour 36 = .ok (.aload_n 0, 1) := by decide +kernel
theorem dX8_passHour_37 : decode cX8_passHour 37 = .ok (.getfield 11, 3) := by decide +kernel
theorem dX8_passHour_40 : decode cX8_passHour 40 = .ok (.iload_n 3, 1) := by decide +kernel
theorem dX8_passHour_41 : decode cX8_passHour 41 = .ok (.aaload, 1) := by decide +kernel
theorem dX8_passHour_42 : decode cX8_passHour 42 = .ok (.astore 6, 2) := by decide +kernel
theorem dX8_passHour_44 : decode cX8_passHour 44 = .ok (.aload_n 0, 1) := by decide +kernel
theorem dX8_passHour_45 : decode cX8_passHour 45 = .ok (.iload_n 3, 1) := by decide +kernel
theorem dX8_passHour_46 : decode cX8_passHour 46 = .ok (.iload_n 2, 1) := by decide +kernel
theorem dX8_passHour_47 : decode cX8_passHour 47 = .ok (.iload 5, 2) := by decide +kernel
theorem dX8_passHour_49 : decode cX8_passHour 49 = .ok (.iconst (-1), 1) := by decide +kernel
theorem dX8_passHour_50 : decode cX8_passHour 50 = .ok (.if_icmp .ne 7, 3) := by decide +kernel
theorem dX8_passHour_53 : decode cX8_passHour 53 = .ok (.iconst (-1), 1) := by decide +kernel
theorem dX8_passHour_54 : decode cX8_passHour 54 = .ok (.goto 13, 3) := by decide +kernel
theorem dX8_passHour_57 : decode cX8_passHour 57 = .ok (.aload_n 0, 1) := by decide +kernel
theorem dX8_passHour_58 : decode cX8_passHour 58 = .ok (.getfield 17, 3) := by decide +kernel
theorem dX8_passHour_61 : decode cX8_passHour 61 = .ok (.iload 5, 2) := by decide +kernel
theorem dX8_passHour_63 : decode cX8_passHour 63 = .ok (.aaload, 1) := by decide +kernel
theorem dX8_passHour_64 : decode cX8_passHour 64 = .ok (.getfield 227, 3) := by decide +kernel
theorem dX8_passHour_67 : decode cX8_passHour 67 = .ok (.invokevirtual 250, 3) := by decide +kernel
theorem dX8_passHour_70 : decode cX8_passHour 70 = .ok (.ifCond .eq 38, 3) := by decide +kernel
theorem dX8_passHour_73 : decode cX8_passHour 73 = .ok (.aload 6, 2) := by decide +kernel
theorem dX8_passHour_75 : decode cX8_passHour 75 = .ok (.dup, 1) := by decide +kernel
theorem dX8_passHour_76 : decode cX8_passHour 76 = .ok (.getfield 196, 3) := by decide +kernel
theorem dX8_passHour_79 : decode cX8_passHour 79 = .ok (.iconst 1, 1) := by decide +kernel
theorem dX8_passHour_80 : decode cX8_passHour 80 = .ok (.iadd, 1) := by decide +kernel
theorem dX8_passHour_81 : decode cX8_passHour 81 = .ok (.putfield 196, 3) := by decide +kernel
theorem dX8_passHour_84 : decode cX8_passHour 84 = .ok (.iload 5, 2) := by decide +kernel
theorem dX8_passHour_86 : decode cX8_passHour 86 = .ok (.iconst (-1), 1) := by decide +kernel
theorem dX8_passHour_87 : decode cX8_passHour 87 = .ok (.if_icmp .eq 40, 3) := by decide +kernel
theorem dX8_passHour_90 : decode cX8_passHour 90 = .ok (.aload_n 0, 1) := by decide +kernel
theorem dX8_passHour_91 : decode cX8_passHour 91 = .ok (.aload_n 0, 1) := by decide +kernel
theorem dX8_passHour_92 : decode cX8_passHour 92 = .ok (.getfield 17, 3) := by decide +kernel
theorem dX8_passHour_95 : decode cX8_passHour 95 = .ok (.iload 5, 2) := by decide +kernel
theorem dX8_passHour_97 : decode cX8_passHour 97 = .ok (.aaload, 1) := by decide +kernel
theorem dX8_passHour_98 : decode cX8_passHour 98 = .ok (.iload_n 1, 1) := by decide +kernel
theorem dX8_passHour_99 : decode cX8_passHour 99 = .ok (.bipush 7, 2) := by decide +kernel
theorem dX8_passHour_101 : decode cX8_passHour 101 = .ok (.irem, 1) := by decide +kernel
theorem dX8_passHour_102 : decode cX8_passHour 102 = .ok (.invokevirtual 254, 3) := by decide +kernel
theorem dX8_passHour_105 : decode cX8_passHour 105 = .ok (.goto 22, 3) := by decide +kernel
theorem dX8_passHour_108 : decode cX8_passHour 108 = .ok (.iload 5, 2) := by decide +kernel
theorem dX8_passHour_110 : decode cX8_passHour 110 = .ok (.iconst (-1), 1) := by decide +kernel
theorem dX8_passHour_111 : decode cX8_passHour 111 = .ok (.if_icmp .eq 16, 3) := by decide +kernel
theorem dX8_passHour_114 : decode cX8_passHour 114 = .ok (.aload_n 0, 1) := by decide +kernel
theorem dX8_passHour_115 : decode cX8_passHour 115 = .ok (.aload_n 0, 1) := by decide +kernel
theorem dX8_passHour_116 : decode cX8_passHour 116 = .ok (.getfield 17, 3) := by decide +kernel
theorem dX8_passHour_119 : decode cX8_passHour 119 = .ok (.iload 5, 2) := by decide +kernel
theorem dX8_passHour_121 : decode cX8_passHour 121 = .ok (.aaload, 1) := by decide +kernel
theorem dX8_passHour_122 : decode cX8_passHour 122 = .ok (.aload 6, 2) := by decide +kernel
theorem dX8_passHour_124 : decode cX8_passHour 124 = .ok (.invokevirtual 258, 3) := by decide +kernel
theorem dX8_passHour_127 : decode cX8_passHour 127 = .ok (.return_, 1) := by decide +kernel
theorem dX8_isShut_0 : decode cX8_isShut 0 = .ok (.aload_n 0, 1) := by decide +kernel
theorem dX8_isShut_1 : decode cX8_isShut 1 = .ok (.getfield 70, 3) := by decide +kernel
theorem dX8_isShut_4 : decode cX8_isShut 4 = .ok (.getfield 205, 3) := by decide +kernel
theorem dX8_isShut_7 : decode cX8_isShut 7 = .ok (.ifCond .ne 5, 3) := by decide +kernel
theorem dX8_isShut_10 : decode cX8_isShut 10 = .ok (.iconst 0, 1) := by decide +kernel
theorem dX8_isShut_11 : decode cX8_isShut 11 = .ok (.ireturn, 1) := by decide +kernel
theorem dX8_isShut_12 : decode cX8_isShut 12 = .ok (.aload_n 0, 1) := by decide +kernel
theorem dX8_isShut_13 : decode cX8_isShut 13 = .ok (.getfield 11, 3) := by decide +kernel
theorem dX8_isShut_16 : decode cX8_isShut 16 = .ok (.iload_n 1, 1) := by decide +kernel
theorem dX8_isShut_17 : decode cX8_isShut 17 = .ok (.aaload, 1) := by decide +kernel
theorem dX8_isShut_18 : decode cX8_isShut 18 = .ok (.astore 4, 2) := by decide +kernel
theorem dX8_isShut_20 : decode cX8_isShut 20 = .ok (.aload_n 0, 1) := by decide +kernel
theorem dX8_isShut_21 : decode cX8_isShut 21 = .ok (.getfield 36, 3) := by decide +kernel
theorem dX8_isShut_24 : decode cX8_isShut 24 = .ok (.iconst 2, 1) := by decide +kernel
theorem dX8_isShut_25 : decode cX8_isShut 25 = .ok (.aload 4, 2) := by decide +kernel
theorem dX8_isShut_27 : decode cX8_isShut 27 = .ok (.getfield 143, 3) := by decide +kernel
theorem dX8_isShut_30 : decode cX8_isShut 30 = .ok (.invokevirtual 186, 3) := by decide +kernel
theorem dX8_isShut_33 : decode cX8_isShut 33 = .ok (.iastore, 1) := by decide +kernel
theorem dX8_isShut_34 : decode cX8_isShut 34 = .ok (.aload_n 0, 1) := by decide +kernel
theorem dX8_isShut_35 : decode cX8_isShut 35 = .ok (.getfield 36, 3) := by decide +kernel
theorem dX8_isShut_38 : decode cX8_isShut 38 = .ok (.iconst 3, 1) := by decide +kernel
theorem dX8_isShut_39 : decode cX8_isShut 39 = .ok (.aload 4, 2) := by decide +kernel
theorem dX8_isShut_41 : decode cX8_isShut 41 = .ok (.getfield 143, 3) := by decide +kernel
theorem dX8_isShut_44 : decode cX8_isShut 44 = .ok (.invokevirtual 190, 3) := by decide +kernel
theorem dX8_isShut_47 : decode cX8_isShut 47 = .ok (.iastore, 1) := by decide +kernel
theorem dX8_isShut_48 : decode cX8_isShut 48 = .ok (.aload_n 0, 1) := by decide +kernel
theorem dX8_isShut_49 : decode cX8_isShut 49 = .ok (.getfield 36, 3) := by decide +kernel
theorem dX8_isShut_52 : decode cX8_isShut 52 = .ok (.iconst 4, 1) := by decide +kernel
theorem dX8_isShut_53 : decode cX8_isShut 53 = .ok (.aload 4, 2) := by decide +kernel
theorem dX8_isShut_55 : decode cX8_isShut 55 = .ok (.getfield 244, 3) := by decide +kernel
theorem dX8_isShut_58 : decode cX8_isShut 58 = .ok (.iastore, 1) := by decide +kernel
theorem dX8_isShut_59 : decode cX8_isShut 59 = .ok (.aload_n 0, 1) := by decide +kernel
theorem dX8_isShut_60 : decode cX8_isShut 60 = .ok (.getfield 36, 3) := by decide +kernel
theorem dX8_isShut_63 : decode cX8_isShut 63 = .ok (.bipush 6, 2) := by decide +kernel
theorem dX8_isShut_65 : decode cX8_isShut 65 = .ok (.iload_n 2, 1) := by decide +kernel
theorem dX8_isShut_66 : decode cX8_isShut 66 = .ok (.iastore, 1) := by decide +kernel
theorem dX8_isShut_67 : decode cX8_isShut 67 = .ok (.aload_n 0, 1) := by decide +kernel
theorem dX8_isShut_68 : decode cX8_isShut 68 = .ok (.getfield 36, 3) := by decide +kernel
theorem dX8_isShut_71 : decode cX8_isShut 71 = .ok (.bipush 7, 2) := by decide +kernel
theorem dX8_isShut_73 : decode cX8_isShut 73 = .ok (.iload_n 3, 1) := by decide +kernel
theorem dX8_isShut_74 : decode cX8_isShut 74 = .ok (.iastore, 1) := by decide +kernel
theorem dX8_isShut_75 : decode cX8_isShut 75 = .ok (.aload_n 0, 1) := by decide +kernel
theorem dX8_isShut_76 : decode cX8_isShut 76 = .ok (.getfield 70, 3) := by decide +kernel
theorem dX8_isShut_79 : decode cX8_isShut 79 = .ok (.iload_n 1, 1) := by decide +kernel
theorem dX8_isShut_80 : decode cX8_isShut 80 = .ok (.aload_n 0, 1) := by decide +kernel
theorem dX8_isShut_81 : decode cX8_isShut 81 = .ok (.getfield 36, 3) := by decide +kernel
theorem dX8_isShut_84 : decode cX8_isShut 84 = .ok (.invokevirtual 262, 3) := by decide +kernel
theorem dX8_isShut_87 : decode cX8_isShut 87 = .ok (.ireturn, 1) := by decide +kernel
theorem dX8_sendAway_0 : decode cX8_sendAway 0 = .ok (.aload_n 0, 1) := by decide +kernel
theorem dX8_sendAway_1 : decode cX8_sendAway 1 = .ok (.getfield 28, 3) := by decide +kernel
theorem dX8_sendAway_4 : decode cX8_sendAway 4 = .ok (.aload_n 1, 1) := by decide +kernel
theorem dX8_sendAway_5 : decode cX8_sendAway 5 = .ok (.getfield 266, 3) := by decide +kernel
theorem dX8_sendAway_8 : decode cX8_sendAway 8 = .ok (.dup2, 1) := by decide +kernel
theorem dX8_sendAway_9 : decode cX8_sendAway 9 = .ok (.iaload, 1) := by decide +kernel
theorem dX8_sendAway_10 : decode cX8_sendAway 10 = .ok (.iconst 1, 1) := by decide +kernel
theorem dX8_sendAway_11 : decode cX8_sendAway 11 = .ok (.iadd, 1) := by decide +kernel
theorem dX8_sendAway_12 : decode cX8_sendAway 12 = .ok (.iastore, 1) := by decide +kernel
theorem dX8_sendAway_13 : decode cX8_sendAway 13 = .ok (.aload_n 0, 1) := by decide +kernel
theorem dX8_sendAway_14 : decode cX8_sendAway 14 = .ok (.getfield 28, 3) := by decide +kernel
theorem dX8_sendAway_17 : decode cX8_sendAway 17 = .ok (.aload_n 1, 1) := by decide +kernel
theorem dX8_sendAway_18 : decode cX8_sendAway 18 = .ok (.getfield 269, 3) := by decide +kernel
theorem dX8_sendAway_21 : decode cX8_sendAway 21 = .ok (.dup2, 1) := by decide +kernel
theorem dX8_sendAway_22 : decode cX8_sendAway 22 = .ok (.iaload, 1) := by decide +kernel
theorem dX8_sendAway_23 : decode cX8_sendAway 23 = .ok (.iconst 1, 1) := by decide +kernel
theorem dX8_sendAway_24 : decode cX8_sendAway 24 = .ok (.iadd, 1) := by decide +kernel
theorem dX8_sendAway_25 : decode cX8_sendAway 25 = .ok (.iastore, 1) := by decide +kernel
theorem dX8_sendAway_26 : decode cX8_sendAway 26 = .ok (.aload_n 0, 1) := by decide +kernel
theorem dX8_sendAway_27 : decode cX8_sendAway 27 = .ok (.getfield 42, 3) := by decide +kernel
theorem dX8_sendAway_30 : decode cX8_sendAway 30 = .ok (.aload_n 1, 1) := by decide +kernel
theorem dX8_sendAway_31 : decode cX8_sendAway 31 = .ok (.getfield 214, 3) := by decide +kernel
theorem dX8_sendAway_34 : decode cX8_sendAway 34 = .ok (.aload_n 0, 1) := by decide +kernel
theorem dX8_sendAway_35 : decode cX8_sendAway 35 = .ok (.getfield 21, 3) := by decide +kernel
theorem dX8_sendAway_38 : decode cX8_sendAway 38 = .ok (.aload_n 1, 1) := by decide +kernel
theorem dX8_sendAway_39 : decode cX8_sendAway 39 = .ok (.getfield 227, 3) := by decide +kernel
theorem dX8_sendAway_42 : decode cX8_sendAway 42 = .ok (.iaload, 1) := by decide +kernel
theorem dX8_sendAway_43 : decode cX8_sendAway 43 = .ok (.ldc 97, 2) := by decide +kernel
theorem dX8_sendAway_45 : decode cX8_sendAway 45 = .ok (.iload_n 2, 1) := by decide +kernel
theorem dX8_sendAway_46 : decode cX8_sendAway 46 = .ok (.iconst 1, 1) := by decide +kernel
theorem dX8_sendAway_47 : decode cX8_sendAway 47 = .ok (.iadd, 1) := by decide +kernel
theorem dX8_sendAway_48 : decode cX8_sendAway 48 = .ok (.iconst (-1), 1) := by decide +kernel
theorem dX8_sendAway_49 : decode cX8_sendAway 49 = .ok (.invokevirtual 233, 3) := by decide +kernel
theorem dX8_sendAway_52 : decode cX8_sendAway 52 = .ok (.istore_n 3, 1) := by decide +kernel
theorem dX8_sendAway_53 : decode cX8_sendAway 53 = .ok (.aload_n 0, 1) := by decide +kernel
theorem dX8_sendAway_54 : decode cX8_sendAway 54 = .ok (.getfield 42, 3) := by decide +kernel
theorem dX8_sendAway_57 : decode cX8_sendAway 57 = .ok (.aload_n 1, 1) := by decide +kernel
theorem dX8_sendAway_58 : decode cX8_sendAway 58 = .ok (.getfield 172, 3) := by decide +kernel
theorem dX8_sendAway_61 : decode cX8_sendAway 61 = .ok (.aload_n 1, 1) := by decide +kernel
theorem dX8_sendAway_62 : decode cX8_sendAway 62 = .ok (.getfield 214, 3) := by decide +kernel
theorem dX8_sendAway_65 : decode cX8_sendAway 65 = .ok (.invokevirtual 241, 3) := by decide +kernel
theorem dX8_sendAway_68 : decode cX8_sendAway 68 = .ok (.aload_n 1, 1) := by decide +kernel
theorem dX8_sendAway_69 : decode cX8_sendAway 69 = .ok (.iload_n 3, 1) := by decide +kernel
theorem dX8_sendAway_70 : decode cX8_sendAway 70 = .ok (.putfield 172, 3) := by decide +kernel
theorem dX8_sendAway_73 : decode cX8_sendAway 73 = .ok (.iload_n 3, 1) := by decide +kernel
theorem dX8_sendAway_74 : decode cX8_sendAway 74 = .ok (.iconst (-1), 1) := by decide +kernel
theorem dX8_sendAway_75 : decode cX8_sendAway 75 = .ok (.if_icmp .ne 37, 3) := by decide +kernel
theorem dX8_sendAway_78 : decode cX8_sendAway 78 = .ok (.aload_n 1, 1) := by decide +kernel
theorem dX8_sendAway_79 : decode cX8_sendAway 79 = .ok (.iconst 3, 1) := by decide +kernel
theorem dX8_sendAway_80 : decode cX8_sendAway 80 = .ok (.putfield 107, 3) := by decide +kernel
theorem dX8_sendAway_83 : decode cX8_sendAway 83 = .ok (.aload_n 0, 1) := by decide +kernel
theorem dX8_sendAway_84 : decode cX8_sendAway 84 = .ok (.getfield 31, 3) := by decide +kernel
theorem dX8_sendAway_87 : decode cX8_sendAway 87 = .ok (.aload_n 1, 1) := by decide +kernel
theorem dX8_sendAway_88 : decode cX8_sendAway 88 = .ok (.getfield 266, 3) := by decide +kernel
theorem dX8_sendAway_91 : decode cX8_sendAway 91 = .ok (.dup2, 1) := by decide +kernel
theorem dX8_sendAway_92 : decode cX8_sendAway 92 = .ok (.iaload, 1) := by decide +kernel
theorem dX8_sendAway_93 : decode cX8_sendAway 93 = .ok (.iconst 1, 1) := by decide +kernel
theorem dX8_sendAway_94 : decode cX8_sendAway 94 = .ok (.iadd, 1) := by decide +kernel
theorem dX8_sendAway_95 : decode cX8_sendAway 95 = .ok (.iastore, 1) := by decide +kernel
theorem dX8_sendAway_96 : decode cX8_sendAway 96 = .ok (.aload_n 0, 1) := by decide +kernel
theorem dX8_sendAway_97 : decode cX8_sendAway 97 = .ok (.getfield 31, 3) := by decide +kernel
theorem dX8_sendAway_100 : decode cX8_sendAway 100 = .ok (.aload_n 1, 1) := by decide +kernel
theorem dX8_sendAway_101 : decode cX8_sendAway 101 = .ok (.getfield 269, 3) := by decide +kernel
theorem dX8_sendAway_104 : decode cX8_sendAway 104 = .ok (.dup2, 1) := by decide +kernel
theorem dX8_sendAway_105 : decode cX8_sendAway 105 = .ok (.iaload, 1) := by decide +kernel
theorem dX8_sendAway_106 : decode cX8_sendAway 106 = .ok (.iconst 1, 1) := by decide +kernel
theorem dX8_sendAway_107 : decode cX8_sendAway 107 = .ok (.iadd, 1) := by decide +kernel
theorem dX8_sendAway_108 : decode cX8_sendAway 108 = .ok (.iastore, 1) := by decide +kernel
theorem dX8_sendAway_109 : decode cX8_sendAway 109 = .ok (.goto 25, 3) := by decide +kernel
theorem dX8_sendAway_112 : decode cX8_sendAway 112 = .ok (.aload_n 0, 1) := by decide +kernel
theorem dX8_sendAway_113 : decode cX8_sendAway 113 = .ok (.getfield 42, 3) := by decide +kernel
theorem dX8_sendAway_116 : decode cX8_sendAway 116 = .ok (.iload_n 3, 1) := by decide +kernel
theorem dX8_sendAway_117 : decode cX8_sendAway 117 = .ok (.aload_n 1, 1) := by decide +kernel
theorem dX8_sendAway_118 : decode cX8_sendAway 118 = .ok (.getfield 214, 3) := by decide +kernel
theorem dX8_sendAway_121 : decode cX8_sendAway 121 = .ok (.invokevirtual 217, 3) := by decide +kernel
theorem dX8_sendAway_124 : decode cX8_sendAway 124 = .ok (.aload_n 1, 1) := by decide +kernel
theorem dX8_sendAway_125 : decode cX8_sendAway 125 = .ok (.dup, 1) := by decide +kernel
theorem dX8_sendAway_126 : decode cX8_sendAway 126 = .ok (.getfield 175, 3) := by decide +kernel
theorem dX8_sendAway_129 : decode cX8_sendAway 129 = .ok (.iconst 1, 1) := by decide +kernel
theorem dX8_sendAway_130 : decode cX8_sendAway 130 = .ok (.iadd, 1) := by decide +kernel
theorem dX8_sendAway_131 : decode cX8_sendAway 131 = .ok (.putfield 175, 3) := by decide +kernel
theorem dX8_sendAway_134 : decode cX8_sendAway 134 = .ok (.return_, 1) := by decide +kernel
theorem dX8_playGame_0 : decode cX8_playGame 0 = .ok (.aload_n 0, 1) := by decide +kernel
theorem dX8_playGame_1 : decode cX8_playGame 1 = .ok (.getfield 36, 3) := by decide +kernel
theorem dX8_playGame_4 : decode cX8_playGame 4 = .ok (.iconst 0, 1) := by decide +kernel
theorem dX8_playGame_5 : decode cX8_playGame 5 = .ok (.iaload, 1) := by decide +kernel
theorem dX8_playGame_6 : decode cX8_playGame 6 = .ok (.istore_n 3, 1) := by decide +kernel
theorem dX8_playGame_7 : decode cX8_playGame 7 = .ok (.aload_n 1, 1) := by decide +kernel
theorem dX8_playGame_8 : decode cX8_playGame 8 = .ok (.iconst 2, 1) := by decide +kernel
theorem dX8_playGame_9 : decode cX8_playGame 9 = .ok (.putfield 107, 3) := by decide +kernel
theorem dX8_playGame_12 : decode cX8_playGame 12 = .ok (.aload_n 0, 1) := by decide +kernel
theorem dX8_playGame_13 : decode cX8_playGame 13 = .ok (.getfield 25, 3) := by decide +kernel
theorem dX8_playGame_16 : decode cX8_playGame 16 = .ok (.aload_n 1, 1) := by decide +kernel
theorem dX8_playGame_17 : decode cX8_playGame 17 = .ok (.getfield 266, 3) := by decide +kernel
theorem dX8_playGame_20 : decode cX8_playGame 20 = .ok (.dup2, 1) := by decide +kernel
theorem dX8_playGame_21 : decode cX8_playGame 21 = .ok (.iaload, 1) := by decide +kernel
theorem dX8_playGame_22 : decode cX8_playGame 22 = .ok (.iconst 1, 1) := by decide +kernel
theorem dX8_playGame_23 : decode cX8_playGame 23 = .ok (.iadd, 1) := by decide +kernel
theorem dX8_playGame_24 : decode cX8_playGame 24 = .ok (.iastore, 1) := by decide +kernel
theorem dX8_playGame_25 : decode cX8_playGame 25 = .ok (.aload_n 0, 1) := by decide +kernel
theorem dX8_playGame_26 : decode cX8_playGame 26 = .ok (.getfield 25, 3) := by decide +kernel
theorem dX8_playGame_29 : decode cX8_playGame 29 = .ok (.aload_n 1, 1) := by decide +kernel
theorem dX8_playGame_30 : decode cX8_playGame 30 = .ok (.getfield 269, 3) := by decide +kernel
theorem dX8_playGame_33 : decode cX8_playGame 33 = .ok (.dup2, 1) := by decide +kernel
theorem dX8_playGame_34 : decode cX8_playGame 34 = .ok (.iaload, 1) := by decide +kernel
theorem dX8_playGame_35 : decode cX8_playGame 35 = .ok (.iconst 1, 1) := by decide +kernel
theorem dX8_playGame_36 : decode cX8_playGame 36 = .ok (.iadd, 1) := by decide +kernel
theorem dX8_playGame_37 : decode cX8_playGame 37 = .ok (.iastore, 1) := by decide +kernel
theorem dX8_playGame_38 : decode cX8_playGame 38 = .ok (.aload_n 2, 1) := by decide +kernel
theorem dX8_playGame_39 : decode cX8_playGame 39 = .ok (.dup, 1) := by decide +kernel
theorem dX8_playGame_40 : decode cX8_playGame 40 = .ok (.getfield 193, 3) := by decide +kernel
theorem dX8_playGame_43 : decode cX8_playGame 43 = .ok (.iconst 1, 1) := by decide +kernel
theorem dX8_playGame_44 : decode cX8_playGame 44 = .ok (.iadd, 1) := by decide +kernel
theorem dX8_playGame_45 : decode cX8_playGame 45 = .ok (.putfield 193, 3) := by decide +kernel
theorem dX8_playGame_48 : decode cX8_playGame 48 = .ok (.aload_n 2, 1) := by decide +kernel
theorem dX8_playGame_49 : decode cX8_playGame 49 = .ok (.dup, 1) := by decide +kernel
theorem dX8_playGame_50 : decode cX8_playGame 50 = .ok (.getfield 244, 3) := by decide +kernel
theorem dX8_playGame_53 : decode cX8_playGame 53 = .ok (.iconst 1, 1) := by decide +kernel
theorem dX8_playGame_54 : decode cX8_playGame 54 = .ok (.iadd, 1) := by decide +kernel
theorem dX8_playGame_55 : decode cX8_playGame 55 = .ok (.putfield 244, 3) := by decide +kernel
theorem dX8_playGame_58 : decode cX8_playGame 58 = .ok (.aload_n 2, 1) := by decide +kernel
theorem dX8_playGame_59 : decode cX8_playGame 59 = .ok (.getfield 143, 3) := by decide +kernel
theorem dX8_playGame_62 : decode cX8_playGame 62 = .ok (.aload_n 1, 1) := by decide +kernel
theorem dX8_playGame_63 : decode cX8_playGame 63 = .ok (.getfield 227, 3) := by decide +kernel
theorem dX8_playGame_66 : decode cX8_playGame 66 = .ok (.iload_n 3, 1) := by decide +kernel
theorem dX8_playGame_67 : decode cX8_playGame 67 = .ok (.invokevirtual 272, 3) := by decide +kernel
theorem dX8_playGame_70 : decode cX8_playGame 70 = .ok (.aload_n 2, 1) := by decide +kernel
theorem dX8_playGame_71 : decode cX8_playGame 71 = .ok (.getfield 153, 3) := by decide +kernel
theorem dX8_playGame_74 : decode cX8_playGame 74 = .ok (.aload_n 1, 1) := by decide +kernel
theorem dX8_playGame_75 : decode cX8_playGame 75 = .ok (.getfield 227, 3) := by decide +kernel
theorem dX8_playGame_78 : decode cX8_playGame 78 = .ok (.iload_n 3, 1) := by decide +kernel
theorem dX8_playGame_79 : decode cX8_playGame 79 = .ok (.invokevirtual 272, 3) := by decide +kernel
theorem dX8_playGame_82 : decode cX8_playGame 82 = .ok (.return_, 1) := by decide +kernel
theorem dX9_init_0 : decode cX9_init 0 = .ok (.aload_n 0, 1) := by decide +kernel
theorem dX9_init_1 : decode cX9_init 1 = .ok (.invokespecial 1, 3) := by decide +kernel
theorem dX9_init_4 : decode cX9_init 4 = .ok (.aload_n 0, 1) := by decide +kernel
theorem dX9_init_5 : decode cX9_init 5 = .ok (.sipush 600, 3) := by decide +kernel
theorem dX9_init_8 : decode cX9_init 8 = .ok (.newarray .int, 2) := by decide +kernel
theorem dX9_init_10 : decode cX9_init 10 = .ok (.putfield 7, 3) := by decide +kernel
theorem dX9_init_13 : decode cX9_init 13 = .ok (.aload_n 0, 1) := by decide +kernel
theorem dX9_init_14 : decode cX9_init 14 = .ok (.sipush 602, 3) := by decide +kernel
theorem dX9_init_17 : decode cX9_init 17 = .ok (.newarray .int, 2) := by decide +kernel
theorem dX9_init_19 : decode cX9_init 19 = .ok (.putfield 13, 3) := by decide +kernel
theorem dX9_init_22 : decode cX9_init 22 = .ok (.aload_n 0, 1) := by decide +kernel
theorem dX9_init_23 : decode cX9_init 23 = .ok (.sipush 602, 3) := by decide +kernel
theorem dX9_init_26 : decode cX9_init 26 = .ok (.newarray .int, 2) := by decide +kernel
theorem dX9_init_28 : decode cX9_init 28 = .ok (.putfield 16, 3) := by decide +kernel
theorem dX9_init_31 : decode cX9_init 31 = .ok (.aload_n 0, 1) := by decide +kernel
theorem dX9_init_32 : decode cX9_init 32 = .ok (.sipush 602, 3) := by decide +kernel
theorem dX9_init_35 : decode cX9_init 35 = .ok (.newarray .long, 2) := by decide +kernel
theorem dX9_init_37 : decode cX9_init 37 = .ok (.putfield 19, 3) := by decide +kernel
theorem dX9_init_40 : decode cX9_init 40 = .ok (.aload_n 0, 1) := by decide +kernel
theorem dX9_init_41 : decode cX9_init 41 = .ok (.bipush 12, 2) := by decide +kernel
theorem dX9_init_43 : decode cX9_init 43 = .ok (.newarray .long, 2) := by decide +kernel
theorem dX9_init_45 : decode cX9_init 45 = .ok (.dup, 1) := by decide +kernel
theorem dX9_init_46 : decode cX9_init 46 = .ok (.iconst 0, 1) := by decide +kernel
theorem dX9_init_47 : decode cX9_init 47 = .ok (.ldc2_w 23, 3) := by decide +kernel
theorem dX9_init_50 : decode cX9_init 50 = .ok (.lastore, 1) := by decide +kernel
theorem dX9_init_51 : decode cX9_init 51 = .ok (.dup, 1) := by decide +kernel
theorem dX9_init_52 : decode cX9_init 52 = .ok (.iconst 1, 1) := by decide +kernel
theorem dX9_init_53 : decode cX9_init 53 = .ok (.ldc2_w 25, 3) := by decide +kernel
theorem dX9_init_56 : decode cX9_init 56 = .ok (.lastore, 1) := by decide +kernel
theorem dX9_init_57 : decode cX9_init 57 = .ok (.dup, 1) := by decide +kernel
theorem dX9_init_58 : decode cX9_init 58 = .ok (.iconst 2, 1) := by decide +kernel
theorem dX9_init_59 : decode cX9_init 59 = .ok (.ldc2_w 27, 3) := by decide +kernel
theorem dX9_init_62 : decode cX9_init 62 = .ok (.lastore, 1) := by decide +kernel
theorem dX9_init_63 : decode cX9_init 63 = .ok (.dup, 1) := by decide +kernel
theorem dX9_init_64 : decode cX9_init 64 = .ok (.iconst 3, 1) := by decide +kernel
theorem dX9_init_65 : decode cX9_init 65 = .ok (.ldc2_w 29, 3) := by decide +kernel
theorem dX9_init_68 : decode cX9_init 68 = .ok (.lastore, 1) := by decide +kernel
theorem dX9_init_69 : decode cX9_init 69 = .ok (.dup, 1) := by decide +kernel
theorem dX9_init_70 : decode cX9_init 70 = .ok (.iconst 4, 1) := by decide +kernel
theorem dX9_init_71 : decode cX9_init 71 = .ok (.ldc2_w 31, 3) := by decide +kernel
theorem dX9_init_74 : decode cX9_init 74 = .ok (.lastore, 1) := by decide +kernel
theorem dX9_init_75 : decode cX9_init 75 = .ok (.dup, 1) := by decide +kernel
theorem dX9_init_76 : decode cX9_init 76 = .ok (.iconst 5, 1) := by decide +kernel
theorem dX9_init_77 : decode cX9_init 77 = .ok (.ldc2_w 33, 3) := by decide +kernel
theorem dX9_init_80 : decode cX9_init 80 = .ok (.lastore, 1) := by decide +kernel
theorem dX9_init_81 : decode cX9_init 81 = .ok (.dup, 1) := by decide +kernel
theorem dX9_init_82 : decode cX9_init 82 = .ok (.bipush 6, 2) := by decide +kernel
theorem dX9_init_84 : decode cX9_init 84 = .ok (.ldc2_w 35, 3) := by decide +kernel
theorem dX9_init_87 : decode cX9_init 87 = .ok (.lastore, 1) := by decide +kernel
theorem dX9_init_88 : decode cX9_init 88 = .ok (.dup, 1) := by decide +kernel
theorem dX9_init_89 : decode cX9_init 89 = .ok (.bipush 7, 2) := by decide +kernel
theorem dX9_init_91 : decode cX9_init 91 = .ok (.ldc2_w 37, 3) := by decide +kernel
theorem dX9_init_94 : decode cX9_init 94 = .ok (.lastore, 1) := by decide +kernel
theorem dX9_init_95 : decode cX9_init 95 = .ok (.dup, 1) := by decide +kernel
theorem dX9_init_96 : decode cX9_init 96 = .ok (.bipush 8, 2) := by decide +kernel
theorem dX9_init_98 : decode cX9_init 98 = .ok (.ldc2_w 39, 3) := by decide +kernel
theorem dX9_init_101 : decode cX9_init 101 = .ok (.lastore, 1) := by decide +kernel
theorem dX9_init_102 : decode cX9_init 102 = .ok (.dup, 1) := by decide +kernel
theorem dX9_init_103 : decode cX9_init 103 = .ok (.bipush 9, 2) := by decide +kernel
theorem dX9_init_105 : decode cX9_init 105 = .ok (.ldc2_w 41, 3) := by decide +kernel
theorem dX9_init_108 : decode cX9_init 108 = .ok (.lastore, 1) := by decide +kernel
theorem dX9_init_109 : decode cX9_init 109 = .ok (.dup, 1) := by decide +kernel
theorem dX9_init_110 : decode cX9_init 110 = .ok (.bipush 10, 2) := by decide +kernel
theorem dX9_init_112 : decode cX9_init 112 = .ok (.ldc2_w 43, 3) := by decide +kernel
theorem dX9_init_115 : decode cX9_init 115 = .ok (.lastore, 1) := by decide +kernel
theorem dX9_init_116 : decode cX9_init 116 = .ok (.dup, 1) := by decide +kernel
theorem dX9_init_117 : decode cX9_init 117 = .ok (.bipush 11, 2) := by decide +kernel
theorem dX9_init_119 : decode cX9_init 119 = .ok (.ldc2_w 45, 3) := by decide +kernel
theorem dX9_init_122 : decode cX9_init 122 = .ok (.lastore, 1) := by decide +kernel
theorem dX9_init_123 : decode cX9_init 123 = .ok (.putfield 47, 3) := by decide +kernel
theorem dX9_init_126 : decode cX9_init 126 = .ok (.aload_n 0, 1) := by decide +kernel
theorem dX9_init_127 : decode cX9_init 127 = .ok (.iconst 2, 1) := by decide +kernel
theorem dX9_init_128 : decode cX9_init 128 = .ok (.newarray .int, 2) := by decide +kernel
theorem dX9_init_130 : decode cX9_init 130 = .ok (.putfield 50, 3) := by decide +kernel
theorem dX9_init_133 : decode cX9_init 133 = .ok (.aload_n 0, 1) := by decide +kernel
theorem dX9_init_134 : decode cX9_init 134 = .ok (.bipush 32, 2) := by decide +kernel
theorem dX9_init_136 : decode cX9_init 136 = .ok (.newarray .int, 2) := by decide +kernel
theorem dX9_init_138 : decode cX9_init 138 = .ok (.putfield 53, 3) := by decide +kernel
theorem dX9_init_141 : decode cX9_init 141 = .ok (.aload_n 0, 1) := by decide +kernel
theorem dX9_init_142 : decode cX9_init 142 = .ok (.bipush 32, 2) := by decide +kernel
theorem dX9_init_144 : decode cX9_init 144 = .ok (.newarray .int, 2) := by decide +kernel
theorem dX9_init_146 : decode cX9_init 146 = .ok (.putfield 56, 3) := by decide +kernel
theorem dX9_init_149 : decode cX9_init 149 = .ok (.aload_n 0, 1) := by decide +kernel
theorem dX9_init_150 : decode cX9_init 150 = .ok (.sipush 1320, 3) := by decide +kernel
theorem dX9_init_153 : decode cX9_init 153 = .ok (.newarray .int, 2) := by decide +kernel
theorem dX9_init_155 : decode cX9_init 155 = .ok (.putfield 59, 3) := by decide +kernel
theorem dX9_init_158 : decode cX9_init 158 = .ok (.aload_n 0, 1) := by decide +kernel
theorem dX9_init_159 : decode cX9_init 159 = .ok (.sipush 1320, 3) := by decide +kernel
theorem dX9_init_162 : decode cX9_init 162 = .ok (.newarray .int, 2) := by decide +kernel
theorem dX9_init_164 : decode cX9_init 164 = .ok (.putfield 62, 3) := by decide +kernel
theorem dX9_init_167 : decode cX9_init 167 = .ok (.aload_n 0, 1) := by decide +kernel
theorem dX9_init_168 : decode cX9_init 168 = .ok (.bipush 7, 2) := by decide +kernel
theorem dX9_init_170 : decode cX9_init 170 = .ok (.newarray .int, 2) := by decide +kernel
theorem dX9_init_172 : decode cX9_init 172 = .ok (.putfield 65, 3) := by decide +kernel
theorem dX9_init_175 : decode cX9_init 175 = .ok (.aload_n 0, 1) := by decide +kernel
theorem dX9_init_176 : decode cX9_init 176 = .ok (.bipush 7, 2) := by decide +kernel
theorem dX9_init_178 : decode cX9_init 178 = .ok (.newarray .int, 2) := by decide +kernel
theorem dX9_init_180 : decode cX9_init 180 = .ok (.putfield 68, 3) := by decide +kernel
theorem dX9_init_183 : decode cX9_init 183 = .ok (.aload_n 0, 1) := by decide +kernel
theorem dX9_init_184 : decode cX9_init 184 = .ok (.bipush 7, 2) := by decide +kernel
theorem dX9_init_186 : decode cX9_init 186 = .ok (.newarray .int, 2) := by decide +kernel
theorem dX9_init_188 : decode cX9_init 188 = .ok (.putfield 71, 3) := by decide +kernel
theorem dX9_init_191 : decode cX9_init 191 = .ok (.aload_n 0, 1) := by decide +kernel
theorem dX9_init_192 : decode cX9_init 192 = .ok (.bipush 8, 2) := by decide +kernel
theorem dX9_init_194 : decode cX9_init 194 = .ok (.newarray .int, 2) := by decide +kernel
theorem dX9_init_196 : decode cX9_init 196 = .ok (.putfield 74, 3) := by decide +kernel
theorem dX9_init_199 : decode cX9_init 199 = .ok (.aload_n 0, 1) := by decide +kernel
theorem dX9_init_200 : decode cX9_init 200 = .ok (.sipush 660, 3) := by decide +kernel
theorem dX9_init_203 : decode cX9_init 203 = .ok (.newarray .int, 2) := by decide +kernel
theorem dX9_init_205 : decode cX9_init 205 = .ok (.putfield 77, 3) := by decide +kernel
theorem dX9_init_208 : decode cX9_init 208 = .ok (.aload_n 0, 1) := by decide +kernel
theorem dX9_init_209 : decode cX9_init 209 = .ok (.bipush 6, 2) := by decide +kernel
theorem dX9_init_211 : decode cX9_init 211 = .ok (.newarray .int, 2) := by decide +kernel
theorem dX9_init_213 : decode cX9_init 213 = .ok (.putfield 80, 3) := by decide +kernel
theorem dX9_init_216 : decode cX9_init 216 = .ok (.aload_n 0, 1) := by decide +kernel
theorem dX9_init_217 : decode cX9_init 217 = .ok (.bipush 6, 2) := by decide +kernel
theorem dX9_init_219 : decode cX9_init 219 = .ok (.newarray .int, 2) := by decide +kernel
theorem dX9_init_221 : decode cX9_init 221 = .ok (.putfield 83, 3) := by decide +kernel
theorem dX9_init_224 : decode cX9_init 224 = .ok (.aload_n 0, 1) := by decide +kernel
theorem dX9_init_225 : decode cX9_init 225 = .ok (.sipush 144, 3) := by decide +kernel
theorem dX9_init_228 : decode cX9_init 228 = .ok (.newarray .int, 2) := by decide +kernel
theorem dX9_init_230 : decode cX9_init 230 = .ok (.putfield 86, 3) := by decide +kernel
theorem dX9_init_233 : decode cX9_init 233 = .ok (.aload_n 0, 1) := by decide +kernel
theorem dX9_init_234 : decode cX9_init 234 = .ok (.sipush 144, 3) := by decide +kernel
theorem dX9_init_237 : decode cX9_init 237 = .ok (.newarray .int, 2) := by decide +kernel
theorem dX9_init_239 : decode cX9_init 239 = .ok (.putfield 89, 3) := by decide +kernel
theorem dX9_init_242 : decode cX9_init 242 = .ok (.aload_n 0, 1) := by decide +kernel
theorem dX9_init_243 : decode cX9_init 243 = .ok (.bipush 6, 2) := by decide +kernel
theorem dX9_init_245 : decode cX9_init 245 = .ok (.newarray .int, 2) := by decide +kernel
theorem dX9_init_247 : decode cX9_init 247 = .ok (.putfield 92, 3) := by decide +kernel
theorem dX9_init_250 : decode cX9_init 250 = .ok (.aload_n 0, 1) := by decide +kernel
theorem dX9_init_251 : decode cX9_init 251 = .ok (.bipush 6, 2) := by decide +kernel
theorem dX9_init_253 : decode cX9_init 253 = .ok (.newarray .int, 2) := by decide +kernel
theorem dX9_init_255 : decode cX9_init 255 = .ok (.putfield 95, 3) := by decide +kernel
theorem dX9_init_258 : decode cX9_init 258 = .ok (.aload_n 0, 1) := by decide +kernel
theorem dX9_init_259 : decode cX9_init 259 = .ok (.bipush 6, 2) := by decide +kernel
theorem dX9_init_261 : decode cX9_init 261 = .ok (.newarray .int, 2) := by decide +kernel
theorem dX9_init_263 : decode cX9_init 263 = .ok (.putfield 98, 3) := by decide +kernel
theorem dX9_init_266 : decode cX9_init 266 = .ok (.aload_n 0, 1) := by decide +kernel
theorem dX9_init_267 : decode cX9_init 267 = .ok (.bipush 6, 2) := by decide +kernel
theorem dX9_init_269 : decode cX9_init 269 = .ok (.newarray .int, 2) := by decide +kernel
theorem dX9_init_271 : decode cX9_init 271 = .ok (.putfield 101, 3) := by decide +kernel
theorem dX9_init_274 : decode cX9_init 274 = .ok (.aload_n 0, 1) := by decide +kernel
theorem dX9_init_275 : decode cX9_init 275 = .ok (.bipush 6, 2) := by decide +kernel
theorem dX9_init_277 : decode cX9_init 277 = .ok (.newarray .int, 2) := by decide +kernel
theorem dX9_init_279 : decode cX9_init 279 = .ok (.putfield 104, 3) := by decide +kernel
theorem dX9_init_282 : decode cX9_init 282 = .ok (.aload_n 0, 1) := by decide +kernel
theorem dX9_init_283 : decode cX9_init 283 = .ok (.bipush 60, 2) := by decide +kernel
theorem dX9_init_285 : decode cX9_init 285 = .ok (.newarray .int, 2) := by decide +kernel
theorem dX9_init_287 : decode cX9_init 287 = .ok (.putfield 107, 3) := by decide +kernel
theorem dX9_init_290 : decode cX9_init 290 = .ok (.aload_n 0, 1) := by decide +kernel
theorem dX9_init_291 : decode cX9_init 291 = .ok (.bipush 60, 2) := by decide +kernel
theorem dX9_init_293 : decode cX9_init 293 = .ok (.newarray .int, 2) := by decide +kernel
theorem dX9_init_295 : decode cX9_init 295 = .ok (.putfield 110, 3) := by decide +kernel
theorem dX9_init_298 : decode cX9_init 298 = .ok (.aload_n 0, 1) := by decide +kernel
theorem dX9_init_299 : decode cX9_init 299 = .ok (.bipush 60, 2) := by decide +kernel
theorem dX9_init_301 : decode cX9_init 301 = .ok (.newarray .int, 2) := by decide +kernel
theorem dX9_init_303 : decode cX9_init 303 = .ok (.putfield 113, 3) := by decide +kernel
theorem dX9_init_306 : decode cX9_init 306 = .ok (.aload_n 0, 1) := by decide +kernel
theorem dX9_init_307 : decode cX9_init 307 = .ok (.bipush 60, 2) := by decide +kernel
theorem dX9_init_309 : decode cX9_init 309 = .ok (.newarray .int, 2) := by decide +kernel
theorem dX9_init_311 : decode cX9_init 311 = .ok (.putfield 116, 3) := by decide +kernel
theorem dX9_init_314 : decode cX9_init 314 = .ok (.aload_n 0, 1) := by decide +kernel
theorem dX9_init_315 : decode cX9_init 315 = .ok (.bipush 60, 2) := by decide +kernel
theorem dX9_init_317 : decode cX9_init 317 = .ok (.newarray .int, 2) := by decide +kernel
theorem dX9_init_319 : decode cX9_init 319 = .ok (.putfield 119, 3) := by decide +kernel
theorem dX9_init_322 : decode cX9_init 322 = .ok (.aload_n 0, 1) := by decide +kernel
theorem dX9_init_323 : decode cX9_init 323 = .ok (.bipush 60, 2) := by decide +kernel
theorem dX9_init_325 : decode cX9_init 325 = .ok (.newarray .int, 2) := by decide +kernel
theorem dX9_init_327 : decode cX9_init 327 = .ok (.putfield 122, 3) := by decide +kernel
theorem dX9_init_330 : decode cX9_init 330 = .ok (.aload_n 0, 1) := by decide +kernel
theorem dX9_init_331 : decode cX9_init 331 = .ok (.bipush 60, 2) := by decide +kernel
theorem dX9_init_333 : decode cX9_init 333 = .ok (.newarray .int, 2) := by decide +kernel
theorem dX9_init_335 : decode cX9_init 335 = .ok (.putfield 125, 3) := by decide +kernel
theorem dX9_init_338 : decode cX9_init 338 = .ok (.aload_n 0, 1) := by decide +kernel
theorem dX9_init_339 : decode cX9_init 339 = .ok (.bipush 60, 2) := by decide +kernel
theorem dX9_init_341 : decode cX9_init 341 = .ok (.newarray .int, 2) := by decide +kernel
theorem dX9_init_343 : decode cX9_init 343 = .ok (.putfield 128, 3) := by decide +kernel
theorem dX9_init_346 : decode cX9_init 346 = .ok (.aload_n 0, 1) := by decide +kernel
theorem dX9_init_347 : decode cX9_init 347 = .ok (.bipush 60, 2) := by decide +kernel
theorem dX9_init_349 : decode cX9_init 349 = .ok (.newarray .int, 2) := by decide +kernel
theorem dX9_init_351 : decode cX9_init 351 = .ok (.putfield 131, 3) := by decide +kernel
theorem dX9_init_354 : decode cX9_init 354 = .ok (.aload_n 0, 1) := by decide +kernel
theorem dX9_init_355 : decode cX9_init 355 = .ok (.bipush 16, 2) := by decide +kernel
theorem dX9_init_357 : decode cX9_init 357 = .ok (.newarray .int, 2) := by decide +kernel
theorem dX9_init_359 : decode cX9_init 359 = .ok (.putfield 134, 3) := by decide +kernel
theorem dX9_init_362 : decode cX9_init 362 = .ok (.return_, 1) := by decide +kernel
theorem dX9_thrown_0 : decode cX9_thrown 0 = .ok (.aload_n 0, 1) := by decide +kernel
theorem dX9_thrown_1 : decode cX9_thrown 1 = .ok (.getfield 137, 3) := by decide +kernel
theorem dX9_thrown_4 : decode cX9_thrown 4 = .ok (.ireturn, 1) := by decide +kernel
theorem dX9_feed_0 : decode cX9_feed 0 = .ok (.aload_n 0, 1) := by decide +kernel
theorem dX9_feed_1 : decode cX9_feed 1 = .ok (.iconst 0, 1) := by decide +kernel
theorem dX9_feed_2 : decode cX9_feed 2 = .ok (.putfield 137, 3) := by decide +kernel
theorem dX9_feed_5 : decode cX9_feed 5 = .ok (.aload_n 0, 1) := by decide +kernel
theorem dX9_feed_6 : decode cX9_feed 6 = .ok (.lload_n 1, 1) := by decide +kernel
theorem dX9_feed_7 : decode cX9_feed 7 = .ok (.invokevirtual 141, 3) := by decide +kernel
theorem dX9_feed_10 : decode cX9_feed 10 = .ok (.aload_n 0, 1) := by decide +kernel
theorem dX9_feed_11 : decode cX9_feed 11 = .ok (.lload_n 3, 1) := by decide +kernel
theorem dX9_feed_12 : decode cX9_feed 12 = .ok (.invokevirtual 141, 3) := by decide +kernel
theorem dX9_feed_15 : decode cX9_feed 15 = .ok (.aload_n 0, 1) := by decide +kernel
theorem dX9_feed_16 : decode cX9_feed 16 = .ok (.lload 5, 2) := by decide +kernel
theorem dX9_feed_18 : decode cX9_feed 18 = .ok (.invokevirtual 141, 3) := by decide +kernel
theorem dX9_feed_21 : decode cX9_feed 21 = .ok (.aload_n 0, 1) := by decide +kernel
theorem dX9_feed_22 : decode cX9_feed 22 = .ok (.getfield 145, 3) := by decide +kernel
theorem dX9_feed_25 : decode cX9_feed 25 = .ok (.ireturn, 1) := by decide +kernel
theorem dX9_lay_0 : decode cX9_lay 0 = .ok (.bipush 56, 2) := by decide +kernel
theorem dX9_lay_2 : decode cX9_lay 2 = .ok (.istore_n 3, 1) := by decide +kernel
theorem dX9_lay_3 : decode cX9_lay 3 = .ok (.iload_n 3, 1) := by decide +kernel
theorem dX9_lay_4 : decode cX9_lay 4 = .ok (.ifCond .lt 71, 3) := by decide +kernel
theorem dX9_lay_7 : decode cX9_lay 7 = .ok (.lload_n 1, 1) := by decide +kernel
theorem dX9_lay_8 : decode cX9_lay 8 = .ok (.iload_n 3, 1) := by decide +kernel
theorem dX9_lay_9 : decode cX9_lay 9 = .ok (.lshr, 1) := by decide +kernel
theorem dX9_lay_10 : decode cX9_lay 10 = .ok (.l2i, 1) := by decide +kernel
theorem dX9_lay_11 : decode cX9_lay 11 = .ok (.sipush 255, 3) := by decide +kernel
theorem dX9_lay_14 : decode cX9_lay 14 = .ok (.iand, 1) := by decide +kernel
theorem dX9_lay_15 : decode cX9_lay 15 = .ok (.istore 4, 2) := by decide +kernel
theorem dX9_lay_17 : decode cX9_lay 17 = .ok (.iload 4, 2) := by decide +kernel
theorem dX9_lay_19 : decode cX9_lay 19 = .ok (.bipush 10, 2) := by decide +kernel
theorem dX9_lay_21 : decode cX9_lay 21 = .ok (.if_icmp .eq 17, 3) := by decide +kernel
theorem dX9_lay_24 : decode cX9_lay 24 = .ok (.iload 4, 2) := by decide +kernel
theorem dX9_lay_26 : decode cX9_lay 26 = .ok (.bipush 32, 2) := by decide +kernel
theorem dX9_lay_28 : decode cX9_lay 28 = .ok (.if_icmp .lt 41, 3) := by decide +kernel
theorem dX9_lay_31 : decode cX9_lay 31 = .ok (.iload 4, 2) := by decide +kernel
theorem dX9_lay_33 : decode cX9_lay 33 = .ok (.bipush 126, 2) := by decide +kernel
theorem dX9_lay_35 : decode cX9_lay 35 = .ok (.if_icmp .gt 34, 3) := by decide +kernel
theorem dX9_lay_38 : decode cX9_lay 38 = .ok (.aload_n 0, 1) := by decide +kernel
theorem dX9_lay_39 : decode cX9_lay 39 = .ok (.getfield 145, 3) := by decide +kernel
theorem dX9_lay_42 : decode cX9_lay 42 = .ok (.sipush 600, 3) := by decide +kernel
theorem dX9_lay_45 : decode cX9_lay 45 = .ok (.if_icmp .ge 24, 3) := by decide +kernel
theorem dX9_lay_48 : decode cX9_lay 48 = .ok (.aload_n 0, 1) := by decide +kernel
theorem dX9_lay_49 : decode cX9_lay 49 = .ok (.getfield 7, 3) := by decide +kernel
theorem dX9_lay_52 : decode cX9_lay 52 = .ok (.aload_n 0, 1) := by decide +kernel
theorem dX9_lay_53 : decode cX9_lay 53 = .ok (.getfield 145, 3) := by decide +kernel
theorem dX9_lay_56 : decode cX9_lay 56 = .ok (.iload 4, 2) := by decide +kernel
theorem dX9_lay_58 : decode cX9_lay 58 = .ok (.iastore, 1) := by decide +kernel
theorem dX9_lay_59 : decode cX9_lay 59 = .ok (.aload_n 0, 1) := by decide +kernel
theorem dX9_lay_60 : decode cX9_lay 60 = .ok (.dup, 1) := by decide +kernel
theorem dX9_lay_61 : decode cX9_lay 61 = .ok (.getfield 145, 3) := by decide +kernel
theorem dX9_lay_64 : decode cX9_lay 64 = .ok (.iconst 1, 1) := by decide +kernel
theorem dX9_lay_65 : decode cX9_lay 65 = .ok (.iadd, 1) := by decide +kernel
theorem dX9_lay_66 : decode cX9_lay 66 = .ok (.putfield 145, 3) := by decide +kernel
theorem dX9_lay_69 : decode cX9_lay 69 = .ok (.iinc 3 (-8), 3) := by decide +kernel
theorem dX9_lay_72 : decode cX9_lay 72 = .ok (.goto (-69), 3) := by decide +kernel
theorem dX9_lay_75 : decode cX9_lay 75 = .ok (.return_, 1) := by decide +kernel
theorem dX9_isLetter_0 : decode cX9_isLetter 0 = .ok (.iload_n 0, 1) := by decide +kernel
theorem dX9_isLetter_1 : decode cX9_isLetter 1 = .ok (.bipush 97, 2) := by decide +kernel
theorem dX9_isLetter_3 : decode cX9_isLetter 3 = .ok (.if_icmp .lt 13, 3) := by decide +kernel
theorem dX9_isLetter_6 : decode cX9_isLetter 6 = .ok (.iload_n 0, 1) := by decide +kernel
theorem dX9_isLetter_7 : decode cX9_isLetter 7 = .ok (.bipush 122, 2) := by decide +kernel
theorem dX9_isLetter_9 : decode cX9_isLetter 9 = .ok (.if_icmp .gt 7, 3) := by decide +kernel
theorem dX9_isLetter_12 : decode cX9_isLetter 12 = .ok (.iconst 1, 1) := by decide +kernel
theorem dX9_isLetter_13 : decode cX9_isLetter 13 = .ok (.goto 4, 3) := by decide +kernel
theorem dX9_isLetter_16 : decode cX9_isLetter 16 = .ok (.iconst 0, 1) := by decide +kernel
theorem dX9_isLetter_17 : decode cX9_isLetter 17 = .ok (.ireturn, 1) := by decide +kernel
theorem dX9_isDigit_0 : decode cX9_isDigit 0 = .ok (.iload_n 0, 1) := by decide +kernel
theorem dX9_isDigit_1 : decode cX9_isDigit 1 = .ok (.bipush 48, 2) := by decide +kernel
theorem dX9_isDigit_3 : decode cX9_isDigit 3 = .ok (.if_icmp .lt 13, 3) := by decide +kernel
theorem dX9_isDigit_6 : decode cX9_isDigit 6 = .ok (.iload_n 0, 1) := by decide +kernel
theorem dX9_isDigit_7 : decode cX9_isDigit 7 = .ok (.bipush 57, 2) := by decide +kernel
theorem dX9_isDigit_9 : decode cX9_isDigit 9 = .ok (.if_icmp .gt 7, 3) := by decide +kernel
theorem dX9_isDigit_12 : decode cX9_isDigit 12 = .ok (.iconst 1, 1) := by decide +kernel
theorem dX9_isDigit_13 : decode cX9_isDigit 13 = .ok (.goto 4, 3) := by decide +kernel
theorem dX9_isDigit_16 : decode cX9_isDigit 16 = .ok (.iconst 0, 1) := by decide +kernel
theorem dX9_isDigit_17 : decode cX9_isDigit 17 = .ok (.ireturn, 1) := by decide +kernel
theorem dX9_rank_0 : decode cX9_rank 0 = .ok (.iload_n 0, 1) := by decide +kernel
theorem dX9_rank_1 : decode cX9_rank 1 = .ok (.invokestatic 148, 3) := by decide +kernel
theorem dX9_rank_4 : decode cX9_rank 4 = .ok (.ifCond .eq 10, 3) := by decide +kernel
theorem dX9_rank_7 : decode cX9_rank 7 = .ok (.iload_n 0, 1) := by decide +kernel
theorem dX9_rank_8 : decode cX9_rank 8 = .ok (.bipush 96, 2) := by decide +kernel
theorem dX9_rank_10 : decode cX9_rank 10 = .ok (.isub, 1) := by decide +kernel
theorem dX9_rank_11 : decode cX9_rank 11 = .ok (.goto 7, 3) := by decide +kernel
theorem dX9_rank_14 : decode cX9_rank 14 = .ok (.iload_n 0, 1) := by decide +kernel
theorem dX9_rank_15 : decode cX9_rank 15 = .ok (.bipush 21, 2) := by decide +kernel
theorem dX9_rank_17 : decode cX9_rank 17 = .ok (.isub, 1) := by decide +kernel
theorem dX9_rank_18 : decode cX9_rank 18 = .ok (.ireturn, 1) := by decide +kernel
theorem dX9_isSignOf_0 : decode cX9_isSignOf 0 = .ok (.iload_n 0, 1) := by decide +kernel
theorem dX9_isSignOf_1 : decode cX9_isSignOf 1 = .ok (.bipush 40, 2) := by decide +kernel
theorem dX9_isSignOf_3 : decode cX9_isSignOf 3 = .ok (.if_icmp .eq 39, 3) := by decide +kernel
theorem dX9_isSignOf_6 : decode cX9_isSignOf 6 = .ok (.iload_n 0, 1) := by decide +kernel
theorem dX9_isSignOf_7 : decode cX9_isSignOf 7 = .ok (.bipush 41, 2) := by decide +kernel
theorem dX9_isSignOf_9 : decode cX9_isSignOf 9 = .ok (.if_icmp .eq 33, 3) := by decide +kernel
theorem dX9_isSignOf_12 : decode cX9_isSignOf 12 = .ok (.iload_n 0, 1) := by decide +kernel
theorem dX9_isSignOf_13 : decode cX9_isSignOf 13 = .ok (.bipush 59, 2) := by decide +kernel
theorem dX9_isSignOf_15 : decode cX9_isSignOf 15 = .ok (.if_icmp .eq 27, 3) := by decide +kernel
theorem dX9_isSignOf_18 : decode cX9_isSignOf 18 = .ok (.iload_n 0, 1) := by decide +kernel
theorem dX9_isSignOf_19 : decode cX9_isSignOf 19 = .ok (.bipush 61, 2) := by decide +kernel
theorem dX9_isSignOf_21 : decode cX9_isSignOf 21 = .ok (.if_icmp .eq 21, 3) := by decide +kernel
theorem dX9_isSignOf_24 : decode cX9_isSignOf 24 = .ok (.iload_n 0, 1) := by decide +kernel
theorem dX9_isSignOf_25 : decode cX9_isSignOf 25 = .ok (.bipush 60, 2) := by decide +kernel
theorem dX9_isSignOf_27 : decode cX9_isSignOf 27 = .ok (.if_icmp .eq 15, 3) := by decide +kernel
theorem dX9_isSignOf_30 : decode cX9_isSignOf 30 = .ok (.iload_n 0, 1) := by decide +kernel
theorem dX9_isSignOf_31 : decode cX9_isSignOf 31 = .ok (.bipush 43, 2) := by decide +kernel
theorem dX9_isSignOf_33 : decode cX9_isSignOf 33 = .ok (.if_icmp .eq 9, 3) := by decide +kernel
theorem dX9_isSignOf_36 : decode cX9_isSignOf 36 = .ok (.iload_n 0, 1) := by decide +kernel
theorem dX9_isSignOf_37 : decode cX9_isSignOf 37 = .ok (.bipush 45, 2) := by decide +kernel
theorem dX9_isSignOf_39 : decode cX9_isSignOf 39 = .ok (.if_icmp .ne 7, 3) := by decide +kernel
theorem dX9_isSignOf_42 : decode cX9_isSignOf 42 = .ok (.iconst 1, 1) := by decide +kernel
theorem dX9_isSignOf_43 : decode cX9_isSignOf 43 = .ok (.goto 4, 3) := by decide +kernel
theorem dX9_isSignOf_46 : decode cX9_isSignOf 46 = .ok (.iconst 0, 1) := by decide +kernel
theorem dX9_isSignOf_47 : decode cX9_isSignOf 47 = .ok (.ireturn, 1) := by decide +kernel
theorem dX9_cutAll_0 : decode cX9_cutAll 0 = .ok (.aload_n 0, 1) := by decide +kernel
theorem dX9_cutAll_1 : decode cX9_cutAll 1 = .ok (.aload_n 0, 1) := by decide +kernel
theorem dX9_cutAll_2 : decode cX9_cutAll 2 = .ok (.getfield 145, 3) := by decide +kernel
theorem dX9_cutAll_5 : decode cX9_cutAll 5 = .ok (.putfield 152, 3) := by decide +kernel
theorem dX9_cutAll_8 : decode cX9_cutAll 8 = .ok (.aload_n 0, 1) := by decide +kernel
