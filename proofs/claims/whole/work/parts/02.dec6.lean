theorem dX9_day_73 : decode cX9_day 73 = .ok (.iinc 3 1, 3) := by decide +kernel
theorem dX9_day_76 : decode cX9_day 76 = .ok (.goto (-37), 3) := by decide +kernel
theorem dX9_day_79 : decode cX9_day 79 = .ok (.iconst 0, 1) := by decide +kernel
theorem dX9_day_80 : decode cX9_day 80 = .ok (.istore_n 3, 1) := by decide +kernel
theorem dX9_day_81 : decode cX9_day 81 = .ok (.iload_n 3, 1) := by decide +kernel
theorem dX9_day_82 : decode cX9_day 82 = .ok (.iconst 4, 1) := by decide +kernel
theorem dX9_day_83 : decode cX9_day 83 = .ok (.if_icmp .ge 36, 3) := by decide +kernel
theorem dX9_day_86 : decode cX9_day 86 = .ok (.iconst 0, 1) := by decide +kernel
theorem dX9_day_87 : decode cX9_day 87 = .ok (.istore 4, 2) := by decide +kernel
theorem dX9_day_89 : decode cX9_day 89 = .ok (.iload 4, 2) := by decide +kernel
theorem dX9_day_91 : decode cX9_day 91 = .ok (.aload_n 0, 1) := by decide +kernel
theorem dX9_day_92 : decode cX9_day 92 = .ok (.getfield 236, 3) := by decide +kernel
theorem dX9_day_95 : decode cX9_day 95 = .ok (.if_icmp .ge 18, 3) := by decide +kernel
theorem dX9_day_98 : decode cX9_day 98 = .ok (.aload_n 0, 1) := by decide +kernel
theorem dX9_day_99 : decode cX9_day 99 = .ok (.iload_n 3, 1) := by decide +kernel
theorem dX9_day_100 : decode cX9_day 100 = .ok (.iload 4, 2) := by decide +kernel
theorem dX9_day_102 : decode cX9_day 102 = .ok (.iload_n 1, 1) := by decide +kernel
theorem dX9_day_103 : decode cX9_day 103 = .ok (.iload_n 2, 1) := by decide +kernel
theorem dX9_day_104 : decode cX9_day 104 = .ok (.invokevirtual 302, 3) := by decide +kernel
theorem dX9_day_107 : decode cX9_day 107 = .ok (.iinc 4 1, 3) := by decide +kernel
theorem dX9_day_110 : decode cX9_day 110 = .ok (.goto (-21), 3) := by decide +kernel
theorem dX9_day_113 : decode cX9_day 113 = .ok (.iinc 3 1, 3) := by decide +kernel
theorem dX9_day_116 : decode cX9_day 116 = .ok (.goto (-35), 3) := by decide +kernel
theorem dX9_day_119 : decode cX9_day 119 = .ok (.aload_n 0, 1) := by decide +kernel
theorem dX9_day_120 : decode cX9_day 120 = .ok (.aload_n 0, 1) := by decide +kernel
theorem dX9_day_121 : decode cX9_day 121 = .ok (.getfield 86, 3) := by decide +kernel
theorem dX9_day_124 : decode cX9_day 124 = .ok (.iload_n 1, 1) := by decide +kernel
theorem dX9_day_125 : decode cX9_day 125 = .ok (.iload_n 2, 1) := by decide +kernel
theorem dX9_day_126 : decode cX9_day 126 = .ok (.invokevirtual 306, 3) := by decide +kernel
theorem dX9_day_129 : decode cX9_day 129 = .ok (.aload_n 0, 1) := by decide +kernel
theorem dX9_day_130 : decode cX9_day 130 = .ok (.aload_n 0, 1) := by decide +kernel
theorem dX9_day_131 : decode cX9_day 131 = .ok (.getfield 89, 3) := by decide +kernel
theorem dX9_day_134 : decode cX9_day 134 = .ok (.iload_n 1, 1) := by decide +kernel
theorem dX9_day_135 : decode cX9_day 135 = .ok (.iload_n 2, 1) := by decide +kernel
theorem dX9_day_136 : decode cX9_day 136 = .ok (.invokevirtual 306, 3) := by decide +kernel
theorem dX9_day_139 : decode cX9_day 139 = .ok (.aload_n 0, 1) := by decide +kernel
theorem dX9_day_140 : decode cX9_day 140 = .ok (.dup, 1) := by decide +kernel
theorem dX9_day_141 : decode cX9_day 141 = .ok (.getfield 239, 3) := by decide +kernel
theorem dX9_day_144 : decode cX9_day 144 = .ok (.iconst 1, 1) := by decide +kernel
theorem dX9_day_145 : decode cX9_day 145 = .ok (.iadd, 1) := by decide +kernel
theorem dX9_day_146 : decode cX9_day 146 = .ok (.putfield 239, 3) := by decide +kernel
theorem dX9_day_149 : decode cX9_day 149 = .ok (.aload_n 0, 1) := by decide +kernel
theorem dX9_day_150 : decode cX9_day 150 = .ok (.getfield 239, 3) := by decide +kernel
theorem dX9_day_153 : decode cX9_day 153 = .ok (.iconst 1, 1) := by decide +kernel
theorem dX9_day_154 : decode cX9_day 154 = .ok (.isub, 1) := by decide +kernel
theorem dX9_day_155 : decode cX9_day 155 = .ok (.ireturn, 1) := by decide +kernel
theorem dX9_grass_0 : decode cX9_grass 0 = .ok (.aload_n 0, 1) := by decide +kernel
theorem dX9_grass_1 : decode cX9_grass 1 = .ok (.iconst 0, 1) := by decide +kernel
theorem dX9_grass_2 : decode cX9_grass 2 = .ok (.putfield 137, 3) := by decide +kernel
theorem dX9_grass_5 : decode cX9_grass 5 = .ok (.aload_n 0, 1) := by decide +kernel
theorem dX9_grass_6 : decode cX9_grass 6 = .ok (.iload_n 1, 1) := by decide +kernel
theorem dX9_grass_7 : decode cX9_grass 7 = .ok (.invokevirtual 242, 3) := by decide +kernel
theorem dX9_grass_10 : decode cX9_grass 10 = .ok (.ifCond .eq 21, 3) := by decide +kernel
theorem dX9_grass_13 : decode cX9_grass 13 = .ok (.iload_n 2, 1) := by decide +kernel
theorem dX9_grass_14 : decode cX9_grass 14 = .ok (.ifCond .lt 17, 3) := by decide +kernel
theorem dX9_grass_17 : decode cX9_grass 17 = .ok (.iload_n 2, 1) := by decide +kernel
theorem dX9_grass_18 : decode cX9_grass 18 = .ok (.iconst 3, 1) := by decide +kernel
theorem dX9_grass_19 : decode cX9_grass 19 = .ok (.if_icmp .gt 12, 3) := by decide +kernel
theorem dX9_grass_22 : decode cX9_grass 22 = .ok (.iload_n 3, 1) := by decide +kernel
theorem dX9_grass_23 : decode cX9_grass 23 = .ok (.ifCond .lt 8, 3) := by decide +kernel
theorem dX9_grass_26 : decode cX9_grass 26 = .ok (.iload_n 3, 1) := by decide +kernel
theorem dX9_grass_27 : decode cX9_grass 27 = .ok (.iconst 5, 1) := by decide +kernel
theorem dX9_grass_28 : decode cX9_grass 28 = .ok (.if_icmp .le 7, 3) := by decide +kernel
theorem dX9_grass_31 : decode cX9_grass 31 = .ok (.iconst (-1), 1) := by decide +kernel
theorem dX9_grass_32 : decode cX9_grass 32 = .ok (.goto 19, 3) := by decide +kernel
theorem dX9_grass_35 : decode cX9_grass 35 = .ok (.aload_n 0, 1) := by decide +kernel
theorem dX9_grass_36 : decode cX9_grass 36 = .ok (.getfield 86, 3) := by decide +kernel
theorem dX9_grass_39 : decode cX9_grass 39 = .ok (.bipush 24, 2) := by decide +kernel
theorem dX9_grass_41 : decode cX9_grass 41 = .ok (.iload_n 1, 1) := by decide +kernel
theorem dX9_grass_42 : decode cX9_grass 42 = .ok (.imul, 1) := by decide +kernel
theorem dX9_grass_43 : decode cX9_grass 43 = .ok (.bipush 6, 2) := by decide +kernel
theorem dX9_grass_45 : decode cX9_grass 45 = .ok (.iload_n 2, 1) := by decide +kernel
theorem dX9_grass_46 : decode cX9_grass 46 = .ok (.imul, 1) := by decide +kernel
theorem dX9_grass_47 : decode cX9_grass 47 = .ok (.iadd, 1) := by decide +kernel
theorem dX9_grass_48 : decode cX9_grass 48 = .ok (.iload_n 3, 1) := by decide +kernel
theorem dX9_grass_49 : decode cX9_grass 49 = .ok (.iadd, 1) := by decide +kernel
theorem dX9_grass_50 : decode cX9_grass 50 = .ok (.iaload, 1) := by decide +kernel
theorem dX9_grass_51 : decode cX9_grass 51 = .ok (.ireturn, 1) := by decide +kernel
theorem dX9_look_0 : decode cX9_look 0 = .ok (.aload_n 0, 1) := by decide +kernel
theorem dX9_look_1 : decode cX9_look 1 = .ok (.iload_n 1, 1) := by decide +kernel
theorem dX9_look_2 : decode cX9_look 2 = .ok (.ifCond .lt 24, 3) := by decide +kernel
theorem dX9_look_5 : decode cX9_look 5 = .ok (.iload_n 1, 1) := by decide +kernel
theorem dX9_look_6 : decode cX9_look 6 = .ok (.aload_n 0, 1) := by decide +kernel
theorem dX9_look_7 : decode cX9_look 7 = .ok (.getfield 253, 3) := by decide +kernel
theorem dX9_look_10 : decode cX9_look 10 = .ok (.if_icmp .ge 16, 3) := by decide +kernel
theorem dX9_look_13 : decode cX9_look 13 = .ok (.iload_n 2, 1) := by decide +kernel
theorem dX9_look_14 : decode cX9_look 14 = .ok (.ifCond .lt 12, 3) := by decide +kernel
theorem dX9_look_17 : decode cX9_look 17 = .ok (.iload_n 2, 1) := by decide +kernel
theorem dX9_look_18 : decode cX9_look 18 = .ok (.iconst 4, 1) := by decide +kernel
theorem dX9_look_19 : decode cX9_look 19 = .ok (.if_icmp .gt 7, 3) := by decide +kernel
theorem dX9_look_22 : decode cX9_look 22 = .ok (.iconst 0, 1) := by decide +kernel
theorem dX9_look_23 : decode cX9_look 23 = .ok (.goto 4, 3) := by decide +kernel
theorem dX9_look_26 : decode cX9_look 26 = .ok (.iconst 1, 1) := by decide +kernel
theorem dX9_look_27 : decode cX9_look 27 = .ok (.putfield 137, 3) := by decide +kernel
theorem dX9_look_30 : decode cX9_look 30 = .ok (.aload_n 0, 1) := by decide +kernel
theorem dX9_look_31 : decode cX9_look 31 = .ok (.getfield 137, 3) := by decide +kernel
theorem dX9_look_34 : decode cX9_look 34 = .ok (.ifCond .le 5, 3) := by decide +kernel
theorem dX9_look_37 : decode cX9_look 37 = .ok (.iconst 0, 1) := by decide +kernel
theorem dX9_look_38 : decode cX9_look 38 = .ok (.ireturn, 1) := by decide +kernel
theorem dX9_look_39 : decode cX9_look 39 = .ok (.iload_n 2, 1) := by decide +kernel
theorem dX9_look_40 : decode cX9_look 40 = .ok (.ifCond .ne 10, 3) := by decide +kernel
theorem dX9_look_43 : decode cX9_look 43 = .ok (.aload_n 0, 1) := by decide +kernel
theorem dX9_look_44 : decode cX9_look 44 = .ok (.getfield 125, 3) := by decide +kernel
theorem dX9_look_47 : decode cX9_look 47 = .ok (.iload_n 1, 1) := by decide +kernel
theorem dX9_look_48 : decode cX9_look 48 = .ok (.iaload, 1) := by decide +kernel
theorem dX9_look_49 : decode cX9_look 49 = .ok (.ireturn, 1) := by decide +kernel
theorem dX9_look_50 : decode cX9_look 50 = .ok (.iload_n 2, 1) := by decide +kernel
theorem dX9_look_51 : decode cX9_look 51 = .ok (.iconst 4, 1) := by decide +kernel
theorem dX9_look_52 : decode cX9_look 52 = .ok (.if_icmp .ne 10, 3) := by decide +kernel
theorem dX9_look_55 : decode cX9_look 55 = .ok (.aload_n 0, 1) := by decide +kernel
theorem dX9_look_56 : decode cX9_look 56 = .ok (.getfield 131, 3) := by decide +kernel
theorem dX9_look_59 : decode cX9_look 59 = .ok (.iload_n 1, 1) := by decide +kernel
theorem dX9_look_60 : decode cX9_look 60 = .ok (.iaload, 1) := by decide +kernel
theorem dX9_look_61 : decode cX9_look 61 = .ok (.ireturn, 1) := by decide +kernel
theorem dX9_look_62 : decode cX9_look 62 = .ok (.aload_n 0, 1) := by decide +kernel
theorem dX9_look_63 : decode cX9_look 63 = .ok (.getfield 128, 3) := by decide +kernel
theorem dX9_look_66 : decode cX9_look 66 = .ok (.iload_n 1, 1) := by decide +kernel
theorem dX9_look_67 : decode cX9_look 67 = .ok (.iaload, 1) := by decide +kernel
theorem dX9_look_68 : decode cX9_look 68 = .ok (.ifCond .ge 7, 3) := by decide +kernel
theorem dX9_look_71 : decode cX9_look 71 = .ok (.iconst (-1), 1) := by decide +kernel
theorem dX9_look_72 : decode cX9_look 72 = .ok (.goto 48, 3) := by decide +kernel
theorem dX9_look_75 : decode cX9_look 75 = .ok (.iload_n 2, 1) := by decide +kernel
theorem dX9_look_76 : decode cX9_look 76 = .ok (.iconst 1, 1) := by decide +kernel
theorem dX9_look_77 : decode cX9_look 77 = .ok (.if_icmp .ne 15, 3) := by decide +kernel
theorem dX9_look_80 : decode cX9_look 80 = .ok (.aload_n 0, 1) := by decide +kernel
theorem dX9_look_81 : decode cX9_look 81 = .ok (.getfield 128, 3) := by decide +kernel
theorem dX9_look_84 : decode cX9_look 84 = .ok (.iload_n 1, 1) := by decide +kernel
theorem dX9_look_85 : decode cX9_look 85 = .ok (.iaload, 1) := by decide +kernel
theorem dX9_look_86 : decode cX9_look 86 = .ok (.bipush 24, 2) := by decide +kernel
theorem dX9_look_88 : decode cX9_look 88 = .ok (.idiv, 1) := by decide +kernel
theorem dX9_look_89 : decode cX9_look 89 = .ok (.goto 31, 3) := by decide +kernel
theorem dX9_look_92 : decode cX9_look 92 = .ok (.iload_n 2, 1) := by decide +kernel
theorem dX9_look_93 : decode cX9_look 93 = .ok (.iconst 2, 1) := by decide +kernel
theorem dX9_look_94 : decode cX9_look 94 = .ok (.if_icmp .ne 17, 3) := by decide +kernel
theorem dX9_look_97 : decode cX9_look 97 = .ok (.aload_n 0, 1) := by decide +kernel
theorem dX9_look_98 : decode cX9_look 98 = .ok (.getfield 128, 3) := by decide +kernel
theorem dX9_look_101 : decode cX9_look 101 = .ok (.iload_n 1, 1) := by decide +kernel
theorem dX9_look_102 : decode cX9_look 102 = .ok (.iaload, 1) := by decide +kernel
theorem dX9_look_103 : decode cX9_look 103 = .ok (.bipush 6, 2) := by decide +kernel
theorem dX9_look_105 : decode cX9_look 105 = .ok (.idiv, 1) := by decide +kernel
theorem dX9_look_106 : decode cX9_look 106 = .ok (.iconst 4, 1) := by decide +kernel
theorem dX9_look_107 : decode cX9_look 107 = .ok (.irem, 1) := by decide +kernel
theorem dX9_look_108 : decode cX9_look 108 = .ok (.goto 12, 3) := by decide +kernel
theorem dX9_look_111 : decode cX9_look 111 = .ok (.aload_n 0, 1) := by decide +kernel
theorem dX9_look_112 : decode cX9_look 112 = .ok (.getfield 128, 3) := by decide +kernel
theorem dX9_look_115 : decode cX9_look 115 = .ok (.iload_n 1, 1) := by decide +kernel
theorem dX9_look_116 : decode cX9_look 116 = .ok (.iaload, 1) := by decide +kernel
theorem dX9_look_117 : decode cX9_look 117 = .ok (.bipush 6, 2) := by decide +kernel
theorem dX9_look_119 : decode cX9_look 119 = .ok (.irem, 1) := by decide +kernel
theorem dX9_look_120 : decode cX9_look 120 = .ok (.ireturn, 1) := by decide +kernel
theorem dX9_at_0 : decode cX9_at 0 = .ok (.aload_n 0, 1) := by decide +kernel
theorem dX9_at_1 : decode cX9_at 1 = .ok (.iconst 0, 1) := by decide +kernel
theorem dX9_at_2 : decode cX9_at 2 = .ok (.putfield 137, 3) := by decide +kernel
theorem dX9_at_5 : decode cX9_at 5 = .ok (.iload_n 1, 1) := by decide +kernel
theorem dX9_at_6 : decode cX9_at 6 = .ok (.ifCond .lt 27, 3) := by decide +kernel
theorem dX9_at_9 : decode cX9_at 9 = .ok (.iload_n 1, 1) := by decide +kernel
theorem dX9_at_10 : decode cX9_at 10 = .ok (.sipush 356, 3) := by decide +kernel
theorem dX9_at_13 : decode cX9_at 13 = .ok (.if_icmp .gt 20, 3) := by decide +kernel
theorem dX9_at_16 : decode cX9_at 16 = .ok (.iload_n 2, 1) := by decide +kernel
theorem dX9_at_17 : decode cX9_at 17 = .ok (.ifCond .lt 16, 3) := by decide +kernel
theorem dX9_at_20 : decode cX9_at 20 = .ok (.iload_n 2, 1) := by decide +kernel
theorem dX9_at_21 : decode cX9_at 21 = .ok (.iconst 3, 1) := by decide +kernel
theorem dX9_at_22 : decode cX9_at 22 = .ok (.if_icmp .gt 11, 3) := by decide +kernel
theorem dX9_at_25 : decode cX9_at 25 = .ok (.aload_n 0, 1) := by decide +kernel
theorem dX9_at_26 : decode cX9_at 26 = .ok (.iload_n 3, 1) := by decide +kernel
theorem dX9_at_27 : decode cX9_at 27 = .ok (.invokevirtual 242, 3) := by decide +kernel
theorem dX9_at_30 : decode cX9_at 30 = .ok (.ifCond .ne 7, 3) := by decide +kernel
theorem dX9_at_33 : decode cX9_at 33 = .ok (.iconst (-1), 1) := by decide +kernel
theorem dX9_at_34 : decode cX9_at 34 = .ok (.goto 18, 3) := by decide +kernel
theorem dX9_at_37 : decode cX9_at 37 = .ok (.aload_n 0, 1) := by decide +kernel
theorem dX9_at_38 : decode cX9_at 38 = .ok (.bipush 24, 2) := by decide +kernel
theorem dX9_at_40 : decode cX9_at 40 = .ok (.iload_n 1, 1) := by decide +kernel
theorem dX9_at_41 : decode cX9_at 41 = .ok (.imul, 1) := by decide +kernel
theorem dX9_at_42 : decode cX9_at 42 = .ok (.bipush 6, 2) := by decide +kernel
theorem dX9_at_44 : decode cX9_at 44 = .ok (.iload_n 2, 1) := by decide +kernel
theorem dX9_at_45 : decode cX9_at 45 = .ok (.imul, 1) := by decide +kernel
theorem dX9_at_46 : decode cX9_at 46 = .ok (.iadd, 1) := by decide +kernel
theorem dX9_at_47 : decode cX9_at 47 = .ok (.iload_n 3, 1) := by decide +kernel
theorem dX9_at_48 : decode cX9_at 48 = .ok (.iadd, 1) := by decide +kernel
theorem dX9_at_49 : decode cX9_at 49 = .ok (.invokevirtual 259, 3) := by decide +kernel
theorem dX9_at_52 : decode cX9_at 52 = .ok (.ireturn, 1) := by decide +kernel
theorem dX9_gamesOf_0 : decode cX9_gamesOf 0 = .ok (.iconst 0, 1) := by decide +kernel
theorem dX9_gamesOf_1 : decode cX9_gamesOf 1 = .ok (.istore_n 3, 1) := by decide +kernel
theorem dX9_gamesOf_2 : decode cX9_gamesOf 2 = .ok (.iconst 0, 1) := by decide +kernel
theorem dX9_gamesOf_3 : decode cX9_gamesOf 3 = .ok (.istore 4, 2) := by decide +kernel
theorem dX9_gamesOf_5 : decode cX9_gamesOf 5 = .ok (.iload 4, 2) := by decide +kernel
theorem dX9_gamesOf_7 : decode cX9_gamesOf 7 = .ok (.aload_n 0, 1) := by decide +kernel
theorem dX9_gamesOf_8 : decode cX9_gamesOf 8 = .ok (.getfield 253, 3) := by decide +kernel
theorem dX9_gamesOf_11 : decode cX9_gamesOf 11 = .ok (.if_icmp .ge 38, 3) := by decide +kernel
theorem dX9_gamesOf_14 : decode cX9_gamesOf 14 = .ok (.iload_n 3, 1) := by decide +kernel
theorem dX9_gamesOf_15 : decode cX9_gamesOf 15 = .ok (.aload_n 0, 1) := by decide +kernel
theorem dX9_gamesOf_16 : decode cX9_gamesOf 16 = .ok (.getfield 125, 3) := by decide +kernel
theorem dX9_gamesOf_19 : decode cX9_gamesOf 19 = .ok (.iload 4, 2) := by decide +kernel
theorem dX9_gamesOf_21 : decode cX9_gamesOf 21 = .ok (.iaload, 1) := by decide +kernel
theorem dX9_gamesOf_22 : decode cX9_gamesOf 22 = .ok (.iload_n 2, 1) := by decide +kernel
theorem dX9_gamesOf_23 : decode cX9_gamesOf 23 = .ok (.if_icmp .ne 17, 3) := by decide +kernel
theorem dX9_gamesOf_26 : decode cX9_gamesOf 26 = .ok (.aload_n 0, 1) := by decide +kernel
theorem dX9_gamesOf_27 : decode cX9_gamesOf 27 = .ok (.iload 4, 2) := by decide +kernel
theorem dX9_gamesOf_29 : decode cX9_gamesOf 29 = .ok (.iload_n 1, 1) := by decide +kernel
theorem dX9_gamesOf_30 : decode cX9_gamesOf 30 = .ok (.invokevirtual 262, 3) := by decide +kernel
theorem dX9_gamesOf_33 : decode cX9_gamesOf 33 = .ok (.ifCond .eq 7, 3) := by decide +kernel
theorem dX9_gamesOf_36 : decode cX9_gamesOf 36 = .ok (.iconst 1, 1) := by decide +kernel
theorem dX9_gamesOf_37 : decode cX9_gamesOf 37 = .ok (.goto 4, 3) := by decide +kernel
theorem dX9_gamesOf_40 : decode cX9_gamesOf 40 = .ok (.iconst 0, 1) := by decide +kernel
theorem dX9_gamesOf_41 : decode cX9_gamesOf 41 = .ok (.iadd, 1) := by decide +kernel
theorem dX9_gamesOf_42 : decode cX9_gamesOf 42 = .ok (.istore_n 3, 1) := by decide +kernel
theorem dX9_gamesOf_43 : decode cX9_gamesOf 43 = .ok (.iinc 4 1, 3) := by decide +kernel
theorem dX9_gamesOf_46 : decode cX9_gamesOf 46 = .ok (.goto (-41), 3) := by decide +kernel
theorem dX9_gamesOf_49 : decode cX9_gamesOf 49 = .ok (.iload_n 3, 1) := by decide +kernel
theorem dX9_gamesOf_50 : decode cX9_gamesOf 50 = .ok (.ireturn, 1) := by decide +kernel
theorem dX9_club_0 : decode cX9_club 0 = .ok (.aload_n 0, 1) := by decide +kernel
theorem dX9_club_1 : decode cX9_club 1 = .ok (.iconst 0, 1) := by decide +kernel
theorem dX9_club_2 : decode cX9_club 2 = .ok (.putfield 137, 3) := by decide +kernel
theorem dX9_club_5 : decode cX9_club 5 = .ok (.iload_n 1, 1) := by decide +kernel
theorem dX9_club_6 : decode cX9_club 6 = .ok (.ifCond .lt 9, 3) := by decide +kernel
theorem dX9_club_9 : decode cX9_club 9 = .ok (.iload_n 1, 1) := by decide +kernel
theorem dX9_club_10 : decode cX9_club 10 = .ok (.bipush 15, 2) := by decide +kernel
theorem dX9_club_12 : decode cX9_club 12 = .ok (.if_icmp .le 5, 3) := by decide +kernel
theorem dX9_club_15 : decode cX9_club 15 = .ok (.iconst (-1), 1) := by decide +kernel
theorem dX9_club_16 : decode cX9_club 16 = .ok (.ireturn, 1) := by decide +kernel
theorem dX9_club_17 : decode cX9_club 17 = .ok (.iload_n 2, 1) := by decide +kernel
theorem dX9_club_18 : decode cX9_club 18 = .ok (.ifCond .ne 12, 3) := by decide +kernel
theorem dX9_club_21 : decode cX9_club 21 = .ok (.aload_n 0, 1) := by decide +kernel
theorem dX9_club_22 : decode cX9_club 22 = .ok (.iload_n 1, 1) := by decide +kernel
theorem dX9_club_23 : decode cX9_club 23 = .ok (.iconst 2, 1) := by decide +kernel
theorem dX9_club_24 : decode cX9_club 24 = .ok (.invokevirtual 310, 3) := by decide +kernel
theorem dX9_club_27 : decode cX9_club 27 = .ok (.goto 32, 3) := by decide +kernel
theorem dX9_club_30 : decode cX9_club 30 = .ok (.iload_n 2, 1) := by decide +kernel
theorem dX9_club_31 : decode cX9_club 31 = .ok (.iconst 1, 1) := by decide +kernel
theorem dX9_club_32 : decode cX9_club 32 = .ok (.if_icmp .ne 12, 3) := by decide +kernel
theorem dX9_club_35 : decode cX9_club 35 = .ok (.aload_n 0, 1) := by decide +kernel
theorem dX9_club_36 : decode cX9_club 36 = .ok (.getfield 134, 3) := by decide +kernel
theorem dX9_club_39 : decode cX9_club 39 = .ok (.iload_n 1, 1) := by decide +kernel
theorem dX9_club_40 : decode cX9_club 40 = .ok (.iaload, 1) := by decide +kernel
theorem dX9_club_41 : decode cX9_club 41 = .ok (.goto 18, 3) := by decide +kernel
theorem dX9_club_44 : decode cX9_club 44 = .ok (.iload_n 2, 1) := by decide +kernel
theorem dX9_club_45 : decode cX9_club 45 = .ok (.iconst 2, 1) := by decide +kernel
theorem dX9_club_46 : decode cX9_club 46 = .ok (.if_icmp .ne 12, 3) := by decide +kernel
theorem dX9_club_49 : decode cX9_club 49 = .ok (.aload_n 0, 1) := by decide +kernel
theorem dX9_club_50 : decode cX9_club 50 = .ok (.iload_n 1, 1) := by decide +kernel
theorem dX9_club_51 : decode cX9_club 51 = .ok (.iconst 3, 1) := by decide +kernel
theorem dX9_club_52 : decode cX9_club 52 = .ok (.invokevirtual 310, 3) := by decide +kernel
theorem dX9_club_55 : decode cX9_club 55 = .ok (.goto 4, 3) := by decide +kernel
theorem dX9_club_58 : decode cX9_club 58 = .ok (.iconst (-1), 1) := by decide +kernel
theorem dX9_club_59 : decode cX9_club 59 = .ok (.ireturn, 1) := by decide +kernel
theorem dX9_field_0 : decode cX9_field 0 = .ok (.aload_n 0, 1) := by decide +kernel
theorem dX9_field_1 : decode cX9_field 1 = .ok (.iconst 0, 1) := by decide +kernel
theorem dX9_field_2 : decode cX9_field 2 = .ok (.putfield 137, 3) := by decide +kernel
theorem dX9_field_5 : decode cX9_field 5 = .ok (.aload_n 0, 1) := by decide +kernel
theorem dX9_field_6 : decode cX9_field 6 = .ok (.iload_n 1, 1) := by decide +kernel
theorem dX9_field_7 : decode cX9_field 7 = .ok (.invokevirtual 242, 3) := by decide +kernel
theorem dX9_field_10 : decode cX9_field 10 = .ok (.ifCond .ne 5, 3) := by decide +kernel
theorem dX9_field_13 : decode cX9_field 13 = .ok (.iconst (-1), 1) := by decide +kernel
theorem dX9_field_14 : decode cX9_field 14 = .ok (.ireturn, 1) := by decide +kernel
theorem dX9_field_15 : decode cX9_field 15 = .ok (.iload_n 2, 1) := by decide +kernel
theorem dX9_field_16 : decode cX9_field 16 = .ok (.tableswitch 86 0 5 #[40, 47, 56, 65, 72, 79], 40) := by decide +kernel
theorem dX9_field_56 : decode cX9_field 56 = .ok (.aload_n 0, 1) := by decide +kernel
theorem dX9_field_57 : decode cX9_field 57 = .ok (.getfield 83, 3) := by decide +kernel
theorem dX9_field_60 : decode cX9_field 60 = .ok (.iload_n 1, 1) := by decide +kernel
theorem dX9_field_61 : decode cX9_field 61 = .ok (.iaload, 1) := by decide +kernel
theorem dX9_field_62 : decode cX9_field 62 = .ok (.ireturn, 1) := by decide +kernel
theorem dX9_field_63 : decode cX9_field 63 = .ok (.aload_n 0, 1) := by decide +kernel
theorem dX9_field_64 : decode cX9_field 64 = .ok (.getfield 86, 3) := by decide +kernel
theorem dX9_field_67 : decode cX9_field 67 = .ok (.iload_n 1, 1) := by decide +kernel
theorem dX9_field_68 : decode cX9_field 68 = .ok (.invokestatic 285, 3) := by decide +kernel
theorem dX9_field_71 : decode cX9_field 71 = .ok (.ireturn, 1) := by decide +kernel
theorem dX9_field_72 : decode cX9_field 72 = .ok (.aload_n 0, 1) := by decide +kernel
theorem dX9_field_73 : decode cX9_field 73 = .ok (.getfield 86, 3) := by decide +kernel
theorem dX9_field_76 : decode cX9_field 76 = .ok (.iload_n 1, 1) := by decide +kernel
theorem dX9_field_77 : decode cX9_field 77 = .ok (.invokestatic 289, 3) := by decide +kernel
theorem dX9_field_80 : decode cX9_field 80 = .ok (.ireturn, 1) := by decide +kernel
theorem dX9_field_81 : decode cX9_field 81 = .ok (.aload_n 0, 1) := by decide +kernel
theorem dX9_field_82 : decode cX9_field 82 = .ok (.getfield 98, 3) := by decide +kernel
theorem dX9_field_85 : decode cX9_field 85 = .ok (.iload_n 1, 1) := by decide +kernel
theorem dX9_field_86 : decode cX9_field 86 = .ok (.iaload, 1) := by decide +kernel
theorem dX9_field_87 : decode cX9_field 87 = .ok (.ireturn, 1) := by decide +kernel
theorem dX9_field_88 : decode cX9_field 88 = .ok (.aload_n 0, 1) := by decide +kernel
theorem dX9_field_89 : decode cX9_field 89 = .ok (.getfield 104, 3) := by decide +kernel
theorem dX9_field_92 : decode cX9_field 92 = .ok (.iload_n 1, 1) := by decide +kernel
theorem dX9_field_93 : decode cX9_field 93 = .ok (.iaload, 1) := by decide +kernel
theorem dX9_field_94 : decode cX9_field 94 = .ok (.ireturn, 1) := by decide +kernel
theorem dX9_field_95 : decode cX9_field 95 = .ok (.aload_n 0, 1) := by decide +kernel
theorem dX9_field_96 : decode cX9_field 96 = .ok (.getfield 92, 3) := by decide +kernel
theorem dX9_field_99 : decode cX9_field 99 = .ok (.iload_n 1, 1) := by decide +kernel
theorem dX9_field_100 : decode cX9_field 100 = .ok (.iaload, 1) := by decide +kernel
theorem dX9_field_101 : decode cX9_field 101 = .ok (.ireturn, 1) := by decide +kernel
theorem dX9_field_102 : decode cX9_field 102 = .ok (.iconst (-1), 1) := by decide +kernel
theorem dX9_field_103 : decode cX9_field 103 = .ok (.ireturn, 1) := by decide +kernel
theorem dX9_would_0 : decode cX9_would 0 = .ok (.aload_n 0, 1) := by decide +kernel
theorem dX9_would_1 : decode cX9_would 1 = .ok (.iconst 0, 1) := by decide +kernel
theorem dX9_would_2 : decode cX9_would 2 = .ok (.putfield 137, 3) := by decide +kernel
theorem dX9_would_5 : decode cX9_would 5 = .ok (.aload_n 0, 1) := by decide +kernel
theorem dX9_would_6 : decode cX9_would 6 = .ok (.iload_n 1, 1) := by decide +kernel
theorem dX9_would_7 : decode cX9_would 7 = .ok (.invokevirtual 242, 3) := by decide +kernel
theorem dX9_would_10 : decode cX9_would 10 = .ok (.ifCond .ne 5, 3) := by decide +kernel
theorem dX9_would_13 : decode cX9_would 13 = .ok (.iconst (-1), 1) := by decide +kernel
theorem dX9_would_14 : decode cX9_would 14 = .ok (.ireturn, 1) := by decide +kernel
theorem dX9_would_15 : decode cX9_would 15 = .ok (.iload_n 2, 1) := by decide +kernel
theorem dX9_would_16 : decode cX9_would 16 = .ok (.ifCond .ne 14, 3) := by decide +kernel
theorem dX9_would_19 : decode cX9_would 19 = .ok (.aload_n 0, 1) := by decide +kernel
theorem dX9_would_20 : decode cX9_would 20 = .ok (.getfield 89, 3) := by decide +kernel
theorem dX9_would_23 : decode cX9_would 23 = .ok (.iload_n 1, 1) := by decide +kernel
theorem dX9_would_24 : decode cX9_would 24 = .ok (.invokestatic 285, 3) := by decide +kernel
theorem dX9_would_27 : decode cX9_would 27 = .ok (.goto 34, 3) := by decide +kernel
theorem dX9_would_30 : decode cX9_would 30 = .ok (.iload_n 2, 1) := by decide +kernel
theorem dX9_would_31 : decode cX9_would 31 = .ok (.iconst 1, 1) := by decide +kernel
theorem dX9_would_32 : decode cX9_would 32 = .ok (.if_icmp .ne 14, 3) := by decide +kernel
theorem dX9_would_35 : decode cX9_would 35 = .ok (.aload_n 0, 1) := by decide +kernel
theorem dX9_would_36 : decode cX9_would 36 = .ok (.getfield 89, 3) := by decide +kernel
theorem dX9_would_39 : decode cX9_would 39 = .ok (.iload_n 1, 1) := by decide +kernel
theorem dX9_would_40 : decode cX9_would 40 = .ok (.invokestatic 289, 3) := by decide +kernel
theorem dX9_would_43 : decode cX9_would 43 = .ok (.goto 18, 3) := by decide +kernel
theorem dX9_would_46 : decode cX9_would 46 = .ok (.iload_n 2, 1) := by decide +kernel
theorem dX9_would_47 : decode cX9_would 47 = .ok (.iconst 2, 1) := by decide +kernel
theorem dX9_would_48 : decode cX9_would 48 = .ok (.if_icmp .ne 12, 3) := by decide +kernel
theorem dX9_would_51 : decode cX9_would 51 = .ok (.aload_n 0, 1) := by decide +kernel
theorem dX9_would_52 : decode cX9_would 52 = .ok (.getfield 95, 3) := by decide +kernel
theorem dX9_would_55 : decode cX9_would 55 = .ok (.iload_n 1, 1) := by decide +kernel
theorem dX9_would_56 : decode cX9_would 56 = .ok (.iaload, 1) := by decide +kernel
theorem dX9_would_57 : decode cX9_would 57 = .ok (.goto 4, 3) := by decide +kernel
theorem dX9_would_60 : decode cX9_would 60 = .ok (.iconst (-1), 1) := by decide +kernel
theorem dX9_would_61 : decode cX9_would 61 = .ok (.ireturn, 1) := by decide +kernel
theorem dX9_gamesThat_0 : decode cX9_gamesThat 0 = .ok (.iconst 0, 1) := by decide +kernel
theorem dX9_gamesThat_1 : decode cX9_gamesThat 1 = .ok (.istore_n 2, 1) := by decide +kernel
theorem dX9_gamesThat_2 : decode cX9_gamesThat 2 = .ok (.iconst 0, 1) := by decide +kernel
theorem dX9_gamesThat_3 : decode cX9_gamesThat 3 = .ok (.istore_n 3, 1) := by decide +kernel
theorem dX9_gamesThat_4 : decode cX9_gamesThat 4 = .ok (.iload_n 3, 1) := by decide +kernel
theorem dX9_gamesThat_5 : decode cX9_gamesThat 5 = .ok (.aload_n 0, 1) := by decide +kernel
theorem dX9_gamesThat_6 : decode cX9_gamesThat 6 = .ok (.getfield 253, 3) := by decide +kernel
theorem dX9_gamesThat_9 : decode cX9_gamesThat 9 = .ok (.if_icmp .ge 27, 3) := by decide +kernel
theorem dX9_gamesThat_12 : decode cX9_gamesThat 12 = .ok (.iload_n 2, 1) := by decide +kernel
theorem dX9_gamesThat_13 : decode cX9_gamesThat 13 = .ok (.aload_n 0, 1) := by decide +kernel
theorem dX9_gamesThat_14 : decode cX9_gamesThat 14 = .ok (.getfield 125, 3) := by decide +kernel
theorem dX9_gamesThat_17 : decode cX9_gamesThat 17 = .ok (.iload_n 3, 1) := by decide +kernel
theorem dX9_gamesThat_18 : decode cX9_gamesThat 18 = .ok (.iaload, 1) := by decide +kernel
theorem dX9_gamesThat_19 : decode cX9_gamesThat 19 = .ok (.iload_n 1, 1) := by decide +kernel
theorem dX9_gamesThat_20 : decode cX9_gamesThat 20 = .ok (.if_icmp .ne 7, 3) := by decide +kernel
theorem dX9_gamesThat_23 : decode cX9_gamesThat 23 = .ok (.iconst 1, 1) := by decide +kernel
theorem dX9_gamesThat_24 : decode cX9_gamesThat 24 = .ok (.goto 4, 3) := by decide +kernel
theorem dX9_gamesThat_27 : decode cX9_gamesThat 27 = .ok (.iconst 0, 1) := by decide +kernel
theorem dX9_gamesThat_28 : decode cX9_gamesThat 28 = .ok (.iadd, 1) := by decide +kernel
theorem dX9_gamesThat_29 : decode cX9_gamesThat 29 = .ok (.istore_n 2, 1) := by decide +kernel
theorem dX9_gamesThat_30 : decode cX9_gamesThat 30 = .ok (.iinc 3 1, 3) := by decide +kernel
theorem dX9_gamesThat_33 : decode cX9_gamesThat 33 = .ok (.goto (-29), 3) := by decide +kernel
theorem dX9_gamesThat_36 : decode cX9_gamesThat 36 = .ok (.iload_n 2, 1) := by decide +kernel
theorem dX9_gamesThat_37 : decode cX9_gamesThat 37 = .ok (.ireturn, 1) := by decide +kernel
theorem dX9_count_0 : decode cX9_count 0 = .ok (.aload_n 0, 1) := by decide +kernel
theorem dX9_count_1 : decode cX9_count 1 = .ok (.iconst 0, 1) := by decide +kernel
theorem dX9_count_2 : decode cX9_count 2 = .ok (.putfield 137, 3) := by decide +kernel
theorem dX9_count_5 : decode cX9_count 5 = .ok (.iconst 0, 1) := by decide +kernel
theorem dX9_count_6 : decode cX9_count 6 = .ok (.istore_n 2, 1) := by decide +kernel
theorem dX9_count_7 : decode cX9_count 7 = .ok (.iconst 0, 1) := by decide +kernel
theorem dX9_count_8 : decode cX9_count 8 = .ok (.istore_n 3, 1) := by decide +kernel
theorem dX9_count_9 : decode cX9_count 9 = .ok (.iload_n 3, 1) := by decide +kernel
theorem dX9_count_10 : decode cX9_count 10 = .ok (.aload_n 0, 1) := by decide +kernel
theorem dX9_count_11 : decode cX9_count 11 = .ok (.getfield 236, 3) := by decide +kernel
theorem dX9_count_14 : decode cX9_count 14 = .ok (.if_icmp .ge 18, 3) := by decide +kernel
theorem dX9_count_17 : decode cX9_count 17 = .ok (.iload_n 2, 1) := by decide +kernel
theorem dX9_count_18 : decode cX9_count 18 = .ok (.aload_n 0, 1) := by decide +kernel
theorem dX9_count_19 : decode cX9_count 19 = .ok (.getfield 104, 3) := by decide +kernel
theorem dX9_count_22 : decode cX9_count 22 = .ok (.iload_n 3, 1) := by decide +kernel
theorem dX9_count_23 : decode cX9_count 23 = .ok (.iaload, 1) := by decide +kernel
theorem dX9_count_24 : decode cX9_count 24 = .ok (.iadd, 1) := by decide +kernel
theorem dX9_count_25 : decode cX9_count 25 = .ok (.istore_n 2, 1) := by decide +kernel
theorem dX9_count_26 : decode cX9_count 26 = .ok (.iinc 3 1, 3) := by decide +kernel
theorem dX9_count_29 : decode cX9_count 29 = .ok (.goto (-20), 3) := by decide +kernel
theorem dX9_count_32 : decode cX9_count 32 = .ok (.iload_n 1, 1) := by decide +kernel
theorem dX9_count_33 : decode cX9_count 33 = .ok (.tableswitch 111 0 9 #[55, 60, 65, 70, 76, 82, 88, 94, 104, 109], 55) := by decide +kernel
theorem dX9_count_88 : decode cX9_count 88 = .ok (.aload_n 0, 1) := by decide +kernel
theorem dX9_count_89 : decode cX9_count 89 = .ok (.getfield 236, 3) := by decide +kernel
theorem dX9_count_92 : decode cX9_count 92 = .ok (.ireturn, 1) := by decide +kernel
theorem dX9_count_93 : decode cX9_count 93 = .ok (.aload_n 0, 1) := by decide +kernel
theorem dX9_count_94 : decode cX9_count 94 = .ok (.getfield 253, 3) := by decide +kernel
theorem dX9_count_97 : decode cX9_count 97 = .ok (.ireturn, 1) := by decide +kernel
theorem dX9_count_98 : decode cX9_count 98 = .ok (.aload_n 0, 1) := by decide +kernel
theorem dX9_count_99 : decode cX9_count 99 = .ok (.getfield 239, 3) := by decide +kernel
theorem dX9_count_102 : decode cX9_count 102 = .ok (.ireturn, 1) := by decide +kernel
theorem dX9_count_103 : decode cX9_count 103 = .ok (.aload_n 0, 1) := by decide +kernel
theorem dX9_count_104 : decode cX9_count 104 = .ok (.iconst 0, 1) := by decide +kernel
theorem dX9_count_105 : decode cX9_count 105 = .ok (.invokevirtual 314, 3) := by decide +kernel
theorem dX9_count_108 : decode cX9_count 108 = .ok (.ireturn, 1) := by decide +kernel
theorem dX9_count_109 : decode cX9_count 109 = .ok (.aload_n 0, 1) := by decide +kernel
theorem dX9_count_110 : decode cX9_count 110 = .ok (.iconst 1, 1) := by decide +kernel
theorem dX9_count_111 : decode cX9_count 111 = .ok (.invokevirtual 314, 3) := by decide +kernel
theorem dX9_count_114 : decode cX9_count 114 = .ok (.ireturn, 1) := by decide +kernel
theorem dX9_count_115 : decode cX9_count 115 = .ok (.aload_n 0, 1) := by decide +kernel
theorem dX9_count_116 : decode cX9_count 116 = .ok (.iconst 2, 1) := by decide +kernel
theorem dX9_count_117 : decode cX9_count 117 = .ok (.invokevirtual 314, 3) := by decide +kernel
theorem dX9_count_120 : decode cX9_count 120 = .ok (.ireturn, 1) := by decide +kernel
theorem dX9_count_121 : decode cX9_count 121 = .ok (.aload_n 0, 1) := by decide +kernel
theorem dX9_count_122 : decode cX9_count 122 = .ok (.iconst 3, 1) := by decide +kernel
theorem dX9_count_123 : decode cX9_count 123 = .ok (.invokevirtual 314, 3) := by decide +kernel
theorem dX9_count_126 : decode cX9_count 126 = .ok (.ireturn, 1) := by decide +kernel
theorem dX9_count_127 : decode cX9_count 127 = .ok (.aload_n 0, 1) := by decide +kernel
theorem dX9_count_128 : decode cX9_count 128 = .ok (.getfield 50, 3) := by decide +kernel
theorem dX9_count_131 : decode cX9_count 131 = .ok (.aload_n 0, 1) := by decide +kernel
theorem dX9_count_132 : decode cX9_count 132 = .ok (.getfield 198, 3) := by decide +kernel
theorem dX9_count_135 : decode cX9_count 135 = .ok (.iaload, 1) := by decide +kernel
theorem dX9_count_136 : decode cX9_count 136 = .ok (.ireturn, 1) := by decide +kernel
theorem dX9_count_137 : decode cX9_count 137 = .ok (.aload_n 0, 1) := by decide +kernel
theorem dX9_count_138 : decode cX9_count 138 = .ok (.getfield 145, 3) := by decide +kernel
theorem dX9_count_141 : decode cX9_count 141 = .ok (.ireturn, 1) := by decide +kernel
theorem dX9_count_142 : decode cX9_count 142 = .ok (.iload_n 2, 1) := by decide +kernel
theorem dX9_count_143 : decode cX9_count 143 = .ok (.ireturn, 1) := by decide +kernel
theorem dX9_count_144 : decode cX9_count 144 = .ok (.iconst (-1), 1) := by decide +kernel
theorem dX9_count_145 : decode cX9_count 145 = .ok (.ireturn, 1) := by decide +kernel
theorem dL_look_0 : decode cL_look 0 = .ok (.aload_n 3, 1) := by decide +kernel
theorem dL_look_1 : decode cL_look 1 = .ok (.iconst 0, 1) := by decide +kernel
theorem dL_look_2 : decode cL_look 2 = .ok (.aload_n 0, 1) := by decide +kernel
theorem dL_look_3 : decode cL_look 3 = .ok (.iload_n 1, 1) := by decide +kernel
theorem dL_look_4 : decode cL_look 4 = .ok (.iload_n 2, 1) := by decide +kernel
theorem dL_look_5 : decode cL_look 5 = .ok (.invokevirtual 7, 3) := by decide +kernel
theorem dL_look_8 : decode cL_look 8 = .ok (.i2l, 1) := by decide +kernel
theorem dL_look_9 : decode cL_look 9 = .ok (.lastore, 1) := by decide +kernel
theorem dL_look_10 : decode cL_look 10 = .ok (.goto 7, 3) := by decide +kernel
theorem dL_look_13 : decode cL_look 13 = .ok (.astore 4, 2) := by decide +kernel
theorem dL_look_15 : decode cL_look 15 = .ok (.iconst 1, 1) := by decide +kernel
theorem dL_look_16 : decode cL_look 16 = .ok (.ireturn, 1) := by decide +kernel
theorem dL_look_17 : decode cL_look 17 = .ok (.iconst 0, 1) := by decide +kernel
theorem dL_look_18 : decode cL_look 18 = .ok (.ireturn, 1) := by decide +kernel
theorem dL_law_0 : decode cL_law 0 = .ok (.new 8, 3) := by decide +kernel
theorem dL_law_3 : decode cL_law 3 = .ok (.dup, 1) := by decide +kernel
theorem dL_law_4 : decode cL_law 4 = .ok (.invokespecial 15, 3) := by decide +kernel
theorem dL_law_7 : decode cL_law 7 = .ok (.astore_n 1, 1) := by decide +kernel
theorem dL_law_8 : decode cL_law 8 = .ok (.new 16, 3) := by decide +kernel
theorem dL_law_11 : decode cL_law 11 = .ok (.dup, 1) := by decide +kernel
theorem dL_law_12 : decode cL_law 12 = .ok (.invokespecial 18, 3) := by decide +kernel
theorem dL_law_15 : decode cL_law 15 = .ok (.astore_n 2, 1) := by decide +kernel
theorem dL_law_16 : decode cL_law 16 = .ok (.iconst 1, 1) := by decide +kernel
theorem dL_law_17 : decode cL_law 17 = .ok (.newarray .long, 2) := by decide +kernel
theorem dL_law_19 : decode cL_law 19 = .ok (.astore_n 3, 1) := by decide +kernel
theorem dL_law_20 : decode cL_law 20 = .ok (.iconst 0, 1) := by decide +kernel
theorem dL_law_21 : decode cL_law 21 = .ok (.istore 4, 2) := by decide +kernel
theorem dL_law_23 : decode cL_law 23 = .ok (.iload 4, 2) := by decide +kernel
theorem dL_law_25 : decode cL_law 25 = .ok (.aload_n 0, 1) := by decide +kernel
theorem dL_law_26 : decode cL_law 26 = .ok (.arraylength, 1) := by decide +kernel
theorem dL_law_27 : decode cL_law 27 = .ok (.bipush 7, 2) := by decide +kernel
theorem dL_law_29 : decode cL_law 29 = .ok (.isub, 1) := by decide +kernel
theorem dL_law_30 : decode cL_law 30 = .ok (.if_icmp .gt 761, 3) := by decide +kernel
theorem dL_law_33 : decode cL_law 33 = .ok (.aload_n 0, 1) := by decide +kernel
theorem dL_law_34 : decode cL_law 34 = .ok (.iload 4, 2) := by decide +kernel
theorem dL_law_36 : decode cL_law 36 = .ok (.iaload, 1) := by decide +kernel
theorem dL_law_37 : decode cL_law 37 = .ok (.bipush 15, 2) := by decide +kernel
theorem dL_law_39 : decode cL_law 39 = .ok (.iand, 1) := by decide +kernel
theorem dL_law_40 : decode cL_law 40 = .ok (.tableswitch 745 0 13 #[72, 109, 196, 221, 368, 381, 418, 443, 492, 560, 609, 646, 683, 720], 72) := by decide +kernel
theorem dL_law_112 : decode cL_law 112 = .ok (.aload_n 1, 1) := by decide +kernel
theorem dL_law_113 : decode cL_law 113 = .ok (.aload_n 0, 1) := by decide +kernel
theorem dL_law_114 : decode cL_law 114 = .ok (.iload 4, 2) := by decide +kernel
theorem dL_law_116 : decode cL_law 116 = .ok (.iconst 1, 1) := by decide +kernel
theorem dL_law_117 : decode cL_law 117 = .ok (.iadd, 1) := by decide +kernel
theorem dL_law_118 : decode cL_law 118 = .ok (.iaload, 1) := by decide +kernel
theorem dL_law_119 : decode cL_law 119 = .ok (.aload_n 0, 1) := by decide +kernel
theorem dL_law_120 : decode cL_law 120 = .ok (.iload 4, 2) := by decide +kernel
theorem dL_law_122 : decode cL_law 122 = .ok (.iconst 2, 1) := by decide +kernel
theorem dL_law_123 : decode cL_law 123 = .ok (.iadd, 1) := by decide +kernel
theorem dL_law_124 : decode cL_law 124 = .ok (.iaload, 1) := by decide +kernel
theorem dL_law_125 : decode cL_law 125 = .ok (.invokevirtual 19, 3) := by decide +kernel
theorem dL_law_128 : decode cL_law 128 = .ok (.aload_n 2, 1) := by decide +kernel
theorem dL_law_129 : decode cL_law 129 = .ok (.aload_n 0, 1) := by decide +kernel
theorem dL_law_130 : decode cL_law 130 = .ok (.iload 4, 2) := by decide +kernel
theorem dL_law_132 : decode cL_law 132 = .ok (.iconst 1, 1) := by decide +kernel
theorem dL_law_133 : decode cL_law 133 = .ok (.iadd, 1) := by decide +kernel
theorem dL_law_134 : decode cL_law 134 = .ok (.iaload, 1) := by decide +kernel
theorem dL_law_135 : decode cL_law 135 = .ok (.aload_n 0, 1) := by decide +kernel
theorem dL_law_136 : decode cL_law 136 = .ok (.iload 4, 2) := by decide +kernel
theorem dL_law_138 : decode cL_law 138 = .ok (.iconst 2, 1) := by decide +kernel
theorem dL_law_139 : decode cL_law 139 = .ok (.iadd, 1) := by decide +kernel
theorem dL_law_140 : decode cL_law 140 = .ok (.iaload, 1) := by decide +kernel
theorem dL_law_141 : decode cL_law 141 = .ok (.invokevirtual 22, 3) := by decide +kernel
theorem dL_law_144 : decode cL_law 144 = .ok (.if_icmp .eq 641, 3) := by decide +kernel
theorem dL_law_147 : decode cL_law 147 = .ok (.iconst 0, 1) := by decide +kernel
theorem dL_law_148 : decode cL_law 148 = .ok (.ireturn, 1) := by decide +kernel
theorem dL_law_149 : decode cL_law 149 = .ok (.aload_n 1, 1) := by decide +kernel
theorem dL_law_150 : decode cL_law 150 = .ok (.aload_n 0, 1) := by decide +kernel
theorem dL_law_151 : decode cL_law 151 = .ok (.iload 4, 2) := by decide +kernel
theorem dL_law_153 : decode cL_law 153 = .ok (.iconst 1, 1) := by decide +kernel
theorem dL_law_154 : decode cL_law 154 = .ok (.iadd, 1) := by decide +kernel
theorem dL_law_155 : decode cL_law 155 = .ok (.iaload, 1) := by decide +kernel
theorem dL_law_156 : decode cL_law 156 = .ok (.aload_n 0, 1) := by decide +kernel
theorem dL_law_157 : decode cL_law 157 = .ok (.iload 4, 2) := by decide +kernel
theorem dL_law_159 : decode cL_law 159 = .ok (.iconst 2, 1) := by decide +kernel
theorem dL_law_160 : decode cL_law 160 = .ok (.iadd, 1) := by decide +kernel
theorem dL_law_161 : decode cL_law 161 = .ok (.iaload, 1) := by decide +kernel
theorem dL_law_162 : decode cL_law 162 = .ok (.aload_n 0, 1) := by decide +kernel
theorem dL_law_163 : decode cL_law 163 = .ok (.iload 4, 2) := by decide +kernel
theorem dL_law_165 : decode cL_law 165 = .ok (.iconst 3, 1) := by decide +kernel
theorem dL_law_166 : decode cL_law 166 = .ok (.iadd, 1) := by decide +kernel
theorem dL_law_167 : decode cL_law 167 = .ok (.iaload, 1) := by decide +kernel
theorem dL_law_168 : decode cL_law 168 = .ok (.aload_n 0, 1) := by decide +kernel
theorem dL_law_169 : decode cL_law 169 = .ok (.iload 4, 2) := by decide +kernel
theorem dL_law_171 : decode cL_law 171 = .ok (.iconst 4, 1) := by decide +kernel
theorem dL_law_172 : decode cL_law 172 = .ok (.iadd, 1) := by decide +kernel
theorem dL_law_173 : decode cL_law 173 = .ok (.iaload, 1) := by decide +kernel
theorem dL_law_174 : decode cL_law 174 = .ok (.aload_n 0, 1) := by decide +kernel
theorem dL_law_175 : decode cL_law 175 = .ok (.iload 4, 2) := by decide +kernel
theorem dL_law_177 : decode cL_law 177 = .ok (.iconst 5, 1) := by decide +kernel
theorem dL_law_178 : decode cL_law 178 = .ok (.iadd, 1) := by decide +kernel
theorem dL_law_179 : decode cL_law 179 = .ok (.iaload, 1) := by decide +kernel
theorem dL_law_180 : decode cL_law 180 = .ok (.aload_n 0, 1) := by decide +kernel
theorem dL_law_181 : decode cL_law 181 = .ok (.iload 4, 2) := by decide +kernel
theorem dL_law_183 : decode cL_law 183 = .ok (.bipush 6, 2) := by decide +kernel
theorem dL_law_185 : decode cL_law 185 = .ok (.iadd, 1) := by decide +kernel
theorem dL_law_186 : decode cL_law 186 = .ok (.iaload, 1) := by decide +kernel
theorem dL_law_187 : decode cL_law 187 = .ok (.invokevirtual 23, 3) := by decide +kernel
theorem dL_law_190 : decode cL_law 190 = .ok (.aload_n 2, 1) := by decide +kernel
theorem dL_law_191 : decode cL_law 191 = .ok (.aload_n 0, 1) := by decide +kernel
theorem dL_law_192 : decode cL_law 192 = .ok (.iload 4, 2) := by decide +kernel
theorem dL_law_194 : decode cL_law 194 = .ok (.iconst 1, 1) := by decide +kernel
theorem dL_law_195 : decode cL_law 195 = .ok (.iadd, 1) := by decide +kernel
theorem dL_law_196 : decode cL_law 196 = .ok (.iaload, 1) := by decide +kernel
theorem dL_law_197 : decode cL_law 197 = .ok (.aload_n 0, 1) := by decide +kernel
theorem dL_law_198 : decode cL_law 198 = .ok (.iload 4, 2) := by decide +kernel
theorem dL_law_200 : decode cL_law 200 = .ok (.iconst 2, 1) := by decide +kernel
theorem dL_law_201 : decode cL_law 201 = .ok (.iadd, 1) := by decide +kernel
theorem dL_law_202 : decode cL_law 202 = .ok (.iaload, 1) := by decide +kernel
theorem dL_law_203 : decode cL_law 203 = .ok (.aload_n 0, 1) := by decide +kernel
theorem dL_law_204 : decode cL_law 204 = .ok (.iload 4, 2) := by decide +kernel
theorem dL_law_206 : decode cL_law 206 = .ok (.iconst 3, 1) := by decide +kernel
theorem dL_law_207 : decode cL_law 207 = .ok (.iadd, 1) := by decide +kernel
theorem dL_law_208 : decode cL_law 208 = .ok (.iaload, 1) := by decide +kernel
theorem dL_law_209 : decode cL_law 209 = .ok (.aload_n 0, 1) := by decide +kernel
theorem dL_law_210 : decode cL_law 210 = .ok (.iload 4, 2) := by decide +kernel
theorem dL_law_212 : decode cL_law 212 = .ok (.iconst 4, 1) := by decide +kernel
theorem dL_law_213 : decode cL_law 213 = .ok (.iadd, 1) := by decide +kernel
theorem dL_law_214 : decode cL_law 214 = .ok (.iaload, 1) := by decide +kernel
theorem dL_law_215 : decode cL_law 215 = .ok (.aload_n 0, 1) := by decide +kernel
theorem dL_law_216 : decode cL_law 216 = .ok (.iload 4, 2) := by decide +kernel
theorem dL_law_218 : decode cL_law 218 = .ok (.iconst 5, 1) := by decide +kernel
theorem dL_law_219 : decode cL_law 219 = .ok (.iadd, 1) := by decide +kernel
theorem dL_law_220 : decode cL_law 220 = .ok (.iaload, 1) := by decide +kernel
theorem dL_law_221 : decode cL_law 221 = .ok (.aload_n 0, 1) := by decide +kernel
theorem dL_law_222 : decode cL_law 222 = .ok (.iload 4, 2) := by decide +kernel
theorem dL_law_224 : decode cL_law 224 = .ok (.bipush 6, 2) := by decide +kernel
theorem dL_law_226 : decode cL_law 226 = .ok (.iadd, 1) := by decide +kernel
theorem dL_law_227 : decode cL_law 227 = .ok (.iaload, 1) := by decide +kernel
theorem dL_law_228 : decode cL_law 228 = .ok (.invokevirtual 27, 3) := by decide +kernel
theorem dL_law_231 : decode cL_law 231 = .ok (.if_icmp .eq 554, 3) := by decide +kernel
theorem dL_law_234 : decode cL_law 234 = .ok (.iconst 0, 1) := by decide +kernel
theorem dL_law_235 : decode cL_law 235 = .ok (.ireturn, 1) := by decide +kernel
theorem dL_law_236 : decode cL_law 236 = .ok (.aload_n 1, 1) := by decide +kernel
theorem dL_law_237 : decode cL_law 237 = .ok (.aload_n 0, 1) := by decide +kernel
theorem dL_law_238 : decode cL_law 238 = .ok (.iload 4, 2) := by decide +kernel
theorem dL_law_240 : decode cL_law 240 = .ok (.iconst 1, 1) := by decide +kernel
theorem dL_law_241 : decode cL_law 241 = .ok (.iadd, 1) := by decide +kernel
theorem dL_law_242 : decode cL_law 242 = .ok (.iaload, 1) := by decide +kernel
theorem dL_law_243 : decode cL_law 243 = .ok (.invokevirtual 28, 3) := by decide +kernel
theorem dL_law_246 : decode cL_law 246 = .ok (.aload_n 2, 1) := by decide +kernel
theorem dL_law_247 : decode cL_law 247 = .ok (.aload_n 0, 1) := by decide +kernel
theorem dL_law_248 : decode cL_law 248 = .ok (.iload 4, 2) := by decide +kernel
theorem dL_law_250 : decode cL_law 250 = .ok (.iconst 1, 1) := by decide +kernel
theorem dL_law_251 : decode cL_law 251 = .ok (.iadd, 1) := by decide +kernel
theorem dL_law_252 : decode cL_law 252 = .ok (.iaload, 1) := by decide +kernel
theorem dL_law_253 : decode cL_law 253 = .ok (.invokevirtual 32, 3) := by decide +kernel
theorem dL_law_256 : decode cL_law 256 = .ok (.if_icmp .eq 529, 3) := by decide +kernel
theorem dL_law_259 : decode cL_law 259 = .ok (.iconst 0, 1) := by decide +kernel
theorem dL_law_260 : decode cL_law 260 = .ok (.ireturn, 1) := by decide +kernel
theorem dL_law_261 : decode cL_law 261 = .ok (.aload_n 1, 1) := by decide +kernel
theorem dL_law_262 : decode cL_law 262 = .ok (.aload_n 0, 1) := by decide +kernel
theorem dL_law_263 : decode cL_law 263 = .ok (.iload 4, 2) := by decide +kernel
theorem dL_law_265 : decode cL_law 265 = .ok (.iconst 1, 1) := by decide +kernel
theorem dL_law_266 : decode cL_law 266 = .ok (.iadd, 1) := by decide +kernel
theorem dL_law_267 : decode cL_law 267 = .ok (.iaload, 1) := by decide +kernel
theorem dL_law_268 : decode cL_law 268 = .ok (.i2l, 1) := by decide +kernel
theorem dL_law_269 : decode cL_law 269 = .ok (.bipush 32, 2) := by decide +kernel
theorem dL_law_271 : decode cL_law 271 = .ok (.lshl, 1) := by decide +kernel
theorem dL_law_272 : decode cL_law 272 = .ok (.aload_n 0, 1) := by decide +kernel
theorem dL_law_273 : decode cL_law 273 = .ok (.iload 4, 2) := by decide +kernel
theorem dL_law_275 : decode cL_law 275 = .ok (.iconst 2, 1) := by decide +kernel
theorem dL_law_276 : decode cL_law 276 = .ok (.iadd, 1) := by decide +kernel
theorem dL_law_277 : decode cL_law 277 = .ok (.iaload, 1) := by decide +kernel
theorem dL_law_278 : decode cL_law 278 = .ok (.i2l, 1) := by decide +kernel
theorem dL_law_279 : decode cL_law 279 = .ok (.ldc2_w 33, 3) := by decide +kernel
theorem dL_law_282 : decode cL_law 282 = .ok (.land, 1) := by decide +kernel
theorem dL_law_283 : decode cL_law 283 = .ok (.lor, 1) := by decide +kernel
theorem dL_law_284 : decode cL_law 284 = .ok (.aload_n 0, 1) := by decide +kernel
theorem dL_law_285 : decode cL_law 285 = .ok (.iload 4, 2) := by decide +kernel
theorem dL_law_287 : decode cL_law 287 = .ok (.iconst 3, 1) := by decide +kernel
theorem dL_law_288 : decode cL_law 288 = .ok (.iadd, 1) := by decide +kernel
theorem dL_law_289 : decode cL_law 289 = .ok (.iaload, 1) := by decide +kernel
theorem dL_law_290 : decode cL_law 290 = .ok (.i2l, 1) := by decide +kernel
theorem dL_law_291 : decode cL_law 291 = .ok (.bipush 32, 2) := by decide +kernel
theorem dL_law_293 : decode cL_law 293 = .ok (.lshl, 1) := by decide +kernel
theorem dL_law_294 : decode cL_law 294 = .ok (.aload_n 0, 1) := by decide +kernel
theorem dL_law_295 : decode cL_law 295 = .ok (.iload 4, 2) := by decide +kernel
theorem dL_law_297 : decode cL_law 297 = .ok (.iconst 4, 1) := by decide +kernel
theorem dL_law_298 : decode cL_law 298 = .ok (.iadd, 1) := by decide +kernel
theorem dL_law_299 : decode cL_law 299 = .ok (.iaload, 1) := by decide +kernel
theorem dL_law_300 : decode cL_law 300 = .ok (.i2l, 1) := by decide +kernel
theorem dL_law_301 : decode cL_law 301 = .ok (.ldc2_w 33, 3) := by decide +kernel
theorem dL_law_304 : decode cL_law 304 = .ok (.land, 1) := by decide +kernel
theorem dL_law_305 : decode cL_law 305 = .ok (.lor, 1) := by decide +kernel
theorem dL_law_306 : decode cL_law 306 = .ok (.aload_n 0, 1) := by decide +kernel
theorem dL_law_307 : decode cL_law 307 = .ok (.iload 4, 2) := by decide +kernel
theorem dL_law_309 : decode cL_law 309 = .ok (.iconst 5, 1) := by decide +kernel
theorem dL_law_310 : decode cL_law 310 = .ok (.iadd, 1) := by decide +kernel
theorem dL_law_311 : decode cL_law 311 = .ok (.iaload, 1) := by decide +kernel
theorem dL_law_312 : decode cL_law 312 = .ok (.i2l, 1) := by decide +kernel
theorem dL_law_313 : decode cL_law 313 = .ok (.bipush 32, 2) := by decide +kernel
theorem dL_law_315 : decode cL_law 315 = .ok (.lshl, 1) := by decide +kernel
theorem dL_law_316 : decode cL_law 316 = .ok (.aload_n 0, 1) := by decide +kernel
theorem dL_law_317 : decode cL_law 317 = .ok (.iload 4, 2) := by decide +kernel
theorem dL_law_319 : decode cL_law 319 = .ok (.bipush 6, 2) := by decide +kernel
theorem dL_law_321 : decode cL_law 321 = .ok (.iadd, 1) := by decide +kernel
theorem dL_law_322 : decode cL_law 322 = .ok (.iaload, 1) := by decide +kernel
theorem dL_law_323 : decode cL_law 323 = .ok (.i2l, 1) := by decide +kernel
theorem dL_law_324 : decode cL_law 324 = .ok (.ldc2_w 33, 3) := by decide +kernel
theorem dL_law_327 : decode cL_law 327 = .ok (.land, 1) := by decide +kernel
theorem dL_law_328 : decode cL_law 328 = .ok (.lor, 1) := by decide +kernel
theorem dL_law_329 : decode cL_law 329 = .ok (.invokevirtual 35, 3) := by decide +kernel
theorem dL_law_332 : decode cL_law 332 = .ok (.aload_n 2, 1) := by decide +kernel
theorem dL_law_333 : decode cL_law 333 = .ok (.aload_n 0, 1) := by decide +kernel
theorem dL_law_334 : decode cL_law 334 = .ok (.iload 4, 2) := by decide +kernel
theorem dL_law_336 : decode cL_law 336 = .ok (.iconst 1, 1) := by decide +kernel
theorem dL_law_337 : decode cL_law 337 = .ok (.iadd, 1) := by decide +kernel
theorem dL_law_338 : decode cL_law 338 = .ok (.iaload, 1) := by decide +kernel
theorem dL_law_339 : decode cL_law 339 = .ok (.i2l, 1) := by decide +kernel
theorem dL_law_340 : decode cL_law 340 = .ok (.bipush 32, 2) := by decide +kernel
theorem dL_law_342 : decode cL_law 342 = .ok (.lshl, 1) := by decide +kernel
theorem dL_law_343 : decode cL_law 343 = .ok (.aload_n 0, 1) := by decide +kernel
theorem dL_law_344 : decode cL_law 344 = .ok (.iload 4, 2) := by decide +kernel
theorem dL_law_346 : decode cL_law 346 = .ok (.iconst 2, 1) := by decide +kernel
theorem dL_law_347 : decode cL_law 347 = .ok (.iadd, 1) := by decide +kernel
theorem dL_law_348 : decode cL_law 348 = .ok (.iaload, 1) := by decide +kernel
theorem dL_law_349 : decode cL_law 349 = .ok (.i2l, 1) := by decide +kernel
theorem dL_law_350 : decode cL_law 350 = .ok (.ldc2_w 33, 3) := by decide +kernel
theorem dL_law_353 : decode cL_law 353 = .ok (.land, 1) := by decide +kernel
theorem dL_law_354 : decode cL_law 354 = .ok (.lor, 1) := by decide +kernel
theorem dL_law_355 : decode cL_law 355 = .ok (.aload_n 0, 1) := by decide +kernel
theorem dL_law_356 : decode cL_law 356 = .ok (.iload 4, 2) := by decide +kernel
theorem dL_law_358 : decode cL_law 358 = .ok (.iconst 3, 1) := by decide +kernel
theorem dL_law_359 : decode cL_law 359 = .ok (.iadd, 1) := by decide +kernel
theorem dL_law_360 : decode cL_law 360 = .ok (.iaload, 1) := by decide +kernel
theorem dL_law_361 : decode cL_law 361 = .ok (.i2l, 1) := by decide +kernel
theorem dL_law_362 : decode cL_law 362 = .ok (.bipush 32, 2) := by decide +kernel
theorem dL_law_364 : decode cL_law 364 = .ok (.lshl, 1) := by decide +kernel
theorem dL_law_365 : decode cL_law 365 = .ok (.aload_n 0, 1) := by decide +kernel
theorem dL_law_366 : decode cL_law 366 = .ok (.iload 4, 2) := by decide +kernel
theorem dL_law_368 : decode cL_law 368 = .ok (.iconst 4, 1) := by decide +kernel
theorem dL_law_369 : decode cL_law 369 = .ok (.iadd, 1) := by decide +kernel
theorem dL_law_370 : decode cL_law 370 = .ok (.iaload, 1) := by decide +kernel
theorem dL_law_371 : decode cL_law 371 = .ok (.i2l, 1) := by decide +kernel
theorem dL_law_372 : decode cL_law 372 = .ok (.ldc2_w 33, 3) := by decide +kernel
theorem dL_law_375 : decode cL_law 375 = .ok (.land, 1) := by decide +kernel
theorem dL_law_376 : decode cL_law 376 = .ok (.lor, 1) := by decide +kernel
theorem dL_law_377 : decode cL_law 377 = .ok (.aload_n 0, 1) := by decide +kernel
theorem dL_law_378 : decode cL_law 378 = .ok (.iload 4, 2) := by decide +kernel
theorem dL_law_380 : decode cL_law 380 = .ok (.iconst 5, 1) := by decide +kernel
theorem dL_law_381 : decode cL_law 381 = .ok (.iadd, 1) := by decide +kernel
theorem dL_law_382 : decode cL_law 382 = .ok (.iaload, 1) := by decide +kernel
theorem dL_law_383 : decode cL_law 383 = .ok (.i2l, 1) := by decide +kernel
theorem dL_law_384 : decode cL_law 384 = .ok (.bipush 32, 2) := by decide +kernel
theorem dL_law_386 : decode cL_law 386 = .ok (.lshl, 1) := by decide +kernel
theorem dL_law_387 : decode cL_law 387 = .ok (.aload_n 0, 1) := by decide +kernel
theorem dL_law_388 : decode cL_law 388 = .ok (.iload 4, 2) := by decide +kernel
theorem dL_law_390 : decode cL_law 390 = .ok (.bipush 6, 2) := by decide +kernel
theorem dL_law_392 : decode cL_law 392 = .ok (.iadd, 1) := by decide +kernel
theorem dL_law_393 : decode cL_law 393 = .ok (.iaload, 1) := by decide +kernel
theorem dL_law_394 : decode cL_law 394 = .ok (.i2l, 1) := by decide +kernel
theorem dL_law_395 : decode cL_law 395 = .ok (.ldc2_w 33, 3) := by decide +kernel
theorem dL_law_398 : decode cL_law 398 = .ok (.land, 1) := by decide +kernel
theorem dL_law_399 : decode cL_law 399 = .ok (.lor, 1) := by decide +kernel
theorem dL_law_400 : decode cL_law 400 = .ok (.invokevirtual 39, 3) := by decide +kernel
theorem dL_law_403 : decode cL_law 403 = .ok (.if_icmp .eq 382, 3) := by decide +kernel
theorem dL_law_406 : decode cL_law 406 = .ok (.iconst 0, 1) := by decide +kernel
theorem dL_law_407 : decode cL_law 407 = .ok (.ireturn, 1) := by decide +kernel
theorem dL_law_408 : decode cL_law 408 = .ok (.aload_n 1, 1) := by decide +kernel
theorem dL_law_409 : decode cL_law 409 = .ok (.invokevirtual 40, 3) := by decide +kernel
theorem dL_law_412 : decode cL_law 412 = .ok (.aload_n 2, 1) := by decide +kernel
theorem dL_law_413 : decode cL_law 413 = .ok (.invokevirtual 44, 3) := by decide +kernel
theorem dL_law_416 : decode cL_law 416 = .ok (.if_icmp .eq 369, 3) := by decide +kernel
theorem dL_law_419 : decode cL_law 419 = .ok (.iconst 0, 1) := by decide +kernel
theorem dL_law_420 : decode cL_law 420 = .ok (.ireturn, 1) := by decide +kernel
theorem dL_law_421 : decode cL_law 421 = .ok (.aload_n 1, 1) := by decide +kernel
theorem dL_law_422 : decode cL_law 422 = .ok (.aload_n 0, 1) := by decide +kernel
theorem dL_law_423 : decode cL_law 423 = .ok (.iload 4, 2) := by decide +kernel
theorem dL_law_425 : decode cL_law 425 = .ok (.iconst 1, 1) := by decide +kernel
theorem dL_law_426 : decode cL_law 426 = .ok (.iadd, 1) := by decide +kernel
theorem dL_law_427 : decode cL_law 427 = .ok (.iaload, 1) := by decide +kernel
theorem dL_law_428 : decode cL_law 428 = .ok (.aload_n 0, 1) := by decide +kernel
theorem dL_law_429 : decode cL_law 429 = .ok (.iload 4, 2) := by decide +kernel
theorem dL_law_431 : decode cL_law 431 = .ok (.iconst 2, 1) := by decide +kernel
theorem dL_law_432 : decode cL_law 432 = .ok (.iadd, 1) := by decide +kernel
theorem dL_law_433 : decode cL_law 433 = .ok (.iaload, 1) := by decide +kernel
theorem dL_law_434 : decode cL_law 434 = .ok (.invokevirtual 45, 3) := by decide +kernel
theorem dL_law_437 : decode cL_law 437 = .ok (.aload_n 2, 1) := by decide +kernel
theorem dL_law_438 : decode cL_law 438 = .ok (.aload_n 0, 1) := by decide +kernel
theorem dL_law_439 : decode cL_law 439 = .ok (.iload 4, 2) := by decide +kernel
theorem dL_law_441 : decode cL_law 441 = .ok (.iconst 1, 1) := by decide +kernel
theorem dL_law_442 : decode cL_law 442 = .ok (.iadd, 1) := by decide +kernel
theorem dL_law_443 : decode cL_law 443 = .ok (.iaload, 1) := by decide +kernel
theorem dL_law_444 : decode cL_law 444 = .ok (.aload_n 0, 1) := by decide +kernel
theorem dL_law_445 : decode cL_law 445 = .ok (.iload 4, 2) := by decide +kernel
theorem dL_law_447 : decode cL_law 447 = .ok (.iconst 2, 1) := by decide +kernel
theorem dL_law_448 : decode cL_law 448 = .ok (.iadd, 1) := by decide +kernel
theorem dL_law_449 : decode cL_law 449 = .ok (.iaload, 1) := by decide +kernel
theorem dL_law_450 : decode cL_law 450 = .ok (.invokevirtual 48, 3) := by decide +kernel
theorem dL_law_453 : decode cL_law 453 = .ok (.if_icmp .eq 332, 3) := by decide +kernel
theorem dL_law_456 : decode cL_law 456 = .ok (.iconst 0, 1) := by decide +kernel
theorem dL_law_457 : decode cL_law 457 = .ok (.ireturn, 1) := by decide +kernel
theorem dL_law_458 : decode cL_law 458 = .ok (.aload_n 1, 1) := by decide +kernel
theorem dL_law_459 : decode cL_law 459 = .ok (.aload_n 0, 1) := by decide +kernel
theorem dL_law_460 : decode cL_law 460 = .ok (.iload 4, 2) := by decide +kernel
theorem dL_law_462 : decode cL_law 462 = .ok (.iconst 1, 1) := by decide +kernel
theorem dL_law_463 : decode cL_law 463 = .ok (.iadd, 1) := by decide +kernel
theorem dL_law_464 : decode cL_law 464 = .ok (.iaload, 1) := by decide +kernel
theorem dL_law_465 : decode cL_law 465 = .ok (.invokevirtual 49, 3) := by decide +kernel
theorem dL_law_468 : decode cL_law 468 = .ok (.aload_n 2, 1) := by decide +kernel
theorem dL_law_469 : decode cL_law 469 = .ok (.aload_n 0, 1) := by decide +kernel
theorem dL_law_470 : decode cL_law 470 = .ok (.iload 4, 2) := by decide +kernel
theorem dL_law_472 : decode cL_law 472 = .ok (.iconst 1, 1) := by decide +kernel
theorem dL_law_473 : decode cL_law 473 = .ok (.iadd, 1) := by decide +kernel
theorem dL_law_474 : decode cL_law 474 = .ok (.iaload, 1) := by decide +kernel
theorem dL_law_475 : decode cL_law 475 = .ok (.invokevirtual 52, 3) := by decide +kernel
theorem dL_law_478 : decode cL_law 478 = .ok (.if_icmp .eq 307, 3) := by decide +kernel
theorem dL_law_481 : decode cL_law 481 = .ok (.iconst 0, 1) := by decide +kernel
theorem dL_law_482 : decode cL_law 482 = .ok (.ireturn, 1) := by decide +kernel
theorem dL_law_483 : decode cL_law 483 = .ok (.aload_n 1, 1) := by decide +kernel
theorem dL_law_484 : decode cL_law 484 = .ok (.aload_n 0, 1) := by decide +kernel
theorem dL_law_485 : decode cL_law 485 = .ok (.iload 4, 2) := by decide +kernel
theorem dL_law_487 : decode cL_law 487 = .ok (.iconst 1, 1) := by decide +kernel
theorem dL_law_488 : decode cL_law 488 = .ok (.iadd, 1) := by decide +kernel
theorem dL_law_489 : decode cL_law 489 = .ok (.iaload, 1) := by decide +kernel
theorem dL_law_490 : decode cL_law 490 = .ok (.aload_n 0, 1) := by decide +kernel
theorem dL_law_491 : decode cL_law 491 = .ok (.iload 4, 2) := by decide +kernel
theorem dL_law_493 : decode cL_law 493 = .ok (.iconst 2, 1) := by decide +kernel
theorem dL_law_494 : decode cL_law 494 = .ok (.iadd, 1) := by decide +kernel
theorem dL_law_495 : decode cL_law 495 = .ok (.iaload, 1) := by decide +kernel
theorem dL_law_496 : decode cL_law 496 = .ok (.aload_n 0, 1) := by decide +kernel
theorem dL_law_497 : decode cL_law 497 = .ok (.iload 4, 2) := by decide +kernel
theorem dL_law_499 : decode cL_law 499 = .ok (.iconst 3, 1) := by decide +kernel
theorem dL_law_500 : decode cL_law 500 = .ok (.iadd, 1) := by decide +kernel
theorem dL_law_501 : decode cL_law 501 = .ok (.iaload, 1) := by decide +kernel
theorem dL_law_502 : decode cL_law 502 = .ok (.invokevirtual 53, 3) := by decide +kernel
theorem dL_law_505 : decode cL_law 505 = .ok (.aload_n 2, 1) := by decide +kernel
theorem dL_law_506 : decode cL_law 506 = .ok (.aload_n 0, 1) := by decide +kernel
theorem dL_law_507 : decode cL_law 507 = .ok (.iload 4, 2) := by decide +kernel
theorem dL_law_509 : decode cL_law 509 = .ok (.iconst 1, 1) := by decide +kernel
theorem dL_law_510 : decode cL_law 510 = .ok (.iadd, 1) := by decide +kernel
theorem dL_law_511 : decode cL_law 511 = .ok (.iaload, 1) := by decide +kernel
theorem dL_law_512 : decode cL_law 512 = .ok (.aload_n 0, 1) := by decide +kernel
theorem dL_law_513 : decode cL_law 513 = .ok (.iload 4, 2) := by decide +kernel
theorem dL_law_515 : decode cL_law 515 = .ok (.iconst 2, 1) := by decide +kernel
theorem dL_law_516 : decode cL_law 516 = .ok (.iadd, 1) := by decide +kernel
theorem dL_law_517 : decode cL_law 517 = .ok (.iaload, 1) := by decide +kernel
theorem dL_law_518 : decode cL_law 518 = .ok (.aload_n 0, 1) := by decide +kernel
theorem dL_law_519 : decode cL_law 519 = .ok (.iload 4, 2) := by decide +kernel
theorem dL_law_521 : decode cL_law 521 = .ok (.iconst 3, 1) := by decide +kernel
theorem dL_law_522 : decode cL_law 522 = .ok (.iadd, 1) := by decide +kernel
theorem dL_law_523 : decode cL_law 523 = .ok (.iaload, 1) := by decide +kernel
theorem dL_law_524 : decode cL_law 524 = .ok (.invokevirtual 57, 3) := by decide +kernel
theorem dL_law_527 : decode cL_law 527 = .ok (.if_icmp .eq 258, 3) := by decide +kernel
theorem dL_law_530 : decode cL_law 530 = .ok (.iconst 0, 1) := by decide +kernel
theorem dL_law_531 : decode cL_law 531 = .ok (.ireturn, 1) := by decide +kernel
theorem dL_law_532 : decode cL_law 532 = .ok (.aload_n 1, 1) := by decide +kernel
theorem dL_law_533 : decode cL_law 533 = .ok (.aload_n 0, 1) := by decide +kernel
theorem dL_law_534 : decode cL_law 534 = .ok (.iload 4, 2) := by decide +kernel
theorem dL_law_536 : decode cL_law 536 = .ok (.iconst 1, 1) := by decide +kernel
theorem dL_law_537 : decode cL_law 537 = .ok (.iadd, 1) := by decide +kernel
theorem dL_law_538 : decode cL_law 538 = .ok (.iaload, 1) := by decide +kernel
theorem dL_law_539 : decode cL_law 539 = .ok (.aload_n 0, 1) := by decide +kernel
theorem dL_law_540 : decode cL_law 540 = .ok (.iload 4, 2) := by decide +kernel
theorem dL_law_542 : decode cL_law 542 = .ok (.iconst 2, 1) := by decide +kernel
theorem dL_law_543 : decode cL_law 543 = .ok (.iadd, 1) := by decide +kernel
theorem dL_law_544 : decode cL_law 544 = .ok (.iaload, 1) := by decide +kernel
theorem dL_law_545 : decode cL_law 545 = .ok (.aload_n 3, 1) := by decide +kernel
theorem dL_law_546 : decode cL_law 546 = .ok (.invokestatic 58, 3) := by decide +kernel
theorem dL_law_549 : decode cL_law 549 = .ok (.istore 5, 2) := by decide +kernel
theorem dL_law_551 : decode cL_law 551 = .ok (.aload_n 2, 1) := by decide +kernel
theorem dL_law_552 : decode cL_law 552 = .ok (.aload_n 0, 1) := by decide +kernel
theorem dL_law_553 : decode cL_law 553 = .ok (.iload 4, 2) := by decide +kernel
theorem dL_law_555 : decode cL_law 555 = .ok (.iconst 1, 1) := by decide +kernel
theorem dL_law_556 : decode cL_law 556 = .ok (.iadd, 1) := by decide +kernel
theorem dL_law_557 : decode cL_law 557 = .ok (.iaload, 1) := by decide +kernel
theorem dL_law_558 : decode cL_law 558 = .ok (.aload_n 0, 1) := by decide +kernel
theorem dL_law_559 : decode cL_law 559 = .ok (.iload 4, 2) := by decide +kernel
theorem dL_law_561 : decode cL_law 561 = .ok (.iconst 2, 1) := by decide +kernel
theorem dL_law_562 : decode cL_law 562 = .ok (.iadd, 1) := by decide +kernel
theorem dL_law_563 : decode cL_law 563 = .ok (.iaload, 1) := by decide +kernel
theorem dL_law_564 : decode cL_law 564 = .ok (.invokevirtual 63, 3) := by decide +kernel
theorem dL_law_567 : decode cL_law 567 = .ok (.istore 6, 2) := by decide +kernel
theorem dL_law_569 : decode cL_law 569 = .ok (.aload_n 2, 1) := by decide +kernel
theorem dL_law_570 : decode cL_law 570 = .ok (.invokevirtual 64, 3) := by decide +kernel
theorem dL_law_573 : decode cL_law 573 = .ok (.iload 5, 2) := by decide +kernel
theorem dL_law_575 : decode cL_law 575 = .ok (.if_icmp .eq 5, 3) := by decide +kernel
theorem dL_law_578 : decode cL_law 578 = .ok (.iconst 0, 1) := by decide +kernel
theorem dL_law_579 : decode cL_law 579 = .ok (.ireturn, 1) := by decide +kernel
theorem dL_law_580 : decode cL_law 580 = .ok (.iload 5, 2) := by decide +kernel
theorem dL_law_582 : decode cL_law 582 = .ok (.ifCond .ne 15, 3) := by decide +kernel
theorem dL_law_585 : decode cL_law 585 = .ok (.aload_n 3, 1) := by decide +kernel
theorem dL_law_586 : decode cL_law 586 = .ok (.iconst 0, 1) := by decide +kernel
theorem dL_law_587 : decode cL_law 587 = .ok (.laload, 1) := by decide +kernel
theorem dL_law_588 : decode cL_law 588 = .ok (.iload 6, 2) := by decide +kernel
theorem dL_law_590 : decode cL_law 590 = .ok (.i2l, 1) := by decide +kernel
theorem dL_law_591 : decode cL_law 591 = .ok (.lcmp, 1) := by decide +kernel
theorem dL_law_592 : decode cL_law 592 = .ok (.ifCond .eq 5, 3) := by decide +kernel
theorem dL_law_595 : decode cL_law 595 = .ok (.iconst 0, 1) := by decide +kernel
theorem dL_law_596 : decode cL_law 596 = .ok (.ireturn, 1) := by decide +kernel
theorem dL_law_597 : decode cL_law 597 = .ok (.goto 188, 3) := by decide +kernel
theorem dL_law_600 : decode cL_law 600 = .ok (.aload_n 1, 1) := by decide +kernel
theorem dL_law_601 : decode cL_law 601 = .ok (.aload_n 0, 1) := by decide +kernel
theorem dL_law_602 : decode cL_law 602 = .ok (.iload 4, 2) := by decide +kernel
theorem dL_law_604 : decode cL_law 604 = .ok (.iconst 1, 1) := by decide +kernel
theorem dL_law_605 : decode cL_law 605 = .ok (.iadd, 1) := by decide +kernel
theorem dL_law_606 : decode cL_law 606 = .ok (.iaload, 1) := by decide +kernel
theorem dL_law_607 : decode cL_law 607 = .ok (.aload_n 0, 1) := by decide +kernel
theorem dL_law_608 : decode cL_law 608 = .ok (.iload 4, 2) := by decide +kernel
theorem dL_law_610 : decode cL_law 610 = .ok (.iconst 2, 1) := by decide +kernel
theorem dL_law_611 : decode cL_law 611 = .ok (.iadd, 1) := by decide +kernel
theorem dL_law_612 : decode cL_law 612 = .ok (.iaload, 1) := by decide +kernel
theorem dL_law_613 : decode cL_law 613 = .ok (.aload_n 0, 1) := by decide +kernel
theorem dL_law_614 : decode cL_law 614 = .ok (.iload 4, 2) := by decide +kernel
theorem dL_law_616 : decode cL_law 616 = .ok (.iconst 3, 1) := by decide +kernel
theorem dL_law_617 : decode cL_law 617 = .ok (.iadd, 1) := by decide +kernel
theorem dL_law_618 : decode cL_law 618 = .ok (.iaload, 1) := by decide +kernel
theorem dL_law_619 : decode cL_law 619 = .ok (.invokevirtual 67, 3) := by decide +kernel
theorem dL_law_622 : decode cL_law 622 = .ok (.aload_n 2, 1) := by decide +kernel
theorem dL_law_623 : decode cL_law 623 = .ok (.aload_n 0, 1) := by decide +kernel
theorem dL_law_624 : decode cL_law 624 = .ok (.iload 4, 2) := by decide +kernel
theorem dL_law_626 : decode cL_law 626 = .ok (.iconst 1, 1) := by decide +kernel
theorem dL_law_627 : decode cL_law 627 = .ok (.iadd, 1) := by decide +kernel
theorem dL_law_628 : decode cL_law 628 = .ok (.iaload, 1) := by decide +kernel
theorem dL_law_629 : decode cL_law 629 = .ok (.aload_n 0, 1) := by decide +kernel
theorem dL_law_630 : decode cL_law 630 = .ok (.iload 4, 2) := by decide +kernel
theorem dL_law_632 : decode cL_law 632 = .ok (.iconst 2, 1) := by decide +kernel
theorem dL_law_633 : decode cL_law 633 = .ok (.iadd, 1) := by decide +kernel
theorem dL_law_634 : decode cL_law 634 = .ok (.iaload, 1) := by decide +kernel
theorem dL_law_635 : decode cL_law 635 = .ok (.aload_n 0, 1) := by decide +kernel
theorem dL_law_636 : decode cL_law 636 = .ok (.iload 4, 2) := by decide +kernel
theorem dL_law_638 : decode cL_law 638 = .ok (.iconst 3, 1) := by decide +kernel
theorem dL_law_639 : decode cL_law 639 = .ok (.iadd, 1) := by decide +kernel
theorem dL_law_640 : decode cL_law 640 = .ok (.iaload, 1) := by decide +kernel
theorem dL_law_641 : decode cL_law 641 = .ok (.invokevirtual 70, 3) := by decide +kernel
theorem dL_law_644 : decode cL_law 644 = .ok (.if_icmp .eq 141, 3) := by decide +kernel
theorem dL_law_647 : decode cL_law 647 = .ok (.iconst 0, 1) := by decide +kernel
theorem dL_law_648 : decode cL_law 648 = .ok (.ireturn, 1) := by decide +kernel
theorem dL_law_649 : decode cL_law 649 = .ok (.aload_n 1, 1) := by decide +kernel
theorem dL_law_650 : decode cL_law 650 = .ok (.aload_n 0, 1) := by decide +kernel
theorem dL_law_651 : decode cL_law 651 = .ok (.iload 4, 2) := by decide +kernel
theorem dL_law_653 : decode cL_law 653 = .ok (.iconst 1, 1) := by decide +kernel
theorem dL_law_654 : decode cL_law 654 = .ok (.iadd, 1) := by decide +kernel
theorem dL_law_655 : decode cL_law 655 = .ok (.iaload, 1) := by decide +kernel
theorem dL_law_656 : decode cL_law 656 = .ok (.aload_n 0, 1) := by decide +kernel
theorem dL_law_657 : decode cL_law 657 = .ok (.iload 4, 2) := by decide +kernel
theorem dL_law_659 : decode cL_law 659 = .ok (.iconst 2, 1) := by decide +kernel
theorem dL_law_660 : decode cL_law 660 = .ok (.iadd, 1) := by decide +kernel
theorem dL_law_661 : decode cL_law 661 = .ok (.iaload, 1) := by decide +kernel
theorem dL_law_662 : decode cL_law 662 = .ok (.invokevirtual 71, 3) := by decide +kernel
theorem dL_law_665 : decode cL_law 665 = .ok (.aload_n 2, 1) := by decide +kernel
theorem dL_law_666 : decode cL_law 666 = .ok (.aload_n 0, 1) := by decide +kernel
theorem dL_law_667 : decode cL_law 667 = .ok (.iload 4, 2) := by decide +kernel
theorem dL_law_669 : decode cL_law 669 = .ok (.iconst 1, 1) := by decide +kernel
theorem dL_law_670 : decode cL_law 670 = .ok (.iadd, 1) := by decide +kernel
theorem dL_law_671 : decode cL_law 671 = .ok (.iaload, 1) := by decide +kernel
theorem dL_law_672 : decode cL_law 672 = .ok (.aload_n 0, 1) := by decide +kernel
theorem dL_law_673 : decode cL_law 673 = .ok (.iload 4, 2) := by decide +kernel
theorem dL_law_675 : decode cL_law 675 = .ok (.iconst 2, 1) := by decide +kernel
theorem dL_law_676 : decode cL_law 676 = .ok (.iadd, 1) := by decide +kernel
theorem dL_law_677 : decode cL_law 677 = .ok (.iaload, 1) := by decide +kernel
theorem dL_law_678 : decode cL_law 678 = .ok (.invokevirtual 74, 3) := by decide +kernel
theorem dL_law_681 : decode cL_law 681 = .ok (.if_icmp .eq 104, 3) := by decide +kernel
theorem dL_law_684 : decode cL_law 684 = .ok (.iconst 0, 1) := by decide +kernel
theorem dL_law_685 : decode cL_law 685 = .ok (.ireturn, 1) := by decide +kernel
theorem dL_law_686 : decode cL_law 686 = .ok (.aload_n 1, 1) := by decide +kernel
theorem dL_law_687 : decode cL_law 687 = .ok (.aload_n 0, 1) := by decide +kernel
theorem dL_law_688 : decode cL_law 688 = .ok (.iload 4, 2) := by decide +kernel
theorem dL_law_690 : decode cL_law 690 = .ok (.iconst 1, 1) := by decide +kernel
theorem dL_law_691 : decode cL_law 691 = .ok (.iadd, 1) := by decide +kernel
theorem dL_law_692 : decode cL_law 692 = .ok (.iaload, 1) := by decide +kernel
theorem dL_law_693 : decode cL_law 693 = .ok (.aload_n 0, 1) := by decide +kernel
theorem dL_law_694 : decode cL_law 694 = .ok (.iload 4, 2) := by decide +kernel
theorem dL_law_696 : decode cL_law 696 = .ok (.iconst 2, 1) := by decide +kernel
theorem dL_law_697 : decode cL_law 697 = .ok (.iadd, 1) := by decide +kernel
theorem dL_law_698 : decode cL_law 698 = .ok (.iaload, 1) := by decide +kernel
theorem dL_law_699 : decode cL_law 699 = .ok (.invokevirtual 75, 3) := by decide +kernel
theorem dL_law_702 : decode cL_law 702 = .ok (.aload_n 2, 1) := by decide +kernel
theorem dL_law_703 : decode cL_law 703 = .ok (.aload_n 0, 1) := by decide +kernel
theorem dL_law_704 : decode cL_law 704 = .ok (.iload 4, 2) := by decide +kernel
theorem dL_law_706 : decode cL_law 706 = .ok (.iconst 1, 1) := by decide +kernel
theorem dL_law_707 : decode cL_law 707 = .ok (.iadd, 1) := by decide +kernel
theorem dL_law_708 : decode cL_law 708 = .ok (.iaload, 1) := by decide +kernel
theorem dL_law_709 : decode cL_law 709 = .ok (.aload_n 0, 1) := by decide +kernel
theorem dL_law_710 : decode cL_law 710 = .ok (.iload 4, 2) := by decide +kernel
theorem dL_law_712 : decode cL_law 712 = .ok (.iconst 2, 1) := by decide +kernel
theorem dL_law_713 : decode cL_law 713 = .ok (.iadd, 1) := by decide +kernel
theorem dL_law_714 : decode cL_law 714 = .ok (.iaload, 1) := by decide +kernel
theorem dL_law_715 : decode cL_law 715 = .ok (.invokevirtual 78, 3) := by decide +kernel
theorem dL_law_718 : decode cL_law 718 = .ok (.if_icmp .eq 67, 3) := by decide +kernel
theorem dL_law_721 : decode cL_law 721 = .ok (.iconst 0, 1) := by decide +kernel
theorem dL_law_722 : decode cL_law 722 = .ok (.ireturn, 1) := by decide +kernel
theorem dL_law_723 : decode cL_law 723 = .ok (.aload_n 1, 1) := by decide +kernel
theorem dL_law_724 : decode cL_law 724 = .ok (.aload_n 0, 1) := by decide +kernel
theorem dL_law_725 : decode cL_law 725 = .ok (.iload 4, 2) := by decide +kernel
theorem dL_law_727 : decode cL_law 727 = .ok (.iconst 1, 1) := by decide +kernel
theorem dL_law_728 : decode cL_law 728 = .ok (.iadd, 1) := by decide +kernel
theorem dL_law_729 : decode cL_law 729 = .ok (.iaload, 1) := by decide +kernel
theorem dL_law_730 : decode cL_law 730 = .ok (.aload_n 0, 1) := by decide +kernel
theorem dL_law_731 : decode cL_law 731 = .ok (.iload 4, 2) := by decide +kernel
theorem dL_law_733 : decode cL_law 733 = .ok (.iconst 2, 1) := by decide +kernel
theorem dL_law_734 : decode cL_law 734 = .ok (.iadd, 1) := by decide +kernel
theorem dL_law_735 : decode cL_law 735 = .ok (.iaload, 1) := by decide +kernel
theorem dL_law_736 : decode cL_law 736 = .ok (.invokevirtual 79, 3) := by decide +kernel
theorem dL_law_739 : decode cL_law 739 = .ok (.aload_n 2, 1) := by decide +kernel
theorem dL_law_740 : decode cL_law 740 = .ok (.aload_n 0, 1) := by decide +kernel
theorem dL_law_741 : decode cL_law 741 = .ok (.iload 4, 2) := by decide +kernel
theorem dL_law_743 : decode cL_law 743 = .ok (.iconst 1, 1) := by decide +kernel
theorem dL_law_744 : decode cL_law 744 = .ok (.iadd, 1) := by decide +kernel
theorem dL_law_745 : decode cL_law 745 = .ok (.iaload, 1) := by decide +kernel
theorem dL_law_746 : decode cL_law 746 = .ok (.aload_n 0, 1) := by decide +kernel
theorem dL_law_747 : decode cL_law 747 = .ok (.iload 4, 2) := by decide +kernel
theorem dL_law_749 : decode cL_law 749 = .ok (.iconst 2, 1) := by decide +kernel
theorem dL_law_750 : decode cL_law 750 = .ok (.iadd, 1) := by decide +kernel
theorem dL_law_751 : decode cL_law 751 = .ok (.iaload, 1) := by decide +kernel
theorem dL_law_752 : decode cL_law 752 = .ok (.invokevirtual 82, 3) := by decide +kernel
theorem dL_law_755 : decode cL_law 755 = .ok (.if_icmp .eq 30, 3) := by decide +kernel
theorem dL_law_758 : decode cL_law 758 = .ok (.iconst 0, 1) := by decide +kernel
theorem dL_law_759 : decode cL_law 759 = .ok (.ireturn, 1) := by decide +kernel
theorem dL_law_760 : decode cL_law 760 = .ok (.aload_n 1, 1) := by decide +kernel
theorem dL_law_761 : decode cL_law 761 = .ok (.aload_n 0, 1) := by decide +kernel
theorem dL_law_762 : decode cL_law 762 = .ok (.iload 4, 2) := by decide +kernel
theorem dL_law_764 : decode cL_law 764 = .ok (.iconst 1, 1) := by decide +kernel
theorem dL_law_765 : decode cL_law 765 = .ok (.iadd, 1) := by decide +kernel
theorem dL_law_766 : decode cL_law 766 = .ok (.iaload, 1) := by decide +kernel
theorem dL_law_767 : decode cL_law 767 = .ok (.invokevirtual 83, 3) := by decide +kernel
theorem dL_law_770 : decode cL_law 770 = .ok (.aload_n 2, 1) := by decide +kernel
theorem dL_law_771 : decode cL_law 771 = .ok (.aload_n 0, 1) := by decide +kernel
theorem dL_law_772 : decode cL_law 772 = .ok (.iload 4, 2) := by decide +kernel
theorem dL_law_774 : decode cL_law 774 = .ok (.iconst 1, 1) := by decide +kernel
theorem dL_law_775 : decode cL_law 775 = .ok (.iadd, 1) := by decide +kernel
theorem dL_law_776 : decode cL_law 776 = .ok (.iaload, 1) := by decide +kernel
theorem dL_law_777 : decode cL_law 777 = .ok (.invokevirtual 86, 3) := by decide +kernel
theorem dL_law_780 : decode cL_law 780 = .ok (.if_icmp .eq 5, 3) := by decide +kernel
theorem dL_law_783 : decode cL_law 783 = .ok (.iconst 0, 1) := by decide +kernel
theorem dL_law_784 : decode cL_law 784 = .ok (.ireturn, 1) := by decide +kernel
theorem dL_law_785 : decode cL_law 785 = .ok (.iinc 4 7, 3) := by decide +kernel
theorem dL_law_788 : decode cL_law 788 = .ok (.goto (-765), 3) := by decide +kernel
theorem dL_law_791 : decode cL_law 791 = .ok (.iconst 1, 1) := by decide +kernel
theorem dL_law_792 : decode cL_law 792 = .ok (.ireturn, 1) := by decide +kernel
