theorem dX6_sortOf_3 : decode cX6_sortOf 3 = .ok (.if_icmp .eq 9, 3) := by decide +kernel
theorem dX6_sortOf_6 : decode cX6_sortOf 6 = .ok (.iload_n 0, 1) := by decide +kernel
theorem dX6_sortOf_7 : decode cX6_sortOf 7 = .ok (.bipush 32, 2) := by decide +kernel
theorem dX6_sortOf_9 : decode cX6_sortOf 9 = .ok (.if_icmp .ne 5, 3) := by decide +kernel
theorem dX6_sortOf_12 : decode cX6_sortOf 12 = .ok (.iconst 0, 1) := by decide +kernel
theorem dX6_sortOf_13 : decode cX6_sortOf 13 = .ok (.ireturn, 1) := by decide +kernel
theorem dX6_sortOf_14 : decode cX6_sortOf 14 = .ok (.iload_n 0, 1) := by decide +kernel
theorem dX6_sortOf_15 : decode cX6_sortOf 15 = .ok (.bipush 97, 2) := by decide +kernel
theorem dX6_sortOf_17 : decode cX6_sortOf 17 = .ok (.if_icmp .lt 11, 3) := by decide +kernel
theorem dX6_sortOf_20 : decode cX6_sortOf 20 = .ok (.iload_n 0, 1) := by decide +kernel
theorem dX6_sortOf_21 : decode cX6_sortOf 21 = .ok (.bipush 122, 2) := by decide +kernel
theorem dX6_sortOf_23 : decode cX6_sortOf 23 = .ok (.if_icmp .gt 5, 3) := by decide +kernel
theorem dX6_sortOf_26 : decode cX6_sortOf 26 = .ok (.iconst 1, 1) := by decide +kernel
theorem dX6_sortOf_27 : decode cX6_sortOf 27 = .ok (.ireturn, 1) := by decide +kernel
theorem dX6_sortOf_28 : decode cX6_sortOf 28 = .ok (.iload_n 0, 1) := by decide +kernel
theorem dX6_sortOf_29 : decode cX6_sortOf 29 = .ok (.bipush 48, 2) := by decide +kernel
theorem dX6_sortOf_31 : decode cX6_sortOf 31 = .ok (.if_icmp .lt 13, 3) := by decide +kernel
theorem dX6_sortOf_34 : decode cX6_sortOf 34 = .ok (.iload_n 0, 1) := by decide +kernel
theorem dX6_sortOf_35 : decode cX6_sortOf 35 = .ok (.bipush 57, 2) := by decide +kernel
theorem dX6_sortOf_37 : decode cX6_sortOf 37 = .ok (.if_icmp .gt 7, 3) := by decide +kernel
theorem dX6_sortOf_40 : decode cX6_sortOf 40 = .ok (.iconst 2, 1) := by decide +kernel
theorem dX6_sortOf_41 : decode cX6_sortOf 41 = .ok (.goto 4, 3) := by decide +kernel
theorem dX6_sortOf_44 : decode cX6_sortOf 44 = .ok (.iconst 3, 1) := by decide +kernel
theorem dX6_sortOf_45 : decode cX6_sortOf 45 = .ok (.ireturn, 1) := by decide +kernel
theorem dX6_addToken_0 : decode cX6_addToken 0 = .ok (.iload_n 2, 1) := by decide +kernel
theorem dX6_addToken_1 : decode cX6_addToken 1 = .ok (.ifCond .eq 13, 3) := by decide +kernel
theorem dX6_addToken_4 : decode cX6_addToken 4 = .ok (.aload_n 0, 1) := by decide +kernel
theorem dX6_addToken_5 : decode cX6_addToken 5 = .ok (.getfield 21, 3) := by decide +kernel
theorem dX6_addToken_8 : decode cX6_addToken 8 = .ok (.sipush 600, 3) := by decide +kernel
theorem dX6_addToken_11 : decode cX6_addToken 11 = .ok (.if_icmp .lt 4, 3) := by decide +kernel
theorem dX6_addToken_14 : decode cX6_addToken 14 = .ok (.return_, 1) := by decide +kernel
theorem dX6_addToken_15 : decode cX6_addToken 15 = .ok (.aload_n 0, 1) := by decide +kernel
theorem dX6_addToken_16 : decode cX6_addToken 16 = .ok (.getfield 15, 3) := by decide +kernel
theorem dX6_addToken_19 : decode cX6_addToken 19 = .ok (.aload_n 0, 1) := by decide +kernel
theorem dX6_addToken_20 : decode cX6_addToken 20 = .ok (.getfield 21, 3) := by decide +kernel
theorem dX6_addToken_23 : decode cX6_addToken 23 = .ok (.iload_n 3, 1) := by decide +kernel
theorem dX6_addToken_24 : decode cX6_addToken 24 = .ok (.iastore, 1) := by decide +kernel
theorem dX6_addToken_25 : decode cX6_addToken 25 = .ok (.aload_n 0, 1) := by decide +kernel
theorem dX6_addToken_26 : decode cX6_addToken 26 = .ok (.getfield 18, 3) := by decide +kernel
theorem dX6_addToken_29 : decode cX6_addToken 29 = .ok (.aload_n 0, 1) := by decide +kernel
theorem dX6_addToken_30 : decode cX6_addToken 30 = .ok (.getfield 21, 3) := by decide +kernel
theorem dX6_addToken_33 : decode cX6_addToken 33 = .ok (.iconst 0, 1) := by decide +kernel
theorem dX6_addToken_34 : decode cX6_addToken 34 = .ok (.iastore, 1) := by decide +kernel
theorem dX6_addToken_35 : decode cX6_addToken 35 = .ok (.iload_n 2, 1) := by decide +kernel
theorem dX6_addToken_36 : decode cX6_addToken 36 = .ok (.iconst 1, 1) := by decide +kernel
theorem dX6_addToken_37 : decode cX6_addToken 37 = .ok (.if_icmp .ne 38, 3) := by decide +kernel
theorem dX6_addToken_40 : decode cX6_addToken 40 = .ok (.aload_n 0, 1) := by decide +kernel
theorem dX6_addToken_41 : decode cX6_addToken 41 = .ok (.getfield 11, 3) := by decide +kernel
theorem dX6_addToken_44 : decode cX6_addToken 44 = .ok (.aload_n 0, 1) := by decide +kernel
theorem dX6_addToken_45 : decode cX6_addToken 45 = .ok (.getfield 21, 3) := by decide +kernel
theorem dX6_addToken_48 : decode cX6_addToken 48 = .ok (.iload 4, 2) := by decide +kernel
theorem dX6_addToken_50 : decode cX6_addToken 50 = .ok (.iload_n 3, 1) := by decide +kernel
theorem dX6_addToken_51 : decode cX6_addToken 51 = .ok (.isub, 1) := by decide +kernel
theorem dX6_addToken_52 : decode cX6_addToken 52 = .ok (.bipush 8, 2) := by decide +kernel
theorem dX6_addToken_54 : decode cX6_addToken 54 = .ok (.if_icmp .le 7, 3) := by decide +kernel
theorem dX6_addToken_57 : decode cX6_addToken 57 = .ok (.iconst 1, 1) := by decide +kernel
theorem dX6_addToken_58 : decode cX6_addToken 58 = .ok (.goto 13, 3) := by decide +kernel
theorem dX6_addToken_61 : decode cX6_addToken 61 = .ok (.aload_n 1, 1) := by decide +kernel
theorem dX6_addToken_62 : decode cX6_addToken 62 = .ok (.getfield 26, 3) := by decide +kernel
theorem dX6_addToken_65 : decode cX6_addToken 65 = .ok (.iload_n 3, 1) := by decide +kernel
theorem dX6_addToken_66 : decode cX6_addToken 66 = .ok (.iload 4, 2) := by decide +kernel
theorem dX6_addToken_68 : decode cX6_addToken 68 = .ok (.invokestatic 38, 3) := by decide +kernel
theorem dX6_addToken_71 : decode cX6_addToken 71 = .ok (.iastore, 1) := by decide +kernel
theorem dX6_addToken_72 : decode cX6_addToken 72 = .ok (.goto 82, 3) := by decide +kernel
theorem dX6_addToken_75 : decode cX6_addToken 75 = .ok (.iload_n 2, 1) := by decide +kernel
theorem dX6_addToken_76 : decode cX6_addToken 76 = .ok (.iconst 2, 1) := by decide +kernel
theorem dX6_addToken_77 : decode cX6_addToken 77 = .ok (.if_icmp .ne 59, 3) := by decide +kernel
theorem dX6_addToken_80 : decode cX6_addToken 80 = .ok (.aload_n 0, 1) := by decide +kernel
theorem dX6_addToken_81 : decode cX6_addToken 81 = .ok (.getfield 11, 3) := by decide +kernel
theorem dX6_addToken_84 : decode cX6_addToken 84 = .ok (.aload_n 0, 1) := by decide +kernel
theorem dX6_addToken_85 : decode cX6_addToken 85 = .ok (.getfield 21, 3) := by decide +kernel
theorem dX6_addToken_88 : decode cX6_addToken 88 = .ok (.iload 4, 2) := by decide +kernel
theorem dX6_addToken_90 : decode cX6_addToken 90 = .ok (.iload_n 3, 1) := by decide +kernel
theorem dX6_addToken_91 : decode cX6_addToken 91 = .ok (.isub, 1) := by decide +kernel
theorem dX6_addToken_92 : decode cX6_addToken 92 = .ok (.iconst 4, 1) := by decide +kernel
theorem dX6_addToken_93 : decode cX6_addToken 93 = .ok (.if_icmp .le 7, 3) := by decide +kernel
theorem dX6_addToken_96 : decode cX6_addToken 96 = .ok (.iconst 1, 1) := by decide +kernel
theorem dX6_addToken_97 : decode cX6_addToken 97 = .ok (.goto 4, 3) := by decide +kernel
theorem dX6_addToken_100 : decode cX6_addToken 100 = .ok (.iconst 2, 1) := by decide +kernel
theorem dX6_addToken_101 : decode cX6_addToken 101 = .ok (.iastore, 1) := by decide +kernel
theorem dX6_addToken_102 : decode cX6_addToken 102 = .ok (.aload_n 0, 1) := by decide +kernel
theorem dX6_addToken_103 : decode cX6_addToken 103 = .ok (.getfield 18, 3) := by decide +kernel
theorem dX6_addToken_106 : decode cX6_addToken 106 = .ok (.aload_n 0, 1) := by decide +kernel
theorem dX6_addToken_107 : decode cX6_addToken 107 = .ok (.getfield 21, 3) := by decide +kernel
theorem dX6_addToken_110 : decode cX6_addToken 110 = .ok (.iload 4, 2) := by decide +kernel
theorem dX6_addToken_112 : decode cX6_addToken 112 = .ok (.iload_n 3, 1) := by decide +kernel
theorem dX6_addToken_113 : decode cX6_addToken 113 = .ok (.isub, 1) := by decide +kernel
theorem dX6_addToken_114 : decode cX6_addToken 114 = .ok (.iconst 4, 1) := by decide +kernel
theorem dX6_addToken_115 : decode cX6_addToken 115 = .ok (.if_icmp .le 7, 3) := by decide +kernel
theorem dX6_addToken_118 : decode cX6_addToken 118 = .ok (.iconst 0, 1) := by decide +kernel
theorem dX6_addToken_119 : decode cX6_addToken 119 = .ok (.goto 13, 3) := by decide +kernel
theorem dX6_addToken_122 : decode cX6_addToken 122 = .ok (.aload_n 1, 1) := by decide +kernel
theorem dX6_addToken_123 : decode cX6_addToken 123 = .ok (.getfield 26, 3) := by decide +kernel
theorem dX6_addToken_126 : decode cX6_addToken 126 = .ok (.iload_n 3, 1) := by decide +kernel
theorem dX6_addToken_127 : decode cX6_addToken 127 = .ok (.iload 4, 2) := by decide +kernel
theorem dX6_addToken_129 : decode cX6_addToken 129 = .ok (.invokestatic 42, 3) := by decide +kernel
theorem dX6_addToken_132 : decode cX6_addToken 132 = .ok (.iastore, 1) := by decide +kernel
theorem dX6_addToken_133 : decode cX6_addToken 133 = .ok (.goto 21, 3) := by decide +kernel
theorem dX6_addToken_136 : decode cX6_addToken 136 = .ok (.aload_n 0, 1) := by decide +kernel
theorem dX6_addToken_137 : decode cX6_addToken 137 = .ok (.getfield 11, 3) := by decide +kernel
theorem dX6_addToken_140 : decode cX6_addToken 140 = .ok (.aload_n 0, 1) := by decide +kernel
theorem dX6_addToken_141 : decode cX6_addToken 141 = .ok (.getfield 21, 3) := by decide +kernel
theorem dX6_addToken_144 : decode cX6_addToken 144 = .ok (.aload_n 1, 1) := by decide +kernel
theorem dX6_addToken_145 : decode cX6_addToken 145 = .ok (.getfield 26, 3) := by decide +kernel
theorem dX6_addToken_148 : decode cX6_addToken 148 = .ok (.iload_n 3, 1) := by decide +kernel
theorem dX6_addToken_149 : decode cX6_addToken 149 = .ok (.caload, 1) := by decide +kernel
theorem dX6_addToken_150 : decode cX6_addToken 150 = .ok (.invokestatic 45, 3) := by decide +kernel
theorem dX6_addToken_153 : decode cX6_addToken 153 = .ok (.iastore, 1) := by decide +kernel
theorem dX6_addToken_154 : decode cX6_addToken 154 = .ok (.aload_n 0, 1) := by decide +kernel
theorem dX6_addToken_155 : decode cX6_addToken 155 = .ok (.dup, 1) := by decide +kernel
theorem dX6_addToken_156 : decode cX6_addToken 156 = .ok (.getfield 21, 3) := by decide +kernel
theorem dX6_addToken_159 : decode cX6_addToken 159 = .ok (.iconst 1, 1) := by decide +kernel
theorem dX6_addToken_160 : decode cX6_addToken 160 = .ok (.iadd, 1) := by decide +kernel
theorem dX6_addToken_161 : decode cX6_addToken 161 = .ok (.putfield 21, 3) := by decide +kernel
theorem dX6_addToken_164 : decode cX6_addToken 164 = .ok (.return_, 1) := by decide +kernel
theorem dX6_markKind_0 : decode cX6_markKind 0 = .ok (.iload_n 0, 1) := by decide +kernel
theorem dX6_markKind_1 : decode cX6_markKind 1 = .ok (.tableswitch 105 40 61 #[103, 103, 105, 103, 105, 103, 105, 105, 105, 105, 105, 105, 105, 105, 105, 105, 105, 105, 105, 103, 103, 103], 103) := by decide +kernel
theorem dX6_markKind_104 : decode cX6_markKind 104 = .ok (.iload_n 0, 1) := by decide +kernel
theorem dX6_markKind_105 : decode cX6_markKind 105 = .ok (.ireturn, 1) := by decide +kernel
theorem dX6_markKind_106 : decode cX6_markKind 106 = .ok (.iconst 1, 1) := by decide +kernel
theorem dX6_markKind_107 : decode cX6_markKind 107 = .ok (.ireturn, 1) := by decide +kernel
theorem dX6_numberValue_0 : decode cX6_numberValue 0 = .ok (.iconst 0, 1) := by decide +kernel
theorem dX6_numberValue_1 : decode cX6_numberValue 1 = .ok (.istore_n 3, 1) := by decide +kernel
theorem dX6_numberValue_2 : decode cX6_numberValue 2 = .ok (.iload_n 1, 1) := by decide +kernel
theorem dX6_numberValue_3 : decode cX6_numberValue 3 = .ok (.istore 4, 2) := by decide +kernel
theorem dX6_numberValue_5 : decode cX6_numberValue 5 = .ok (.iload 4, 2) := by decide +kernel
theorem dX6_numberValue_7 : decode cX6_numberValue 7 = .ok (.iload_n 2, 1) := by decide +kernel
theorem dX6_numberValue_8 : decode cX6_numberValue 8 = .ok (.if_icmp .ge 29, 3) := by decide +kernel
theorem dX6_numberValue_11 : decode cX6_numberValue 11 = .ok (.iload 4, 2) := by decide +kernel
theorem dX6_numberValue_13 : decode cX6_numberValue 13 = .ok (.aload_n 0, 1) := by decide +kernel
theorem dX6_numberValue_14 : decode cX6_numberValue 14 = .ok (.arraylength, 1) := by decide +kernel
theorem dX6_numberValue_15 : decode cX6_numberValue 15 = .ok (.if_icmp .ge 22, 3) := by decide +kernel
theorem dX6_numberValue_18 : decode cX6_numberValue 18 = .ok (.iload_n 3, 1) := by decide +kernel
theorem dX6_numberValue_19 : decode cX6_numberValue 19 = .ok (.bipush 10, 2) := by decide +kernel
theorem dX6_numberValue_21 : decode cX6_numberValue 21 = .ok (.imul, 1) := by decide +kernel
theorem dX6_numberValue_22 : decode cX6_numberValue 22 = .ok (.aload_n 0, 1) := by decide +kernel
theorem dX6_numberValue_23 : decode cX6_numberValue 23 = .ok (.iload 4, 2) := by decide +kernel
theorem dX6_numberValue_25 : decode cX6_numberValue 25 = .ok (.caload, 1) := by decide +kernel
theorem dX6_numberValue_26 : decode cX6_numberValue 26 = .ok (.bipush 48, 2) := by decide +kernel
theorem dX6_numberValue_28 : decode cX6_numberValue 28 = .ok (.isub, 1) := by decide +kernel
theorem dX6_numberValue_29 : decode cX6_numberValue 29 = .ok (.iadd, 1) := by decide +kernel
theorem dX6_numberValue_30 : decode cX6_numberValue 30 = .ok (.istore_n 3, 1) := by decide +kernel
theorem dX6_numberValue_31 : decode cX6_numberValue 31 = .ok (.iinc 4 1, 3) := by decide +kernel
theorem dX6_numberValue_34 : decode cX6_numberValue 34 = .ok (.goto (-29), 3) := by decide +kernel
theorem dX6_numberValue_37 : decode cX6_numberValue 37 = .ok (.iload_n 3, 1) := by decide +kernel
theorem dX6_numberValue_38 : decode cX6_numberValue 38 = .ok (.ireturn, 1) := by decide +kernel
theorem dX6_wordKind_0 : decode cX6_wordKind 0 = .ok (.iload_n 2, 1) := by decide +kernel
theorem dX6_wordKind_1 : decode cX6_wordKind 1 = .ok (.iload_n 1, 1) := by decide +kernel
theorem dX6_wordKind_2 : decode cX6_wordKind 2 = .ok (.isub, 1) := by decide +kernel
theorem dX6_wordKind_3 : decode cX6_wordKind 3 = .ok (.tableswitch 75 3 6 #[29, 35, 41, 58], 29) := by decide +kernel
theorem dX6_wordKind_32 : decode cX6_wordKind 32 = .ok (.aload_n 0, 1) := by decide +kernel
theorem dX6_wordKind_33 : decode cX6_wordKind 33 = .ok (.iload_n 1, 1) := by decide +kernel
theorem dX6_wordKind_34 : decode cX6_wordKind 34 = .ok (.invokestatic 49, 3) := by decide +kernel
theorem dX6_wordKind_37 : decode cX6_wordKind 37 = .ok (.ireturn, 1) := by decide +kernel
theorem dX6_wordKind_38 : decode cX6_wordKind 38 = .ok (.aload_n 0, 1) := by decide +kernel
theorem dX6_wordKind_39 : decode cX6_wordKind 39 = .ok (.iload_n 1, 1) := by decide +kernel
theorem dX6_wordKind_40 : decode cX6_wordKind 40 = .ok (.invokestatic 53, 3) := by decide +kernel
theorem dX6_wordKind_43 : decode cX6_wordKind 43 = .ok (.ireturn, 1) := by decide +kernel
theorem dX6_wordKind_44 : decode cX6_wordKind 44 = .ok (.aload_n 0, 1) := by decide +kernel
theorem dX6_wordKind_45 : decode cX6_wordKind 45 = .ok (.iload_n 1, 1) := by decide +kernel
theorem dX6_wordKind_46 : decode cX6_wordKind 46 = .ok (.ldc 56, 2) := by decide +kernel
theorem dX6_wordKind_48 : decode cX6_wordKind 48 = .ok (.invokestatic 58, 3) := by decide +kernel
theorem dX6_wordKind_51 : decode cX6_wordKind 51 = .ok (.ifCond .eq 8, 3) := by decide +kernel
theorem dX6_wordKind_54 : decode cX6_wordKind 54 = .ok (.bipush 9, 2) := by decide +kernel
theorem dX6_wordKind_56 : decode cX6_wordKind 56 = .ok (.goto 4, 3) := by decide +kernel
theorem dX6_wordKind_59 : decode cX6_wordKind 59 = .ok (.iconst 1, 1) := by decide +kernel
theorem dX6_wordKind_60 : decode cX6_wordKind 60 = .ok (.ireturn, 1) := by decide +kernel
theorem dX6_wordKind_61 : decode cX6_wordKind 61 = .ok (.aload_n 0, 1) := by decide +kernel
theorem dX6_wordKind_62 : decode cX6_wordKind 62 = .ok (.iload_n 1, 1) := by decide +kernel
theorem dX6_wordKind_63 : decode cX6_wordKind 63 = .ok (.ldc 62, 2) := by decide +kernel
theorem dX6_wordKind_65 : decode cX6_wordKind 65 = .ok (.invokestatic 58, 3) := by decide +kernel
theorem dX6_wordKind_68 : decode cX6_wordKind 68 = .ok (.ifCond .eq 8, 3) := by decide +kernel
theorem dX6_wordKind_71 : decode cX6_wordKind 71 = .ok (.bipush 11, 2) := by decide +kernel
theorem dX6_wordKind_73 : decode cX6_wordKind 73 = .ok (.goto 4, 3) := by decide +kernel
theorem dX6_wordKind_76 : decode cX6_wordKind 76 = .ok (.iconst 1, 1) := by decide +kernel
theorem dX6_wordKind_77 : decode cX6_wordKind 77 = .ok (.ireturn, 1) := by decide +kernel
theorem dX6_wordKind_78 : decode cX6_wordKind 78 = .ok (.iconst 1, 1) := by decide +kernel
theorem dX6_wordKind_79 : decode cX6_wordKind 79 = .ok (.ireturn, 1) := by decide +kernel
theorem dX6_shortWordKind_0 : decode cX6_shortWordKind 0 = .ok (.aload_n 0, 1) := by decide +kernel
theorem dX6_shortWordKind_1 : decode cX6_shortWordKind 1 = .ok (.iload_n 1, 1) := by decide +kernel
theorem dX6_shortWordKind_2 : decode cX6_shortWordKind 2 = .ok (.ldc 64, 2) := by decide +kernel
theorem dX6_shortWordKind_4 : decode cX6_shortWordKind 4 = .ok (.invokestatic 58, 3) := by decide +kernel
theorem dX6_shortWordKind_7 : decode cX6_shortWordKind 7 = .ok (.ifCond .eq 5, 3) := by decide +kernel
theorem dX6_shortWordKind_10 : decode cX6_shortWordKind 10 = .ok (.iconst 4, 1) := by decide +kernel
theorem dX6_shortWordKind_11 : decode cX6_shortWordKind 11 = .ok (.ireturn, 1) := by decide +kernel
theorem dX6_shortWordKind_12 : decode cX6_shortWordKind 12 = .ok (.aload_n 0, 1) := by decide +kernel
theorem dX6_shortWordKind_13 : decode cX6_shortWordKind 13 = .ok (.iload_n 1, 1) := by decide +kernel
theorem dX6_shortWordKind_14 : decode cX6_shortWordKind 14 = .ok (.ldc 66, 2) := by decide +kernel
theorem dX6_shortWordKind_16 : decode cX6_shortWordKind 16 = .ok (.invokestatic 58, 3) := by decide +kernel
theorem dX6_shortWordKind_19 : decode cX6_shortWordKind 19 = .ok (.ifCond .eq 6, 3) := by decide +kernel
theorem dX6_shortWordKind_22 : decode cX6_shortWordKind 22 = .ok (.bipush 6, 2) := by decide +kernel
theorem dX6_shortWordKind_24 : decode cX6_shortWordKind 24 = .ok (.ireturn, 1) := by decide +kernel
theorem dX6_shortWordKind_25 : decode cX6_shortWordKind 25 = .ok (.aload_n 0, 1) := by decide +kernel
theorem dX6_shortWordKind_26 : decode cX6_shortWordKind 26 = .ok (.iload_n 1, 1) := by decide +kernel
theorem dX6_shortWordKind_27 : decode cX6_shortWordKind 27 = .ok (.ldc 68, 2) := by decide +kernel
theorem dX6_shortWordKind_29 : decode cX6_shortWordKind 29 = .ok (.invokestatic 58, 3) := by decide +kernel
theorem dX6_shortWordKind_32 : decode cX6_shortWordKind 32 = .ok (.ifCond .eq 6, 3) := by decide +kernel
theorem dX6_shortWordKind_35 : decode cX6_shortWordKind 35 = .ok (.bipush 7, 2) := by decide +kernel
theorem dX6_shortWordKind_37 : decode cX6_shortWordKind 37 = .ok (.ireturn, 1) := by decide +kernel
theorem dX6_shortWordKind_38 : decode cX6_shortWordKind 38 = .ok (.aload_n 0, 1) := by decide +kernel
theorem dX6_shortWordKind_39 : decode cX6_shortWordKind 39 = .ok (.iload_n 1, 1) := by decide +kernel
theorem dX6_shortWordKind_40 : decode cX6_shortWordKind 40 = .ok (.ldc 70, 2) := by decide +kernel
theorem dX6_shortWordKind_42 : decode cX6_shortWordKind 42 = .ok (.invokestatic 58, 3) := by decide +kernel
theorem dX6_shortWordKind_45 : decode cX6_shortWordKind 45 = .ok (.ifCond .eq 6, 3) := by decide +kernel
theorem dX6_shortWordKind_48 : decode cX6_shortWordKind 48 = .ok (.bipush 12, 2) := by decide +kernel
theorem dX6_shortWordKind_50 : decode cX6_shortWordKind 50 = .ok (.ireturn, 1) := by decide +kernel
theorem dX6_shortWordKind_51 : decode cX6_shortWordKind 51 = .ok (.aload_n 0, 1) := by decide +kernel
theorem dX6_shortWordKind_52 : decode cX6_shortWordKind 52 = .ok (.iload_n 1, 1) := by decide +kernel
theorem dX6_shortWordKind_53 : decode cX6_shortWordKind 53 = .ok (.ldc 72, 2) := by decide +kernel
theorem dX6_shortWordKind_55 : decode cX6_shortWordKind 55 = .ok (.invokestatic 58, 3) := by decide +kernel
theorem dX6_shortWordKind_58 : decode cX6_shortWordKind 58 = .ok (.ifCond .eq 8, 3) := by decide +kernel
theorem dX6_shortWordKind_61 : decode cX6_shortWordKind 61 = .ok (.bipush 14, 2) := by decide +kernel
theorem dX6_shortWordKind_63 : decode cX6_shortWordKind 63 = .ok (.goto 4, 3) := by decide +kernel
theorem dX6_shortWordKind_66 : decode cX6_shortWordKind 66 = .ok (.iconst 1, 1) := by decide +kernel
theorem dX6_shortWordKind_67 : decode cX6_shortWordKind 67 = .ok (.ireturn, 1) := by decide +kernel
theorem dX6_fourLetterKind_0 : decode cX6_fourLetterKind 0 = .ok (.aload_n 0, 1) := by decide +kernel
theorem dX6_fourLetterKind_1 : decode cX6_fourLetterKind 1 = .ok (.iload_n 1, 1) := by decide +kernel
theorem dX6_fourLetterKind_2 : decode cX6_fourLetterKind 2 = .ok (.ldc 74, 2) := by decide +kernel
theorem dX6_fourLetterKind_4 : decode cX6_fourLetterKind 4 = .ok (.invokestatic 58, 3) := by decide +kernel
theorem dX6_fourLetterKind_7 : decode cX6_fourLetterKind 7 = .ok (.ifCond .eq 5, 3) := by decide +kernel
theorem dX6_fourLetterKind_10 : decode cX6_fourLetterKind 10 = .ok (.iconst 3, 1) := by decide +kernel
theorem dX6_fourLetterKind_11 : decode cX6_fourLetterKind 11 = .ok (.ireturn, 1) := by decide +kernel
theorem dX6_fourLetterKind_12 : decode cX6_fourLetterKind 12 = .ok (.aload_n 0, 1) := by decide +kernel
theorem dX6_fourLetterKind_13 : decode cX6_fourLetterKind 13 = .ok (.iload_n 1, 1) := by decide +kernel
theorem dX6_fourLetterKind_14 : decode cX6_fourLetterKind 14 = .ok (.ldc 76, 2) := by decide +kernel
theorem dX6_fourLetterKind_16 : decode cX6_fourLetterKind 16 = .ok (.invokestatic 58, 3) := by decide +kernel
theorem dX6_fourLetterKind_19 : decode cX6_fourLetterKind 19 = .ok (.ifCond .eq 5, 3) := by decide +kernel
theorem dX6_fourLetterKind_22 : decode cX6_fourLetterKind 22 = .ok (.iconst 5, 1) := by decide +kernel
theorem dX6_fourLetterKind_23 : decode cX6_fourLetterKind 23 = .ok (.ireturn, 1) := by decide +kernel
theorem dX6_fourLetterKind_24 : decode cX6_fourLetterKind 24 = .ok (.aload_n 0, 1) := by decide +kernel
theorem dX6_fourLetterKind_25 : decode cX6_fourLetterKind 25 = .ok (.iload_n 1, 1) := by decide +kernel
theorem dX6_fourLetterKind_26 : decode cX6_fourLetterKind 26 = .ok (.ldc 78, 2) := by decide +kernel
theorem dX6_fourLetterKind_28 : decode cX6_fourLetterKind 28 = .ok (.invokestatic 58, 3) := by decide +kernel
theorem dX6_fourLetterKind_31 : decode cX6_fourLetterKind 31 = .ok (.ifCond .eq 6, 3) := by decide +kernel
theorem dX6_fourLetterKind_34 : decode cX6_fourLetterKind 34 = .ok (.bipush 8, 2) := by decide +kernel
theorem dX6_fourLetterKind_36 : decode cX6_fourLetterKind 36 = .ok (.ireturn, 1) := by decide +kernel
theorem dX6_fourLetterKind_37 : decode cX6_fourLetterKind 37 = .ok (.aload_n 0, 1) := by decide +kernel
theorem dX6_fourLetterKind_38 : decode cX6_fourLetterKind 38 = .ok (.iload_n 1, 1) := by decide +kernel
theorem dX6_fourLetterKind_39 : decode cX6_fourLetterKind 39 = .ok (.ldc 80, 2) := by decide +kernel
theorem dX6_fourLetterKind_41 : decode cX6_fourLetterKind 41 = .ok (.invokestatic 58, 3) := by decide +kernel
theorem dX6_fourLetterKind_44 : decode cX6_fourLetterKind 44 = .ok (.ifCond .eq 6, 3) := by decide +kernel
theorem dX6_fourLetterKind_47 : decode cX6_fourLetterKind 47 = .ok (.bipush 10, 2) := by decide +kernel
theorem dX6_fourLetterKind_49 : decode cX6_fourLetterKind 49 = .ok (.ireturn, 1) := by decide +kernel
theorem dX6_fourLetterKind_50 : decode cX6_fourLetterKind 50 = .ok (.aload_n 0, 1) := by decide +kernel
theorem dX6_fourLetterKind_51 : decode cX6_fourLetterKind 51 = .ok (.iload_n 1, 1) := by decide +kernel
theorem dX6_fourLetterKind_52 : decode cX6_fourLetterKind 52 = .ok (.ldc 82, 2) := by decide +kernel
theorem dX6_fourLetterKind_54 : decode cX6_fourLetterKind 54 = .ok (.invokestatic 58, 3) := by decide +kernel
theorem dX6_fourLetterKind_57 : decode cX6_fourLetterKind 57 = .ok (.ifCond .eq 8, 3) := by decide +kernel
theorem dX6_fourLetterKind_60 : decode cX6_fourLetterKind 60 = .ok (.bipush 13, 2) := by decide +kernel
theorem dX6_fourLetterKind_62 : decode cX6_fourLetterKind 62 = .ok (.goto 4, 3) := by decide +kernel
theorem dX6_fourLetterKind_65 : decode cX6_fourLetterKind 65 = .ok (.iconst 1, 1) := by decide +kernel
theorem dX6_fourLetterKind_66 : decode cX6_fourLetterKind 66 = .ok (.ireturn, 1) := by decide +kernel
theorem dX6_spells_0 : decode cX6_spells 0 = .ok (.iconst 0, 1) := by decide +kernel
theorem dX6_spells_1 : decode cX6_spells 1 = .ok (.istore_n 3, 1) := by decide +kernel
theorem dX6_spells_2 : decode cX6_spells 2 = .ok (.iload_n 3, 1) := by decide +kernel
theorem dX6_spells_3 : decode cX6_spells 3 = .ok (.aload_n 2, 1) := by decide +kernel
theorem dX6_spells_4 : decode cX6_spells 4 = .ok (.invokevirtual 84, 3) := by decide +kernel
theorem dX6_spells_7 : decode cX6_spells 7 = .ok (.if_icmp .ge 32, 3) := by decide +kernel
theorem dX6_spells_10 : decode cX6_spells 10 = .ok (.iload_n 1, 1) := by decide +kernel
theorem dX6_spells_11 : decode cX6_spells 11 = .ok (.iload_n 3, 1) := by decide +kernel
theorem dX6_spells_12 : decode cX6_spells 12 = .ok (.iadd, 1) := by decide +kernel
theorem dX6_spells_13 : decode cX6_spells 13 = .ok (.aload_n 0, 1) := by decide +kernel
theorem dX6_spells_14 : decode cX6_spells 14 = .ok (.arraylength, 1) := by decide +kernel
theorem dX6_spells_15 : decode cX6_spells 15 = .ok (.if_icmp .ge 16, 3) := by decide +kernel
theorem dX6_spells_18 : decode cX6_spells 18 = .ok (.aload_n 0, 1) := by decide +kernel
theorem dX6_spells_19 : decode cX6_spells 19 = .ok (.iload_n 1, 1) := by decide +kernel
theorem dX6_spells_20 : decode cX6_spells 20 = .ok (.iload_n 3, 1) := by decide +kernel
theorem dX6_spells_21 : decode cX6_spells 21 = .ok (.iadd, 1) := by decide +kernel
theorem dX6_spells_22 : decode cX6_spells 22 = .ok (.caload, 1) := by decide +kernel
theorem dX6_spells_23 : decode cX6_spells 23 = .ok (.aload_n 2, 1) := by decide +kernel
theorem dX6_spells_24 : decode cX6_spells 24 = .ok (.iload_n 3, 1) := by decide +kernel
theorem dX6_spells_25 : decode cX6_spells 25 = .ok (.invokevirtual 90, 3) := by decide +kernel
theorem dX6_spells_28 : decode cX6_spells 28 = .ok (.if_icmp .eq 5, 3) := by decide +kernel
theorem dX6_spells_31 : decode cX6_spells 31 = .ok (.iconst 0, 1) := by decide +kernel
theorem dX6_spells_32 : decode cX6_spells 32 = .ok (.ireturn, 1) := by decide +kernel
theorem dX6_spells_33 : decode cX6_spells 33 = .ok (.iinc 3 1, 3) := by decide +kernel
theorem dX6_spells_36 : decode cX6_spells 36 = .ok (.goto (-34), 3) := by decide +kernel
theorem dX6_spells_39 : decode cX6_spells 39 = .ok (.iconst 1, 1) := by decide +kernel
theorem dX6_spells_40 : decode cX6_spells 40 = .ok (.ireturn, 1) := by decide +kernel
theorem dX7_init_0 : decode cX7_init 0 = .ok (.aload_n 0, 1) := by decide +kernel
theorem dX7_init_1 : decode cX7_init 1 = .ok (.invokespecial 3, 3) := by decide +kernel
theorem dX7_init_4 : decode cX7_init 4 = .ok (.aload_n 0, 1) := by decide +kernel
theorem dX7_init_5 : decode cX7_init 5 = .ok (.bipush 24, 2) := by decide +kernel
theorem dX7_init_7 : decode cX7_init 7 = .ok (.newarray .int, 2) := by decide +kernel
theorem dX7_init_9 : decode cX7_init 9 = .ok (.putfield 9, 3) := by decide +kernel
theorem dX7_init_12 : decode cX7_init 12 = .ok (.aload_n 0, 1) := by decide +kernel
theorem dX7_init_13 : decode cX7_init 13 = .ok (.iload_n 1, 1) := by decide +kernel
theorem dX7_init_14 : decode cX7_init 14 = .ok (.putfield 13, 3) := by decide +kernel
theorem dX7_init_17 : decode cX7_init 17 = .ok (.iconst 0, 1) := by decide +kernel
theorem dX7_init_18 : decode cX7_init 18 = .ok (.istore_n 2, 1) := by decide +kernel
theorem dX7_init_19 : decode cX7_init 19 = .ok (.iload_n 2, 1) := by decide +kernel
theorem dX7_init_20 : decode cX7_init 20 = .ok (.bipush 24, 2) := by decide +kernel
theorem dX7_init_22 : decode cX7_init 22 = .ok (.if_icmp .ge 18, 3) := by decide +kernel
theorem dX7_init_25 : decode cX7_init 25 = .ok (.aload_n 0, 1) := by decide +kernel
theorem dX7_init_26 : decode cX7_init 26 = .ok (.getfield 9, 3) := by decide +kernel
theorem dX7_init_29 : decode cX7_init 29 = .ok (.iload_n 2, 1) := by decide +kernel
theorem dX7_init_30 : decode cX7_init 30 = .ok (.sipush 800, 3) := by decide +kernel
theorem dX7_init_33 : decode cX7_init 33 = .ok (.iastore, 1) := by decide +kernel
theorem dX7_init_34 : decode cX7_init 34 = .ok (.iinc 2 1, 3) := by decide +kernel
theorem dX7_init_37 : decode cX7_init 37 = .ok (.goto (-18), 3) := by decide +kernel
theorem dX7_init_40 : decode cX7_init 40 = .ok (.return_, 1) := by decide +kernel
theorem dX7_wear_0 : decode cX7_wear 0 = .ok (.iconst 0, 1) := by decide +kernel
theorem dX7_wear_1 : decode cX7_wear 1 = .ok (.istore_n 3, 1) := by decide +kernel
theorem dX7_wear_2 : decode cX7_wear 2 = .ok (.iload_n 3, 1) := by decide +kernel
theorem dX7_wear_3 : decode cX7_wear 3 = .ok (.bipush 24, 2) := by decide +kernel
theorem dX7_wear_5 : decode cX7_wear 5 = .ok (.if_icmp .ge 84, 3) := by decide +kernel
theorem dX7_wear_8 : decode cX7_wear 8 = .ok (.aload_n 0, 1) := by decide +kernel
theorem dX7_wear_9 : decode cX7_wear 9 = .ok (.getfield 13, 3) := by decide +kernel
theorem dX7_wear_12 : decode cX7_wear 12 = .ok (.ifCond .ne 11, 3) := by decide +kernel
theorem dX7_wear_15 : decode cX7_wear 15 = .ok (.getstatic 17, 3) := by decide +kernel
theorem dX7_wear_18 : decode cX7_wear 18 = .ok (.iload_n 3, 1) := by decide +kernel
theorem dX7_wear_19 : decode cX7_wear 19 = .ok (.iaload, 1) := by decide +kernel
theorem dX7_wear_20 : decode cX7_wear 20 = .ok (.goto 8, 3) := by decide +kernel
theorem dX7_wear_23 : decode cX7_wear 23 = .ok (.getstatic 20, 3) := by decide +kernel
theorem dX7_wear_26 : decode cX7_wear 26 = .ok (.iload_n 3, 1) := by decide +kernel
theorem dX7_wear_27 : decode cX7_wear 27 = .ok (.iaload, 1) := by decide +kernel
theorem dX7_wear_28 : decode cX7_wear 28 = .ok (.istore 4, 2) := by decide +kernel
theorem dX7_wear_30 : decode cX7_wear 30 = .ok (.iconst 4, 1) := by decide +kernel
theorem dX7_wear_31 : decode cX7_wear 31 = .ok (.iconst 2, 1) := by decide +kernel
theorem dX7_wear_32 : decode cX7_wear 32 = .ok (.iload_n 1, 1) := by decide +kernel
theorem dX7_wear_33 : decode cX7_wear 33 = .ok (.imul, 1) := by decide +kernel
theorem dX7_wear_34 : decode cX7_wear 34 = .ok (.iadd, 1) := by decide +kernel
theorem dX7_wear_35 : decode cX7_wear 35 = .ok (.iload 4, 2) := by decide +kernel
theorem dX7_wear_37 : decode cX7_wear 37 = .ok (.imul, 1) := by decide +kernel
theorem dX7_wear_38 : decode cX7_wear 38 = .ok (.bipush 10, 2) := by decide +kernel
theorem dX7_wear_40 : decode cX7_wear 40 = .ok (.iload_n 2, 1) := by decide +kernel
theorem dX7_wear_41 : decode cX7_wear 41 = .ok (.iadd, 1) := by decide +kernel
theorem dX7_wear_42 : decode cX7_wear 42 = .ok (.imul, 1) := by decide +kernel
theorem dX7_wear_43 : decode cX7_wear 43 = .ok (.bipush 10, 2) := by decide +kernel
theorem dX7_wear_45 : decode cX7_wear 45 = .ok (.idiv, 1) := by decide +kernel
theorem dX7_wear_46 : decode cX7_wear 46 = .ok (.istore 5, 2) := by decide +kernel
theorem dX7_wear_48 : decode cX7_wear 48 = .ok (.iload 5, 2) := by decide +kernel
theorem dX7_wear_50 : decode cX7_wear 50 = .ok (.aload_n 0, 1) := by decide +kernel
theorem dX7_wear_51 : decode cX7_wear 51 = .ok (.getfield 9, 3) := by decide +kernel
theorem dX7_wear_54 : decode cX7_wear 54 = .ok (.iload_n 3, 1) := by decide +kernel
theorem dX7_wear_55 : decode cX7_wear 55 = .ok (.iaload, 1) := by decide +kernel
theorem dX7_wear_56 : decode cX7_wear 56 = .ok (.invokestatic 23, 3) := by decide +kernel
theorem dX7_wear_59 : decode cX7_wear 59 = .ok (.istore 6, 2) := by decide +kernel
theorem dX7_wear_61 : decode cX7_wear 61 = .ok (.aload_n 0, 1) := by decide +kernel
theorem dX7_wear_62 : decode cX7_wear 62 = .ok (.getfield 9, 3) := by decide +kernel
theorem dX7_wear_65 : decode cX7_wear 65 = .ok (.iload_n 3, 1) := by decide +kernel
theorem dX7_wear_66 : decode cX7_wear 66 = .ok (.dup2, 1) := by decide +kernel
theorem dX7_wear_67 : decode cX7_wear 67 = .ok (.iaload, 1) := by decide +kernel
theorem dX7_wear_68 : decode cX7_wear 68 = .ok (.iload 6, 2) := by decide +kernel
theorem dX7_wear_70 : decode cX7_wear 70 = .ok (.isub, 1) := by decide +kernel
theorem dX7_wear_71 : decode cX7_wear 71 = .ok (.iastore, 1) := by decide +kernel
theorem dX7_wear_72 : decode cX7_wear 72 = .ok (.aload_n 0, 1) := by decide +kernel
theorem dX7_wear_73 : decode cX7_wear 73 = .ok (.dup, 1) := by decide +kernel
theorem dX7_wear_74 : decode cX7_wear 74 = .ok (.getfield 29, 3) := by decide +kernel
theorem dX7_wear_77 : decode cX7_wear 77 = .ok (.iload 6, 2) := by decide +kernel
theorem dX7_wear_79 : decode cX7_wear 79 = .ok (.iadd, 1) := by decide +kernel
theorem dX7_wear_80 : decode cX7_wear 80 = .ok (.putfield 29, 3) := by decide +kernel
theorem dX7_wear_83 : decode cX7_wear 83 = .ok (.iinc 3 1, 3) := by decide +kernel
theorem dX7_wear_86 : decode cX7_wear 86 = .ok (.goto (-84), 3) := by decide +kernel
theorem dX7_wear_89 : decode cX7_wear 89 = .ok (.return_, 1) := by decide +kernel
theorem dX7_grow_0 : decode cX7_grow 0 = .ok (.iload_n 2, 1) := by decide +kernel
theorem dX7_grow_1 : decode cX7_grow 1 = .ok (.bipush 9, 2) := by decide +kernel
theorem dX7_grow_3 : decode cX7_grow 3 = .ok (.if_icmp .lt 8, 3) := by decide +kernel
theorem dX7_grow_6 : decode cX7_grow 6 = .ok (.bipush 10, 2) := by decide +kernel
theorem dX7_grow_8 : decode cX7_grow 8 = .ok (.goto 4, 3) := by decide +kernel
theorem dX7_grow_11 : decode cX7_grow 11 = .ok (.iconst 0, 1) := by decide +kernel
theorem dX7_grow_12 : decode cX7_grow 12 = .ok (.istore_n 3, 1) := by decide +kernel
theorem dX7_grow_13 : decode cX7_grow 13 = .ok (.iload_n 1, 1) := by decide +kernel
theorem dX7_grow_14 : decode cX7_grow 14 = .ok (.bipush 10, 2) := by decide +kernel
theorem dX7_grow_16 : decode cX7_grow 16 = .ok (.iconst 2, 1) := by decide +kernel
theorem dX7_grow_17 : decode cX7_grow 17 = .ok (.iload_n 2, 1) := by decide +kernel
theorem dX7_grow_18 : decode cX7_grow 18 = .ok (.iconst 5, 1) := by decide +kernel
theorem dX7_grow_19 : decode cX7_grow 19 = .ok (.isub, 1) := by decide +kernel
theorem dX7_grow_20 : decode cX7_grow 20 = .ok (.invokestatic 32, 3) := by decide +kernel
theorem dX7_grow_23 : decode cX7_grow 23 = .ok (.imul, 1) := by decide +kernel
theorem dX7_grow_24 : decode cX7_grow 24 = .ok (.isub, 1) := by decide +kernel
theorem dX7_grow_25 : decode cX7_grow 25 = .ok (.imul, 1) := by decide +kernel
theorem dX7_grow_26 : decode cX7_grow 26 = .ok (.istore 4, 2) := by decide +kernel
theorem dX7_grow_28 : decode cX7_grow 28 = .ok (.iconst 0, 1) := by decide +kernel
theorem dX7_grow_29 : decode cX7_grow 29 = .ok (.istore 5, 2) := by decide +kernel
theorem dX7_grow_31 : decode cX7_grow 31 = .ok (.iload 5, 2) := by decide +kernel
theorem dX7_grow_33 : decode cX7_grow 33 = .ok (.bipush 24, 2) := by decide +kernel
theorem dX7_grow_35 : decode cX7_grow 35 = .ok (.if_icmp .ge 47, 3) := by decide +kernel
theorem dX7_grow_38 : decode cX7_grow 38 = .ok (.iconst 0, 1) := by decide +kernel
theorem dX7_grow_39 : decode cX7_grow 39 = .ok (.aload_n 0, 1) := by decide +kernel
theorem dX7_grow_40 : decode cX7_grow 40 = .ok (.getfield 9, 3) := by decide +kernel
theorem dX7_grow_43 : decode cX7_grow 43 = .ok (.iload 5, 2) := by decide +kernel
theorem dX7_grow_45 : decode cX7_grow 45 = .ok (.iaload, 1) := by decide +kernel
theorem dX7_grow_46 : decode cX7_grow 46 = .ok (.iload_n 3, 1) := by decide +kernel
theorem dX7_grow_47 : decode cX7_grow 47 = .ok (.isub, 1) := by decide +kernel
theorem dX7_grow_48 : decode cX7_grow 48 = .ok (.invokestatic 36, 3) := by decide +kernel
theorem dX7_grow_51 : decode cX7_grow 51 = .ok (.istore 6, 2) := by decide +kernel
theorem dX7_grow_53 : decode cX7_grow 53 = .ok (.aload_n 0, 1) := by decide +kernel
theorem dX7_grow_54 : decode cX7_grow 54 = .ok (.getfield 9, 3) := by decide +kernel
theorem dX7_grow_57 : decode cX7_grow 57 = .ok (.iload 5, 2) := by decide +kernel
theorem dX7_grow_59 : decode cX7_grow 59 = .ok (.iload 6, 2) := by decide +kernel
theorem dX7_grow_61 : decode cX7_grow 61 = .ok (.sipush 1000, 3) := by decide +kernel
theorem dX7_grow_64 : decode cX7_grow 64 = .ok (.iload 6, 2) := by decide +kernel
theorem dX7_grow_66 : decode cX7_grow 66 = .ok (.isub, 1) := by decide +kernel
theorem dX7_grow_67 : decode cX7_grow 67 = .ok (.iload 4, 2) := by decide +kernel
theorem dX7_grow_69 : decode cX7_grow 69 = .ok (.imul, 1) := by decide +kernel
theorem dX7_grow_70 : decode cX7_grow 70 = .ok (.sipush 2000, 3) := by decide +kernel
theorem dX7_grow_73 : decode cX7_grow 73 = .ok (.idiv, 1) := by decide +kernel
theorem dX7_grow_74 : decode cX7_grow 74 = .ok (.iadd, 1) := by decide +kernel
theorem dX7_grow_75 : decode cX7_grow 75 = .ok (.iastore, 1) := by decide +kernel
theorem dX7_grow_76 : decode cX7_grow 76 = .ok (.iinc 5 1, 3) := by decide +kernel
theorem dX7_grow_79 : decode cX7_grow 79 = .ok (.goto (-48), 3) := by decide +kernel
theorem dX7_grow_82 : decode cX7_grow 82 = .ok (.return_, 1) := by decide +kernel
theorem dX7_least_0 : decode cX7_least 0 = .ok (.sipush 1000, 3) := by decide +kernel
theorem dX7_least_3 : decode cX7_least 3 = .ok (.istore_n 1, 1) := by decide +kernel
theorem dX7_least_4 : decode cX7_least 4 = .ok (.iconst 0, 1) := by decide +kernel
theorem dX7_least_5 : decode cX7_least 5 = .ok (.istore_n 2, 1) := by decide +kernel
theorem dX7_least_6 : decode cX7_least 6 = .ok (.iload_n 2, 1) := by decide +kernel
theorem dX7_least_7 : decode cX7_least 7 = .ok (.bipush 24, 2) := by decide +kernel
theorem dX7_least_9 : decode cX7_least 9 = .ok (.if_icmp .ge 20, 3) := by decide +kernel
theorem dX7_least_12 : decode cX7_least 12 = .ok (.iload_n 1, 1) := by decide +kernel
theorem dX7_least_13 : decode cX7_least 13 = .ok (.aload_n 0, 1) := by decide +kernel
theorem dX7_least_14 : decode cX7_least 14 = .ok (.getfield 9, 3) := by decide +kernel
theorem dX7_least_17 : decode cX7_least 17 = .ok (.iload_n 2, 1) := by decide +kernel
theorem dX7_least_18 : decode cX7_least 18 = .ok (.iaload, 1) := by decide +kernel
theorem dX7_least_19 : decode cX7_least 19 = .ok (.invokestatic 23, 3) := by decide +kernel
theorem dX7_least_22 : decode cX7_least 22 = .ok (.istore_n 1, 1) := by decide +kernel
theorem dX7_least_23 : decode cX7_least 23 = .ok (.iinc 2 1, 3) := by decide +kernel
theorem dX7_least_26 : decode cX7_least 26 = .ok (.goto (-20), 3) := by decide +kernel
theorem dX7_least_29 : decode cX7_least 29 = .ok (.iload_n 1, 1) := by decide +kernel
theorem dX7_least_30 : decode cX7_least 30 = .ok (.ireturn, 1) := by decide +kernel
theorem dX7_mean_0 : decode cX7_mean 0 = .ok (.iconst 0, 1) := by decide +kernel
theorem dX7_mean_1 : decode cX7_mean 1 = .ok (.istore_n 1, 1) := by decide +kernel
theorem dX7_mean_2 : decode cX7_mean 2 = .ok (.iconst 0, 1) := by decide +kernel
theorem dX7_mean_3 : decode cX7_mean 3 = .ok (.istore_n 2, 1) := by decide +kernel
theorem dX7_mean_4 : decode cX7_mean 4 = .ok (.iload_n 2, 1) := by decide +kernel
theorem dX7_mean_5 : decode cX7_mean 5 = .ok (.bipush 24, 2) := by decide +kernel
theorem dX7_mean_7 : decode cX7_mean 7 = .ok (.if_icmp .ge 18, 3) := by decide +kernel
theorem dX7_mean_10 : decode cX7_mean 10 = .ok (.iload_n 1, 1) := by decide +kernel
theorem dX7_mean_11 : decode cX7_mean 11 = .ok (.aload_n 0, 1) := by decide +kernel
theorem dX7_mean_12 : decode cX7_mean 12 = .ok (.getfield 9, 3) := by decide +kernel
theorem dX7_mean_15 : decode cX7_mean 15 = .ok (.iload_n 2, 1) := by decide +kernel
theorem dX7_mean_16 : decode cX7_mean 16 = .ok (.iaload, 1) := by decide +kernel
theorem dX7_mean_17 : decode cX7_mean 17 = .ok (.iadd, 1) := by decide +kernel
theorem dX7_mean_18 : decode cX7_mean 18 = .ok (.istore_n 1, 1) := by decide +kernel
theorem dX7_mean_19 : decode cX7_mean 19 = .ok (.iinc 2 1, 3) := by decide +kernel
theorem dX7_mean_22 : decode cX7_mean 22 = .ok (.goto (-18), 3) := by decide +kernel
theorem dX7_mean_25 : decode cX7_mean 25 = .ok (.iload_n 1, 1) := by decide +kernel
theorem dX7_mean_26 : decode cX7_mean 26 = .ok (.bipush 24, 2) := by decide +kernel
theorem dX7_mean_28 : decode cX7_mean 28 = .ok (.idiv, 1) := by decide +kernel
theorem dX7_mean_29 : decode cX7_mean 29 = .ok (.ireturn, 1) := by decide +kernel
theorem dX8_init_0 : decode cX8_init 0 = .ok (.aload_n 0, 1) := by decide +kernel
theorem dX8_init_1 : decode cX8_init 1 = .ok (.invokespecial 3, 3) := by decide +kernel
theorem dX8_init_4 : decode cX8_init 4 = .ok (.aload_n 0, 1) := by decide +kernel
theorem dX8_init_5 : decode cX8_init 5 = .ok (.bipush 6, 2) := by decide +kernel
theorem dX8_init_7 : decode cX8_init 7 = .ok (.anewarray 9, 3) := by decide +kernel
theorem dX8_init_10 : decode cX8_init 10 = .ok (.putfield 11, 3) := by decide +kernel
theorem dX8_init_13 : decode cX8_init 13 = .ok (.aload_n 0, 1) := by decide +kernel
theorem dX8_init_14 : decode cX8_init 14 = .ok (.bipush 60, 2) := by decide +kernel
theorem dX8_init_16 : decode cX8_init 16 = .ok (.anewarray 15, 3) := by decide +kernel
theorem dX8_init_19 : decode cX8_init 19 = .ok (.putfield 17, 3) := by decide +kernel
theorem dX8_init_22 : decode cX8_init 22 = .ok (.aload_n 0, 1) := by decide +kernel
theorem dX8_init_23 : decode cX8_init 23 = .ok (.iconst 3, 1) := by decide +kernel
theorem dX8_init_24 : decode cX8_init 24 = .ok (.newarray .int, 2) := by decide +kernel
theorem dX8_init_26 : decode cX8_init 26 = .ok (.putfield 21, 3) := by decide +kernel
theorem dX8_init_29 : decode cX8_init 29 = .ok (.aload_n 0, 1) := by decide +kernel
theorem dX8_init_30 : decode cX8_init 30 = .ok (.bipush 16, 2) := by decide +kernel
theorem dX8_init_32 : decode cX8_init 32 = .ok (.newarray .int, 2) := by decide +kernel
theorem dX8_init_34 : decode cX8_init 34 = .ok (.putfield 25, 3) := by decide +kernel
theorem dX8_init_37 : decode cX8_init 37 = .ok (.aload_n 0, 1) := by decide +kernel
theorem dX8_init_38 : decode cX8_init 38 = .ok (.bipush 16, 2) := by decide +kernel
theorem dX8_init_40 : decode cX8_init 40 = .ok (.newarray .int, 2) := by decide +kernel
theorem dX8_init_42 : decode cX8_init 42 = .ok (.putfield 28, 3) := by decide +kernel
theorem dX8_init_45 : decode cX8_init 45 = .ok (.aload_n 0, 1) := by decide +kernel
theorem dX8_init_46 : decode cX8_init 46 = .ok (.bipush 16, 2) := by decide +kernel
theorem dX8_init_48 : decode cX8_init 48 = .ok (.newarray .int, 2) := by decide +kernel
theorem dX8_init_50 : decode cX8_init 50 = .ok (.putfield 31, 3) := by decide +kernel
theorem dX8_init_53 : decode cX8_init 53 = .ok (.aload_n 0, 1) := by decide +kernel
theorem dX8_init_54 : decode cX8_init 54 = .ok (.bipush 8, 2) := by decide +kernel
theorem dX8_init_56 : decode cX8_init 56 = .ok (.newarray .int, 2) := by decide +kernel
theorem dX8_init_58 : decode cX8_init 58 = .ok (.putfield 36, 3) := by decide +kernel
theorem dX8_init_61 : decode cX8_init 61 = .ok (.aload_n 0, 1) := by decide +kernel
theorem dX8_init_62 : decode cX8_init 62 = .ok (.new 39, 3) := by decide +kernel
theorem dX8_init_65 : decode cX8_init 65 = .ok (.dup, 1) := by decide +kernel
theorem dX8_init_66 : decode cX8_init 66 = .ok (.invokespecial 41, 3) := by decide +kernel
theorem dX8_init_69 : decode cX8_init 69 = .ok (.putfield 42, 3) := by decide +kernel
theorem dX8_init_72 : decode cX8_init 72 = .ok (.aload_n 0, 1) := by decide +kernel
theorem dX8_init_73 : decode cX8_init 73 = .ok (.new 46, 3) := by decide +kernel
theorem dX8_init_76 : decode cX8_init 76 = .ok (.dup, 1) := by decide +kernel
theorem dX8_init_77 : decode cX8_init 77 = .ok (.invokespecial 48, 3) := by decide +kernel
theorem dX8_init_80 : decode cX8_init 80 = .ok (.putfield 49, 3) := by decide +kernel
theorem dX8_init_83 : decode cX8_init 83 = .ok (.aload_n 0, 1) := by decide +kernel
theorem dX8_init_84 : decode cX8_init 84 = .ok (.new 34, 3) := by decide +kernel
theorem dX8_init_87 : decode cX8_init 87 = .ok (.dup, 1) := by decide +kernel
theorem dX8_init_88 : decode cX8_init 88 = .ok (.invokespecial 53, 3) := by decide +kernel
theorem dX8_init_91 : decode cX8_init 91 = .ok (.putfield 54, 3) := by decide +kernel
theorem dX8_init_94 : decode cX8_init 94 = .ok (.aload_n 0, 1) := by decide +kernel
theorem dX8_init_95 : decode cX8_init 95 = .ok (.new 58, 3) := by decide +kernel
theorem dX8_init_98 : decode cX8_init 98 = .ok (.dup, 1) := by decide +kernel
theorem dX8_init_99 : decode cX8_init 99 = .ok (.aload_n 0, 1) := by decide +kernel
theorem dX8_init_100 : decode cX8_init 100 = .ok (.getfield 54, 3) := by decide +kernel
theorem dX8_init_103 : decode cX8_init 103 = .ok (.invokespecial 60, 3) := by decide +kernel
theorem dX8_init_106 : decode cX8_init 106 = .ok (.putfield 63, 3) := by decide +kernel
theorem dX8_init_109 : decode cX8_init 109 = .ok (.aload_n 0, 1) := by decide +kernel
theorem dX8_init_110 : decode cX8_init 110 = .ok (.new 67, 3) := by decide +kernel
theorem dX8_init_113 : decode cX8_init 113 = .ok (.dup, 1) := by decide +kernel
theorem dX8_init_114 : decode cX8_init 114 = .ok (.invokespecial 69, 3) := by decide +kernel
theorem dX8_init_117 : decode cX8_init 117 = .ok (.putfield 70, 3) := by decide +kernel
theorem dX8_init_120 : decode cX8_init 120 = .ok (.aload_n 0, 1) := by decide +kernel
theorem dX8_init_121 : decode cX8_init 121 = .ok (.new 67, 3) := by decide +kernel
theorem dX8_init_124 : decode cX8_init 124 = .ok (.dup, 1) := by decide +kernel
theorem dX8_init_125 : decode cX8_init 125 = .ok (.invokespecial 69, 3) := by decide +kernel
theorem dX8_init_128 : decode cX8_init 128 = .ok (.putfield 74, 3) := by decide +kernel
theorem dX8_init_131 : decode cX8_init 131 = .ok (.aload_n 0, 1) := by decide +kernel
theorem dX8_init_132 : decode cX8_init 132 = .ok (.iconst 0, 1) := by decide +kernel
theorem dX8_init_133 : decode cX8_init 133 = .ok (.putfield 77, 3) := by decide +kernel
theorem dX8_init_136 : decode cX8_init 136 = .ok (.aload_n 0, 1) := by decide +kernel
theorem dX8_init_137 : decode cX8_init 137 = .ok (.iconst 0, 1) := by decide +kernel
theorem dX8_init_138 : decode cX8_init 138 = .ok (.putfield 81, 3) := by decide +kernel
theorem dX8_init_141 : decode cX8_init 141 = .ok (.aload_n 0, 1) := by decide +kernel
theorem dX8_init_142 : decode cX8_init 142 = .ok (.iconst 0, 1) := by decide +kernel
theorem dX8_init_143 : decode cX8_init 143 = .ok (.putfield 84, 3) := by decide +kernel
theorem dX8_init_146 : decode cX8_init 146 = .ok (.return_, 1) := by decide +kernel
theorem dX8_pitch_0 : decode cX8_pitch 0 = .ok (.iload_n 1, 1) := by decide +kernel
theorem dX8_pitch_1 : decode cX8_pitch 1 = .ok (.ifCond .lt 17, 3) := by decide +kernel
theorem dX8_pitch_4 : decode cX8_pitch 4 = .ok (.iload_n 1, 1) := by decide +kernel
theorem dX8_pitch_5 : decode cX8_pitch 5 = .ok (.iconst 3, 1) := by decide +kernel
theorem dX8_pitch_6 : decode cX8_pitch 6 = .ok (.if_icmp .ge 12, 3) := by decide +kernel
theorem dX8_pitch_9 : decode cX8_pitch 9 = .ok (.iload_n 2, 1) := by decide +kernel
theorem dX8_pitch_10 : decode cX8_pitch 10 = .ok (.ifCond .lt 8, 3) := by decide +kernel
theorem dX8_pitch_13 : decode cX8_pitch 13 = .ok (.iload_n 2, 1) := by decide +kernel
theorem dX8_pitch_14 : decode cX8_pitch 14 = .ok (.iconst 1, 1) := by decide +kernel
theorem dX8_pitch_15 : decode cX8_pitch 15 = .ok (.if_icmp .le 5, 3) := by decide +kernel
theorem dX8_pitch_18 : decode cX8_pitch 18 = .ok (.iconst (-1), 1) := by decide +kernel
theorem dX8_pitch_19 : decode cX8_pitch 19 = .ok (.ireturn, 1) := by decide +kernel
theorem dX8_pitch_20 : decode cX8_pitch 20 = .ok (.aload_n 0, 1) := by decide +kernel
theorem dX8_pitch_21 : decode cX8_pitch 21 = .ok (.getfield 77, 3) := by decide +kernel
theorem dX8_pitch_24 : decode cX8_pitch 24 = .ok (.aload_n 0, 1) := by decide +kernel
theorem dX8_pitch_25 : decode cX8_pitch 25 = .ok (.getfield 11, 3) := by decide +kernel
theorem dX8_pitch_28 : decode cX8_pitch 28 = .ok (.arraylength, 1) := by decide +kernel
theorem dX8_pitch_29 : decode cX8_pitch 29 = .ok (.if_icmp .ge 10, 3) := by decide +kernel
theorem dX8_pitch_32 : decode cX8_pitch 32 = .ok (.aload_n 0, 1) := by decide +kernel
theorem dX8_pitch_33 : decode cX8_pitch 33 = .ok (.getfield 84, 3) := by decide +kernel
theorem dX8_pitch_36 : decode cX8_pitch 36 = .ok (.ifCond .le 5, 3) := by decide +kernel
theorem dX8_pitch_39 : decode cX8_pitch 39 = .ok (.iconst (-1), 1) := by decide +kernel
theorem dX8_pitch_40 : decode cX8_pitch 40 = .ok (.ireturn, 1) := by decide +kernel
theorem dX8_pitch_41 : decode cX8_pitch 41 = .ok (.aload_n 0, 1) := by decide +kernel
theorem dX8_pitch_42 : decode cX8_pitch 42 = .ok (.getfield 77, 3) := by decide +kernel
theorem dX8_pitch_45 : decode cX8_pitch 45 = .ok (.istore_n 3, 1) := by decide +kernel
theorem dX8_pitch_46 : decode cX8_pitch 46 = .ok (.aload_n 0, 1) := by decide +kernel
theorem dX8_pitch_47 : decode cX8_pitch 47 = .ok (.getfield 11, 3) := by decide +kernel
theorem dX8_pitch_50 : decode cX8_pitch 50 = .ok (.iload_n 3, 1) := by decide +kernel
theorem dX8_pitch_51 : decode cX8_pitch 51 = .ok (.new 9, 3) := by decide +kernel
theorem dX8_pitch_54 : decode cX8_pitch 54 = .ok (.dup, 1) := by decide +kernel
theorem dX8_pitch_55 : decode cX8_pitch 55 = .ok (.iload_n 2, 1) := by decide +kernel
theorem dX8_pitch_56 : decode cX8_pitch 56 = .ok (.invokespecial 87, 3) := by decide +kernel
theorem dX8_pitch_59 : decode cX8_pitch 59 = .ok (.aastore, 1) := by decide +kernel
theorem dX8_pitch_60 : decode cX8_pitch 60 = .ok (.iconst 0, 1) := by decide +kernel
theorem dX8_pitch_61 : decode cX8_pitch 61 = .ok (.istore 4, 2) := by decide +kernel
theorem dX8_pitch_63 : decode cX8_pitch 63 = .ok (.iload 4, 2) := by decide +kernel
theorem dX8_pitch_65 : decode cX8_pitch 65 = .ok (.iload_n 1, 1) := by decide +kernel
theorem dX8_pitch_66 : decode cX8_pitch 66 = .ok (.if_icmp .gt 22, 3) := by decide +kernel
theorem dX8_pitch_69 : decode cX8_pitch 69 = .ok (.aload_n 0, 1) := by decide +kernel
theorem dX8_pitch_70 : decode cX8_pitch 70 = .ok (.getfield 21, 3) := by decide +kernel
theorem dX8_pitch_73 : decode cX8_pitch 73 = .ok (.iload 4, 2) := by decide +kernel
theorem dX8_pitch_75 : decode cX8_pitch 75 = .ok (.dup2, 1) := by decide +kernel
theorem dX8_pitch_76 : decode cX8_pitch 76 = .ok (.iaload, 1) := by decide +kernel
theorem dX8_pitch_77 : decode cX8_pitch 77 = .ok (.iconst 1, 1) := by decide +kernel
theorem dX8_pitch_78 : decode cX8_pitch 78 = .ok (.iload_n 3, 1) := by decide +kernel
theorem dX8_pitch_79 : decode cX8_pitch 79 = .ok (.ishl, 1) := by decide +kernel
theorem dX8_pitch_80 : decode cX8_pitch 80 = .ok (.ior, 1) := by decide +kernel
theorem dX8_pitch_81 : decode cX8_pitch 81 = .ok (.iastore, 1) := by decide +kernel
theorem dX8_pitch_82 : decode cX8_pitch 82 = .ok (.iinc 4 1, 3) := by decide +kernel
theorem dX8_pitch_85 : decode cX8_pitch 85 = .ok (.goto (-22), 3) := by decide +kernel
theorem dX8_pitch_88 : decode cX8_pitch 88 = .ok (.aload_n 0, 1) := by decide +kernel
theorem dX8_pitch_89 : decode cX8_pitch 89 = .ok (.dup, 1) := by decide +kernel
theorem dX8_pitch_90 : decode cX8_pitch 90 = .ok (.getfield 77, 3) := by decide +kernel
theorem dX8_pitch_93 : decode cX8_pitch 93 = .ok (.iconst 1, 1) := by decide +kernel
theorem dX8_pitch_94 : decode cX8_pitch 94 = .ok (.iadd, 1) := by decide +kernel
theorem dX8_pitch_95 : decode cX8_pitch 95 = .ok (.putfield 77, 3) := by decide +kernel
theorem dX8_pitch_98 : decode cX8_pitch 98 = .ok (.iload_n 3, 1) := by decide +kernel
theorem dX8_pitch_99 : decode cX8_pitch 99 = .ok (.ireturn, 1) := by decide +kernel
theorem dX8_game_0 : decode cX8_game 0 = .ok (.iload_n 1, 1) := by decide +kernel
theorem dX8_game_1 : decode cX8_game 1 = .ok (.invokestatic 90, 3) := by decide +kernel
theorem dX8_game_4 : decode cX8_game 4 = .ok (.ifCond .eq 15, 3) := by decide +kernel
theorem dX8_game_7 : decode cX8_game 7 = .ok (.iload_n 2, 1) := by decide +kernel
theorem dX8_game_8 : decode cX8_game 8 = .ok (.invokestatic 90, 3) := by decide +kernel
theorem dX8_game_11 : decode cX8_game 11 = .ok (.ifCond .eq 8, 3) := by decide +kernel
theorem dX8_game_14 : decode cX8_game 14 = .ok (.iload_n 1, 1) := by decide +kernel
theorem dX8_game_15 : decode cX8_game 15 = .ok (.iload_n 2, 1) := by decide +kernel
theorem dX8_game_16 : decode cX8_game 16 = .ok (.if_icmp .ne 5, 3) := by decide +kernel
theorem dX8_game_19 : decode cX8_game 19 = .ok (.iconst (-1), 1) := by decide +kernel
theorem dX8_game_20 : decode cX8_game 20 = .ok (.ireturn, 1) := by decide +kernel
theorem dX8_game_21 : decode cX8_game 21 = .ok (.iload_n 3, 1) := by decide +kernel
theorem dX8_game_22 : decode cX8_game 22 = .ok (.ifCond .lt 20, 3) := by decide +kernel
theorem dX8_game_25 : decode cX8_game 25 = .ok (.iload_n 3, 1) := by decide +kernel
theorem dX8_game_26 : decode cX8_game 26 = .ok (.iconst 3, 1) := by decide +kernel
theorem dX8_game_27 : decode cX8_game 27 = .ok (.if_icmp .ge 15, 3) := by decide +kernel
theorem dX8_game_30 : decode cX8_game 30 = .ok (.iload 4, 2) := by decide +kernel
theorem dX8_game_32 : decode cX8_game 32 = .ok (.ifCond .lt 10, 3) := by decide +kernel
theorem dX8_game_35 : decode cX8_game 35 = .ok (.iload 4, 2) := by decide +kernel
theorem dX8_game_37 : decode cX8_game 37 = .ok (.bipush 9, 2) := by decide +kernel
theorem dX8_game_39 : decode cX8_game 39 = .ok (.if_icmp .le 5, 3) := by decide +kernel
theorem dX8_game_42 : decode cX8_game 42 = .ok (.iconst (-1), 1) := by decide +kernel
theorem dX8_game_43 : decode cX8_game 43 = .ok (.ireturn, 1) := by decide +kernel
theorem dX8_game_44 : decode cX8_game 44 = .ok (.aload_n 0, 1) := by decide +kernel
theorem dX8_game_45 : decode cX8_game 45 = .ok (.iload 5, 2) := by decide +kernel
theorem dX8_game_47 : decode cX8_game 47 = .ok (.invokevirtual 94, 3) := by decide +kernel
theorem dX8_game_50 : decode cX8_game 50 = .ok (.ifCond .eq 27, 3) := by decide +kernel
theorem dX8_game_53 : decode cX8_game 53 = .ok (.iload 6, 2) := by decide +kernel
theorem dX8_game_55 : decode cX8_game 55 = .ok (.ifCond .le 22, 3) := by decide +kernel
theorem dX8_game_58 : decode cX8_game 58 = .ok (.iload 6, 2) := by decide +kernel
theorem dX8_game_60 : decode cX8_game 60 = .ok (.ldc 97, 2) := by decide +kernel
theorem dX8_game_62 : decode cX8_game 62 = .ok (.if_icmp .gt 15, 3) := by decide +kernel
theorem dX8_game_65 : decode cX8_game 65 = .ok (.aload_n 0, 1) := by decide +kernel
theorem dX8_game_66 : decode cX8_game 66 = .ok (.getfield 81, 3) := by decide +kernel
theorem dX8_game_69 : decode cX8_game 69 = .ok (.aload_n 0, 1) := by decide +kernel
theorem dX8_game_70 : decode cX8_game 70 = .ok (.getfield 17, 3) := by decide +kernel
theorem dX8_game_73 : decode cX8_game 73 = .ok (.arraylength, 1) := by decide +kernel
theorem dX8_game_74 : decode cX8_game 74 = .ok (.if_icmp .lt 5, 3) := by decide +kernel
theorem dX8_game_77 : decode cX8_game 77 = .ok (.iconst (-1), 1) := by decide +kernel
theorem dX8_game_78 : decode cX8_game 78 = .ok (.ireturn, 1) := by decide +kernel
theorem dX8_game_79 : decode cX8_game 79 = .ok (.aload_n 0, 1) := by decide +kernel
theorem dX8_game_80 : decode cX8_game 80 = .ok (.getfield 81, 3) := by decide +kernel
theorem dX8_game_83 : decode cX8_game 83 = .ok (.istore 7, 2) := by decide +kernel
theorem dX8_game_85 : decode cX8_game 85 = .ok (.aload_n 0, 1) := by decide +kernel
theorem dX8_game_86 : decode cX8_game 86 = .ok (.getfield 17, 3) := by decide +kernel
theorem dX8_game_89 : decode cX8_game 89 = .ok (.iload 7, 2) := by decide +kernel
theorem dX8_game_91 : decode cX8_game 91 = .ok (.new 15, 3) := by decide +kernel
theorem dX8_game_94 : decode cX8_game 94 = .ok (.dup, 1) := by decide +kernel
theorem dX8_game_95 : decode cX8_game 95 = .ok (.iload_n 1, 1) := by decide +kernel
theorem dX8_game_96 : decode cX8_game 96 = .ok (.iload_n 2, 1) := by decide +kernel
theorem dX8_game_97 : decode cX8_game 97 = .ok (.iload_n 3, 1) := by decide +kernel
theorem dX8_game_98 : decode cX8_game 98 = .ok (.iload 4, 2) := by decide +kernel
theorem dX8_game_100 : decode cX8_game 100 = .ok (.iload 5, 2) := by decide +kernel
theorem dX8_game_102 : decode cX8_game 102 = .ok (.iload 6, 2) := by decide +kernel
theorem dX8_game_104 : decode cX8_game 104 = .ok (.invokespecial 98, 3) := by decide +kernel
theorem dX8_game_107 : decode cX8_game 107 = .ok (.aastore, 1) := by decide +kernel
theorem dX8_game_108 : decode cX8_game 108 = .ok (.aload_n 0, 1) := by decide +kernel
theorem dX8_game_109 : decode cX8_game 109 = .ok (.dup, 1) := by decide +kernel
theorem dX8_game_110 : decode cX8_game 110 = .ok (.getfield 81, 3) := by decide +kernel
theorem dX8_game_113 : decode cX8_game 113 = .ok (.iconst 1, 1) := by decide +kernel
theorem dX8_game_114 : decode cX8_game 114 = .ok (.iadd, 1) := by decide +kernel
theorem dX8_game_115 : decode cX8_game 115 = .ok (.putfield 81, 3) := by decide +kernel
theorem dX8_game_118 : decode cX8_game 118 = .ok (.iload 7, 2) := by decide +kernel
theorem dX8_game_120 : decode cX8_game 120 = .ok (.ireturn, 1) := by decide +kernel
theorem dX8_lay_0 : decode cX8_lay 0 = .ok (.aload_n 0, 1) := by decide +kernel
theorem dX8_lay_1 : decode cX8_lay 1 = .ok (.iload_n 1, 1) := by decide +kernel
theorem dX8_lay_2 : decode cX8_lay 2 = .ok (.invokevirtual 94, 3) := by decide +kernel
theorem dX8_lay_5 : decode cX8_lay 5 = .ok (.ifCond .ne 5, 3) := by decide +kernel
theorem dX8_lay_8 : decode cX8_lay 8 = .ok (.iconst (-1), 1) := by decide +kernel
theorem dX8_lay_9 : decode cX8_lay 9 = .ok (.ireturn, 1) := by decide +kernel
theorem dX8_lay_10 : decode cX8_lay 10 = .ok (.aload_n 0, 1) := by decide +kernel
theorem dX8_lay_11 : decode cX8_lay 11 = .ok (.iload_n 1, 1) := by decide +kernel
theorem dX8_lay_12 : decode cX8_lay 12 = .ok (.invokevirtual 101, 3) := by decide +kernel
theorem dX8_lay_15 : decode cX8_lay 15 = .ok (.bipush 9, 2) := by decide +kernel
theorem dX8_lay_17 : decode cX8_lay 17 = .ok (.istore_n 2, 1) := by decide +kernel
theorem dX8_lay_18 : decode cX8_lay 18 = .ok (.iload_n 2, 1) := by decide +kernel
theorem dX8_lay_19 : decode cX8_lay 19 = .ok (.ifCond .lt 65, 3) := by decide +kernel
theorem dX8_lay_22 : decode cX8_lay 22 = .ok (.iconst 0, 1) := by decide +kernel
theorem dX8_lay_23 : decode cX8_lay 23 = .ok (.istore_n 3, 1) := by decide +kernel
theorem dX8_lay_24 : decode cX8_lay 24 = .ok (.iload_n 3, 1) := by decide +kernel
theorem dX8_lay_25 : decode cX8_lay 25 = .ok (.aload_n 0, 1) := by decide +kernel
theorem dX8_lay_26 : decode cX8_lay 26 = .ok (.getfield 81, 3) := by decide +kernel
theorem dX8_lay_29 : decode cX8_lay 29 = .ok (.if_icmp .ge 49, 3) := by decide +kernel
theorem dX8_lay_32 : decode cX8_lay 32 = .ok (.aload_n 0, 1) := by decide +kernel
theorem dX8_lay_33 : decode cX8_lay 33 = .ok (.getfield 17, 3) := by decide +kernel
theorem dX8_lay_36 : decode cX8_lay 36 = .ok (.iload_n 3, 1) := by decide +kernel
theorem dX8_lay_37 : decode cX8_lay 37 = .ok (.aaload, 1) := by decide +kernel
theorem dX8_lay_38 : decode cX8_lay 38 = .ok (.astore 4, 2) := by decide +kernel
theorem dX8_lay_40 : decode cX8_lay 40 = .ok (.aload 4, 2) := by decide +kernel
theorem dX8_lay_42 : decode cX8_lay 42 = .ok (.getfield 104, 3) := by decide +kernel
theorem dX8_lay_45 : decode cX8_lay 45 = .ok (.iload_n 1, 1) := by decide +kernel
theorem dX8_lay_46 : decode cX8_lay 46 = .ok (.if_icmp .ne 26, 3) := by decide +kernel
theorem dX8_lay_49 : decode cX8_lay 49 = .ok (.aload 4, 2) := by decide +kernel
theorem dX8_lay_51 : decode cX8_lay 51 = .ok (.getfield 107, 3) := by decide +kernel
theorem dX8_lay_54 : decode cX8_lay 54 = .ok (.ifCond .ne 18, 3) := by decide +kernel
theorem dX8_lay_57 : decode cX8_lay 57 = .ok (.aload 4, 2) := by decide +kernel
theorem dX8_lay_59 : decode cX8_lay 59 = .ok (.getfield 110, 3) := by decide +kernel
theorem dX8_lay_62 : decode cX8_lay 62 = .ok (.iload_n 2, 1) := by decide +kernel
theorem dX8_lay_63 : decode cX8_lay 63 = .ok (.if_icmp .ne 9, 3) := by decide +kernel
theorem dX8_lay_66 : decode cX8_lay 66 = .ok (.aload_n 0, 1) := by decide +kernel
theorem dX8_lay_67 : decode cX8_lay 67 = .ok (.aload 4, 2) := by decide +kernel
theorem dX8_lay_69 : decode cX8_lay 69 = .ok (.invokevirtual 113, 3) := by decide +kernel
theorem dX8_lay_72 : decode cX8_lay 72 = .ok (.iinc 3 1, 3) := by decide +kernel
theorem dX8_lay_75 : decode cX8_lay 75 = .ok (.goto (-51), 3) := by decide +kernel
theorem dX8_lay_78 : decode cX8_lay 78 = .ok (.iinc 2 (-1), 3) := by decide +kernel
theorem dX8_lay_81 : decode cX8_lay 81 = .ok (.goto (-63), 3) := by decide +kernel
theorem dX8_lay_84 : decode cX8_lay 84 = .ok (.aload_n 0, 1) := by decide +kernel
theorem dX8_lay_85 : decode cX8_lay 85 = .ok (.iload_n 1, 1) := by decide +kernel
theorem dX8_lay_86 : decode cX8_lay 86 = .ok (.invokevirtual 117, 3) := by decide +kernel
theorem dX8_lay_89 : decode cX8_lay 89 = .ok (.ireturn, 1) := by decide +kernel
theorem dX8_feed_0 : decode cX8_feed 0 = .ok (.aload_n 0, 1) := by decide +kernel
theorem dX8_feed_1 : decode cX8_feed 1 = .ok (.getfield 49, 3) := by decide +kernel
theorem dX8_feed_4 : decode cX8_feed 4 = .ok (.lload_n 1, 1) := by decide +kernel
theorem dX8_feed_5 : decode cX8_feed 5 = .ok (.invokevirtual 121, 3) := by decide +kernel
theorem dX8_feed_8 : decode cX8_feed 8 = .ok (.aload_n 0, 1) := by decide +kernel
theorem dX8_feed_9 : decode cX8_feed 9 = .ok (.getfield 49, 3) := by decide +kernel
theorem dX8_feed_12 : decode cX8_feed 12 = .ok (.lload_n 3, 1) := by decide +kernel
theorem dX8_feed_13 : decode cX8_feed 13 = .ok (.invokevirtual 121, 3) := by decide +kernel
theorem dX8_feed_16 : decode cX8_feed 16 = .ok (.aload_n 0, 1) := by decide +kernel
theorem dX8_feed_17 : decode cX8_feed 17 = .ok (.getfield 49, 3) := by decide +kernel
theorem dX8_feed_20 : decode cX8_feed 20 = .ok (.lload 5, 2) := by decide +kernel
theorem dX8_feed_22 : decode cX8_feed 22 = .ok (.invokevirtual 121, 3) := by decide +kernel
theorem dX8_feed_25 : decode cX8_feed 25 = .ok (.aload_n 0, 1) := by decide +kernel
theorem dX8_feed_26 : decode cX8_feed 26 = .ok (.getfield 49, 3) := by decide +kernel
theorem dX8_feed_29 : decode cX8_feed 29 = .ok (.getfield 125, 3) := by decide +kernel
theorem dX8_feed_32 : decode cX8_feed 32 = .ok (.ireturn, 1) := by decide +kernel
theorem dX8_text_0 : decode cX8_text 0 = .ok (.aload_n 0, 1) := by decide +kernel
theorem dX8_text_1 : decode cX8_text 1 = .ok (.getfield 54, 3) := by decide +kernel
theorem dX8_text_4 : decode cX8_text 4 = .ok (.aload_n 0, 1) := by decide +kernel
theorem dX8_text_5 : decode cX8_text 5 = .ok (.getfield 49, 3) := by decide +kernel
theorem dX8_text_8 : decode cX8_text 8 = .ok (.invokevirtual 128, 3) := by decide +kernel
theorem dX8_text_11 : decode cX8_text 11 = .ok (.aload_n 0, 1) := by decide +kernel
theorem dX8_text_12 : decode cX8_text 12 = .ok (.getfield 49, 3) := by decide +kernel
theorem dX8_text_15 : decode cX8_text 15 = .ok (.iconst 0, 1) := by decide +kernel
theorem dX8_text_16 : decode cX8_text 16 = .ok (.putfield 125, 3) := by decide +kernel
theorem dX8_text_19 : decode cX8_text 19 = .ok (.aload_n 0, 1) := by decide +kernel
theorem dX8_text_20 : decode cX8_text 20 = .ok (.getfield 63, 3) := by decide +kernel
theorem dX8_text_23 : decode cX8_text 23 = .ok (.aload_n 0, 1) := by decide +kernel
theorem dX8_text_24 : decode cX8_text 24 = .ok (.getfield 74, 3) := by decide +kernel
theorem dX8_text_27 : decode cX8_text 27 = .ok (.invokevirtual 132, 3) := by decide +kernel
theorem dX8_text_30 : decode cX8_text 30 = .ok (.istore_n 1, 1) := by decide +kernel
theorem dX8_text_31 : decode cX8_text 31 = .ok (.iload_n 1, 1) := by decide +kernel
theorem dX8_text_32 : decode cX8_text 32 = .ok (.ifCond .ne 21, 3) := by decide +kernel
theorem dX8_text_35 : decode cX8_text 35 = .ok (.aload_n 0, 1) := by decide +kernel
theorem dX8_text_36 : decode cX8_text 36 = .ok (.getfield 70, 3) := by decide +kernel
theorem dX8_text_39 : decode cX8_text 39 = .ok (.astore_n 2, 1) := by decide +kernel
theorem dX8_text_40 : decode cX8_text 40 = .ok (.aload_n 0, 1) := by decide +kernel
theorem dX8_text_41 : decode cX8_text 41 = .ok (.aload_n 0, 1) := by decide +kernel
theorem dX8_text_42 : decode cX8_text 42 = .ok (.getfield 74, 3) := by decide +kernel
theorem dX8_text_45 : decode cX8_text 45 = .ok (.putfield 70, 3) := by decide +kernel
theorem dX8_text_48 : decode cX8_text 48 = .ok (.aload_n 0, 1) := by decide +kernel
theorem dX8_text_49 : decode cX8_text 49 = .ok (.aload_n 2, 1) := by decide +kernel
theorem dX8_text_50 : decode cX8_text 50 = .ok (.putfield 74, 3) := by decide +kernel
theorem dX8_text_53 : decode cX8_text 53 = .ok (.iload_n 1, 1) := by decide +kernel
theorem dX8_text_54 : decode cX8_text 54 = .ok (.ireturn, 1) := by decide +kernel
theorem dX8_day_0 : decode cX8_day 0 = .ok (.iload_n 1, 1) := by decide +kernel
theorem dX8_day_1 : decode cX8_day 1 = .ok (.ifCond .lt 29, 3) := by decide +kernel
theorem dX8_day_4 : decode cX8_day 4 = .ok (.iload_n 1, 1) := by decide +kernel
theorem dX8_day_5 : decode cX8_day 5 = .ok (.bipush 10, 2) := by decide +kernel
theorem dX8_day_7 : decode cX8_day 7 = .ok (.if_icmp .gt 23, 3) := by decide +kernel
theorem dX8_day_10 : decode cX8_day 10 = .ok (.iload_n 2, 1) := by decide +kernel
theorem dX8_day_11 : decode cX8_day 11 = .ok (.ifCond .lt 19, 3) := by decide +kernel
theorem dX8_day_14 : decode cX8_day 14 = .ok (.iload_n 2, 1) := by decide +kernel
theorem dX8_day_15 : decode cX8_day 15 = .ok (.bipush 10, 2) := by decide +kernel
theorem dX8_day_17 : decode cX8_day 17 = .ok (.if_icmp .gt 13, 3) := by decide +kernel
theorem dX8_day_20 : decode cX8_day 20 = .ok (.aload_n 0, 1) := by decide +kernel
theorem dX8_day_21 : decode cX8_day 21 = .ok (.getfield 84, 3) := by decide +kernel
theorem dX8_day_24 : decode cX8_day 24 = .ok (.sipush 357, 3) := by decide +kernel
theorem dX8_day_27 : decode cX8_day 27 = .ok (.if_icmp .lt 5, 3) := by decide +kernel
theorem dX8_day_30 : decode cX8_day 30 = .ok (.iconst (-1), 1) := by decide +kernel
theorem dX8_day_31 : decode cX8_day 31 = .ok (.ireturn, 1) := by decide +kernel
theorem dX8_day_32 : decode cX8_day 32 = .ok (.aload_n 0, 1) := by decide +kernel
theorem dX8_day_33 : decode cX8_day 33 = .ok (.getfield 84, 3) := by decide +kernel
theorem dX8_day_36 : decode cX8_day 36 = .ok (.istore_n 3, 1) := by decide +kernel
theorem dX8_day_37 : decode cX8_day 37 = .ok (.aload_n 0, 1) := by decide +kernel
theorem dX8_day_38 : decode cX8_day 38 = .ok (.iload_n 3, 1) := by decide +kernel
theorem dX8_day_39 : decode cX8_day 39 = .ok (.bipush 7, 2) := by decide +kernel
theorem dX8_day_41 : decode cX8_day 41 = .ok (.idiv, 1) := by decide +kernel
theorem dX8_day_42 : decode cX8_day 42 = .ok (.invokevirtual 101, 3) := by decide +kernel
theorem dX8_day_45 : decode cX8_day 45 = .ok (.iload_n 3, 1) := by decide +kernel
theorem dX8_day_46 : decode cX8_day 46 = .ok (.bipush 7, 2) := by decide +kernel
theorem dX8_day_48 : decode cX8_day 48 = .ok (.irem, 1) := by decide +kernel
theorem dX8_day_49 : decode cX8_day 49 = .ok (.ifCond .ne 7, 3) := by decide +kernel
theorem dX8_day_52 : decode cX8_day 52 = .ok (.aload_n 0, 1) := by decide +kernel
theorem dX8_day_53 : decode cX8_day 53 = .ok (.invokevirtual 136, 3) := by decide +kernel
theorem dX8_day_56 : decode cX8_day 56 = .ok (.aload_n 0, 1) := by decide +kernel
theorem dX8_day_57 : decode cX8_day 57 = .ok (.getfield 36, 3) := by decide +kernel
theorem dX8_day_60 : decode cX8_day 60 = .ok (.iconst 0, 1) := by decide +kernel
theorem dX8_day_61 : decode cX8_day 61 = .ok (.iload_n 2, 1) := by decide +kernel
theorem dX8_day_62 : decode cX8_day 62 = .ok (.iastore, 1) := by decide +kernel
theorem dX8_day_63 : decode cX8_day 63 = .ok (.aload_n 0, 1) := by decide +kernel
theorem dX8_day_64 : decode cX8_day 64 = .ok (.getfield 36, 3) := by decide +kernel
theorem dX8_day_67 : decode cX8_day 67 = .ok (.iconst 1, 1) := by decide +kernel
theorem dX8_day_68 : decode cX8_day 68 = .ok (.iload_n 1, 1) := by decide +kernel
theorem dX8_day_69 : decode cX8_day 69 = .ok (.iastore, 1) := by decide +kernel
theorem dX8_day_70 : decode cX8_day 70 = .ok (.aload_n 0, 1) := by decide +kernel
theorem dX8_day_71 : decode cX8_day 71 = .ok (.getfield 36, 3) := by decide +kernel
theorem dX8_day_74 : decode cX8_day 74 = .ok (.iconst 5, 1) := by decide +kernel
theorem dX8_day_75 : decode cX8_day 75 = .ok (.iload_n 3, 1) := by decide +kernel
theorem dX8_day_76 : decode cX8_day 76 = .ok (.bipush 7, 2) := by decide +kernel
theorem dX8_day_78 : decode cX8_day 78 = .ok (.irem, 1) := by decide +kernel
theorem dX8_day_79 : decode cX8_day 79 = .ok (.iastore, 1) := by decide +kernel
theorem dX8_day_80 : decode cX8_day 80 = .ok (.iconst 0, 1) := by decide +kernel
theorem dX8_day_81 : decode cX8_day 81 = .ok (.istore 4, 2) := by decide +kernel
theorem dX8_day_83 : decode cX8_day 83 = .ok (.iload 4, 2) := by decide +kernel
theorem dX8_day_85 : decode cX8_day 85 = .ok (.iconst 4, 1) := by decide +kernel
theorem dX8_day_86 : decode cX8_day 86 = .ok (.if_icmp .ge 36, 3) := by decide +kernel
theorem dX8_day_89 : decode cX8_day 89 = .ok (.iconst 0, 1) := by decide +kernel
theorem dX8_day_90 : decode cX8_day 90 = .ok (.istore 5, 2) := by decide +kernel
theorem dX8_day_92 : decode cX8_day 92 = .ok (.iload 5, 2) := by decide +kernel
theorem dX8_day_94 : decode cX8_day 94 = .ok (.aload_n 0, 1) := by decide +kernel
theorem dX8_day_95 : decode cX8_day 95 = .ok (.getfield 77, 3) := by decide +kernel
theorem dX8_day_98 : decode cX8_day 98 = .ok (.if_icmp .ge 18, 3) := by decide +kernel
theorem dX8_day_101 : decode cX8_day 101 = .ok (.aload_n 0, 1) := by decide +kernel
theorem dX8_day_102 : decode cX8_day 102 = .ok (.iload_n 3, 1) := by decide +kernel
theorem dX8_day_103 : decode cX8_day 103 = .ok (.iload 4, 2) := by decide +kernel
theorem dX8_day_105 : decode cX8_day 105 = .ok (.iload 5, 2) := by decide +kernel
theorem dX8_day_107 : decode cX8_day 107 = .ok (.invokevirtual 139, 3) := by decide +kernel
theorem dX8_day_110 : decode cX8_day 110 = .ok (.iinc 5 1, 3) := by decide +kernel
theorem dX8_day_113 : decode cX8_day 113 = .ok (.goto (-21), 3) := by decide +kernel
theorem dX8_day_116 : decode cX8_day 116 = .ok (.iinc 4 1, 3) := by decide +kernel
theorem dX8_day_119 : decode cX8_day 119 = .ok (.goto (-36), 3) := by decide +kernel
theorem dX8_day_122 : decode cX8_day 122 = .ok (.iconst 0, 1) := by decide +kernel
theorem dX8_day_123 : decode cX8_day 123 = .ok (.istore 4, 2) := by decide +kernel
theorem dX8_day_125 : decode cX8_day 125 = .ok (.iload 4, 2) := by decide +kernel
theorem dX8_day_127 : decode cX8_day 127 = .ok (.aload_n 0, 1) := by decide +kernel
theorem dX8_day_128 : decode cX8_day 128 = .ok (.getfield 77, 3) := by decide +kernel
theorem dX8_day_131 : decode cX8_day 131 = .ok (.if_icmp .ge 39, 3) := by decide +kernel
theorem dX8_day_134 : decode cX8_day 134 = .ok (.aload_n 0, 1) := by decide +kernel
theorem dX8_day_135 : decode cX8_day 135 = .ok (.getfield 11, 3) := by decide +kernel
theorem dX8_day_138 : decode cX8_day 138 = .ok (.iload 4, 2) := by decide +kernel
theorem dX8_day_140 : decode cX8_day 140 = .ok (.aaload, 1) := by decide +kernel
theorem dX8_day_141 : decode cX8_day 141 = .ok (.getfield 143, 3) := by decide +kernel
theorem dX8_day_144 : decode cX8_day 144 = .ok (.iload_n 1, 1) := by decide +kernel
theorem dX8_day_145 : decode cX8_day 145 = .ok (.iload_n 2, 1) := by decide +kernel
theorem dX8_day_146 : decode cX8_day 146 = .ok (.invokevirtual 147, 3) := by decide +kernel
theorem dX8_day_149 : decode cX8_day 149 = .ok (.aload_n 0, 1) := by decide +kernel
theorem dX8_day_150 : decode cX8_day 150 = .ok (.getfield 11, 3) := by decide +kernel
theorem dX8_day_153 : decode cX8_day 153 = .ok (.iload 4, 2) := by decide +kernel
theorem dX8_day_155 : decode cX8_day 155 = .ok (.aaload, 1) := by decide +kernel
theorem dX8_day_156 : decode cX8_day 156 = .ok (.getfield 153, 3) := by decide +kernel
theorem dX8_day_159 : decode cX8_day 159 = .ok (.iload_n 1, 1) := by decide +kernel
theorem dX8_day_160 : decode cX8_day 160 = .ok (.iload_n 2, 1) := by decide +kernel
theorem dX8_day_161 : decode cX8_day 161 = .ok (.invokevirtual 147, 3) := by decide +kernel
theorem dX8_day_164 : decode cX8_day 164 = .ok (.iinc 4 1, 3) := by decide +kernel
theorem dX8_day_167 : decode cX8_day 167 = .ok (.goto (-42), 3) := by decide +kernel
theorem dX8_day_170 : decode cX8_day 170 = .ok (.aload_n 0, 1) := by decide +kernel
theorem dX8_day_171 : decode cX8_day 171 = .ok (.dup, 1) := by decide +kernel
theorem dX8_day_172 : decode cX8_day 172 = .ok (.getfield 84, 3) := by decide +kernel
theorem dX8_day_175 : decode cX8_day 175 = .ok (.iconst 1, 1) := by decide +kernel
theorem dX8_day_176 : decode cX8_day 176 = .ok (.iadd, 1) := by decide +kernel
theorem dX8_day_177 : decode cX8_day 177 = .ok (.putfield 84, 3) := by decide +kernel
theorem dX8_day_180 : decode cX8_day 180 = .ok (.iload_n 3, 1) := by decide +kernel
theorem dX8_day_181 : decode cX8_day 181 = .ok (.ireturn, 1) := by decide +kernel
theorem dX8_turn_0 : decode cX8_turn 0 = .ok (.aload_n 0, 1) := by decide +kernel
theorem dX8_turn_1 : decode cX8_turn 1 = .ok (.iload_n 1, 1) := by decide +kernel
theorem dX8_turn_2 : decode cX8_turn 2 = .ok (.invokevirtual 156, 3) := by decide +kernel
theorem dX8_turn_5 : decode cX8_turn 5 = .ok (.ifCond .ne 5, 3) := by decide +kernel
theorem dX8_turn_8 : decode cX8_turn 8 = .ok (.iconst (-1), 1) := by decide +kernel
theorem dX8_turn_9 : decode cX8_turn 9 = .ok (.ireturn, 1) := by decide +kernel
theorem dX8_turn_10 : decode cX8_turn 10 = .ok (.aload_n 0, 1) := by decide +kernel
theorem dX8_turn_11 : decode cX8_turn 11 = .ok (.getfield 11, 3) := by decide +kernel
theorem dX8_turn_14 : decode cX8_turn 14 = .ok (.iload_n 1, 1) := by decide +kernel
theorem dX8_turn_15 : decode cX8_turn 15 = .ok (.aaload, 1) := by decide +kernel
theorem dX8_turn_16 : decode cX8_turn 16 = .ok (.astore_n 2, 1) := by decide +kernel
theorem dX8_turn_17 : decode cX8_turn 17 = .ok (.aload_n 2, 1) := by decide +kernel
theorem dX8_turn_18 : decode cX8_turn 18 = .ok (.getfield 153, 3) := by decide +kernel
theorem dX8_turn_21 : decode cX8_turn 21 = .ok (.aload_n 2, 1) := by decide +kernel
theorem dX8_turn_22 : decode cX8_turn 22 = .ok (.getfield 143, 3) := by decide +kernel
theorem dX8_turn_25 : decode cX8_turn 25 = .ok (.getfield 159, 3) := by decide +kernel
theorem dX8_turn_28 : decode cX8_turn 28 = .ok (.putfield 159, 3) := by decide +kernel
theorem dX8_turn_31 : decode cX8_turn 31 = .ok (.aload_n 2, 1) := by decide +kernel
theorem dX8_turn_32 : decode cX8_turn 32 = .ok (.getfield 143, 3) := by decide +kernel
theorem dX8_turn_35 : decode cX8_turn 35 = .ok (.iconst 1, 1) := by decide +kernel
theorem dX8_turn_36 : decode cX8_turn 36 = .ok (.aload_n 2, 1) := by decide +kernel
theorem dX8_turn_37 : decode cX8_turn 37 = .ok (.getfield 143, 3) := by decide +kernel
theorem dX8_turn_40 : decode cX8_turn 40 = .ok (.getfield 159, 3) := by decide +kernel
theorem dX8_turn_43 : decode cX8_turn 43 = .ok (.isub, 1) := by decide +kernel
theorem dX8_turn_44 : decode cX8_turn 44 = .ok (.putfield 159, 3) := by decide +kernel
theorem dX8_turn_47 : decode cX8_turn 47 = .ok (.aload_n 2, 1) := by decide +kernel
theorem dX8_turn_48 : decode cX8_turn 48 = .ok (.getfield 143, 3) := by decide +kernel
theorem dX8_turn_51 : decode cX8_turn 51 = .ok (.getfield 159, 3) := by decide +kernel
theorem dX8_turn_54 : decode cX8_turn 54 = .ok (.ireturn, 1) := by decide +kernel
theorem dX8_grass_0 : decode cX8_grass 0 = .ok (.aload_n 0, 1) := by decide +kernel
theorem dX8_grass_1 : decode cX8_grass 1 = .ok (.iload_n 1, 1) := by decide +kernel
theorem dX8_grass_2 : decode cX8_grass 2 = .ok (.invokevirtual 156, 3) := by decide +kernel
theorem dX8_grass_5 : decode cX8_grass 5 = .ok (.ifCond .eq 22, 3) := by decide +kernel
theorem dX8_grass_8 : decode cX8_grass 8 = .ok (.iload_n 2, 1) := by decide +kernel
theorem dX8_grass_9 : decode cX8_grass 9 = .ok (.ifCond .lt 18, 3) := by decide +kernel
theorem dX8_grass_12 : decode cX8_grass 12 = .ok (.iload_n 2, 1) := by decide +kernel
theorem dX8_grass_13 : decode cX8_grass 13 = .ok (.iconst 4, 1) := by decide +kernel
theorem dX8_grass_14 : decode cX8_grass 14 = .ok (.if_icmp .ge 13, 3) := by decide +kernel
theorem dX8_grass_17 : decode cX8_grass 17 = .ok (.iload_n 3, 1) := by decide +kernel
theorem dX8_grass_18 : decode cX8_grass 18 = .ok (.ifCond .lt 9, 3) := by decide +kernel
theorem dX8_grass_21 : decode cX8_grass 21 = .ok (.iload_n 3, 1) := by decide +kernel
theorem dX8_grass_22 : decode cX8_grass 22 = .ok (.bipush 6, 2) := by decide +kernel
theorem dX8_grass_24 : decode cX8_grass 24 = .ok (.if_icmp .lt 5, 3) := by decide +kernel
theorem dX8_grass_27 : decode cX8_grass 27 = .ok (.iconst (-1), 1) := by decide +kernel
theorem dX8_grass_28 : decode cX8_grass 28 = .ok (.ireturn, 1) := by decide +kernel
theorem dX8_grass_29 : decode cX8_grass 29 = .ok (.aload_n 0, 1) := by decide +kernel
theorem dX8_grass_30 : decode cX8_grass 30 = .ok (.getfield 11, 3) := by decide +kernel
theorem dX8_grass_33 : decode cX8_grass 33 = .ok (.iload_n 1, 1) := by decide +kernel
theorem dX8_grass_34 : decode cX8_grass 34 = .ok (.aaload, 1) := by decide +kernel
theorem dX8_grass_35 : decode cX8_grass 35 = .ok (.getfield 143, 3) := by decide +kernel
theorem dX8_grass_38 : decode cX8_grass 38 = .ok (.getfield 162, 3) := by decide +kernel
theorem dX8_grass_41 : decode cX8_grass 41 = .ok (.iload_n 2, 1) := by decide +kernel
theorem dX8_grass_42 : decode cX8_grass 42 = .ok (.bipush 6, 2) := by decide +kernel
theorem dX8_grass_44 : decode cX8_grass 44 = .ok (.imul, 1) := by decide +kernel
theorem dX8_grass_45 : decode cX8_grass 45 = .ok (.iload_n 3, 1) := by decide +kernel
theorem dX8_grass_46 : decode cX8_grass 46 = .ok (.iadd, 1) := by decide +kernel
theorem dX8_grass_47 : decode cX8_grass 47 = .ok (.iaload, 1) := by decide +kernel
theorem dX8_grass_48 : decode cX8_grass 48 = .ok (.ireturn, 1) := by decide +kernel
theorem dX8_look_0 : decode cX8_look 0 = .ok (.iload_n 1, 1) := by decide +kernel
theorem dX8_look_1 : decode cX8_look 1 = .ok (.ifCond .lt 20, 3) := by decide +kernel
theorem dX8_look_4 : decode cX8_look 4 = .ok (.iload_n 1, 1) := by decide +kernel
theorem dX8_look_5 : decode cX8_look 5 = .ok (.aload_n 0, 1) := by decide +kernel
theorem dX8_look_6 : decode cX8_look 6 = .ok (.getfield 81, 3) := by decide +kernel
theorem dX8_look_9 : decode cX8_look 9 = .ok (.if_icmp .ge 12, 3) := by decide +kernel
theorem dX8_look_12 : decode cX8_look 12 = .ok (.iload_n 2, 1) := by decide +kernel
theorem dX8_look_13 : decode cX8_look 13 = .ok (.ifCond .lt 8, 3) := by decide +kernel
theorem dX8_look_16 : decode cX8_look 16 = .ok (.iload_n 2, 1) := by decide +kernel
theorem dX8_look_17 : decode cX8_look 17 = .ok (.iconst 4, 1) := by decide +kernel
theorem dX8_look_18 : decode cX8_look 18 = .ok (.if_icmp .le 13, 3) := by decide +kernel
theorem dX8_look_21 : decode cX8_look 21 = .ok (.new 165, 3) := by decide +kernel
theorem dX8_look_24 : decode cX8_look 24 = .ok (.dup, 1) := by decide +kernel
theorem dX8_look_25 : decode cX8_look 25 = .ok (.ldc 167, 2) := by decide +kernel
theorem dX8_look_27 : decode cX8_look 27 = .ok (.invokespecial 169, 3) := by decide +kernel
theorem dX8_look_30 : decode cX8_look 30 = .ok (.athrow, 1) := by decide +kernel
theorem dX8_look_31 : decode cX8_look 31 = .ok (.aload_n 0, 1) := by decide +kernel
theorem dX8_look_32 : decode cX8_look 32 = .ok (.getfield 17, 3) := by decide +kernel
theorem dX8_look_35 : decode cX8_look 35 = .ok (.iload_n 1, 1) := by decide +kernel
theorem dX8_look_36 : decode cX8_look 36 = .ok (.aaload, 1) := by decide +kernel
theorem dX8_look_37 : decode cX8_look 37 = .ok (.astore_n 3, 1) := by decide +kernel
theorem dX8_look_38 : decode cX8_look 38 = .ok (.iload_n 2, 1) := by decide +kernel
theorem dX8_look_39 : decode cX8_look 39 = .ok (.tableswitch 105 0 3 #[29, 34, 62, 85], 29) := by decide +kernel
theorem dX8_look_68 : decode cX8_look 68 = .ok (.aload_n 3, 1) := by decide +kernel
theorem dX8_look_69 : decode cX8_look 69 = .ok (.getfield 107, 3) := by decide +kernel
theorem dX8_look_72 : decode cX8_look 72 = .ok (.ireturn, 1) := by decide +kernel
theorem dX8_look_73 : decode cX8_look 73 = .ok (.aload_n 3, 1) := by decide +kernel
theorem dX8_look_74 : decode cX8_look 74 = .ok (.getfield 172, 3) := by decide +kernel
theorem dX8_look_77 : decode cX8_look 77 = .ok (.iconst (-1), 1) := by decide +kernel
theorem dX8_look_78 : decode cX8_look 78 = .ok (.if_icmp .ne 7, 3) := by decide +kernel
theorem dX8_look_81 : decode cX8_look 81 = .ok (.iconst (-1), 1) := by decide +kernel
theorem dX8_look_82 : decode cX8_look 82 = .ok (.goto 18, 3) := by decide +kernel
theorem dX8_look_85 : decode cX8_look 85 = .ok (.aload_n 3, 1) := by decide +kernel
theorem dX8_look_86 : decode cX8_look 86 = .ok (.getfield 104, 3) := by decide +kernel
theorem dX8_look_89 : decode cX8_look 89 = .ok (.bipush 7, 2) := by decide +kernel
theorem dX8_look_91 : decode cX8_look 91 = .ok (.imul, 1) := by decide +kernel
theorem dX8_look_92 : decode cX8_look 92 = .ok (.aload_n 3, 1) := by decide +kernel
theorem dX8_look_93 : decode cX8_look 93 = .ok (.getfield 172, 3) := by decide +kernel
theorem dX8_look_96 : decode cX8_look 96 = .ok (.bipush 24, 2) := by decide +kernel
theorem dX8_look_98 : decode cX8_look 98 = .ok (.idiv, 1) := by decide +kernel
theorem dX8_look_99 : decode cX8_look 99 = .ok (.iadd, 1) := by decide +kernel
theorem dX8_look_100 : decode cX8_look 100 = .ok (.ireturn, 1) := by decide +kernel
theorem dX8_look_101 : decode cX8_look 101 = .ok (.aload_n 3, 1) := by decide +kernel
theorem dX8_look_102 : decode cX8_look 102 = .ok (.getfield 172, 3) := by decide +kernel
theorem dX8_look_105 : decode cX8_look 105 = .ok (.iconst (-1), 1) := by decide +kernel
theorem dX8_look_106 : decode cX8_look 106 = .ok (.if_icmp .ne 7, 3) := by decide +kernel
theorem dX8_look_109 : decode cX8_look 109 = .ok (.iconst (-1), 1) := by decide +kernel
theorem dX8_look_110 : decode cX8_look 110 = .ok (.goto 13, 3) := by decide +kernel
theorem dX8_look_113 : decode cX8_look 113 = .ok (.aload_n 3, 1) := by decide +kernel
theorem dX8_look_114 : decode cX8_look 114 = .ok (.getfield 172, 3) := by decide +kernel
theorem dX8_look_117 : decode cX8_look 117 = .ok (.bipush 24, 2) := by decide +kernel
theorem dX8_look_119 : decode cX8_look 119 = .ok (.irem, 1) := by decide +kernel
theorem dX8_look_120 : decode cX8_look 120 = .ok (.bipush 6, 2) := by decide +kernel
theorem dX8_look_122 : decode cX8_look 122 = .ok (.idiv, 1) := by decide +kernel
theorem dX8_look_123 : decode cX8_look 123 = .ok (.ireturn, 1) := by decide +kernel
theorem dX8_look_124 : decode cX8_look 124 = .ok (.aload_n 3, 1) := by decide +kernel
theorem dX8_look_125 : decode cX8_look 125 = .ok (.getfield 172, 3) := by decide +kernel
theorem dX8_look_128 : decode cX8_look 128 = .ok (.iconst (-1), 1) := by decide +kernel
theorem dX8_look_129 : decode cX8_look 129 = .ok (.if_icmp .ne 7, 3) := by decide +kernel
theorem dX8_look_132 : decode cX8_look 132 = .ok (.iconst (-1), 1) := by decide +kernel
theorem dX8_look_133 : decode cX8_look 133 = .ok (.goto 10, 3) := by decide +kernel
theorem dX8_look_136 : decode cX8_look 136 = .ok (.aload_n 3, 1) := by decide +kernel
theorem dX8_look_137 : decode cX8_look 137 = .ok (.getfield 172, 3) := by decide +kernel
theorem dX8_look_140 : decode cX8_look 140 = .ok (.bipush 6, 2) := by decide +kernel
theorem dX8_look_142 : decode cX8_look 142 = .ok (.irem, 1) := by decide +kernel
theorem dX8_look_143 : decode cX8_look 143 = .ok (.ireturn, 1) := by decide +kernel
theorem dX8_look_144 : decode cX8_look 144 = .ok (.aload_n 3, 1) := by decide +kernel
theorem dX8_look_145 : decode cX8_look 145 = .ok (.getfield 175, 3) := by decide +kernel
theorem dX8_look_148 : decode cX8_look 148 = .ok (.ireturn, 1) := by decide +kernel
theorem dX8_at_0 : decode cX8_at 0 = .ok (.iload_n 1, 1) := by decide +kernel
theorem dX8_at_1 : decode cX8_at 1 = .ok (.ifCond .lt 27, 3) := by decide +kernel
theorem dX8_at_4 : decode cX8_at 4 = .ok (.iload_n 1, 1) := by decide +kernel
theorem dX8_at_5 : decode cX8_at 5 = .ok (.sipush 357, 3) := by decide +kernel
theorem dX8_at_8 : decode cX8_at 8 = .ok (.if_icmp .ge 20, 3) := by decide +kernel
theorem dX8_at_11 : decode cX8_at 11 = .ok (.iload_n 2, 1) := by decide +kernel
theorem dX8_at_12 : decode cX8_at 12 = .ok (.ifCond .lt 16, 3) := by decide +kernel
theorem dX8_at_15 : decode cX8_at 15 = .ok (.iload_n 2, 1) := by decide +kernel
theorem dX8_at_16 : decode cX8_at 16 = .ok (.iconst 4, 1) := by decide +kernel
theorem dX8_at_17 : decode cX8_at 17 = .ok (.if_icmp .ge 11, 3) := by decide +kernel
theorem dX8_at_20 : decode cX8_at 20 = .ok (.aload_n 0, 1) := by decide +kernel
theorem dX8_at_21 : decode cX8_at 21 = .ok (.iload_n 3, 1) := by decide +kernel
theorem dX8_at_22 : decode cX8_at 22 = .ok (.invokevirtual 156, 3) := by decide +kernel
theorem dX8_at_25 : decode cX8_at 25 = .ok (.ifCond .ne 5, 3) := by decide +kernel
theorem dX8_at_28 : decode cX8_at 28 = .ok (.iconst (-1), 1) := by decide +kernel
theorem dX8_at_29 : decode cX8_at 29 = .ok (.ireturn, 1) := by decide +kernel
theorem dX8_at_30 : decode cX8_at 30 = .ok (.aload_n 0, 1) := by decide +kernel
theorem dX8_at_31 : decode cX8_at 31 = .ok (.iload_n 1, 1) := by decide +kernel
theorem dX8_at_32 : decode cX8_at 32 = .ok (.bipush 7, 2) := by decide +kernel
theorem dX8_at_34 : decode cX8_at 34 = .ok (.idiv, 1) := by decide +kernel
theorem dX8_at_35 : decode cX8_at 35 = .ok (.iload_n 1, 1) := by decide +kernel
theorem dX8_at_36 : decode cX8_at 36 = .ok (.iload_n 2, 1) := by decide +kernel
theorem dX8_at_37 : decode cX8_at 37 = .ok (.iload_n 3, 1) := by decide +kernel
theorem dX8_at_38 : decode cX8_at 38 = .ok (.invokestatic 178, 3) := by decide +kernel
theorem dX8_at_41 : decode cX8_at 41 = .ok (.invokevirtual 182, 3) := by decide +kernel
theorem dX8_at_44 : decode cX8_at 44 = .ok (.ireturn, 1) := by decide +kernel
theorem dX8_club_0 : decode cX8_club 0 = .ok (.iload_n 1, 1) := by decide +kernel
theorem dX8_club_1 : decode cX8_club 1 = .ok (.invokestatic 90, 3) := by decide +kernel
theorem dX8_club_4 : decode cX8_club 4 = .ok (.ifCond .ne 5, 3) := by decide +kernel
theorem dX8_club_7 : decode cX8_club 7 = .ok (.iconst (-1), 1) := by decide +kernel
theorem dX8_club_8 : decode cX8_club 8 = .ok (.ireturn, 1) := by decide +kernel
theorem dX8_club_9 : decode cX8_club 9 = .ok (.iload_n 2, 1) := by decide +kernel
theorem dX8_club_10 : decode cX8_club 10 = .ok (.tableswitch 47 0 2 #[26, 33, 40], 26) := by decide +kernel
theorem dX8_club_36 : decode cX8_club 36 = .ok (.aload_n 0, 1) := by decide +kernel
theorem dX8_club_37 : decode cX8_club 37 = .ok (.getfield 25, 3) := by decide +kernel
theorem dX8_club_40 : decode cX8_club 40 = .ok (.iload_n 1, 1) := by decide +kernel
theorem dX8_club_41 : decode cX8_club 41 = .ok (.iaload, 1) := by decide +kernel
theorem dX8_club_42 : decode cX8_club 42 = .ok (.ireturn, 1) := by decide +kernel
theorem dX8_club_43 : decode cX8_club 43 = .ok (.aload_n 0, 1) := by decide +kernel
theorem dX8_club_44 : decode cX8_club 44 = .ok (.getfield 28, 3) := by decide +kernel
theorem dX8_club_47 : decode cX8_club 47 = .ok (.iload_n 1, 1) := by decide +kernel
theorem dX8_club_48 : decode cX8_club 48 = .ok (.iaload, 1) := by decide +kernel
theorem dX8_club_49 : decode cX8_club 49 = .ok (.ireturn, 1) := by decide +kernel
theorem dX8_club_50 : decode cX8_club 50 = .ok (.aload_n 0, 1) := by decide +kernel
theorem dX8_club_51 : decode cX8_club 51 = .ok (.getfield 31, 3) := by decide +kernel
theorem dX8_club_54 : decode cX8_club 54 = .ok (.iload_n 1, 1) := by decide +kernel
theorem dX8_club_55 : decode cX8_club 55 = .ok (.iaload, 1) := by decide +kernel
