theorem dWord_letterOf_0 : decode cWord_letterOf 0 = .ok (.iload_n 0, 1) := by decide +kernel
theorem dWord_letterOf_1 : decode cWord_letterOf 1 = .ok (.bipush 65, 2) := by decide +kernel
theorem dWord_letterOf_3 : decode cWord_letterOf 3 = .ok (.if_icmp .lt 16, 3) := by decide +kernel
theorem dWord_letterOf_6 : decode cWord_letterOf 6 = .ok (.iload_n 0, 1) := by decide +kernel
theorem dWord_letterOf_7 : decode cWord_letterOf 7 = .ok (.bipush 90, 2) := by decide +kernel
theorem dWord_letterOf_9 : decode cWord_letterOf 9 = .ok (.if_icmp .gt 10, 3) := by decide +kernel
theorem dWord_letterOf_12 : decode cWord_letterOf 12 = .ok (.iload_n 0, 1) := by decide +kernel
theorem dWord_letterOf_13 : decode cWord_letterOf 13 = .ok (.bipush 65, 2) := by decide +kernel
theorem dWord_letterOf_15 : decode cWord_letterOf 15 = .ok (.isub, 1) := by decide +kernel
theorem dWord_letterOf_16 : decode cWord_letterOf 16 = .ok (.iconst 1, 1) := by decide +kernel
theorem dWord_letterOf_17 : decode cWord_letterOf 17 = .ok (.iadd, 1) := by decide +kernel
theorem dWord_letterOf_18 : decode cWord_letterOf 18 = .ok (.ireturn, 1) := by decide +kernel
theorem dWord_letterOf_19 : decode cWord_letterOf 19 = .ok (.iload_n 0, 1) := by decide +kernel
theorem dWord_letterOf_20 : decode cWord_letterOf 20 = .ok (.bipush 97, 2) := by decide +kernel
theorem dWord_letterOf_22 : decode cWord_letterOf 22 = .ok (.if_icmp .lt 16, 3) := by decide +kernel
theorem dWord_letterOf_25 : decode cWord_letterOf 25 = .ok (.iload_n 0, 1) := by decide +kernel
theorem dWord_letterOf_26 : decode cWord_letterOf 26 = .ok (.bipush 122, 2) := by decide +kernel
theorem dWord_letterOf_28 : decode cWord_letterOf 28 = .ok (.if_icmp .gt 10, 3) := by decide +kernel
theorem dWord_letterOf_31 : decode cWord_letterOf 31 = .ok (.iload_n 0, 1) := by decide +kernel
theorem dWord_letterOf_32 : decode cWord_letterOf 32 = .ok (.bipush 96, 2) := by decide +kernel
theorem dWord_letterOf_34 : decode cWord_letterOf 34 = .ok (.isub, 1) := by decide +kernel
theorem dWord_letterOf_35 : decode cWord_letterOf 35 = .ok (.goto 4, 3) := by decide +kernel
theorem dWord_letterOf_38 : decode cWord_letterOf 38 = .ok (.iconst 0, 1) := by decide +kernel
theorem dWord_letterOf_39 : decode cWord_letterOf 39 = .ok (.ireturn, 1) := by decide +kernel
theorem dWord_shift_0 : decode cWord_shift 0 = .ok (.iconst 5, 1) := by decide +kernel
theorem dWord_shift_1 : decode cWord_shift 1 = .ok (.bipush 11, 2) := by decide +kernel
theorem dWord_shift_3 : decode cWord_shift 3 = .ok (.iload_n 0, 1) := by decide +kernel
theorem dWord_shift_4 : decode cWord_shift 4 = .ok (.isub, 1) := by decide +kernel
theorem dWord_shift_5 : decode cWord_shift 5 = .ok (.imul, 1) := by decide +kernel
theorem dWord_shift_6 : decode cWord_shift 6 = .ok (.ireturn, 1) := by decide +kernel
theorem dWord_with_0 : decode cWord_with 0 = .ok (.lload_n 0, 1) := by decide +kernel
theorem dWord_with_1 : decode cWord_with 1 = .ok (.iload_n 3, 1) := by decide +kernel
theorem dWord_with_2 : decode cWord_with 2 = .ok (.i2l, 1) := by decide +kernel
theorem dWord_with_3 : decode cWord_with 3 = .ok (.iload_n 2, 1) := by decide +kernel
theorem dWord_with_4 : decode cWord_with 4 = .ok (.invokestatic 11, 3) := by decide +kernel
theorem dWord_with_7 : decode cWord_with 7 = .ok (.lshl, 1) := by decide +kernel
theorem dWord_with_8 : decode cWord_with 8 = .ok (.lor, 1) := by decide +kernel
theorem dWord_with_9 : decode cWord_with 9 = .ok (.lreturn, 1) := by decide +kernel
theorem dWord_letterAt_0 : decode cWord_letterAt 0 = .ok (.iload_n 2, 1) := by decide +kernel
theorem dWord_letterAt_1 : decode cWord_letterAt 1 = .ok (.ifCond .lt 9, 3) := by decide +kernel
theorem dWord_letterAt_4 : decode cWord_letterAt 4 = .ok (.iload_n 2, 1) := by decide +kernel
theorem dWord_letterAt_5 : decode cWord_letterAt 5 = .ok (.bipush 12, 2) := by decide +kernel
theorem dWord_letterAt_7 : decode cWord_letterAt 7 = .ok (.if_icmp .lt 7, 3) := by decide +kernel
theorem dWord_letterAt_10 : decode cWord_letterAt 10 = .ok (.iconst 0, 1) := by decide +kernel
theorem dWord_letterAt_11 : decode cWord_letterAt 11 = .ok (.goto 13, 3) := by decide +kernel
theorem dWord_letterAt_14 : decode cWord_letterAt 14 = .ok (.lload_n 0, 1) := by decide +kernel
theorem dWord_letterAt_15 : decode cWord_letterAt 15 = .ok (.iload_n 2, 1) := by decide +kernel
theorem dWord_letterAt_16 : decode cWord_letterAt 16 = .ok (.invokestatic 11, 3) := by decide +kernel
theorem dWord_letterAt_19 : decode cWord_letterAt 19 = .ok (.lushr, 1) := by decide +kernel
theorem dWord_letterAt_20 : decode cWord_letterAt 20 = .ok (.l2i, 1) := by decide +kernel
theorem dWord_letterAt_21 : decode cWord_letterAt 21 = .ok (.bipush 31, 2) := by decide +kernel
theorem dWord_letterAt_23 : decode cWord_letterAt 23 = .ok (.iand, 1) := by decide +kernel
theorem dWord_letterAt_24 : decode cWord_letterAt 24 = .ok (.ireturn, 1) := by decide +kernel
theorem dWord_signAt_0 : decode cWord_signAt 0 = .ok (.lload_n 0, 1) := by decide +kernel
theorem dWord_signAt_1 : decode cWord_signAt 1 = .ok (.iload_n 2, 1) := by decide +kernel
theorem dWord_signAt_2 : decode cWord_signAt 2 = .ok (.invokestatic 15, 3) := by decide +kernel
theorem dWord_signAt_5 : decode cWord_signAt 5 = .ok (.istore_n 3, 1) := by decide +kernel
theorem dWord_signAt_6 : decode cWord_signAt 6 = .ok (.iload_n 3, 1) := by decide +kernel
theorem dWord_signAt_7 : decode cWord_signAt 7 = .ok (.ifCond .ne 7, 3) := by decide +kernel
theorem dWord_signAt_10 : decode cWord_signAt 10 = .ok (.iconst 0, 1) := by decide +kernel
theorem dWord_signAt_11 : decode cWord_signAt 11 = .ok (.goto 7, 3) := by decide +kernel
theorem dWord_signAt_14 : decode cWord_signAt 14 = .ok (.iload_n 3, 1) := by decide +kernel
theorem dWord_signAt_15 : decode cWord_signAt 15 = .ok (.bipush 96, 2) := by decide +kernel
theorem dWord_signAt_17 : decode cWord_signAt 17 = .ok (.iadd, 1) := by decide +kernel
theorem dWord_signAt_18 : decode cWord_signAt 18 = .ok (.ireturn, 1) := by decide +kernel
theorem dWord_length_0 : decode cWord_length 0 = .ok (.iconst 0, 1) := by decide +kernel
theorem dWord_length_1 : decode cWord_length 1 = .ok (.istore_n 2, 1) := by decide +kernel
theorem dWord_length_2 : decode cWord_length 2 = .ok (.iload_n 2, 1) := by decide +kernel
theorem dWord_length_3 : decode cWord_length 3 = .ok (.bipush 12, 2) := by decide +kernel
theorem dWord_length_5 : decode cWord_length 5 = .ok (.if_icmp .ge 17, 3) := by decide +kernel
theorem dWord_length_8 : decode cWord_length 8 = .ok (.lload_n 0, 1) := by decide +kernel
theorem dWord_length_9 : decode cWord_length 9 = .ok (.iload_n 2, 1) := by decide +kernel
theorem dWord_length_10 : decode cWord_length 10 = .ok (.invokestatic 15, 3) := by decide +kernel
theorem dWord_length_13 : decode cWord_length 13 = .ok (.ifCond .eq 9, 3) := by decide +kernel
theorem dWord_length_16 : decode cWord_length 16 = .ok (.iinc 2 1, 3) := by decide +kernel
theorem dWord_length_19 : decode cWord_length 19 = .ok (.goto (-17), 3) := by decide +kernel
theorem dWord_length_22 : decode cWord_length 22 = .ok (.iload_n 2, 1) := by decide +kernel
theorem dWord_length_23 : decode cWord_length 23 = .ok (.ireturn, 1) := by decide +kernel
theorem dWord_firstLetters_0 : decode cWord_firstLetters 0 = .ok (.iload_n 2, 1) := by decide +kernel
theorem dWord_firstLetters_1 : decode cWord_firstLetters 1 = .ok (.ifCond .gt 5, 3) := by decide +kernel
theorem dWord_firstLetters_4 : decode cWord_firstLetters 4 = .ok (.lconst 0, 1) := by decide +kernel
theorem dWord_firstLetters_5 : decode cWord_firstLetters 5 = .ok (.lreturn, 1) := by decide +kernel
theorem dWord_firstLetters_6 : decode cWord_firstLetters 6 = .ok (.iload_n 2, 1) := by decide +kernel
theorem dWord_firstLetters_7 : decode cWord_firstLetters 7 = .ok (.bipush 12, 2) := by decide +kernel
theorem dWord_firstLetters_9 : decode cWord_firstLetters 9 = .ok (.if_icmp .lt 7, 3) := by decide +kernel
theorem dWord_firstLetters_12 : decode cWord_firstLetters 12 = .ok (.lload_n 0, 1) := by decide +kernel
theorem dWord_firstLetters_13 : decode cWord_firstLetters 13 = .ok (.goto 18, 3) := by decide +kernel
theorem dWord_firstLetters_16 : decode cWord_firstLetters 16 = .ok (.lload_n 0, 1) := by decide +kernel
theorem dWord_firstLetters_17 : decode cWord_firstLetters 17 = .ok (.iload_n 2, 1) := by decide +kernel
theorem dWord_firstLetters_18 : decode cWord_firstLetters 18 = .ok (.iconst 1, 1) := by decide +kernel
theorem dWord_firstLetters_19 : decode cWord_firstLetters 19 = .ok (.isub, 1) := by decide +kernel
theorem dWord_firstLetters_20 : decode cWord_firstLetters 20 = .ok (.invokestatic 11, 3) := by decide +kernel
theorem dWord_firstLetters_23 : decode cWord_firstLetters 23 = .ok (.lushr, 1) := by decide +kernel
theorem dWord_firstLetters_24 : decode cWord_firstLetters 24 = .ok (.iload_n 2, 1) := by decide +kernel
theorem dWord_firstLetters_25 : decode cWord_firstLetters 25 = .ok (.iconst 1, 1) := by decide +kernel
theorem dWord_firstLetters_26 : decode cWord_firstLetters 26 = .ok (.isub, 1) := by decide +kernel
theorem dWord_firstLetters_27 : decode cWord_firstLetters 27 = .ok (.invokestatic 11, 3) := by decide +kernel
theorem dWord_firstLetters_30 : decode cWord_firstLetters 30 = .ok (.lshl, 1) := by decide +kernel
theorem dWord_firstLetters_31 : decode cWord_firstLetters 31 = .ok (.lreturn, 1) := by decide +kernel
theorem dWord_stem_0 : decode cWord_stem 0 = .ok (.lload_n 0, 1) := by decide +kernel
theorem dWord_stem_1 : decode cWord_stem 1 = .ok (.invokestatic 19, 3) := by decide +kernel
theorem dWord_stem_4 : decode cWord_stem 4 = .ok (.istore_n 3, 1) := by decide +kernel
theorem dWord_stem_5 : decode cWord_stem 5 = .ok (.lload_n 0, 1) := by decide +kernel
theorem dWord_stem_6 : decode cWord_stem 6 = .ok (.iload_n 3, 1) := by decide +kernel
theorem dWord_stem_7 : decode cWord_stem 7 = .ok (.iconst 1, 1) := by decide +kernel
theorem dWord_stem_8 : decode cWord_stem 8 = .ok (.isub, 1) := by decide +kernel
theorem dWord_stem_9 : decode cWord_stem 9 = .ok (.invokestatic 15, 3) := by decide +kernel
theorem dWord_stem_12 : decode cWord_stem 12 = .ok (.istore 4, 2) := by decide +kernel
theorem dWord_stem_14 : decode cWord_stem 14 = .ok (.iload_n 2, 1) := by decide +kernel
theorem dWord_stem_15 : decode cWord_stem 15 = .ok (.iconst 1, 1) := by decide +kernel
theorem dWord_stem_16 : decode cWord_stem 16 = .ok (.if_icmp .ne 30, 3) := by decide +kernel
theorem dWord_stem_19 : decode cWord_stem 19 = .ok (.iload 4, 2) := by decide +kernel
theorem dWord_stem_21 : decode cWord_stem 21 = .ok (.bipush 115, 2) := by decide +kernel
theorem dWord_stem_23 : decode cWord_stem 23 = .ok (.invokestatic 23, 3) := by decide +kernel
theorem dWord_stem_26 : decode cWord_stem 26 = .ok (.if_icmp .ne 18, 3) := by decide +kernel
theorem dWord_stem_29 : decode cWord_stem 29 = .ok (.iload_n 3, 1) := by decide +kernel
theorem dWord_stem_30 : decode cWord_stem 30 = .ok (.iconst 3, 1) := by decide +kernel
theorem dWord_stem_31 : decode cWord_stem 31 = .ok (.if_icmp .le 13, 3) := by decide +kernel
theorem dWord_stem_34 : decode cWord_stem 34 = .ok (.lload_n 0, 1) := by decide +kernel
theorem dWord_stem_35 : decode cWord_stem 35 = .ok (.iload_n 3, 1) := by decide +kernel
theorem dWord_stem_36 : decode cWord_stem 36 = .ok (.iconst 1, 1) := by decide +kernel
theorem dWord_stem_37 : decode cWord_stem 37 = .ok (.isub, 1) := by decide +kernel
theorem dWord_stem_38 : decode cWord_stem 38 = .ok (.invokestatic 26, 3) := by decide +kernel
theorem dWord_stem_41 : decode cWord_stem 41 = .ok (.goto 4, 3) := by decide +kernel
theorem dWord_stem_44 : decode cWord_stem 44 = .ok (.lload_n 0, 1) := by decide +kernel
theorem dWord_stem_45 : decode cWord_stem 45 = .ok (.lreturn, 1) := by decide +kernel
theorem dWord_stem_46 : decode cWord_stem 46 = .ok (.iload_n 2, 1) := by decide +kernel
theorem dWord_stem_47 : decode cWord_stem 47 = .ok (.iconst 2, 1) := by decide +kernel
theorem dWord_stem_48 : decode cWord_stem 48 = .ok (.if_icmp .eq 5, 3) := by decide +kernel
theorem dWord_stem_51 : decode cWord_stem 51 = .ok (.lload_n 0, 1) := by decide +kernel
theorem dWord_stem_52 : decode cWord_stem 52 = .ok (.lreturn, 1) := by decide +kernel
theorem dWord_stem_53 : decode cWord_stem 53 = .ok (.iload 4, 2) := by decide +kernel
theorem dWord_stem_55 : decode cWord_stem 55 = .ok (.bipush 110, 2) := by decide +kernel
theorem dWord_stem_57 : decode cWord_stem 57 = .ok (.invokestatic 23, 3) := by decide +kernel
theorem dWord_stem_60 : decode cWord_stem 60 = .ok (.if_icmp .ne 22, 3) := by decide +kernel
theorem dWord_stem_63 : decode cWord_stem 63 = .ok (.lload_n 0, 1) := by decide +kernel
theorem dWord_stem_64 : decode cWord_stem 64 = .ok (.iload_n 3, 1) := by decide +kernel
theorem dWord_stem_65 : decode cWord_stem 65 = .ok (.iconst 2, 1) := by decide +kernel
theorem dWord_stem_66 : decode cWord_stem 66 = .ok (.isub, 1) := by decide +kernel
theorem dWord_stem_67 : decode cWord_stem 67 = .ok (.invokestatic 15, 3) := by decide +kernel
theorem dWord_stem_70 : decode cWord_stem 70 = .ok (.bipush 101, 2) := by decide +kernel
theorem dWord_stem_72 : decode cWord_stem 72 = .ok (.invokestatic 23, 3) := by decide +kernel
theorem dWord_stem_75 : decode cWord_stem 75 = .ok (.if_icmp .ne 7, 3) := by decide +kernel
theorem dWord_stem_78 : decode cWord_stem 78 = .ok (.iconst 1, 1) := by decide +kernel
theorem dWord_stem_79 : decode cWord_stem 79 = .ok (.goto 4, 3) := by decide +kernel
theorem dWord_stem_82 : decode cWord_stem 82 = .ok (.iconst 0, 1) := by decide +kernel
theorem dWord_stem_83 : decode cWord_stem 83 = .ok (.istore 5, 2) := by decide +kernel
theorem dWord_stem_85 : decode cWord_stem 85 = .ok (.iload 5, 2) := by decide +kernel
theorem dWord_stem_87 : decode cWord_stem 87 = .ok (.ifCond .eq 16, 3) := by decide +kernel
theorem dWord_stem_90 : decode cWord_stem 90 = .ok (.iload_n 3, 1) := by decide +kernel
theorem dWord_stem_91 : decode cWord_stem 91 = .ok (.iconst 4, 1) := by decide +kernel
theorem dWord_stem_92 : decode cWord_stem 92 = .ok (.if_icmp .le 11, 3) := by decide +kernel
theorem dWord_stem_95 : decode cWord_stem 95 = .ok (.lload_n 0, 1) := by decide +kernel
theorem dWord_stem_96 : decode cWord_stem 96 = .ok (.iload_n 3, 1) := by decide +kernel
theorem dWord_stem_97 : decode cWord_stem 97 = .ok (.iconst 2, 1) := by decide +kernel
theorem dWord_stem_98 : decode cWord_stem 98 = .ok (.isub, 1) := by decide +kernel
theorem dWord_stem_99 : decode cWord_stem 99 = .ok (.invokestatic 26, 3) := by decide +kernel
theorem dWord_stem_102 : decode cWord_stem 102 = .ok (.lreturn, 1) := by decide +kernel
theorem dWord_stem_103 : decode cWord_stem 103 = .ok (.iload 4, 2) := by decide +kernel
theorem dWord_stem_105 : decode cWord_stem 105 = .ok (.bipush 101, 2) := by decide +kernel
theorem dWord_stem_107 : decode cWord_stem 107 = .ok (.invokestatic 23, 3) := by decide +kernel
theorem dWord_stem_110 : decode cWord_stem 110 = .ok (.if_icmp .ne 18, 3) := by decide +kernel
theorem dWord_stem_113 : decode cWord_stem 113 = .ok (.iload_n 3, 1) := by decide +kernel
theorem dWord_stem_114 : decode cWord_stem 114 = .ok (.iconst 3, 1) := by decide +kernel
theorem dWord_stem_115 : decode cWord_stem 115 = .ok (.if_icmp .le 13, 3) := by decide +kernel
theorem dWord_stem_118 : decode cWord_stem 118 = .ok (.lload_n 0, 1) := by decide +kernel
theorem dWord_stem_119 : decode cWord_stem 119 = .ok (.iload_n 3, 1) := by decide +kernel
theorem dWord_stem_120 : decode cWord_stem 120 = .ok (.iconst 1, 1) := by decide +kernel
theorem dWord_stem_121 : decode cWord_stem 121 = .ok (.isub, 1) := by decide +kernel
theorem dWord_stem_122 : decode cWord_stem 122 = .ok (.invokestatic 26, 3) := by decide +kernel
theorem dWord_stem_125 : decode cWord_stem 125 = .ok (.goto 4, 3) := by decide +kernel
theorem dWord_stem_128 : decode cWord_stem 128 = .ok (.lload_n 0, 1) := by decide +kernel
theorem dWord_stem_129 : decode cWord_stem 129 = .ok (.lreturn, 1) := by decide +kernel
theorem dWord_beginsWith_0 : decode cWord_beginsWith 0 = .ok (.lload_n 0, 1) := by decide +kernel
theorem dWord_beginsWith_1 : decode cWord_beginsWith 1 = .ok (.lload_n 2, 1) := by decide +kernel
theorem dWord_beginsWith_2 : decode cWord_beginsWith 2 = .ok (.invokestatic 19, 3) := by decide +kernel
theorem dWord_beginsWith_5 : decode cWord_beginsWith 5 = .ok (.invokestatic 26, 3) := by decide +kernel
theorem dWord_beginsWith_8 : decode cWord_beginsWith 8 = .ok (.lload_n 2, 1) := by decide +kernel
theorem dWord_beginsWith_9 : decode cWord_beginsWith 9 = .ok (.lcmp, 1) := by decide +kernel
theorem dWord_beginsWith_10 : decode cWord_beginsWith 10 = .ok (.ifCond .ne 7, 3) := by decide +kernel
theorem dWord_beginsWith_13 : decode cWord_beginsWith 13 = .ok (.iconst 1, 1) := by decide +kernel
theorem dWord_beginsWith_14 : decode cWord_beginsWith 14 = .ok (.goto 4, 3) := by decide +kernel
theorem dWord_beginsWith_17 : decode cWord_beginsWith 17 = .ok (.iconst 0, 1) := by decide +kernel
theorem dWord_beginsWith_18 : decode cWord_beginsWith 18 = .ok (.ireturn, 1) := by decide +kernel
theorem dWord_endsWith_0 : decode cWord_endsWith 0 = .ok (.lload_n 0, 1) := by decide +kernel
theorem dWord_endsWith_1 : decode cWord_endsWith 1 = .ok (.invokestatic 19, 3) := by decide +kernel
theorem dWord_endsWith_4 : decode cWord_endsWith 4 = .ok (.lload_n 2, 1) := by decide +kernel
theorem dWord_endsWith_5 : decode cWord_endsWith 5 = .ok (.invokestatic 19, 3) := by decide +kernel
theorem dWord_endsWith_8 : decode cWord_endsWith 8 = .ok (.isub, 1) := by decide +kernel
theorem dWord_endsWith_9 : decode cWord_endsWith 9 = .ok (.istore 4, 2) := by decide +kernel
theorem dWord_endsWith_11 : decode cWord_endsWith 11 = .ok (.iload 4, 2) := by decide +kernel
theorem dWord_endsWith_13 : decode cWord_endsWith 13 = .ok (.ifCond .lt 22, 3) := by decide +kernel
theorem dWord_endsWith_16 : decode cWord_endsWith 16 = .ok (.lload_n 0, 1) := by decide +kernel
theorem dWord_endsWith_17 : decode cWord_endsWith 17 = .ok (.iconst 5, 1) := by decide +kernel
theorem dWord_endsWith_18 : decode cWord_endsWith 18 = .ok (.iload 4, 2) := by decide +kernel
theorem dWord_endsWith_20 : decode cWord_endsWith 20 = .ok (.imul, 1) := by decide +kernel
theorem dWord_endsWith_21 : decode cWord_endsWith 21 = .ok (.lshl, 1) := by decide +kernel
theorem dWord_endsWith_22 : decode cWord_endsWith 22 = .ok (.ldc2_w 30, 3) := by decide +kernel
theorem dWord_endsWith_25 : decode cWord_endsWith 25 = .ok (.land, 1) := by decide +kernel
theorem dWord_endsWith_26 : decode cWord_endsWith 26 = .ok (.lload_n 2, 1) := by decide +kernel
theorem dWord_endsWith_27 : decode cWord_endsWith 27 = .ok (.lcmp, 1) := by decide +kernel
theorem dWord_endsWith_28 : decode cWord_endsWith 28 = .ok (.ifCond .ne 7, 3) := by decide +kernel
theorem dWord_endsWith_31 : decode cWord_endsWith 31 = .ok (.iconst 1, 1) := by decide +kernel
theorem dWord_endsWith_32 : decode cWord_endsWith 32 = .ok (.goto 4, 3) := by decide +kernel
theorem dWord_endsWith_35 : decode cWord_endsWith 35 = .ok (.iconst 0, 1) := by decide +kernel
theorem dWord_endsWith_36 : decode cWord_endsWith 36 = .ok (.ireturn, 1) := by decide +kernel
theorem dWord_nextCosts_0 : decode cWord_nextCosts 0 = .ok (.iload_n 3, 1) := by decide +kernel
theorem dWord_nextCosts_1 : decode cWord_nextCosts 1 = .ok (.ifCond .lt 10, 3) := by decide +kernel
theorem dWord_nextCosts_4 : decode cWord_nextCosts 4 = .ok (.iload_n 3, 1) := by decide +kernel
theorem dWord_nextCosts_5 : decode cWord_nextCosts 5 = .ok (.aload 4, 2) := by decide +kernel
theorem dWord_nextCosts_7 : decode cWord_nextCosts 7 = .ok (.arraylength, 1) := by decide +kernel
theorem dWord_nextCosts_8 : decode cWord_nextCosts 8 = .ok (.if_icmp .lt 4, 3) := by decide +kernel
theorem dWord_nextCosts_11 : decode cWord_nextCosts 11 = .ok (.return_, 1) := by decide +kernel
theorem dWord_nextCosts_12 : decode cWord_nextCosts 12 = .ok (.aload 4, 2) := by decide +kernel
theorem dWord_nextCosts_14 : decode cWord_nextCosts 14 = .ok (.iconst 0, 1) := by decide +kernel
theorem dWord_nextCosts_15 : decode cWord_nextCosts 15 = .ok (.iaload, 1) := by decide +kernel
theorem dWord_nextCosts_16 : decode cWord_nextCosts 16 = .ok (.istore 5, 2) := by decide +kernel
theorem dWord_nextCosts_18 : decode cWord_nextCosts 18 = .ok (.aload 4, 2) := by decide +kernel
theorem dWord_nextCosts_20 : decode cWord_nextCosts 20 = .ok (.iconst 0, 1) := by decide +kernel
theorem dWord_nextCosts_21 : decode cWord_nextCosts 21 = .ok (.dup2, 1) := by decide +kernel
theorem dWord_nextCosts_22 : decode cWord_nextCosts 22 = .ok (.iaload, 1) := by decide +kernel
theorem dWord_nextCosts_23 : decode cWord_nextCosts 23 = .ok (.iconst 1, 1) := by decide +kernel
theorem dWord_nextCosts_24 : decode cWord_nextCosts 24 = .ok (.iadd, 1) := by decide +kernel
theorem dWord_nextCosts_25 : decode cWord_nextCosts 25 = .ok (.iastore, 1) := by decide +kernel
theorem dWord_nextCosts_26 : decode cWord_nextCosts 26 = .ok (.iconst 1, 1) := by decide +kernel
theorem dWord_nextCosts_27 : decode cWord_nextCosts 27 = .ok (.istore 6, 2) := by decide +kernel
theorem dWord_nextCosts_29 : decode cWord_nextCosts 29 = .ok (.iload 6, 2) := by decide +kernel
theorem dWord_nextCosts_31 : decode cWord_nextCosts 31 = .ok (.iload_n 3, 1) := by decide +kernel
theorem dWord_nextCosts_32 : decode cWord_nextCosts 32 = .ok (.if_icmp .gt 66, 3) := by decide +kernel
theorem dWord_nextCosts_35 : decode cWord_nextCosts 35 = .ok (.iload_n 0, 1) := by decide +kernel
theorem dWord_nextCosts_36 : decode cWord_nextCosts 36 = .ok (.lload_n 1, 1) := by decide +kernel
theorem dWord_nextCosts_37 : decode cWord_nextCosts 37 = .ok (.iload 6, 2) := by decide +kernel
theorem dWord_nextCosts_39 : decode cWord_nextCosts 39 = .ok (.iconst 1, 1) := by decide +kernel
theorem dWord_nextCosts_40 : decode cWord_nextCosts 40 = .ok (.isub, 1) := by decide +kernel
theorem dWord_nextCosts_41 : decode cWord_nextCosts 41 = .ok (.invokestatic 15, 3) := by decide +kernel
theorem dWord_nextCosts_44 : decode cWord_nextCosts 44 = .ok (.if_icmp .ne 8, 3) := by decide +kernel
theorem dWord_nextCosts_47 : decode cWord_nextCosts 47 = .ok (.iload 5, 2) := by decide +kernel
theorem dWord_nextCosts_49 : decode cWord_nextCosts 49 = .ok (.goto 7, 3) := by decide +kernel
theorem dWord_nextCosts_52 : decode cWord_nextCosts 52 = .ok (.iload 5, 2) := by decide +kernel
theorem dWord_nextCosts_54 : decode cWord_nextCosts 54 = .ok (.iconst 1, 1) := by decide +kernel
theorem dWord_nextCosts_55 : decode cWord_nextCosts 55 = .ok (.iadd, 1) := by decide +kernel
theorem dWord_nextCosts_56 : decode cWord_nextCosts 56 = .ok (.istore 7, 2) := by decide +kernel
theorem dWord_nextCosts_58 : decode cWord_nextCosts 58 = .ok (.aload 4, 2) := by decide +kernel
theorem dWord_nextCosts_60 : decode cWord_nextCosts 60 = .ok (.iload 6, 2) := by decide +kernel
theorem dWord_nextCosts_62 : decode cWord_nextCosts 62 = .ok (.iaload, 1) := by decide +kernel
theorem dWord_nextCosts_63 : decode cWord_nextCosts 63 = .ok (.istore 5, 2) := by decide +kernel
theorem dWord_nextCosts_65 : decode cWord_nextCosts 65 = .ok (.aload 4, 2) := by decide +kernel
theorem dWord_nextCosts_67 : decode cWord_nextCosts 67 = .ok (.iload 6, 2) := by decide +kernel
theorem dWord_nextCosts_69 : decode cWord_nextCosts 69 = .ok (.iload 7, 2) := by decide +kernel
theorem dWord_nextCosts_71 : decode cWord_nextCosts 71 = .ok (.aload 4, 2) := by decide +kernel
theorem dWord_nextCosts_73 : decode cWord_nextCosts 73 = .ok (.iload 6, 2) := by decide +kernel
theorem dWord_nextCosts_75 : decode cWord_nextCosts 75 = .ok (.iaload, 1) := by decide +kernel
theorem dWord_nextCosts_76 : decode cWord_nextCosts 76 = .ok (.aload 4, 2) := by decide +kernel
theorem dWord_nextCosts_78 : decode cWord_nextCosts 78 = .ok (.iload 6, 2) := by decide +kernel
theorem dWord_nextCosts_80 : decode cWord_nextCosts 80 = .ok (.iconst 1, 1) := by decide +kernel
theorem dWord_nextCosts_81 : decode cWord_nextCosts 81 = .ok (.isub, 1) := by decide +kernel
theorem dWord_nextCosts_82 : decode cWord_nextCosts 82 = .ok (.iaload, 1) := by decide +kernel
theorem dWord_nextCosts_83 : decode cWord_nextCosts 83 = .ok (.invokestatic 32, 3) := by decide +kernel
theorem dWord_nextCosts_86 : decode cWord_nextCosts 86 = .ok (.iconst 1, 1) := by decide +kernel
theorem dWord_nextCosts_87 : decode cWord_nextCosts 87 = .ok (.iadd, 1) := by decide +kernel
theorem dWord_nextCosts_88 : decode cWord_nextCosts 88 = .ok (.invokestatic 32, 3) := by decide +kernel
theorem dWord_nextCosts_91 : decode cWord_nextCosts 91 = .ok (.iastore, 1) := by decide +kernel
theorem dWord_nextCosts_92 : decode cWord_nextCosts 92 = .ok (.iinc 6 1, 3) := by decide +kernel
theorem dWord_nextCosts_95 : decode cWord_nextCosts 95 = .ok (.goto (-66), 3) := by decide +kernel
theorem dWord_nextCosts_98 : decode cWord_nextCosts 98 = .ok (.return_, 1) := by decide +kernel
theorem dWord_distance_0 : decode cWord_distance 0 = .ok (.lload_n 2, 1) := by decide +kernel
theorem dWord_distance_1 : decode cWord_distance 1 = .ok (.invokestatic 19, 3) := by decide +kernel
theorem dWord_distance_4 : decode cWord_distance 4 = .ok (.aload 4, 2) := by decide +kernel
theorem dWord_distance_6 : decode cWord_distance 6 = .ok (.arraylength, 1) := by decide +kernel
theorem dWord_distance_7 : decode cWord_distance 7 = .ok (.iconst 1, 1) := by decide +kernel
theorem dWord_distance_8 : decode cWord_distance 8 = .ok (.isub, 1) := by decide +kernel
theorem dWord_distance_9 : decode cWord_distance 9 = .ok (.invokestatic 32, 3) := by decide +kernel
theorem dWord_distance_12 : decode cWord_distance 12 = .ok (.istore 5, 2) := by decide +kernel
theorem dWord_distance_14 : decode cWord_distance 14 = .ok (.iconst 0, 1) := by decide +kernel
theorem dWord_distance_15 : decode cWord_distance 15 = .ok (.istore 6, 2) := by decide +kernel
theorem dWord_distance_17 : decode cWord_distance 17 = .ok (.iload 6, 2) := by decide +kernel
theorem dWord_distance_19 : decode cWord_distance 19 = .ok (.iload 5, 2) := by decide +kernel
theorem dWord_distance_21 : decode cWord_distance 21 = .ok (.if_icmp .gt 16, 3) := by decide +kernel
theorem dWord_distance_24 : decode cWord_distance 24 = .ok (.aload 4, 2) := by decide +kernel
theorem dWord_distance_26 : decode cWord_distance 26 = .ok (.iload 6, 2) := by decide +kernel
theorem dWord_distance_28 : decode cWord_distance 28 = .ok (.iload 6, 2) := by decide +kernel
theorem dWord_distance_30 : decode cWord_distance 30 = .ok (.iastore, 1) := by decide +kernel
theorem dWord_distance_31 : decode cWord_distance 31 = .ok (.iinc 6 1, 3) := by decide +kernel
theorem dWord_distance_34 : decode cWord_distance 34 = .ok (.goto (-17), 3) := by decide +kernel
theorem dWord_distance_37 : decode cWord_distance 37 = .ok (.lload_n 0, 1) := by decide +kernel
theorem dWord_distance_38 : decode cWord_distance 38 = .ok (.invokestatic 19, 3) := by decide +kernel
theorem dWord_distance_41 : decode cWord_distance 41 = .ok (.istore 6, 2) := by decide +kernel
theorem dWord_distance_43 : decode cWord_distance 43 = .ok (.iconst 0, 1) := by decide +kernel
theorem dWord_distance_44 : decode cWord_distance 44 = .ok (.istore 7, 2) := by decide +kernel
theorem dWord_distance_46 : decode cWord_distance 46 = .ok (.iload 7, 2) := by decide +kernel
theorem dWord_distance_48 : decode cWord_distance 48 = .ok (.iload 6, 2) := by decide +kernel
theorem dWord_distance_50 : decode cWord_distance 50 = .ok (.if_icmp .ge 23, 3) := by decide +kernel
theorem dWord_distance_53 : decode cWord_distance 53 = .ok (.lload_n 0, 1) := by decide +kernel
theorem dWord_distance_54 : decode cWord_distance 54 = .ok (.iload 7, 2) := by decide +kernel
theorem dWord_distance_56 : decode cWord_distance 56 = .ok (.invokestatic 15, 3) := by decide +kernel
theorem dWord_distance_59 : decode cWord_distance 59 = .ok (.lload_n 2, 1) := by decide +kernel
theorem dWord_distance_60 : decode cWord_distance 60 = .ok (.iload 5, 2) := by decide +kernel
theorem dWord_distance_62 : decode cWord_distance 62 = .ok (.aload 4, 2) := by decide +kernel
theorem dWord_distance_64 : decode cWord_distance 64 = .ok (.invokestatic 38, 3) := by decide +kernel
theorem dWord_distance_67 : decode cWord_distance 67 = .ok (.iinc 7 1, 3) := by decide +kernel
theorem dWord_distance_70 : decode cWord_distance 70 = .ok (.goto (-24), 3) := by decide +kernel
theorem dWord_distance_73 : decode cWord_distance 73 = .ok (.iload 5, 2) := by decide +kernel
theorem dWord_distance_75 : decode cWord_distance 75 = .ok (.ifCond .ge 8, 3) := by decide +kernel
theorem dWord_distance_78 : decode cWord_distance 78 = .ok (.iload 6, 2) := by decide +kernel
theorem dWord_distance_80 : decode cWord_distance 80 = .ok (.goto 8, 3) := by decide +kernel
theorem dWord_distance_83 : decode cWord_distance 83 = .ok (.aload 4, 2) := by decide +kernel
theorem dWord_distance_85 : decode cWord_distance 85 = .ok (.iload 5, 2) := by decide +kernel
theorem dWord_distance_87 : decode cWord_distance 87 = .ok (.iaload, 1) := by decide +kernel
theorem dWord_distance_88 : decode cWord_distance 88 = .ok (.ireturn, 1) := by decide +kernel
theorem mm_0 : (.code yWord_shift cWord_shift 1 (some .int) : Cond) ∈ hwG := hwIx 231 (by decide +kernel) (by decide +kernel)
theorem mm_1 : (.static yWord_shift : Cond) ∈ hwG := hwIx 230 (by decide +kernel) (by decide +kernel)
theorem mm_2 : (.methodLink RWord 11 yWord_shift : Cond) ∈ hwG := hwIx 229 (by decide +kernel) (by decide +kernel)
theorem mm_3 : (.initialized RWord : Cond) ∈ hwG := hwIx 41 (by decide +kernel) (by decide +kernel)
theorem mm_4 : (.code yWord_letterAt cWord_letterAt 3 (some .int) : Cond) ∈ hwG := hwIx 292 (by decide +kernel) (by decide +kernel)
theorem mm_5 : (.static yWord_letterAt : Cond) ∈ hwG := hwIx 291 (by decide +kernel) (by decide +kernel)
theorem mm_6 : (.methodLink RWord 15 yWord_letterAt : Cond) ∈ hwG := hwIx 290 (by decide +kernel) (by decide +kernel)
theorem mm_7 : (.code yWord_length cWord_length 3 (some .int) : Cond) ∈ hwG := hwIx 289 (by decide +kernel) (by decide +kernel)
theorem mm_8 : (.static yWord_length : Cond) ∈ hwG := hwIx 288 (by decide +kernel) (by decide +kernel)
theorem mm_9 : (.methodLink RWord 19 yWord_length : Cond) ∈ hwG := hwIx 287 (by decide +kernel) (by decide +kernel)
theorem mm_10 : (.code yWord_letterOf cWord_letterOf 1 (some .int) : Cond) ∈ hwG := hwIx 205 (by decide +kernel) (by decide +kernel)
theorem mm_11 : (.static yWord_letterOf : Cond) ∈ hwG := hwIx 204 (by decide +kernel) (by decide +kernel)
theorem mm_12 : (.methodLink RWord 23 yWord_letterOf : Cond) ∈ hwG := hwIx 293 (by decide +kernel) (by decide +kernel)
theorem mm_13 : (.code yWord_firstLetters cWord_firstLetters 3 (some .long) : Cond) ∈ hwG := hwIx 296 (by decide +kernel) (by decide +kernel)
theorem mm_14 : (.static yWord_firstLetters : Cond) ∈ hwG := hwIx 295 (by decide +kernel) (by decide +kernel)
theorem mm_15 : (.methodLink RWord 26 yWord_firstLetters : Cond) ∈ hwG := hwIx 294 (by decide +kernel) (by decide +kernel)
theorem mm_16 : (.constantLong RWord 30 1152921504606846975 : Cond) ∈ hwG := hwIx 366 (by decide +kernel) (by decide +kernel)
theorem mm_17 : (.methodLink RWord 32 Lib.Math.min.name : Cond) ∈ hwG := hwIx 536 (by decide +kernel) (by decide +kernel)
theorem mm_18 : (.static Lib.Math.min.name : Cond) ∈ hwG := hwIx 221 (by decide +kernel) (by decide +kernel)
theorem mm_19 : (.initialized "java/lang/Math" : Cond) ∈ hwG := hwIx 36 (by decide +kernel) (by decide +kernel)
theorem mm_20 : (.code Lib.Math.min.name Lib.Math.min.code 2 (some .int) : Cond) ∈ hwG := hwIx 222 (by decide +kernel) (by decide +kernel)
theorem mm_21 : (.code yWord_nextCosts cWord_nextCosts 8 none : Cond) ∈ hwG := hwIx 539 (by decide +kernel) (by decide +kernel)
theorem mm_22 : (.static yWord_nextCosts : Cond) ∈ hwG := hwIx 538 (by decide +kernel) (by decide +kernel)
theorem mm_23 : (.methodLink RWord 38 yWord_nextCosts : Cond) ∈ hwG := hwIx 537 (by decide +kernel) (by decide +kernel)
set_option maxHeartbeats 4000000 in
set_option maxRecDepth 100000 in
theorem c_W_letterOf (l : Launch) (D : va_G) (K : Nat → ClassId) (X : hwW) (sz : Nat) (c0 : Nat) (hc0 : c0 < 256) : Met l yWord_letterOf (.code yWord_letterOf cWord_letterOf 1 (some .int) :: hwG) ({ frames := 0, cells := 0, slots := 0, locals := 0 } : Room) (hwPc D vwCl (hwT K) [.int (nI c0)] X sz) (hwQi D vwCl X sz (fun r Y => r = nI (ltr c0) ∧ X = Y ∧ ltr c0 ≤ 26)) 0 0 (va_A X.1 sz) := by
  refine hwMeti (cc := cWord_letterOf) (maxL := 1) (by decide) rfl (Nat.le_of_ble_eq_true rfl) (fun p e s m args below meth c ls A Q hx hb hml hown hts hname hret hK hO hZ hA hl => ?_)
  have hl : lv_has ls 1 [(0, .int (nI c0))] := hl
  refine lv_iload_n hx hb dWord_letterOf_0 rfl (lv_at hl 0 rfl) ?_
  refine lv_bipush (v := nI 65) hx hb dWord_letterOf_1 (by decide) ?_
  refine hw_ic_lt (a := c0) (b := 65) (tgt := 19) hx hb dWord_letterOf_3 (by decide) (by omega) (by omega) (fun cq_1 => ?_) (fun cq_1 => ?_)
  · refine lv_iload_n hx hb dWord_letterOf_19 rfl (lv_at hl 0 rfl) ?_
    refine lv_bipush (v := nI 97) hx hb dWord_letterOf_20 (by decide) ?_
    refine hw_ic_lt (a := c0) (b := 97) (tgt := 38) hx hb dWord_letterOf_22 (by decide) (by omega) (by omega) (fun cq_2 => ?_) (fun cq_2 => by exfalso; omega)
    refine lv_iconst (v := nI 0) hx hb dWord_letterOf_38 (by decide) ?_
    exact hret hZ ⟨congrArg nI (by unfold ltr; (repeat' split) <;> omega), rfl, ltr_le c0⟩ dWord_letterOf_39
  · refine lv_iload_n hx hb dWord_letterOf_6 rfl (lv_at hl 0 rfl) ?_
    refine lv_bipush (v := nI 90) hx hb dWord_letterOf_7 (by decide) ?_
    refine hw_ic_gt (a := c0) (b := 90) (tgt := 19) hx hb dWord_letterOf_9 (by decide) (by omega) (by omega) (fun cq_3 => ?_) (fun cq_3 => ?_)
    · refine lv_iload_n hx hb dWord_letterOf_19 rfl (lv_at hl 0 rfl) ?_
      refine lv_bipush (v := nI 97) hx hb dWord_letterOf_20 (by decide) ?_
      refine hw_ic_lt (a := c0) (b := 97) (tgt := 38) hx hb dWord_letterOf_22 (by decide) (by omega) (by omega) (fun cq_4 => ?_) (fun cq_4 => ?_)
      · refine lv_iconst (v := nI 0) hx hb dWord_letterOf_38 (by decide) ?_
        exact hret hZ ⟨congrArg nI (by unfold ltr; (repeat' split) <;> omega), rfl, ltr_le c0⟩ dWord_letterOf_39
      · refine lv_iload_n hx hb dWord_letterOf_25 rfl (lv_at hl 0 rfl) ?_
        refine lv_bipush (v := nI 122) hx hb dWord_letterOf_26 (by decide) ?_
        refine hw_ic_gt (a := c0) (b := 122) (tgt := 38) hx hb dWord_letterOf_28 (by decide) (by omega) (by omega) (fun cq_5 => ?_) (fun cq_5 => ?_)
        · refine lv_iconst (v := nI 0) hx hb dWord_letterOf_38 (by decide) ?_
          exact hret hZ ⟨congrArg nI (by unfold ltr; (repeat' split) <;> omega), rfl, ltr_le c0⟩ dWord_letterOf_39
        · refine lv_iload_n hx hb dWord_letterOf_31 rfl (lv_at hl 0 rfl) ?_
          refine lv_bipush (v := nI 96) hx hb dWord_letterOf_32 (by decide) ?_
          refine lv_isub hx hb dWord_letterOf_34 ?_
          refine hw_topi (pk_sub (a := c0) (b := 96) (by omega)) ?_
          refine lv_goto (tgt := 39) hx hb dWord_letterOf_35 (by decide) ?_
          exact hret hZ ⟨congrArg nI (by unfold ltr; (repeat' split) <;> omega), rfl, ltr_le c0⟩ dWord_letterOf_39
    · refine lv_iload_n hx hb dWord_letterOf_12 rfl (lv_at hl 0 rfl) ?_
      refine lv_bipush (v := nI 65) hx hb dWord_letterOf_13 (by decide) ?_
      refine lv_isub hx hb dWord_letterOf_15 ?_
      refine hw_topi (pk_sub (a := c0) (b := 65) (by omega)) ?_
      refine lv_iconst (v := nI 1) hx hb dWord_letterOf_16 (by decide) ?_
      refine lv_iadd hx hb dWord_letterOf_17 ?_
      refine hw_topi (nI_add (c0 - 65) 1) ?_
      exact hret hZ ⟨congrArg nI (by unfold ltr; (repeat' split) <;> omega), rfl, ltr_le c0⟩ dWord_letterOf_18
set_option maxHeartbeats 4000000 in
set_option maxRecDepth 100000 in
theorem c_W_shift (l : Launch) (D : va_G) (K : Nat → ClassId) (X : hwW) (sz : Nat) (k : Nat) (hk : k ≤ 11) : Met l yWord_shift (.code yWord_shift cWord_shift 1 (some .int) :: hwG) ({ frames := 0, cells := 0, slots := 0, locals := 0 } : Room) (hwPc D vwCl (hwT K) [.int (nI k)] X sz) (hwQi D vwCl X sz (fun r Y => r = nI (5 * (11 - k)) ∧ X = Y)) 0 0 (va_A X.1 sz) := by
  refine hwMeti (cc := cWord_shift) (maxL := 1) (by decide) rfl (Nat.le_of_ble_eq_true rfl) (fun p e s m args below meth c ls A Q hx hb hml hown hts hname hret hK hO hZ hA hl => ?_)
  have hl : lv_has ls 1 [(0, .int (nI k))] := hl
  refine lv_iconst (v := nI 5) hx hb dWord_shift_0 (by decide) ?_
  refine lv_bipush (v := nI 11) hx hb dWord_shift_1 (by decide) ?_
  refine lv_iload_n hx hb dWord_shift_3 rfl (lv_at hl 0 rfl) ?_
  refine lv_isub hx hb dWord_shift_4 ?_
  refine hw_topi (pk_sub (a := 11) (b := k) (by omega)) ?_
  refine lv_imul hx hb dWord_shift_5 ?_
  refine hw_topi (pk_mul 5 (11 - k)) ?_
  exact hret hZ ⟨rfl, rfl⟩ dWord_shift_6
set_option maxHeartbeats 4000000 in
set_option maxRecDepth 100000 in
theorem c_W_with (l : Launch) (D : va_G) (K : Nat → ClassId) (X : hwW) (sz : Nat) (w : List Nat) (x : Nat) (hw : okW w) (sl : w.length < 12) (sx : x ≤ 26) : Met l yWord_with (.code yWord_with cWord_with 4 (some .long) :: hwG) ({ frames := 1, cells := 0, slots := 0, locals := 20 } : Room) (hwPc D vwCl (hwT K) [.long (lN (eW w)), .int (nI w.length), .int (nI x)] X sz) (hwQl D vwCl X sz (fun r Y => r = lN (eW (w ++ [x])) ∧ X = Y)) 0 0 (va_A X.1 sz) := by
  refine hwMetl (cc := cWord_with) (maxL := 4) (by decide) rfl (Nat.le_of_ble_eq_true rfl) (fun p e s m args below meth c ls A Q hx hb hml hown hts hname hret hK hO hZ hA hl => ?_)
  have hl : lv_has ls 4 [(0, .long (lN (eW w))), (2, .int (nI w.length)), (3, .int (nI x))] := hl
  refine lv_lload_n hx hb dWord_with_0 rfl (lv_at hl 0 rfl) ?_
  refine lv_iload_n hx hb dWord_with_1 rfl (lv_at hl 2 rfl) ?_
  refine lv_i2l hx hb dWord_with_2 (nI_l (n := x) (by omega)) ?_
  refine lv_iload_n hx hb dWord_with_3 rfl (lv_at hl 1 rfl) ?_
  refine hw_calli (va_runS (As := [.int (nI w.length)]) (rest := [.long (lN x), .long (lN (eW w))]) ⟨hx, hb, hml, hown, hts⟩ (c_W_shift l D K X s.heap.size (k := w.length) (by omega)) (va_cwS 1 hts (hwGood (hw_3 mm_2 mm_1 mm_3 (hwAll mm_0))) rfl rfl rfl (by decide +kernel) ⟨Nat.le_of_ble_eq_true rfl, Nat.le_of_ble_eq_true rfl⟩) (hw_preS hK hO hZ) rfl rfl hl.1 rfl (lv_room (Nat.le_of_ble_eq_true rfl)) dWord_with_4 ⟨(show 0 + 0 ≤ 0 by omega), (show 0 + 0 ≤ 0 by omega)⟩) hZ hA (fun r X_1 H_2 lc_3 hp hZ => ?_)
  obtain ⟨hr, hy⟩ := hp
  subst hy
  refine hw_topi hr ?_
  refine lv_lshl hx hb dWord_with_7 (wb_shl x (k := 5 * (11 - w.length)) (by omega)) ?_
  refine lv_lor hx hb dWord_with_8 ?_
  refine hw_topl (wb_or (by first | exact eW_lt64 (by assumption) | exact hw_sh64 sx) (by first | exact eW_lt64 (by assumption) | exact hw_sh64 sx)) ?_
  exact hret hZ ⟨congrArg lN (eW_with hw sx sl), rfl⟩ dWord_with_9
set_option maxHeartbeats 4000000 in
set_option maxRecDepth 100000 in
theorem c_W_letterAt (l : Launch) (D : va_G) (K : Nat → ClassId) (X : hwW) (sz : Nat) (w : List Nat) (j : Nat) (hw : okW w) (hj : j < 2147483648) : Met l yWord_letterAt (.code yWord_letterAt cWord_letterAt 3 (some .int) :: hwG) ({ frames := 1, cells := 0, slots := 0, locals := 20 } : Room) (hwPc D vwCl (hwT K) [.long (lN (eW w)), .int (nI j)] X sz) (hwQi D vwCl X sz (fun r Y => r = nI (w.getD j 0) ∧ X = Y ∧ w.getD j 0 ≤ 26)) 0 0 (va_A X.1 sz) := by
  refine hwMeti (cc := cWord_letterAt) (maxL := 3) (by decide) rfl (Nat.le_of_ble_eq_true rfl) (fun p e s m args below meth c ls A Q hx hb hml hown hts hname hret hK hO hZ hA hl => ?_)
  have hl : lv_has ls 3 [(0, .long (lN (eW w))), (2, .int (nI j))] := hl
  refine lv_iload_n hx hb dWord_letterAt_0 rfl (lv_at hl 1 rfl) ?_
  refine hw_if_lt (a := j) (tgt := 10) hx hb dWord_letterAt_1 (by decide) (by omega) (fun cq_1 => by exfalso; omega) (fun cq_1 => ?_)
  refine lv_iload_n hx hb dWord_letterAt_4 rfl (lv_at hl 1 rfl) ?_
  refine lv_bipush (v := nI 12) hx hb dWord_letterAt_5 (by decide) ?_
  refine hw_ic_lt (a := j) (b := 12) (tgt := 14) hx hb dWord_letterAt_7 (by decide) (by omega) (by omega) (fun cq_2 => ?_) (fun cq_2 => ?_)
  · refine lv_lload_n hx hb dWord_letterAt_14 rfl (lv_at hl 0 rfl) ?_
    refine lv_iload_n hx hb dWord_letterAt_15 rfl (lv_at hl 1 rfl) ?_
    refine hw_calli (va_runS (As := [.int (nI j)]) (rest := [.long (lN (eW w))]) ⟨hx, hb, hml, hown, hts⟩ (c_W_shift l D K X s.heap.size (k := j) (by omega)) (va_cwS 1 hts (hwGood (hw_3 mm_2 mm_1 mm_3 (hwAll mm_0))) rfl rfl rfl (by decide +kernel) ⟨Nat.le_of_ble_eq_true rfl, Nat.le_of_ble_eq_true rfl⟩) (hw_preS hK hO hZ) rfl rfl hl.1 rfl (lv_room (Nat.le_of_ble_eq_true rfl)) dWord_letterAt_16 ⟨(show 0 + 0 ≤ 0 by omega), (show 0 + 0 ≤ 0 by omega)⟩) hZ hA (fun r X_3 H_4 lc_5 hp hZ => ?_)
    obtain ⟨hr, hy⟩ := hp
    subst hy
    refine hw_topi hr ?_
    refine lv_lushr hx hb dWord_letterAt_19 (wb_shr (n := eW w) (k := 5 * (11 - j)) (by first | exact eW_lt64 (by assumption) | omega) (by omega)) ?_
    refine lv_l2i hx hb dWord_letterAt_20 (lN_i ((eW w) / 2 ^ (5 * (11 - j)))) ?_
    refine lv_bipush (v := nI 31) hx hb dWord_letterAt_21 (by decide) ?_
    refine lv_iand hx hb dWord_letterAt_23 ?_
    refine hw_topi (hw_and31 ((eW w) / 2 ^ (5 * (11 - j)))) ?_
    exact hret hZ ⟨congrArg nI (eW_letter hw (by omega)), rfl, getD_le hw.2 j⟩ dWord_letterAt_24
  · refine lv_iconst (v := nI 0) hx hb dWord_letterAt_10 (by decide) ?_
    refine lv_goto (tgt := 24) hx hb dWord_letterAt_11 (by decide) ?_
    exact hret hZ ⟨congrArg nI (getD_out (by have := hw.1; omega)).symm, rfl, getD_le hw.2 j⟩ dWord_letterAt_24
set_option maxHeartbeats 4000000 in
set_option maxRecDepth 100000 in
theorem c_W_letterAtN (l : Launch) (D : va_G) (K : Nat → ClassId) (X : hwW) (sz : Nat) (w : List Nat) (i : Int32) (hi : i < 0) : Met l yWord_letterAt (.code yWord_letterAt cWord_letterAt 3 (some .int) :: hwG) ({ frames := 1, cells := 0, slots := 0, locals := 20 } : Room) (hwPc D vwCl (hwT K) [.long (lN (eW w)), .int i] X sz) (hwQi D vwCl X sz (fun r Y => r = nI 0 ∧ X = Y)) 0 0 (va_A X.1 sz) := by
  refine hwMeti (cc := cWord_letterAt) (maxL := 3) (by decide) rfl (Nat.le_of_ble_eq_true rfl) (fun p e s m args below meth c ls A Q hx hb hml hown hts hname hret hK hO hZ hA hl => ?_)
  have hl : lv_has ls 3 [(0, .long (lN (eW w))), (2, .int i)] := hl
  refine lv_iload_n hx hb dWord_letterAt_0 rfl (lv_at hl 1 rfl) ?_
  refine lv_if_lt (tgt := 10) hx hb dWord_letterAt_1 (by decide) (fun cq_1 => ?_) (fun cq_1 => absurd hi cq_1)
  refine lv_iconst (v := nI 0) hx hb dWord_letterAt_10 (by decide) ?_
  refine lv_goto (tgt := 24) hx hb dWord_letterAt_11 (by decide) ?_
  exact hret hZ ⟨rfl, rfl⟩ dWord_letterAt_24
set_option maxHeartbeats 4000000 in
set_option maxRecDepth 100000 in
theorem c_W_signAt (l : Launch) (D : va_G) (K : Nat → ClassId) (X : hwW) (sz : Nat) (w : List Nat) (j : Nat) (hw : okW w) (hj : j < 2147483648) : Met l yWord_signAt (.code yWord_signAt cWord_signAt 4 (some .int) :: hwG) ({ frames := 2, cells := 0, slots := 0, locals := 42 } : Room) (hwPc D vwCl (hwT K) [.long (lN (eW w)), .int (nI j)] X sz) (hwQi D vwCl X sz (fun r Y => r = nI (sgn (w.getD j 0)) ∧ X = Y)) 0 0 (va_A X.1 sz) := by
  refine hwMeti (cc := cWord_signAt) (maxL := 4) (by decide) rfl (Nat.le_of_ble_eq_true rfl) (fun p e s m args below meth c ls A Q hx hb hml hown hts hname hret hK hO hZ hA hl => ?_)
  have hl : lv_has ls 4 [(0, .long (lN (eW w))), (2, .int (nI j))] := hl
  have hle := getD_le hw.2 j
  refine lv_lload_n hx hb dWord_signAt_0 rfl (lv_at hl 0 rfl) ?_
  refine lv_iload_n hx hb dWord_signAt_1 rfl (lv_at hl 1 rfl) ?_
  refine hw_calli (va_runS (As := [.long (lN (eW w)), .int (nI j)]) (rest := []) ⟨hx, hb, hml, hown, hts⟩ (c_W_letterAt l D K X s.heap.size (w := w) (j := j) (by assumption) (by omega)) (va_cwS 2 hts (hwGood (hw_3 mm_6 mm_5 mm_3 (hwAll mm_4))) rfl rfl rfl (by decide +kernel) ⟨Nat.le_of_ble_eq_true rfl, Nat.le_of_ble_eq_true rfl⟩) (hw_preS hK hO hZ) rfl rfl hl.1 rfl (lv_room (Nat.le_of_ble_eq_true rfl)) dWord_signAt_2 ⟨(show 0 + 0 ≤ 0 by omega), (show 0 + 0 ≤ 0 by omega)⟩) hZ hA (fun r X_1 H_2 lc_3 hp hZ => ?_)
  obtain ⟨hr, hy, xx_4⟩ := hp
  subst hy
  refine hw_topi hr ?_
  refine lv_istore_n (lv' := [(3, .int (nI (w.getD j 0))), (0, .long (lN (eW w))), (2, .int (nI j))]) hx hb dWord_signAt_5 rfl hl (by decide) rfl (fun ls hl => ?_)
  refine lv_iload_n hx hb dWord_signAt_6 rfl (lv_at hl 0 rfl) ?_
  refine hw_if_ne (a := w.getD j 0) (tgt := 14) hx hb dWord_signAt_7 (by decide) (by omega) (fun cq_5 => ?_) (fun cq_5 => ?_)
  · refine lv_iload_n hx hb dWord_signAt_14 rfl (lv_at hl 0 rfl) ?_
    refine lv_bipush (v := nI 96) hx hb dWord_signAt_15 (by decide) ?_
    refine lv_iadd hx hb dWord_signAt_17 ?_
    refine hw_topi (nI_add (w.getD j 0) 96) ?_
    exact hret hZ ⟨congrArg nI (by unfold sgn; split <;> omega), rfl⟩ dWord_signAt_18
  · refine lv_iconst (v := nI 0) hx hb dWord_signAt_10 (by decide) ?_
    refine lv_goto (tgt := 18) hx hb dWord_signAt_11 (by decide) ?_
    exact hret hZ ⟨congrArg nI (by unfold sgn; split <;> omega), rfl⟩ dWord_signAt_18
set_option maxHeartbeats 4000000 in
set_option maxRecDepth 100000 in
theorem c_W_length (l : Launch) (D : va_G) (K : Nat → ClassId) (X : hwW) (sz : Nat) (w : List Nat) (hw : okW w) : Met l yWord_length (.code yWord_length cWord_length 3 (some .int) :: hwG) ({ frames := 2, cells := 0, slots := 0, locals := 42 } : Room) (hwPc D vwCl (hwT K) [.long (lN (eW w))] X sz) (hwQi D vwCl X sz (fun r Y => r = nI w.length ∧ X = Y)) 0 0 (va_A X.1 sz) := by
  refine hwMeti (cc := cWord_length) (maxL := 3) (by decide) rfl (Nat.le_of_ble_eq_true rfl) (fun p e s m args below meth c ls A Q hx hb hml hown hts hname hret hK hO hZ hA hl => ?_)
  have hl : lv_has ls 3 [(0, .long (lN (eW w)))] := hl
  have hw12 := hw.1
  refine lv_iconst (v := nI 0) hx hb dWord_length_0 (by decide) ?_
  refine lv_istore_n (lv' := [(2, .int (nI 0)), (0, .long (lN (eW w)))]) hx hb dWord_length_1 rfl hl (by decide) rfl (fun ls hl => ?_)
  have loop2 : ∀ (fuel : Nat) (i : Nat) (Hh : Heap) (lcs : List Loc) (ls : Array Slot), 12 - i < fuel → (i ≤ w.length) → hwZ D vwCl A s.heap X Hh lcs → lv_has ls 3 [(2, .int (nI i)), (0, .long (lN (eW w)))] → W p l e ({ frames := 2, cells := 0, slots := 0, locals := 42 } : Room) s m args below meth c Hh lcs 0 0 Q (F0 m 2 ls []) := by
    intro fuel; induction fuel with
    | zero => intro i Hh lcs ls hfu; exact absurd hfu (Nat.not_lt_zero _)
    | succ fuel ih2 =>
      intro i Hh lcs ls hfu2 hi hZ hl
      refine lv_iload_n hx hb dWord_length_2 rfl (lv_at hl 0 rfl) ?_
      refine lv_bipush (v := nI 12) hx hb dWord_length_3 (by decide) ?_
      refine hw_ic_ge (a := i) (b := 12) (tgt := 22) hx hb dWord_length_5 (by decide) (by omega) (by omega) (fun cq_1 => ?_) (fun cq_1 => ?_)
      · refine lv_iload_n hx hb dWord_length_22 rfl (lv_at hl 0 rfl) ?_
        exact hret hZ ⟨congrArg nI (by first | omega | (have hq := getD_z hw.2 cq_1; omega)), rfl⟩ dWord_length_23
      · refine lv_lload_n hx hb dWord_length_8 rfl (lv_at hl 1 rfl) ?_
        refine lv_iload_n hx hb dWord_length_9 rfl (lv_at hl 0 rfl) ?_
        refine hw_calli (va_runS (As := [.long (lN (eW w)), .int (nI i)]) (rest := []) ⟨hx, hb, hml, hown, hts⟩ (c_W_letterAt l D K X Hh.size (w := w) (j := i) (by assumption) (by omega)) (va_cwS 2 hts (hwGood (hw_3 mm_6 mm_5 mm_3 (hwAll mm_4))) rfl rfl rfl (by decide +kernel) ⟨Nat.le_of_ble_eq_true rfl, Nat.le_of_ble_eq_true rfl⟩) (hw_preS hK hO hZ) rfl rfl hl.1 rfl (lv_room (Nat.le_of_ble_eq_true rfl)) dWord_length_10 ⟨(show 0 + 0 ≤ 0 by omega), (show 0 + 0 ≤ 0 by omega)⟩) hZ hA (fun r X_2 H_3 lc_4 hp hZ => ?_)
        obtain ⟨hr, hy, xx_5⟩ := hp
        subst hy
        refine hw_topi hr ?_
        refine hw_if_eq (a := w.getD i 0) (tgt := 22) hx hb dWord_length_13 (by decide) (by omega) (fun cq_6 => ?_) (fun cq_6 => ?_)
        · refine lv_iload_n hx hb dWord_length_22 rfl (lv_at hl 0 rfl) ?_
          exact hret hZ ⟨congrArg nI (by first | omega | (have hq := getD_z hw.2 cq_6; omega)), rfl⟩ dWord_length_23
        · refine lv_iinc (v := nI (i + 1)) (lv' := [(2, .int (nI (i + 1))), (0, .long (lN (eW w)))]) hx hb dWord_length_16 hl (k := 0) rfl (nI_add _ 1) (by decide) rfl (fun ls hl => ?_)
          refine lv_goto (tgt := 2) hx hb dWord_length_19 (by decide) ?_
          have hq := getD_nz hw.2 cq_6
          exact ih2 (i + 1) _ _ _ (by omega) (by omega)  hZ (lv_sub hl [0, 1] rfl)
  exact loop2 (12 - 0 + 1) 0 _ _ _ (by omega) (Nat.zero_le _)  hZ (lv_sub hl [0, 1] rfl)
set_option maxHeartbeats 4000000 in
set_option maxRecDepth 100000 in
theorem c_W_firstLetters (l : Launch) (D : va_G) (K : Nat → ClassId) (X : hwW) (sz : Nat) (w : List Nat) (n : Nat) (hw : okW w) (hn : n ≤ 12) : Met l yWord_firstLetters (.code yWord_firstLetters cWord_firstLetters 3 (some .long) :: hwG) ({ frames := 1, cells := 0, slots := 0, locals := 20 } : Room) (hwPc D vwCl (hwT K) [.long (lN (eW w)), .int (nI n)] X sz) (hwQl D vwCl X sz (fun r Y => r = lN (eW (w.take n)) ∧ X = Y)) 0 0 (va_A X.1 sz) := by
  refine hwMetl (cc := cWord_firstLetters) (maxL := 3) (by decide) rfl (Nat.le_of_ble_eq_true rfl) (fun p e s m args below meth c ls A Q hx hb hml hown hts hname hret hK hO hZ hA hl => ?_)
  have hl : lv_has ls 3 [(0, .long (lN (eW w))), (2, .int (nI n))] := hl
  refine lv_iload_n hx hb dWord_firstLetters_0 rfl (lv_at hl 1 rfl) ?_
  refine hw_if_gt (a := n) (tgt := 6) hx hb dWord_firstLetters_1 (by decide) (by omega) (fun cq_1 => ?_) (fun cq_1 => ?_)
  · refine lv_iload_n hx hb dWord_firstLetters_6 rfl (lv_at hl 1 rfl) ?_
    refine lv_bipush (v := nI 12) hx hb dWord_firstLetters_7 (by decide) ?_
    refine hw_ic_lt (a := n) (b := 12) (tgt := 16) hx hb dWord_firstLetters_9 (by decide) (by omega) (by omega) (fun cq_2 => ?_) (fun cq_2 => ?_)
    · refine lv_lload_n hx hb dWord_firstLetters_16 rfl (lv_at hl 0 rfl) ?_
      refine lv_iload_n hx hb dWord_firstLetters_17 rfl (lv_at hl 1 rfl) ?_
      refine lv_iconst (v := nI 1) hx hb dWord_firstLetters_18 (by decide) ?_
      refine lv_isub hx hb dWord_firstLetters_19 ?_
      refine hw_topi (pk_sub (a := n) (b := 1) (by omega)) ?_
      refine hw_calli (va_runS (As := [.int (nI (n - 1))]) (rest := [.long (lN (eW w))]) ⟨hx, hb, hml, hown, hts⟩ (c_W_shift l D K X s.heap.size (k := n - 1) (by omega)) (va_cwS 1 hts (hwGood (hw_3 mm_2 mm_1 mm_3 (hwAll mm_0))) rfl rfl rfl (by decide +kernel) ⟨Nat.le_of_ble_eq_true rfl, Nat.le_of_ble_eq_true rfl⟩) (hw_preS hK hO hZ) rfl rfl hl.1 rfl (lv_room (Nat.le_of_ble_eq_true rfl)) dWord_firstLetters_20 ⟨(show 0 + 0 ≤ 0 by omega), (show 0 + 0 ≤ 0 by omega)⟩) hZ hA (fun r X_3 H_4 lc_5 hp hZ => ?_)
      obtain ⟨hr, hy⟩ := hp
      subst hy
      refine hw_topi hr ?_
      refine lv_lushr hx hb dWord_firstLetters_23 (wb_shr (n := eW w) (k := 5 * (11 - (n - 1))) (by first | exact eW_lt64 (by assumption) | omega) (by omega)) ?_
      refine lv_iload_n hx hb dWord_firstLetters_24 rfl (lv_at hl 1 rfl) ?_
      refine lv_iconst (v := nI 1) hx hb dWord_firstLetters_25 (by decide) ?_
      refine lv_isub hx hb dWord_firstLetters_26 ?_
      refine hw_topi (pk_sub (a := n) (b := 1) (by omega)) ?_
      refine hw_calli (va_runS (As := [.int (nI (n - 1))]) (rest := [.long (lN ((eW w) / 2 ^ (5 * (11 - (n - 1)))))]) ⟨hx, hb, hml, hown, hts⟩ (c_W_shift l D K X H_4.size (k := n - 1) (by omega)) (va_cwS 1 hts (hwGood (hw_3 mm_2 mm_1 mm_3 (hwAll mm_0))) rfl rfl rfl (by decide +kernel) ⟨Nat.le_of_ble_eq_true rfl, Nat.le_of_ble_eq_true rfl⟩) (hw_preS hK hO hZ) rfl rfl hl.1 rfl (lv_room (Nat.le_of_ble_eq_true rfl)) dWord_firstLetters_27 ⟨(show 0 + 0 ≤ 0 by omega), (show 0 + 0 ≤ 0 by omega)⟩) hZ hA (fun r X_6 H_7 lc_8 hp hZ => ?_)
      obtain ⟨hr, hy⟩ := hp
      subst hy
      refine hw_topi hr ?_
      refine lv_lshl hx hb dWord_firstLetters_30 (wb_shl ((eW w) / 2 ^ (5 * (11 - (n - 1)))) (k := 5 * (11 - (n - 1))) (by omega)) ?_
      exact hret hZ ⟨congrArg lN (hw_first hw (by omega) (by omega)), rfl⟩ dWord_firstLetters_31
    · refine lv_lload_n hx hb dWord_firstLetters_12 rfl (lv_at hl 0 rfl) ?_
      refine lv_goto (tgt := 31) hx hb dWord_firstLetters_13 (by decide) ?_
      exact hret hZ ⟨by have h0 : n = 12 := (by omega); subst h0; rw [List.take_of_length_le hw.1], rfl⟩ dWord_firstLetters_31
  · refine lv_lconst (v := lN 0) hx hb dWord_firstLetters_4 rfl ?_
    exact hret hZ ⟨by have h0 : n = 0 := (by omega); subst h0; rfl, rfl⟩ dWord_firstLetters_5
set_option maxHeartbeats 4000000 in
set_option maxRecDepth 100000 in
theorem c_W_stem (l : Launch) (D : va_G) (K : Nat → ClassId) (X : hwW) (sz : Nat) (w : List Nat) (g : Nat) (hw : okW w) (hg : g < 3) (hn : 1 ≤ w.length) : Met l yWord_stem (.code yWord_stem cWord_stem 6 (some .long) :: hwG) ({ frames := 3, cells := 0, slots := 0, locals := 64 } : Room) (hwPc D vwCl (hwT K) [.long (lN (eW w)), .int (nI g)] X sz) (hwQl D vwCl X sz (fun r Y => r = lN (eW (stemL g w)) ∧ X = Y)) 0 0 (va_A X.1 sz) := by
  refine hwMetl (cc := cWord_stem) (maxL := 6) (by decide) rfl (Nat.le_of_ble_eq_true rfl) (fun p e s m args below meth c ls A Q hx hb hml hown hts hname hret hK hO hZ hA hl => ?_)
  have hl : lv_has ls 6 [(0, .long (lN (eW w))), (2, .int (nI g))] := hl
  have hw12 := hw.1
  rcases Nat.lt_or_ge w.length 2 with h2 | h2
  · refine lv_lload_n hx hb dWord_stem_0 rfl (lv_at hl 0 rfl) ?_
    refine hw_calli (va_runS (As := [.long (lN (eW w))]) (rest := []) ⟨hx, hb, hml, hown, hts⟩ (c_W_length l D K X s.heap.size (w := w) (by assumption)) (va_cwS 1 hts (hwGood (hw_3 mm_9 mm_8 mm_3 (hwAll mm_7))) rfl rfl rfl (by decide +kernel) ⟨Nat.le_of_ble_eq_true rfl, Nat.le_of_ble_eq_true rfl⟩) (hw_preS hK hO hZ) rfl rfl hl.1 rfl (lv_room (Nat.le_of_ble_eq_true rfl)) dWord_stem_1 ⟨(show 0 + 0 ≤ 0 by omega), (show 0 + 0 ≤ 0 by omega)⟩) hZ hA (fun r X_1 H_2 lc_3 hp hZ => ?_)
    obtain ⟨hr, hy⟩ := hp
    subst hy
    refine hw_topi hr ?_
    refine lv_istore_n (lv' := [(3, .int (nI w.length)), (0, .long (lN (eW w))), (2, .int (nI g))]) hx hb dWord_stem_4 rfl hl (by decide) rfl (fun ls hl => ?_)
    refine lv_lload_n hx hb dWord_stem_5 rfl (lv_at hl 1 rfl) ?_
    refine lv_iload_n hx hb dWord_stem_6 rfl (lv_at hl 0 rfl) ?_
    refine lv_iconst (v := nI 1) hx hb dWord_stem_7 (by decide) ?_
    refine lv_isub hx hb dWord_stem_8 ?_
    refine hw_topi (pk_sub (a := w.length) (b := 1) (by omega)) ?_
    refine hw_calli (va_runS (As := [.long (lN (eW w)), .int (nI (w.length - 1))]) (rest := []) ⟨hx, hb, hml, hown, hts⟩ (c_W_letterAt l D K X H_2.size (w := w) (j := w.length - 1) (by assumption) (by omega)) (va_cwS 2 hts (hwGood (hw_3 mm_6 mm_5 mm_3 (hwAll mm_4))) rfl rfl rfl (by decide +kernel) ⟨Nat.le_of_ble_eq_true rfl, Nat.le_of_ble_eq_true rfl⟩) (hw_preS hK hO hZ) rfl rfl hl.1 rfl (lv_room (Nat.le_of_ble_eq_true rfl)) dWord_stem_9 ⟨(show 0 + 0 ≤ 0 by omega), (show 0 + 0 ≤ 0 by omega)⟩) hZ hA (fun r X_4 H_5 lc_6 hp hZ => ?_)
    obtain ⟨hr, hy, xx_7⟩ := hp
    subst hy
    refine hw_topi hr ?_
    refine lv_istore (lv' := [(4, .int (nI (w.getD (w.length - 1) 0))), (3, .int (nI w.length)), (0, .long (lN (eW w))), (2, .int (nI g))]) hx hb dWord_stem_12 hl (by decide) rfl (fun ls hl => ?_)
    refine lv_iload_n hx hb dWord_stem_14 rfl (lv_at hl 3 rfl) ?_
    refine lv_iconst (v := nI 1) hx hb dWord_stem_15 (by decide) ?_
    refine hw_ic_ne (a := g) (b := 1) (tgt := 46) hx hb dWord_stem_16 (by decide) (by omega) (by omega) (fun cq_8 => ?_) (fun cq_8 => ?_)
    · refine lv_iload_n hx hb dWord_stem_46 rfl (lv_at hl 3 rfl) ?_
      refine lv_iconst (v := nI 2) hx hb dWord_stem_47 (by decide) ?_
      refine hw_ic_eq (a := g) (b := 2) (tgt := 53) hx hb dWord_stem_48 (by decide) (by omega) (by omega) (fun cq_9 => ?_) (fun cq_9 => ?_)
      · refine lv_iload hx hb dWord_stem_53 (lv_at hl 0 rfl) ?_
        refine lv_bipush (v := nI 110) hx hb dWord_stem_55 (by decide) ?_
        refine hw_calli (va_runS (As := [.int (nI 110)]) (rest := [.int (nI (w.getD (w.length - 1) 0))]) ⟨hx, hb, hml, hown, hts⟩ (c_W_letterOf l D K X H_5.size (c0 := 110) (by first | omega | exact lo8_lt _ | decide)) (va_cwS 1 hts (hwGood (hw_3 mm_12 mm_11 mm_3 (hwAll mm_10))) rfl rfl rfl (by decide +kernel) ⟨Nat.le_of_ble_eq_true rfl, Nat.le_of_ble_eq_true rfl⟩) (hw_preS hK hO hZ) rfl rfl hl.1 rfl (lv_room (Nat.le_of_ble_eq_true rfl)) dWord_stem_57 ⟨(show 0 + 0 ≤ 0 by omega), (show 0 + 0 ≤ 0 by omega)⟩) hZ hA (fun r X_10 H_11 lc_12 hp hZ => ?_)
        obtain ⟨hr, hy, xx_13⟩ := hp
        subst hy
        refine hw_topi hr ?_
        refine hw_ic_ne (a := w.getD (w.length - 1) 0) (b := ltr 110) (tgt := 82) hx hb dWord_stem_60 (by decide) (by omega) (by omega) (fun cq_14 => ?_) (fun cq_14 => ?_)
        · refine lv_iconst (v := nI 0) hx hb dWord_stem_82 (by decide) ?_
          refine lv_istore (lv' := [(5, .int (nI 0)), (4, .int (nI (w.getD (w.length - 1) 0))), (3, .int (nI w.length)), (0, .long (lN (eW w))), (2, .int (nI g))]) hx hb dWord_stem_83 hl (by decide) rfl (fun ls hl => ?_)
          refine lv_iload hx hb dWord_stem_85 (lv_at hl 0 rfl) ?_
          refine hw_if_eq (a := 0) (tgt := 103) hx hb dWord_stem_87 (by decide) (by omega) (fun cq_15 => ?_) (fun cq_15 => by exfalso; omega)
          refine lv_iload hx hb dWord_stem_103 (lv_at hl 1 rfl) ?_
          refine lv_bipush (v := nI 101) hx hb dWord_stem_105 (by decide) ?_
          refine hw_calli (va_runS (As := [.int (nI 101)]) (rest := [.int (nI (w.getD (w.length - 1) 0))]) ⟨hx, hb, hml, hown, hts⟩ (c_W_letterOf l D K X H_11.size (c0 := 101) (by first | omega | exact lo8_lt _ | decide)) (va_cwS 1 hts (hwGood (hw_3 mm_12 mm_11 mm_3 (hwAll mm_10))) rfl rfl rfl (by decide +kernel) ⟨Nat.le_of_ble_eq_true rfl, Nat.le_of_ble_eq_true rfl⟩) (hw_preS hK hO hZ) rfl rfl hl.1 rfl (lv_room (Nat.le_of_ble_eq_true rfl)) dWord_stem_107 ⟨(show 0 + 0 ≤ 0 by omega), (show 0 + 0 ≤ 0 by omega)⟩) hZ hA (fun r X_16 H_17 lc_18 hp hZ => ?_)
          obtain ⟨hr, hy, xx_19⟩ := hp
          subst hy
          refine hw_topi hr ?_
          refine hw_ic_ne (a := w.getD (w.length - 1) 0) (b := ltr 101) (tgt := 128) hx hb dWord_stem_110 (by decide) (by omega) (by omega) (fun cq_20 => ?_) (fun cq_20 => ?_)
          · refine lv_lload_n hx hb dWord_stem_128 rfl (lv_at hl 3 rfl) ?_
            exact hret hZ ⟨congrArg lN (congrArg eW (by unfold stemL; simp_all (config := { decide := true }) [ltr]; try omega)), rfl⟩ dWord_stem_129
          · refine lv_iload_n hx hb dWord_stem_113 rfl (lv_at hl 2 rfl) ?_
            refine lv_iconst (v := nI 3) hx hb dWord_stem_114 (by decide) ?_
            refine hw_ic_le (a := w.length) (b := 3) (tgt := 128) hx hb dWord_stem_115 (by decide) (by omega) (by omega) (fun cq_21 => ?_) (fun cq_21 => by exfalso; omega)
            refine lv_lload_n hx hb dWord_stem_128 rfl (lv_at hl 3 rfl) ?_
            exact hret hZ ⟨congrArg lN (congrArg eW (by unfold stemL; simp_all (config := { decide := true }) [ltr]; try omega)), rfl⟩ dWord_stem_129
        · refine lv_lload_n hx hb dWord_stem_63 rfl (lv_at hl 2 rfl) ?_
          refine lv_iload_n hx hb dWord_stem_64 rfl (lv_at hl 1 rfl) ?_
          refine lv_iconst (v := nI 2) hx hb dWord_stem_65 (by decide) ?_
          refine lv_isub hx hb dWord_stem_66 ?_
          refine hw_calli (va_runS (As := [.long (lN (eW w)), .int ((nI w.length) - (nI 2))]) (rest := []) ⟨hx, hb, hml, hown, hts⟩ (c_W_letterAtN l D K X H_11.size (w := w) (i := (nI w.length) - (nI 2)) (pk_sneg (by omega) (by omega))) (va_cwS 2 hts (hwGood (hw_3 mm_6 mm_5 mm_3 (hwAll mm_4))) rfl rfl rfl (by decide +kernel) ⟨Nat.le_of_ble_eq_true rfl, Nat.le_of_ble_eq_true rfl⟩) (hw_preS hK hO hZ) rfl rfl hl.1 rfl (lv_room (Nat.le_of_ble_eq_true rfl)) dWord_stem_67 ⟨(show 0 + 0 ≤ 0 by omega), (show 0 + 0 ≤ 0 by omega)⟩) hZ hA (fun r X_22 H_23 lc_24 hp hZ => ?_)
          obtain ⟨hr, hy⟩ := hp
          subst hy
          refine hw_topi hr ?_
          refine lv_bipush (v := nI 101) hx hb dWord_stem_70 (by decide) ?_
          refine hw_calli (va_runS (As := [.int (nI 101)]) (rest := [.int (nI 0)]) ⟨hx, hb, hml, hown, hts⟩ (c_W_letterOf l D K X H_23.size (c0 := 101) (by first | omega | exact lo8_lt _ | decide)) (va_cwS 1 hts (hwGood (hw_3 mm_12 mm_11 mm_3 (hwAll mm_10))) rfl rfl rfl (by decide +kernel) ⟨Nat.le_of_ble_eq_true rfl, Nat.le_of_ble_eq_true rfl⟩) (hw_preS hK hO hZ) rfl rfl hl.1 rfl (lv_room (Nat.le_of_ble_eq_true rfl)) dWord_stem_72 ⟨(show 0 + 0 ≤ 0 by omega), (show 0 + 0 ≤ 0 by omega)⟩) hZ hA (fun r X_25 H_26 lc_27 hp hZ => ?_)
          obtain ⟨hr, hy, xx_28⟩ := hp
          subst hy
          refine hw_topi hr ?_
          refine hw_ic_ne (a := 0) (b := ltr 101) (tgt := 82) hx hb dWord_stem_75 (by decide) (by omega) (by omega) (fun cq_29 => ?_) (fun cq_29 => ?_)
          · refine lv_iconst (v := nI 0) hx hb dWord_stem_82 (by decide) ?_
            refine lv_istore (lv' := [(5, .int (nI 0)), (4, .int (nI (w.getD (w.length - 1) 0))), (3, .int (nI w.length)), (0, .long (lN (eW w))), (2, .int (nI g))]) hx hb dWord_stem_83 hl (by decide) rfl (fun ls hl => ?_)
            refine lv_iload hx hb dWord_stem_85 (lv_at hl 0 rfl) ?_
            refine hw_if_eq (a := 0) (tgt := 103) hx hb dWord_stem_87 (by decide) (by omega) (fun cq_30 => ?_) (fun cq_30 => by exfalso; omega)
            refine lv_iload hx hb dWord_stem_103 (lv_at hl 1 rfl) ?_
            refine lv_bipush (v := nI 101) hx hb dWord_stem_105 (by decide) ?_
            refine hw_calli (va_runS (As := [.int (nI 101)]) (rest := [.int (nI (w.getD (w.length - 1) 0))]) ⟨hx, hb, hml, hown, hts⟩ (c_W_letterOf l D K X H_26.size (c0 := 101) (by first | omega | exact lo8_lt _ | decide)) (va_cwS 1 hts (hwGood (hw_3 mm_12 mm_11 mm_3 (hwAll mm_10))) rfl rfl rfl (by decide +kernel) ⟨Nat.le_of_ble_eq_true rfl, Nat.le_of_ble_eq_true rfl⟩) (hw_preS hK hO hZ) rfl rfl hl.1 rfl (lv_room (Nat.le_of_ble_eq_true rfl)) dWord_stem_107 ⟨(show 0 + 0 ≤ 0 by omega), (show 0 + 0 ≤ 0 by omega)⟩) hZ hA (fun r X_31 H_32 lc_33 hp hZ => ?_)
            obtain ⟨hr, hy, xx_34⟩ := hp
            subst hy
            refine hw_topi hr ?_
            refine hw_ic_ne (a := w.getD (w.length - 1) 0) (b := ltr 101) (tgt := 128) hx hb dWord_stem_110 (by decide) (by omega) (by omega) (fun cq_35 => ?_) (fun cq_35 => ?_)
            · refine lv_lload_n hx hb dWord_stem_128 rfl (lv_at hl 3 rfl) ?_
              exact hret hZ ⟨congrArg lN (congrArg eW (by unfold stemL; simp_all (config := { decide := true }) [ltr]; try omega)), rfl⟩ dWord_stem_129
            · refine lv_iload_n hx hb dWord_stem_113 rfl (lv_at hl 2 rfl) ?_
              refine lv_iconst (v := nI 3) hx hb dWord_stem_114 (by decide) ?_
              refine hw_ic_le (a := w.length) (b := 3) (tgt := 128) hx hb dWord_stem_115 (by decide) (by omega) (by omega) (fun cq_36 => ?_) (fun cq_36 => by exfalso; omega)
              refine lv_lload_n hx hb dWord_stem_128 rfl (lv_at hl 3 rfl) ?_
              exact hret hZ ⟨congrArg lN (congrArg eW (by unfold stemL; simp_all (config := { decide := true }) [ltr]; try omega)), rfl⟩ dWord_stem_129
          · refine lv_iconst (v := nI 1) hx hb dWord_stem_78 (by decide) ?_
            refine lv_goto (tgt := 83) hx hb dWord_stem_79 (by decide) ?_
            refine lv_istore (lv' := [(5, .int (nI 1)), (4, .int (nI (w.getD (w.length - 1) 0))), (3, .int (nI w.length)), (0, .long (lN (eW w))), (2, .int (nI g))]) hx hb dWord_stem_83 hl (by decide) rfl (fun ls hl => ?_)
            refine lv_iload hx hb dWord_stem_85 (lv_at hl 0 rfl) ?_
            refine hw_if_eq (a := 1) (tgt := 103) hx hb dWord_stem_87 (by decide) (by omega) (fun cq_37 => by exfalso; omega) (fun cq_37 => ?_)
            refine lv_iload_n hx hb dWord_stem_90 rfl (lv_at hl 2 rfl) ?_
            refine lv_iconst (v := nI 4) hx hb dWord_stem_91 (by decide) ?_
            refine hw_ic_le (a := w.length) (b := 4) (tgt := 103) hx hb dWord_stem_92 (by decide) (by omega) (by omega) (fun cq_38 => ?_) (fun cq_38 => by exfalso; omega)
            refine lv_iload hx hb dWord_stem_103 (lv_at hl 1 rfl) ?_
            refine lv_bipush (v := nI 101) hx hb dWord_stem_105 (by decide) ?_
            refine hw_calli (va_runS (As := [.int (nI 101)]) (rest := [.int (nI (w.getD (w.length - 1) 0))]) ⟨hx, hb, hml, hown, hts⟩ (c_W_letterOf l D K X H_26.size (c0 := 101) (by first | omega | exact lo8_lt _ | decide)) (va_cwS 1 hts (hwGood (hw_3 mm_12 mm_11 mm_3 (hwAll mm_10))) rfl rfl rfl (by decide +kernel) ⟨Nat.le_of_ble_eq_true rfl, Nat.le_of_ble_eq_true rfl⟩) (hw_preS hK hO hZ) rfl rfl hl.1 rfl (lv_room (Nat.le_of_ble_eq_true rfl)) dWord_stem_107 ⟨(show 0 + 0 ≤ 0 by omega), (show 0 + 0 ≤ 0 by omega)⟩) hZ hA (fun r X_39 H_40 lc_41 hp hZ => ?_)
            obtain ⟨hr, hy, xx_42⟩ := hp
            subst hy
            refine hw_topi hr ?_
            refine hw_ic_ne (a := w.getD (w.length - 1) 0) (b := ltr 101) (tgt := 128) hx hb dWord_stem_110 (by decide) (by omega) (by omega) (fun cq_43 => ?_) (fun cq_43 => ?_)
            · refine lv_lload_n hx hb dWord_stem_128 rfl (lv_at hl 3 rfl) ?_
              exact hret hZ ⟨congrArg lN (congrArg eW (by unfold stemL; simp_all (config := { decide := true }) [ltr]; try omega)), rfl⟩ dWord_stem_129
            · refine lv_iload_n hx hb dWord_stem_113 rfl (lv_at hl 2 rfl) ?_
              refine lv_iconst (v := nI 3) hx hb dWord_stem_114 (by decide) ?_
              refine hw_ic_le (a := w.length) (b := 3) (tgt := 128) hx hb dWord_stem_115 (by decide) (by omega) (by omega) (fun cq_44 => ?_) (fun cq_44 => by exfalso; omega)
              refine lv_lload_n hx hb dWord_stem_128 rfl (lv_at hl 3 rfl) ?_
              exact hret hZ ⟨congrArg lN (congrArg eW (by unfold stemL; simp_all (config := { decide := true }) [ltr]; try omega)), rfl⟩ dWord_stem_129
      · refine lv_lload_n hx hb dWord_stem_51 rfl (lv_at hl 2 rfl) ?_
        exact hret hZ ⟨congrArg lN (congrArg eW (by unfold stemL; simp_all (config := { decide := true }) [ltr]; try omega)), rfl⟩ dWord_stem_52
    · refine lv_iload hx hb dWord_stem_19 (lv_at hl 0 rfl) ?_
      refine lv_bipush (v := nI 115) hx hb dWord_stem_21 (by decide) ?_
      refine hw_calli (va_runS (As := [.int (nI 115)]) (rest := [.int (nI (w.getD (w.length - 1) 0))]) ⟨hx, hb, hml, hown, hts⟩ (c_W_letterOf l D K X H_5.size (c0 := 115) (by first | omega | exact lo8_lt _ | decide)) (va_cwS 1 hts (hwGood (hw_3 mm_12 mm_11 mm_3 (hwAll mm_10))) rfl rfl rfl (by decide +kernel) ⟨Nat.le_of_ble_eq_true rfl, Nat.le_of_ble_eq_true rfl⟩) (hw_preS hK hO hZ) rfl rfl hl.1 rfl (lv_room (Nat.le_of_ble_eq_true rfl)) dWord_stem_23 ⟨(show 0 + 0 ≤ 0 by omega), (show 0 + 0 ≤ 0 by omega)⟩) hZ hA (fun r X_45 H_46 lc_47 hp hZ => ?_)
      obtain ⟨hr, hy, xx_48⟩ := hp
      subst hy
      refine hw_topi hr ?_
      refine hw_ic_ne (a := w.getD (w.length - 1) 0) (b := ltr 115) (tgt := 44) hx hb dWord_stem_26 (by decide) (by omega) (by omega) (fun cq_49 => ?_) (fun cq_49 => ?_)
      · refine lv_lload_n hx hb dWord_stem_44 rfl (lv_at hl 2 rfl) ?_
        exact hret hZ ⟨congrArg lN (congrArg eW (by unfold stemL; simp_all (config := { decide := true }) [ltr]; try omega)), rfl⟩ dWord_stem_45
      · refine lv_iload_n hx hb dWord_stem_29 rfl (lv_at hl 1 rfl) ?_
        refine lv_iconst (v := nI 3) hx hb dWord_stem_30 (by decide) ?_
        refine hw_ic_le (a := w.length) (b := 3) (tgt := 44) hx hb dWord_stem_31 (by decide) (by omega) (by omega) (fun cq_50 => ?_) (fun cq_50 => by exfalso; omega)
        refine lv_lload_n hx hb dWord_stem_44 rfl (lv_at hl 2 rfl) ?_
        exact hret hZ ⟨congrArg lN (congrArg eW (by unfold stemL; simp_all (config := { decide := true }) [ltr]; try omega)), rfl⟩ dWord_stem_45
  · refine lv_lload_n hx hb dWord_stem_0 rfl (lv_at hl 0 rfl) ?_
    refine hw_calli (va_runS (As := [.long (lN (eW w))]) (rest := []) ⟨hx, hb, hml, hown, hts⟩ (c_W_length l D K X s.heap.size (w := w) (by assumption)) (va_cwS 1 hts (hwGood (hw_3 mm_9 mm_8 mm_3 (hwAll mm_7))) rfl rfl rfl (by decide +kernel) ⟨Nat.le_of_ble_eq_true rfl, Nat.le_of_ble_eq_true rfl⟩) (hw_preS hK hO hZ) rfl rfl hl.1 rfl (lv_room (Nat.le_of_ble_eq_true rfl)) dWord_stem_1 ⟨(show 0 + 0 ≤ 0 by omega), (show 0 + 0 ≤ 0 by omega)⟩) hZ hA (fun r X_51 H_52 lc_53 hp hZ => ?_)
    obtain ⟨hr, hy⟩ := hp
    subst hy
    refine hw_topi hr ?_
    refine lv_istore_n (lv' := [(3, .int (nI w.length)), (0, .long (lN (eW w))), (2, .int (nI g))]) hx hb dWord_stem_4 rfl hl (by decide) rfl (fun ls hl => ?_)
    refine lv_lload_n hx hb dWord_stem_5 rfl (lv_at hl 1 rfl) ?_
    refine lv_iload_n hx hb dWord_stem_6 rfl (lv_at hl 0 rfl) ?_
    refine lv_iconst (v := nI 1) hx hb dWord_stem_7 (by decide) ?_
    refine lv_isub hx hb dWord_stem_8 ?_
    refine hw_topi (pk_sub (a := w.length) (b := 1) (by omega)) ?_
    refine hw_calli (va_runS (As := [.long (lN (eW w)), .int (nI (w.length - 1))]) (rest := []) ⟨hx, hb, hml, hown, hts⟩ (c_W_letterAt l D K X H_52.size (w := w) (j := w.length - 1) (by assumption) (by omega)) (va_cwS 2 hts (hwGood (hw_3 mm_6 mm_5 mm_3 (hwAll mm_4))) rfl rfl rfl (by decide +kernel) ⟨Nat.le_of_ble_eq_true rfl, Nat.le_of_ble_eq_true rfl⟩) (hw_preS hK hO hZ) rfl rfl hl.1 rfl (lv_room (Nat.le_of_ble_eq_true rfl)) dWord_stem_9 ⟨(show 0 + 0 ≤ 0 by omega), (show 0 + 0 ≤ 0 by omega)⟩) hZ hA (fun r X_54 H_55 lc_56 hp hZ => ?_)
    obtain ⟨hr, hy, xx_57⟩ := hp
    subst hy
    refine hw_topi hr ?_
    refine lv_istore (lv' := [(4, .int (nI (w.getD (w.length - 1) 0))), (3, .int (nI w.length)), (0, .long (lN (eW w))), (2, .int (nI g))]) hx hb dWord_stem_12 hl (by decide) rfl (fun ls hl => ?_)
    refine lv_iload_n hx hb dWord_stem_14 rfl (lv_at hl 3 rfl) ?_
    refine lv_iconst (v := nI 1) hx hb dWord_stem_15 (by decide) ?_
    refine hw_ic_ne (a := g) (b := 1) (tgt := 46) hx hb dWord_stem_16 (by decide) (by omega) (by omega) (fun cq_58 => ?_) (fun cq_58 => ?_)
    · refine lv_iload_n hx hb dWord_stem_46 rfl (lv_at hl 3 rfl) ?_
      refine lv_iconst (v := nI 2) hx hb dWord_stem_47 (by decide) ?_
      refine hw_ic_eq (a := g) (b := 2) (tgt := 53) hx hb dWord_stem_48 (by decide) (by omega) (by omega) (fun cq_59 => ?_) (fun cq_59 => ?_)
      · refine lv_iload hx hb dWord_stem_53 (lv_at hl 0 rfl) ?_
        refine lv_bipush (v := nI 110) hx hb dWord_stem_55 (by decide) ?_
        refine hw_calli (va_runS (As := [.int (nI 110)]) (rest := [.int (nI (w.getD (w.length - 1) 0))]) ⟨hx, hb, hml, hown, hts⟩ (c_W_letterOf l D K X H_55.size (c0 := 110) (by first | omega | exact lo8_lt _ | decide)) (va_cwS 1 hts (hwGood (hw_3 mm_12 mm_11 mm_3 (hwAll mm_10))) rfl rfl rfl (by decide +kernel) ⟨Nat.le_of_ble_eq_true rfl, Nat.le_of_ble_eq_true rfl⟩) (hw_preS hK hO hZ) rfl rfl hl.1 rfl (lv_room (Nat.le_of_ble_eq_true rfl)) dWord_stem_57 ⟨(show 0 + 0 ≤ 0 by omega), (show 0 + 0 ≤ 0 by omega)⟩) hZ hA (fun r X_60 H_61 lc_62 hp hZ => ?_)
        obtain ⟨hr, hy, xx_63⟩ := hp
        subst hy
        refine hw_topi hr ?_
        refine hw_ic_ne (a := w.getD (w.length - 1) 0) (b := ltr 110) (tgt := 82) hx hb dWord_stem_60 (by decide) (by omega) (by omega) (fun cq_64 => ?_) (fun cq_64 => ?_)
        · refine lv_iconst (v := nI 0) hx hb dWord_stem_82 (by decide) ?_
          refine lv_istore (lv' := [(5, .int (nI 0)), (4, .int (nI (w.getD (w.length - 1) 0))), (3, .int (nI w.length)), (0, .long (lN (eW w))), (2, .int (nI g))]) hx hb dWord_stem_83 hl (by decide) rfl (fun ls hl => ?_)
          refine lv_iload hx hb dWord_stem_85 (lv_at hl 0 rfl) ?_
          refine hw_if_eq (a := 0) (tgt := 103) hx hb dWord_stem_87 (by decide) (by omega) (fun cq_65 => ?_) (fun cq_65 => by exfalso; omega)
          refine lv_iload hx hb dWord_stem_103 (lv_at hl 1 rfl) ?_
          refine lv_bipush (v := nI 101) hx hb dWord_stem_105 (by decide) ?_
          refine hw_calli (va_runS (As := [.int (nI 101)]) (rest := [.int (nI (w.getD (w.length - 1) 0))]) ⟨hx, hb, hml, hown, hts⟩ (c_W_letterOf l D K X H_61.size (c0 := 101) (by first | omega | exact lo8_lt _ | decide)) (va_cwS 1 hts (hwGood (hw_3 mm_12 mm_11 mm_3 (hwAll mm_10))) rfl rfl rfl (by decide +kernel) ⟨Nat.le_of_ble_eq_true rfl, Nat.le_of_ble_eq_true rfl⟩) (hw_preS hK hO hZ) rfl rfl hl.1 rfl (lv_room (Nat.le_of_ble_eq_true rfl)) dWord_stem_107 ⟨(show 0 + 0 ≤ 0 by omega), (show 0 + 0 ≤ 0 by omega)⟩) hZ hA (fun r X_66 H_67 lc_68 hp hZ => ?_)
          obtain ⟨hr, hy, xx_69⟩ := hp
          subst hy
          refine hw_topi hr ?_
          refine hw_ic_ne (a := w.getD (w.length - 1) 0) (b := ltr 101) (tgt := 128) hx hb dWord_stem_110 (by decide) (by omega) (by omega) (fun cq_70 => ?_) (fun cq_70 => ?_)
          · refine lv_lload_n hx hb dWord_stem_128 rfl (lv_at hl 3 rfl) ?_
            exact hret hZ ⟨congrArg lN (congrArg eW (by unfold stemL; simp_all (config := { decide := true }) [ltr]; try omega)), rfl⟩ dWord_stem_129
          · refine lv_iload_n hx hb dWord_stem_113 rfl (lv_at hl 2 rfl) ?_
            refine lv_iconst (v := nI 3) hx hb dWord_stem_114 (by decide) ?_
            refine hw_ic_le (a := w.length) (b := 3) (tgt := 128) hx hb dWord_stem_115 (by decide) (by omega) (by omega) (fun cq_71 => ?_) (fun cq_71 => ?_)
            · refine lv_lload_n hx hb dWord_stem_128 rfl (lv_at hl 3 rfl) ?_
              exact hret hZ ⟨congrArg lN (congrArg eW (by unfold stemL; simp_all (config := { decide := true }) [ltr]; try omega)), rfl⟩ dWord_stem_129
            · refine lv_lload_n hx hb dWord_stem_118 rfl (lv_at hl 3 rfl) ?_
              refine lv_iload_n hx hb dWord_stem_119 rfl (lv_at hl 2 rfl) ?_
              refine lv_iconst (v := nI 1) hx hb dWord_stem_120 (by decide) ?_
              refine lv_isub hx hb dWord_stem_121 ?_
              refine hw_topi (pk_sub (a := w.length) (b := 1) (by omega)) ?_
              refine hw_calll (va_runS (As := [.long (lN (eW w)), .int (nI (w.length - 1))]) (rest := []) ⟨hx, hb, hml, hown, hts⟩ (c_W_firstLetters l D K X H_67.size (w := w) (n := w.length - 1) (by assumption) (by omega)) (va_cwS 2 hts (hwGood (hw_3 mm_15 mm_14 mm_3 (hwAll mm_13))) rfl rfl rfl (by decide +kernel) ⟨Nat.le_of_ble_eq_true rfl, Nat.le_of_ble_eq_true rfl⟩) (hw_preS hK hO hZ) rfl rfl hl.1 rfl (lv_room (Nat.le_of_ble_eq_true rfl)) dWord_stem_122 ⟨(show 0 + 0 ≤ 0 by omega), (show 0 + 0 ≤ 0 by omega)⟩) hZ hA (fun r X_72 H_73 lc_74 hp hZ => ?_)
              obtain ⟨hr, hy⟩ := hp
              subst hy
              refine hw_topl hr ?_
              refine lv_goto (tgt := 129) hx hb dWord_stem_125 (by decide) ?_
              exact hret hZ ⟨congrArg lN (congrArg eW (by unfold stemL; simp_all (config := { decide := true }) [ltr]; try omega)), rfl⟩ dWord_stem_129
        · refine lv_lload_n hx hb dWord_stem_63 rfl (lv_at hl 2 rfl) ?_
          refine lv_iload_n hx hb dWord_stem_64 rfl (lv_at hl 1 rfl) ?_
          refine lv_iconst (v := nI 2) hx hb dWord_stem_65 (by decide) ?_
          refine lv_isub hx hb dWord_stem_66 ?_
          refine hw_topi (pk_sub (a := w.length) (b := 2) (by omega)) ?_
          refine hw_calli (va_runS (As := [.long (lN (eW w)), .int (nI (w.length - 2))]) (rest := []) ⟨hx, hb, hml, hown, hts⟩ (c_W_letterAt l D K X H_61.size (w := w) (j := w.length - 2) (by assumption) (by omega)) (va_cwS 2 hts (hwGood (hw_3 mm_6 mm_5 mm_3 (hwAll mm_4))) rfl rfl rfl (by decide +kernel) ⟨Nat.le_of_ble_eq_true rfl, Nat.le_of_ble_eq_true rfl⟩) (hw_preS hK hO hZ) rfl rfl hl.1 rfl (lv_room (Nat.le_of_ble_eq_true rfl)) dWord_stem_67 ⟨(show 0 + 0 ≤ 0 by omega), (show 0 + 0 ≤ 0 by omega)⟩) hZ hA (fun r X_75 H_76 lc_77 hp hZ => ?_)
          obtain ⟨hr, hy, xx_78⟩ := hp
          subst hy
          refine hw_topi hr ?_
          refine lv_bipush (v := nI 101) hx hb dWord_stem_70 (by decide) ?_
          refine hw_calli (va_runS (As := [.int (nI 101)]) (rest := [.int (nI (w.getD (w.length - 2) 0))]) ⟨hx, hb, hml, hown, hts⟩ (c_W_letterOf l D K X H_76.size (c0 := 101) (by first | omega | exact lo8_lt _ | decide)) (va_cwS 1 hts (hwGood (hw_3 mm_12 mm_11 mm_3 (hwAll mm_10))) rfl rfl rfl (by decide +kernel) ⟨Nat.le_of_ble_eq_true rfl, Nat.le_of_ble_eq_true rfl⟩) (hw_preS hK hO hZ) rfl rfl hl.1 rfl (lv_room (Nat.le_of_ble_eq_true rfl)) dWord_stem_72 ⟨(show 0 + 0 ≤ 0 by omega), (show 0 + 0 ≤ 0 by omega)⟩) hZ hA (fun r X_79 H_80 lc_81 hp hZ => ?_)
          obtain ⟨hr, hy, xx_82⟩ := hp
          subst hy
          refine hw_topi hr ?_
          refine hw_ic_ne (a := w.getD (w.length - 2) 0) (b := ltr 101) (tgt := 82) hx hb dWord_stem_75 (by decide) (by omega) (by omega) (fun cq_83 => ?_) (fun cq_83 => ?_)
          · refine lv_iconst (v := nI 0) hx hb dWord_stem_82 (by decide) ?_
            refine lv_istore (lv' := [(5, .int (nI 0)), (4, .int (nI (w.getD (w.length - 1) 0))), (3, .int (nI w.length)), (0, .long (lN (eW w))), (2, .int (nI g))]) hx hb dWord_stem_83 hl (by decide) rfl (fun ls hl => ?_)
            refine lv_iload hx hb dWord_stem_85 (lv_at hl 0 rfl) ?_
            refine hw_if_eq (a := 0) (tgt := 103) hx hb dWord_stem_87 (by decide) (by omega) (fun cq_84 => ?_) (fun cq_84 => by exfalso; omega)
            refine lv_iload hx hb dWord_stem_103 (lv_at hl 1 rfl) ?_
            refine lv_bipush (v := nI 101) hx hb dWord_stem_105 (by decide) ?_
            refine hw_calli (va_runS (As := [.int (nI 101)]) (rest := [.int (nI (w.getD (w.length - 1) 0))]) ⟨hx, hb, hml, hown, hts⟩ (c_W_letterOf l D K X H_80.size (c0 := 101) (by first | omega | exact lo8_lt _ | decide)) (va_cwS 1 hts (hwGood (hw_3 mm_12 mm_11 mm_3 (hwAll mm_10))) rfl rfl rfl (by decide +kernel) ⟨Nat.le_of_ble_eq_true rfl, Nat.le_of_ble_eq_true rfl⟩) (hw_preS hK hO hZ) rfl rfl hl.1 rfl (lv_room (Nat.le_of_ble_eq_true rfl)) dWord_stem_107 ⟨(show 0 + 0 ≤ 0 by omega), (show 0 + 0 ≤ 0 by omega)⟩) hZ hA (fun r X_85 H_86 lc_87 hp hZ => ?_)
            obtain ⟨hr, hy, xx_88⟩ := hp
            subst hy
            refine hw_topi hr ?_
            refine hw_ic_ne (a := w.getD (w.length - 1) 0) (b := ltr 101) (tgt := 128) hx hb dWord_stem_110 (by decide) (by omega) (by omega) (fun cq_89 => ?_) (fun cq_89 => ?_)
            · refine lv_lload_n hx hb dWord_stem_128 rfl (lv_at hl 3 rfl) ?_
              exact hret hZ ⟨congrArg lN (congrArg eW (by unfold stemL; simp_all (config := { decide := true }) [ltr]; try omega)), rfl⟩ dWord_stem_129
            · refine lv_iload_n hx hb dWord_stem_113 rfl (lv_at hl 2 rfl) ?_
              refine lv_iconst (v := nI 3) hx hb dWord_stem_114 (by decide) ?_
              refine hw_ic_le (a := w.length) (b := 3) (tgt := 128) hx hb dWord_stem_115 (by decide) (by omega) (by omega) (fun cq_90 => ?_) (fun cq_90 => ?_)
              · refine lv_lload_n hx hb dWord_stem_128 rfl (lv_at hl 3 rfl) ?_
                exact hret hZ ⟨congrArg lN (congrArg eW (by unfold stemL; simp_all (config := { decide := true }) [ltr]; try omega)), rfl⟩ dWord_stem_129
              · refine lv_lload_n hx hb dWord_stem_118 rfl (lv_at hl 3 rfl) ?_
                refine lv_iload_n hx hb dWord_stem_119 rfl (lv_at hl 2 rfl) ?_
                refine lv_iconst (v := nI 1) hx hb dWord_stem_120 (by decide) ?_
                refine lv_isub hx hb dWord_stem_121 ?_
                refine hw_topi (pk_sub (a := w.length) (b := 1) (by omega)) ?_
                refine hw_calll (va_runS (As := [.long (lN (eW w)), .int (nI (w.length - 1))]) (rest := []) ⟨hx, hb, hml, hown, hts⟩ (c_W_firstLetters l D K X H_86.size (w := w) (n := w.length - 1) (by assumption) (by omega)) (va_cwS 2 hts (hwGood (hw_3 mm_15 mm_14 mm_3 (hwAll mm_13))) rfl rfl rfl (by decide +kernel) ⟨Nat.le_of_ble_eq_true rfl, Nat.le_of_ble_eq_true rfl⟩) (hw_preS hK hO hZ) rfl rfl hl.1 rfl (lv_room (Nat.le_of_ble_eq_true rfl)) dWord_stem_122 ⟨(show 0 + 0 ≤ 0 by omega), (show 0 + 0 ≤ 0 by omega)⟩) hZ hA (fun r X_91 H_92 lc_93 hp hZ => ?_)
                obtain ⟨hr, hy⟩ := hp
                subst hy
                refine hw_topl hr ?_
                refine lv_goto (tgt := 129) hx hb dWord_stem_125 (by decide) ?_
                exact hret hZ ⟨congrArg lN (congrArg eW (by unfold stemL; simp_all (config := { decide := true }) [ltr]; try omega)), rfl⟩ dWord_stem_129
          · refine lv_iconst (v := nI 1) hx hb dWord_stem_78 (by decide) ?_
            refine lv_goto (tgt := 83) hx hb dWord_stem_79 (by decide) ?_
            refine lv_istore (lv' := [(5, .int (nI 1)), (4, .int (nI (w.getD (w.length - 1) 0))), (3, .int (nI w.length)), (0, .long (lN (eW w))), (2, .int (nI g))]) hx hb dWord_stem_83 hl (by decide) rfl (fun ls hl => ?_)
            refine lv_iload hx hb dWord_stem_85 (lv_at hl 0 rfl) ?_
            refine hw_if_eq (a := 1) (tgt := 103) hx hb dWord_stem_87 (by decide) (by omega) (fun cq_94 => by exfalso; omega) (fun cq_94 => ?_)
            refine lv_iload_n hx hb dWord_stem_90 rfl (lv_at hl 2 rfl) ?_
            refine lv_iconst (v := nI 4) hx hb dWord_stem_91 (by decide) ?_
            refine hw_ic_le (a := w.length) (b := 4) (tgt := 103) hx hb dWord_stem_92 (by decide) (by omega) (by omega) (fun cq_95 => ?_) (fun cq_95 => ?_)
            · refine lv_iload hx hb dWord_stem_103 (lv_at hl 1 rfl) ?_
              refine lv_bipush (v := nI 101) hx hb dWord_stem_105 (by decide) ?_
              refine hw_calli (va_runS (As := [.int (nI 101)]) (rest := [.int (nI (w.getD (w.length - 1) 0))]) ⟨hx, hb, hml, hown, hts⟩ (c_W_letterOf l D K X H_80.size (c0 := 101) (by first | omega | exact lo8_lt _ | decide)) (va_cwS 1 hts (hwGood (hw_3 mm_12 mm_11 mm_3 (hwAll mm_10))) rfl rfl rfl (by decide +kernel) ⟨Nat.le_of_ble_eq_true rfl, Nat.le_of_ble_eq_true rfl⟩) (hw_preS hK hO hZ) rfl rfl hl.1 rfl (lv_room (Nat.le_of_ble_eq_true rfl)) dWord_stem_107 ⟨(show 0 + 0 ≤ 0 by omega), (show 0 + 0 ≤ 0 by omega)⟩) hZ hA (fun r X_96 H_97 lc_98 hp hZ => ?_)
              obtain ⟨hr, hy, xx_99⟩ := hp
              subst hy
              refine hw_topi hr ?_
              refine hw_ic_ne (a := w.getD (w.length - 1) 0) (b := ltr 101) (tgt := 128) hx hb dWord_stem_110 (by decide) (by omega) (by omega) (fun cq_100 => ?_) (fun cq_100 => ?_)
              · refine lv_lload_n hx hb dWord_stem_128 rfl (lv_at hl 3 rfl) ?_
                exact hret hZ ⟨congrArg lN (congrArg eW (by unfold stemL; simp_all (config := { decide := true }) [ltr]; try omega)), rfl⟩ dWord_stem_129
              · refine lv_iload_n hx hb dWord_stem_113 rfl (lv_at hl 2 rfl) ?_
                refine lv_iconst (v := nI 3) hx hb dWord_stem_114 (by decide) ?_
                refine hw_ic_le (a := w.length) (b := 3) (tgt := 128) hx hb dWord_stem_115 (by decide) (by omega) (by omega) (fun cq_101 => ?_) (fun cq_101 => ?_)
                · refine lv_lload_n hx hb dWord_stem_128 rfl (lv_at hl 3 rfl) ?_
                  exact hret hZ ⟨congrArg lN (congrArg eW (by unfold stemL; simp_all (config := { decide := true }) [ltr]; try omega)), rfl⟩ dWord_stem_129
                · refine lv_lload_n hx hb dWord_stem_118 rfl (lv_at hl 3 rfl) ?_
                  refine lv_iload_n hx hb dWord_stem_119 rfl (lv_at hl 2 rfl) ?_
                  refine lv_iconst (v := nI 1) hx hb dWord_stem_120 (by decide) ?_
                  refine lv_isub hx hb dWord_stem_121 ?_
                  refine hw_topi (pk_sub (a := w.length) (b := 1) (by omega)) ?_
                  refine hw_calll (va_runS (As := [.long (lN (eW w)), .int (nI (w.length - 1))]) (rest := []) ⟨hx, hb, hml, hown, hts⟩ (c_W_firstLetters l D K X H_97.size (w := w) (n := w.length - 1) (by assumption) (by omega)) (va_cwS 2 hts (hwGood (hw_3 mm_15 mm_14 mm_3 (hwAll mm_13))) rfl rfl rfl (by decide +kernel) ⟨Nat.le_of_ble_eq_true rfl, Nat.le_of_ble_eq_true rfl⟩) (hw_preS hK hO hZ) rfl rfl hl.1 rfl (lv_room (Nat.le_of_ble_eq_true rfl)) dWord_stem_122 ⟨(show 0 + 0 ≤ 0 by omega), (show 0 + 0 ≤ 0 by omega)⟩) hZ hA (fun r X_102 H_103 lc_104 hp hZ => ?_)
                  obtain ⟨hr, hy⟩ := hp
                  subst hy
                  refine hw_topl hr ?_
                  refine lv_goto (tgt := 129) hx hb dWord_stem_125 (by decide) ?_
                  exact hret hZ ⟨congrArg lN (congrArg eW (by unfold stemL; simp_all (config := { decide := true }) [ltr]; try omega)), rfl⟩ dWord_stem_129
            · refine lv_lload_n hx hb dWord_stem_95 rfl (lv_at hl 3 rfl) ?_
              refine lv_iload_n hx hb dWord_stem_96 rfl (lv_at hl 2 rfl) ?_
              refine lv_iconst (v := nI 2) hx hb dWord_stem_97 (by decide) ?_
              refine lv_isub hx hb dWord_stem_98 ?_
              refine hw_topi (pk_sub (a := w.length) (b := 2) (by omega)) ?_
              refine hw_calll (va_runS (As := [.long (lN (eW w)), .int (nI (w.length - 2))]) (rest := []) ⟨hx, hb, hml, hown, hts⟩ (c_W_firstLetters l D K X H_80.size (w := w) (n := w.length - 2) (by assumption) (by omega)) (va_cwS 2 hts (hwGood (hw_3 mm_15 mm_14 mm_3 (hwAll mm_13))) rfl rfl rfl (by decide +kernel) ⟨Nat.le_of_ble_eq_true rfl, Nat.le_of_ble_eq_true rfl⟩) (hw_preS hK hO hZ) rfl rfl hl.1 rfl (lv_room (Nat.le_of_ble_eq_true rfl)) dWord_stem_99 ⟨(show 0 + 0 ≤ 0 by omega), (show 0 + 0 ≤ 0 by omega)⟩) hZ hA (fun r X_105 H_106 lc_107 hp hZ => ?_)
              obtain ⟨hr, hy⟩ := hp
              subst hy
              refine hw_topl hr ?_
              exact hret hZ ⟨congrArg lN (congrArg eW (by unfold stemL; simp_all (config := { decide := true }) [ltr]; try omega)), rfl⟩ dWord_stem_102
      · refine lv_lload_n hx hb dWord_stem_51 rfl (lv_at hl 2 rfl) ?_
        exact hret hZ ⟨congrArg lN (congrArg eW (by unfold stemL; simp_all (config := { decide := true }) [ltr]; try omega)), rfl⟩ dWord_stem_52
    · refine lv_iload hx hb dWord_stem_19 (lv_at hl 0 rfl) ?_
      refine lv_bipush (v := nI 115) hx hb dWord_stem_21 (by decide) ?_
      refine hw_calli (va_runS (As := [.int (nI 115)]) (rest := [.int (nI (w.getD (w.length - 1) 0))]) ⟨hx, hb, hml, hown, hts⟩ (c_W_letterOf l D K X H_55.size (c0 := 115) (by first | omega | exact lo8_lt _ | decide)) (va_cwS 1 hts (hwGood (hw_3 mm_12 mm_11 mm_3 (hwAll mm_10))) rfl rfl rfl (by decide +kernel) ⟨Nat.le_of_ble_eq_true rfl, Nat.le_of_ble_eq_true rfl⟩) (hw_preS hK hO hZ) rfl rfl hl.1 rfl (lv_room (Nat.le_of_ble_eq_true rfl)) dWord_stem_23 ⟨(show 0 + 0 ≤ 0 by omega), (show 0 + 0 ≤ 0 by omega)⟩) hZ hA (fun r X_108 H_109 lc_110 hp hZ => ?_)
      obtain ⟨hr, hy, xx_111⟩ := hp
      subst hy
      refine hw_topi hr ?_
      refine hw_ic_ne (a := w.getD (w.length - 1) 0) (b := ltr 115) (tgt := 44) hx hb dWord_stem_26 (by decide) (by omega) (by omega) (fun cq_112 => ?_) (fun cq_112 => ?_)
      · refine lv_lload_n hx hb dWord_stem_44 rfl (lv_at hl 2 rfl) ?_
        exact hret hZ ⟨congrArg lN (congrArg eW (by unfold stemL; simp_all (config := { decide := true }) [ltr]; try omega)), rfl⟩ dWord_stem_45
      · refine lv_iload_n hx hb dWord_stem_29 rfl (lv_at hl 1 rfl) ?_
        refine lv_iconst (v := nI 3) hx hb dWord_stem_30 (by decide) ?_
        refine hw_ic_le (a := w.length) (b := 3) (tgt := 44) hx hb dWord_stem_31 (by decide) (by omega) (by omega) (fun cq_113 => ?_) (fun cq_113 => ?_)
        · refine lv_lload_n hx hb dWord_stem_44 rfl (lv_at hl 2 rfl) ?_
          exact hret hZ ⟨congrArg lN (congrArg eW (by unfold stemL; simp_all (config := { decide := true }) [ltr]; try omega)), rfl⟩ dWord_stem_45
        · refine lv_lload_n hx hb dWord_stem_34 rfl (lv_at hl 2 rfl) ?_
          refine lv_iload_n hx hb dWord_stem_35 rfl (lv_at hl 1 rfl) ?_
          refine lv_iconst (v := nI 1) hx hb dWord_stem_36 (by decide) ?_
          refine lv_isub hx hb dWord_stem_37 ?_
          refine hw_topi (pk_sub (a := w.length) (b := 1) (by omega)) ?_
          refine hw_calll (va_runS (As := [.long (lN (eW w)), .int (nI (w.length - 1))]) (rest := []) ⟨hx, hb, hml, hown, hts⟩ (c_W_firstLetters l D K X H_109.size (w := w) (n := w.length - 1) (by assumption) (by omega)) (va_cwS 2 hts (hwGood (hw_3 mm_15 mm_14 mm_3 (hwAll mm_13))) rfl rfl rfl (by decide +kernel) ⟨Nat.le_of_ble_eq_true rfl, Nat.le_of_ble_eq_true rfl⟩) (hw_preS hK hO hZ) rfl rfl hl.1 rfl (lv_room (Nat.le_of_ble_eq_true rfl)) dWord_stem_38 ⟨(show 0 + 0 ≤ 0 by omega), (show 0 + 0 ≤ 0 by omega)⟩) hZ hA (fun r X_114 H_115 lc_116 hp hZ => ?_)
          obtain ⟨hr, hy⟩ := hp
          subst hy
          refine hw_topl hr ?_
          refine lv_goto (tgt := 45) hx hb dWord_stem_41 (by decide) ?_
          exact hret hZ ⟨congrArg lN (congrArg eW (by unfold stemL; simp_all (config := { decide := true }) [ltr]; try omega)), rfl⟩ dWord_stem_45
set_option maxHeartbeats 4000000 in
set_option maxRecDepth 100000 in
theorem c_W_begins (l : Launch) (D : va_G) (K : Nat → ClassId) (X : hwW) (sz : Nat) (w : List Nat) (b : List Nat) (hw : okW w) (hb0 : okW b) : Met l yWord_beginsWith (.code yWord_beginsWith cWord_beginsWith 4 (some .boolean) :: hwG) ({ frames := 3, cells := 0, slots := 0, locals := 64 } : Room) (hwPc D vwCl (hwT K) [.long (lN (eW w)), .long (lN (eW b))] X sz) (hwQi D vwCl X sz (fun r Y => r = bI (begL w b) ∧ X = Y)) 0 0 (va_A X.1 sz) := by
  refine hwMetz (cc := cWord_beginsWith) (maxL := 4) (by decide) rfl (Nat.le_of_ble_eq_true rfl) (fun p e s m args below meth c ls A Q hx hb hml hown hts hname hret hK hO hZ hA hl => ?_)
  have hl : lv_has ls 4 [(0, .long (lN (eW w))), (2, .long (lN (eW b)))] := hl
  have hw12 := hb0.1
  refine lv_lload_n hx hb dWord_beginsWith_0 rfl (lv_at hl 0 rfl) ?_
  refine lv_lload_n hx hb dWord_beginsWith_1 rfl (lv_at hl 1 rfl) ?_
  refine hw_calli (va_runS (As := [.long (lN (eW b))]) (rest := [.long (lN (eW w))]) ⟨hx, hb, hml, hown, hts⟩ (c_W_length l D K X s.heap.size (w := b) (by assumption)) (va_cwS 1 hts (hwGood (hw_3 mm_9 mm_8 mm_3 (hwAll mm_7))) rfl rfl rfl (by decide +kernel) ⟨Nat.le_of_ble_eq_true rfl, Nat.le_of_ble_eq_true rfl⟩) (hw_preS hK hO hZ) rfl rfl hl.1 rfl (lv_room (Nat.le_of_ble_eq_true rfl)) dWord_beginsWith_2 ⟨(show 0 + 0 ≤ 0 by omega), (show 0 + 0 ≤ 0 by omega)⟩) hZ hA (fun r X_1 H_2 lc_3 hp hZ => ?_)
  obtain ⟨hr, hy⟩ := hp
  subst hy
  refine hw_topi hr ?_
  refine hw_calll (va_runS (As := [.long (lN (eW w)), .int (nI b.length)]) (rest := []) ⟨hx, hb, hml, hown, hts⟩ (c_W_firstLetters l D K X H_2.size (w := w) (n := b.length) (by assumption) (by omega)) (va_cwS 2 hts (hwGood (hw_3 mm_15 mm_14 mm_3 (hwAll mm_13))) rfl rfl rfl (by decide +kernel) ⟨Nat.le_of_ble_eq_true rfl, Nat.le_of_ble_eq_true rfl⟩) (hw_preS hK hO hZ) rfl rfl hl.1 rfl (lv_room (Nat.le_of_ble_eq_true rfl)) dWord_beginsWith_5 ⟨(show 0 + 0 ≤ 0 by omega), (show 0 + 0 ≤ 0 by omega)⟩) hZ hA (fun r X_4 H_5 lc_6 hp hZ => ?_)
  obtain ⟨hr, hy⟩ := hp
  subst hy
  refine hw_topl hr ?_
  refine lv_lload_n hx hb dWord_beginsWith_8 rfl (lv_at hl 1 rfl) ?_
  refine hw_lc_ne (a := eW (w.take b.length)) (b := eW b) (tgt := 17) hx hb dWord_beginsWith_9 dWord_beginsWith_10 (by decide) (by first | exact eW_lt63 (by assumption) | exact eW_lt63 (okW.take (by assumption) _)) (by first | exact eW_lt63 (by assumption) | exact eW_lt63 (okW.take (by assumption) _)) (fun cq_7 => ?_) (fun cq_7 => ?_)
  · refine lv_iconst (v := nI 0) hx hb dWord_beginsWith_17 (by decide) ?_
    exact hret (by decide) hZ ⟨by unfold begL; rw [decide_eq_false (fun h => cq_7 ((eW_inj (hw.take _) hb0).mpr h))]; rfl, rfl⟩ dWord_beginsWith_18
  · refine lv_iconst (v := nI 1) hx hb dWord_beginsWith_13 (by decide) ?_
    refine lv_goto (tgt := 18) hx hb dWord_beginsWith_14 (by decide) ?_
    exact hret (by decide) hZ ⟨by unfold begL; rw [decide_eq_true ((eW_inj (hw.take _) hb0).mp cq_7)]; rfl, rfl⟩ dWord_beginsWith_18
set_option maxHeartbeats 4000000 in
set_option maxRecDepth 100000 in
theorem c_W_ends (l : Launch) (D : va_G) (K : Nat → ClassId) (X : hwW) (sz : Nat) (w : List Nat) (b : List Nat) (hw : okW w) (hb0 : okW b) : Met l yWord_endsWith (.code yWord_endsWith cWord_endsWith 5 (some .boolean) :: hwG) ({ frames := 3, cells := 0, slots := 0, locals := 64 } : Room) (hwPc D vwCl (hwT K) [.long (lN (eW w)), .long (lN (eW b))] X sz) (hwQi D vwCl X sz (fun r Y => r = bI (endL w b) ∧ X = Y)) 0 0 (va_A X.1 sz) := by
  refine hwMetz (cc := cWord_endsWith) (maxL := 5) (by decide) rfl (Nat.le_of_ble_eq_true rfl) (fun p e s m args below meth c ls A Q hx hb hml hown hts hname hret hK hO hZ hA hl => ?_)
  have hl : lv_has ls 5 [(0, .long (lN (eW w))), (2, .long (lN (eW b)))] := hl
  have hw12 := hw.1
  have hb12 := hb0.1
  rcases Nat.lt_or_ge w.length b.length with hq | hq
  · refine lv_lload_n hx hb dWord_endsWith_0 rfl (lv_at hl 0 rfl) ?_
    refine hw_calli (va_runS (As := [.long (lN (eW w))]) (rest := []) ⟨hx, hb, hml, hown, hts⟩ (c_W_length l D K X s.heap.size (w := w) (by assumption)) (va_cwS 1 hts (hwGood (hw_3 mm_9 mm_8 mm_3 (hwAll mm_7))) rfl rfl rfl (by decide +kernel) ⟨Nat.le_of_ble_eq_true rfl, Nat.le_of_ble_eq_true rfl⟩) (hw_preS hK hO hZ) rfl rfl hl.1 rfl (lv_room (Nat.le_of_ble_eq_true rfl)) dWord_endsWith_1 ⟨(show 0 + 0 ≤ 0 by omega), (show 0 + 0 ≤ 0 by omega)⟩) hZ hA (fun r X_1 H_2 lc_3 hp hZ => ?_)
    obtain ⟨hr, hy⟩ := hp
    subst hy
    refine hw_topi hr ?_
    refine lv_lload_n hx hb dWord_endsWith_4 rfl (lv_at hl 1 rfl) ?_
    refine hw_calli (va_runS (As := [.long (lN (eW b))]) (rest := [.int (nI w.length)]) ⟨hx, hb, hml, hown, hts⟩ (c_W_length l D K X H_2.size (w := b) (by assumption)) (va_cwS 1 hts (hwGood (hw_3 mm_9 mm_8 mm_3 (hwAll mm_7))) rfl rfl rfl (by decide +kernel) ⟨Nat.le_of_ble_eq_true rfl, Nat.le_of_ble_eq_true rfl⟩) (hw_preS hK hO hZ) rfl rfl hl.1 rfl (lv_room (Nat.le_of_ble_eq_true rfl)) dWord_endsWith_5 ⟨(show 0 + 0 ≤ 0 by omega), (show 0 + 0 ≤ 0 by omega)⟩) hZ hA (fun r X_4 H_5 lc_6 hp hZ => ?_)
    obtain ⟨hr, hy⟩ := hp
    subst hy
    refine hw_topi hr ?_
    refine lv_isub hx hb dWord_endsWith_8 ?_
    refine lv_istore (lv' := [(4, .int ((nI w.length) - (nI b.length))), (0, .long (lN (eW w))), (2, .long (lN (eW b)))]) hx hb dWord_endsWith_9 hl (by decide) rfl (fun ls hl => ?_)
    refine lv_iload hx hb dWord_endsWith_11 (lv_at hl 0 rfl) ?_
    refine lv_if_lt (tgt := 35) hx hb dWord_endsWith_13 (by decide) (fun cq_7 => ?_) (fun cq_7 => absurd (pk_sneg (a := w.length) (b := b.length) (by omega) hq) cq_7)
    refine lv_iconst (v := nI 0) hx hb dWord_endsWith_35 (by decide) ?_
    exact hret (by decide) hZ ⟨by unfold endL; rw [decide_eq_false (fun h => absurd h.1 (by omega))]; rfl, rfl⟩ dWord_endsWith_36
  · refine lv_lload_n hx hb dWord_endsWith_0 rfl (lv_at hl 0 rfl) ?_
    refine hw_calli (va_runS (As := [.long (lN (eW w))]) (rest := []) ⟨hx, hb, hml, hown, hts⟩ (c_W_length l D K X s.heap.size (w := w) (by assumption)) (va_cwS 1 hts (hwGood (hw_3 mm_9 mm_8 mm_3 (hwAll mm_7))) rfl rfl rfl (by decide +kernel) ⟨Nat.le_of_ble_eq_true rfl, Nat.le_of_ble_eq_true rfl⟩) (hw_preS hK hO hZ) rfl rfl hl.1 rfl (lv_room (Nat.le_of_ble_eq_true rfl)) dWord_endsWith_1 ⟨(show 0 + 0 ≤ 0 by omega), (show 0 + 0 ≤ 0 by omega)⟩) hZ hA (fun r X_8 H_9 lc_10 hp hZ => ?_)
    obtain ⟨hr, hy⟩ := hp
    subst hy
    refine hw_topi hr ?_
    refine lv_lload_n hx hb dWord_endsWith_4 rfl (lv_at hl 1 rfl) ?_
    refine hw_calli (va_runS (As := [.long (lN (eW b))]) (rest := [.int (nI w.length)]) ⟨hx, hb, hml, hown, hts⟩ (c_W_length l D K X H_9.size (w := b) (by assumption)) (va_cwS 1 hts (hwGood (hw_3 mm_9 mm_8 mm_3 (hwAll mm_7))) rfl rfl rfl (by decide +kernel) ⟨Nat.le_of_ble_eq_true rfl, Nat.le_of_ble_eq_true rfl⟩) (hw_preS hK hO hZ) rfl rfl hl.1 rfl (lv_room (Nat.le_of_ble_eq_true rfl)) dWord_endsWith_5 ⟨(show 0 + 0 ≤ 0 by omega), (show 0 + 0 ≤ 0 by omega)⟩) hZ hA (fun r X_11 H_12 lc_13 hp hZ => ?_)
    obtain ⟨hr, hy⟩ := hp
    subst hy
    refine hw_topi hr ?_
    refine lv_isub hx hb dWord_endsWith_8 ?_
    refine hw_topi (pk_sub (a := w.length) (b := b.length) (by omega)) ?_
    refine lv_istore (lv' := [(4, .int (nI (w.length - b.length))), (0, .long (lN (eW w))), (2, .long (lN (eW b)))]) hx hb dWord_endsWith_9 hl (by decide) rfl (fun ls hl => ?_)
    refine lv_iload hx hb dWord_endsWith_11 (lv_at hl 0 rfl) ?_
    refine hw_if_lt (a := w.length - b.length) (tgt := 35) hx hb dWord_endsWith_13 (by decide) (by omega) (fun cq_14 => by exfalso; omega) (fun cq_14 => ?_)
    refine lv_lload_n hx hb dWord_endsWith_16 rfl (lv_at hl 1 rfl) ?_
    refine lv_iconst (v := nI 5) hx hb dWord_endsWith_17 (by decide) ?_
    refine lv_iload hx hb dWord_endsWith_18 (lv_at hl 0 rfl) ?_
    refine lv_imul hx hb dWord_endsWith_20 ?_
    refine hw_topi (pk_mul 5 (w.length - b.length)) ?_
    refine lv_lshl hx hb dWord_endsWith_21 (wb_shl (eW w) (k := 5 * (w.length - b.length)) (by omega)) ?_
    refine lv_ldc2 (v := lN 1152921504606846975) hx hb hown (hts (.constantLong RWord 30 1152921504606846975) (hwMem mm_16)) dWord_endsWith_22 ?_
    refine lv_land hx hb dWord_endsWith_25 ?_
    refine hw_topl (hw_lmask ((eW w) * 2 ^ (5 * (w.length - b.length))) 60 rfl (by decide)) ?_
    refine lv_lload_n hx hb dWord_endsWith_26 rfl (lv_at hl 2 rfl) ?_
    refine hw_lc_ne (a := ((eW w) * 2 ^ (5 * (w.length - b.length))) % 2 ^ 60) (b := eW b) (tgt := 35) hx hb dWord_endsWith_27 dWord_endsWith_28 (by decide) (by first | exact eW_lt63 (by assumption) | exact Nat.lt_trans (Nat.mod_lt _ (by decide)) (by decide)) (by first | exact eW_lt63 (by assumption) | exact Nat.lt_trans (Nat.mod_lt _ (by decide)) (by decide)) (fun cq_15 => ?_) (fun cq_15 => ?_)
    · refine lv_iconst (v := nI 0) hx hb dWord_endsWith_35 (by decide) ?_
      exact hret (by decide) hZ ⟨by unfold endL; rw [decide_eq_false (fun h => cq_15 ((eW_drop hw _).trans (congrArg eW h.2)))]; rfl, rfl⟩ dWord_endsWith_36
    · refine lv_iconst (v := nI 1) hx hb dWord_endsWith_31 (by decide) ?_
      refine lv_goto (tgt := 36) hx hb dWord_endsWith_32 (by decide) ?_
      exact hret (by decide) hZ ⟨by unfold endL; rw [decide_eq_true ⟨hq, (eW_inj (hw.drop _) hb0).mp ((eW_drop hw _).symm.trans cq_15)⟩]; rfl, rfl⟩ dWord_endsWith_36
set_option maxHeartbeats 4000000 in
set_option maxRecDepth 100000 in
theorem c_W_next (l : Launch) (D : va_G) (K : Nat → ClassId) (X : hwW) (sz : Nat) (x : Nat) (t : List Nat) (wd : Nat) (a : Nat) (L : Nat) (f : Nat → Int32) (c1 : Nat → Nat) (B : Nat) (f0_ : hwH X a L (.inl (K 0, 13, .inl f))) (ht : okW t) (hW : wd ≤ 12) (hf : ∀ j, j ≤ wd → f j = nI (c1 j)) (hB : ∀ j, j ≤ wd → c1 j ≤ B) (hB1 : B ≤ 1000) (hx0 : x ≤ 26) : Met l yWord_nextCosts (.code yWord_nextCosts cWord_nextCosts 8 none :: hwG) ({ frames := 2, cells := 0, slots := 0, locals := 42 } : Room) (hwPc D vwCl (hwT K) [.int (nI x), .long (lN (eW t)), .int (nI wd), .ref a] X sz) (hwQv D vwCl X sz (fun Y => ∃ f' : Nat → Int32, hwF X Y (fun M => M = L) ∧ hwH Y a L (.inl (K 0, 13, .inl f')) ∧ ∀ j, j ≤ wd → f' j = nI (nxt x t c1 j))) 0 0 (va_A X.1 sz) := by
  refine hwMetv (cc := cWord_nextCosts) (maxL := 8) (by decide) rfl (Nat.le_of_ble_eq_true rfl) (fun p e s m args below meth c ls A Q hx hb hml hown hts hname hret hK hO hZ hA hl => ?_)
  have hl : lv_has ls 8 [(0, .int (nI x)), (1, .long (lN (eW t))), (3, .int (nI wd)), (4, .ref a)] := hl
  have hFr : hwF X X (fun M => M = L) := hwF.rf
  refine lv_iload_n hx hb dWord_nextCosts_0 rfl (lv_at hl 2 rfl) ?_
  refine hw_if_lt (a := wd) (tgt := 11) hx hb dWord_nextCosts_1 (by decide) (by omega) (fun cq_1 => by exfalso; omega) (fun cq_1 => ?_)
  refine lv_iload_n hx hb dWord_nextCosts_4 rfl (lv_at hl 2 rfl) ?_
  refine lv_aload hx hb dWord_nextCosts_5 (lv_at hl 3 rfl) ?_
  refine hw_alen hx hb hK hZ 0 f0_ rfl dWord_nextCosts_7 ?_
  refine hw_ic_lt (a := wd) (b := 13) (tgt := 12) hx hb dWord_nextCosts_8 (by decide) (by omega) (by omega) (fun cq_2 => ?_) (fun cq_2 => by exfalso; omega)
  refine lv_aload hx hb dWord_nextCosts_12 (lv_at hl 3 rfl) ?_
  refine lv_iconst (v := nI 0) hx hb dWord_nextCosts_14 (by decide) ?_
  refine hw_iald hx hb hK hZ 0 f0_ rfl (j := 0) (by omega) (by omega) dWord_nextCosts_15 ?_
  refine hw_topi (y := nI (c1 0)) (hf 0 (by omega)) ?_
  have hb0 := hB 0 (by omega)
  refine lv_istore (lv' := [(5, .int (nI (c1 0))), (0, .int (nI x)), (1, .long (lN (eW t))), (3, .int (nI wd)), (4, .ref a)]) hx hb dWord_nextCosts_16 hl (by decide) rfl (fun ls hl => ?_)
  refine lv_aload hx hb dWord_nextCosts_18 (lv_at hl 4 rfl) ?_
  refine lv_iconst (v := nI 0) hx hb dWord_nextCosts_20 (by decide) ?_
  refine lv_dup2_11 hx hb dWord_nextCosts_21 rfl rfl ?_
  refine hw_iald hx hb hK hZ 0 f0_ rfl (j := 0) (by omega) (by omega) dWord_nextCosts_22 ?_
  refine hw_topi (y := nI (c1 0)) (hf 0 (by omega)) ?_
  refine lv_iconst (v := nI 1) hx hb dWord_nextCosts_23 (by decide) ?_
  refine lv_iadd hx hb dWord_nextCosts_24 ?_
  refine hw_topi (nI_add (c1 0) 1) ?_
  refine hw_iast hx hb hK hZ 0 f0_ rfl (j := 0) (by omega) (by omega) dWord_nextCosts_25 (fun X_3 H_4 lc_5 hZ hF hNw => ?_)
  have hFr := hwF.tr hFr hF (fun _ h => h) (fun M h => by first | exact False.elim h | ((try dsimp only at h ⊢); omega))
  have f0_ := hNw
  refine lv_iconst (v := nI 1) hx hb dWord_nextCosts_26 (by decide) ?_
  refine lv_istore (lv' := [(6, .int (nI 1)), (5, .int (nI (c1 0))), (0, .int (nI x)), (1, .long (lN (eW t))), (3, .int (nI wd)), (4, .ref a)]) hx hb dWord_nextCosts_27 hl (by decide) rfl (fun ls hl => ?_)
  have loop29 : ∀ (fuel : Nat) (j : Nat) (g : Nat → Int32) (XL29 : hwW) (Hh : Heap) (lcs : List Loc) (ls : Array Slot), wd + 1 - j < fuel → (1 ≤ j) → (j ≤ wd + 1) → (∀ k, k < j → g k = nI (nxt x t c1 k)) → (∀ k, j ≤ k → k ≤ wd → g k = nI (c1 k)) → (hwF X XL29 (fun M => M = L)) → (hwH XL29 a L (.inl (K 0, 13, .inl g))) → hwZ D vwCl A s.heap XL29 Hh lcs → lv_has ls 8 [(6, .int (nI j)), (5, .int (nI (c1 (j - 1)))), (0, .int (nI x)), (1, .long (lN (eW t))), (3, .int (nI wd)), (4, .ref a)] → W p l e ({ frames := 2, cells := 0, slots := 0, locals := 42 } : Room) s m args below meth c Hh lcs 0 0 Q (F0 m 29 ls []) := by
    intro fuel; induction fuel with
    | zero => intro j g XL29 Hh lcs ls hfu; exact absurd hfu (Nat.not_lt_zero _)
    | succ fuel ih29 =>
      intro j g XL29 Hh lcs ls hfu29 hj1 hj2 hg1 hg2 hFr fa hZ hl
      refine lv_iload hx hb dWord_nextCosts_29 (lv_at hl 0 rfl) ?_
      refine lv_iload_n hx hb dWord_nextCosts_31 rfl (lv_at hl 4 rfl) ?_
      refine hw_ic_gt (a := j) (b := wd) (tgt := 98) hx hb dWord_nextCosts_32 (by decide) (by omega) (by omega) (fun cq_6 => ?_) (fun cq_6 => ?_)
      · exact hret hZ ⟨g, hFr, fa, fun k hk => hg1 k (by omega)⟩ dWord_nextCosts_98
      · refine lv_iload_n hx hb dWord_nextCosts_35 rfl (lv_at hl 2 rfl) ?_
        refine lv_lload_n hx hb dWord_nextCosts_36 rfl (lv_at hl 3 rfl) ?_
        refine lv_iload hx hb dWord_nextCosts_37 (lv_at hl 0 rfl) ?_
        refine lv_iconst (v := nI 1) hx hb dWord_nextCosts_39 (by decide) ?_
        refine lv_isub hx hb dWord_nextCosts_40 ?_
        refine hw_topi (pk_sub (a := j) (b := 1) (by omega)) ?_
        refine hw_calli (va_runS (As := [.long (lN (eW t)), .int (nI (j - 1))]) (rest := [.int (nI x)]) ⟨hx, hb, hml, hown, hts⟩ (c_W_letterAt l D K XL29 Hh.size (w := t) (j := j - 1) (by assumption) (by omega)) (va_cwS 2 hts (hwGood (hw_3 mm_6 mm_5 mm_3 (hwAll mm_4))) rfl rfl rfl (by decide +kernel) ⟨Nat.le_of_ble_eq_true rfl, Nat.le_of_ble_eq_true rfl⟩) (hw_preS hK hO hZ) rfl rfl hl.1 rfl (lv_room (Nat.le_of_ble_eq_true rfl)) dWord_nextCosts_41 ⟨(show 0 + 0 ≤ 0 by omega), (show 0 + 0 ≤ 0 by omega)⟩) hZ hA (fun r X_7 H_8 lc_9 hp hZ => ?_)
        obtain ⟨hr, hy, xx_10⟩ := hp
        subst hy
        refine hw_topi hr ?_
        refine hw_ic_ne (a := x) (b := t.getD (j - 1) 0) (tgt := 52) hx hb dWord_nextCosts_44 (by decide) (by omega) (by omega) (fun cq_11 => ?_) (fun cq_11 => ?_)
        · refine lv_iload hx hb dWord_nextCosts_52 (lv_at hl 1 rfl) ?_
          refine lv_iconst (v := nI 1) hx hb dWord_nextCosts_54 (by decide) ?_
          refine lv_iadd hx hb dWord_nextCosts_55 ?_
          refine hw_topi (nI_add (c1 (j - 1)) 1) ?_
          refine lv_istore (lv' := [(7, .int (nI (c1 (j - 1) + 1))), (6, .int (nI j)), (5, .int (nI (c1 (j - 1)))), (0, .int (nI x)), (1, .long (lN (eW t))), (3, .int (nI wd)), (4, .ref a)]) hx hb dWord_nextCosts_56 hl (by decide) rfl (fun ls hl => ?_)
          refine lv_aload hx hb dWord_nextCosts_58 (lv_at hl 6 rfl) ?_
          refine lv_iload hx hb dWord_nextCosts_60 (lv_at hl 1 rfl) ?_
          refine hw_iald hx hb hK hZ 0 fa rfl (j := j) (by omega) (by omega) dWord_nextCosts_62 ?_
          refine hw_topi (y := nI (c1 j)) (hg2 j (by omega) (by omega)) ?_
          have hbj := hB j (by omega)
          have hbk := hB (j - 1) (by omega)
          have hbn := nxt_le (x := x) (t := t) hB (j - 1) (by omega)
          refine lv_istore (lv' := [(5, .int (nI (c1 j))), (7, .int (nI (c1 (j - 1) + 1))), (6, .int (nI j)), (0, .int (nI x)), (1, .long (lN (eW t))), (3, .int (nI wd)), (4, .ref a)]) hx hb dWord_nextCosts_63 hl (by decide) rfl (fun ls hl => ?_)
          refine lv_aload hx hb dWord_nextCosts_65 (lv_at hl 6 rfl) ?_
          refine lv_iload hx hb dWord_nextCosts_67 (lv_at hl 2 rfl) ?_
          refine lv_iload hx hb dWord_nextCosts_69 (lv_at hl 1 rfl) ?_
          refine lv_aload hx hb dWord_nextCosts_71 (lv_at hl 6 rfl) ?_
          refine lv_iload hx hb dWord_nextCosts_73 (lv_at hl 2 rfl) ?_
          refine hw_iald hx hb hK hZ 0 fa rfl (j := j) (by omega) (by omega) dWord_nextCosts_75 ?_
          refine hw_topi (y := nI (c1 j)) (hg2 j (by omega) (by omega)) ?_
          refine lv_aload hx hb dWord_nextCosts_76 (lv_at hl 6 rfl) ?_
          refine lv_iload hx hb dWord_nextCosts_78 (lv_at hl 2 rfl) ?_
          refine lv_iconst (v := nI 1) hx hb dWord_nextCosts_80 (by decide) ?_
          refine lv_isub hx hb dWord_nextCosts_81 ?_
          refine hw_topi (pk_sub (a := j) (b := 1) (by omega)) ?_
          refine hw_iald hx hb hK hZ 0 fa rfl (j := j - 1) (by omega) (by omega) dWord_nextCosts_82 ?_
          refine hw_topi (y := nI (nxt x t c1 (j - 1))) (hg1 (j - 1) (by omega)) ?_
          refine va_mmin hx hb (hml.trans hl.1.symm) hown (hts (.methodLink RWord 32 Lib.Math.min.name) (hwMem mm_17)) (hts (.static Lib.Math.min.name) (hwMem mm_18)) (hts (.initialized "java/lang/Math") (hwMem mm_19)) (hts (.code Lib.Math.min.name Lib.Math.min.code 2 (some .int)) (hwMem mm_20)) (Nat.le_of_ble_eq_true rfl) (Nat.le_of_ble_eq_true rfl) (show 0 ≤ 0 by omega) (show 0 ≤ 0 by omega) dWord_nextCosts_83 ?_
          refine hw_topi (hw_nmin (a := c1 j) (b := nxt x t c1 (j - 1)) (by omega) (by omega)) ?_
          refine lv_iconst (v := nI 1) hx hb dWord_nextCosts_86 (by decide) ?_
          refine lv_iadd hx hb dWord_nextCosts_87 ?_
          refine hw_topi (nI_add (min (c1 j) (nxt x t c1 (j - 1))) 1) ?_
          refine va_mmin hx hb (hml.trans hl.1.symm) hown (hts (.methodLink RWord 32 Lib.Math.min.name) (hwMem mm_17)) (hts (.static Lib.Math.min.name) (hwMem mm_18)) (hts (.initialized "java/lang/Math") (hwMem mm_19)) (hts (.code Lib.Math.min.name Lib.Math.min.code 2 (some .int)) (hwMem mm_20)) (Nat.le_of_ble_eq_true rfl) (Nat.le_of_ble_eq_true rfl) (show 0 ≤ 0 by omega) (show 0 ≤ 0 by omega) dWord_nextCosts_88 ?_
          refine hw_topi (hw_nmin (a := c1 (j - 1) + 1) (b := min (c1 j) (nxt x t c1 (j - 1)) + 1) (by omega) (by omega)) ?_
          refine hw_iast hx hb hK hZ 0 fa rfl (j := j) (by omega) (by omega) dWord_nextCosts_91 (fun X_12 H_13 lc_14 hZ hF hNw => ?_)
          have hFr := hwF.tr hFr hF (fun _ h => h) (fun M h => by first | exact False.elim h | ((try dsimp only at h ⊢); omega))
          have fa := hNw
          refine lv_iinc (v := nI (j + 1)) (lv' := [(6, .int (nI (j + 1))), (5, .int (nI (c1 j))), (7, .int (nI (c1 (j - 1) + 1))), (0, .int (nI x)), (1, .long (lN (eW t))), (3, .int (nI wd)), (4, .ref a)]) hx hb dWord_nextCosts_92 hl (k := 2) rfl (nI_add _ 1) (by decide) rfl (fun ls hl => ?_)
          refine lv_goto (tgt := 29) hx hb dWord_nextCosts_95 (by decide) ?_
          exact ih29 (j + 1) (upd g j (nI (min (c1 (j - 1) + 1) (min (c1 j) (nxt x t c1 (j - 1)) + 1)))) _ _ _ _ (by omega) (by omega) (by omega) (fun k hk => (Nat.lt_or_eq_of_le (Nat.le_of_lt_succ hk)).elim (fun q => by rw [pk_un (by omega)]; exact hg1 k q) (fun q => by subst q; rw [pk_us, nxt_pos hj1, if_neg cq_11])) (fun k hk hk2 => by rw [pk_un (by omega)]; exact hg2 k (by omega) hk2) hFr fa hZ (lv_sub hl [0, 1, 3, 4, 5, 6] rfl)
        · refine lv_iload hx hb dWord_nextCosts_47 (lv_at hl 1 rfl) ?_
          refine lv_goto (tgt := 56) hx hb dWord_nextCosts_49 (by decide) ?_
          refine lv_istore (lv' := [(7, .int (nI (c1 (j - 1)))), (6, .int (nI j)), (5, .int (nI (c1 (j - 1)))), (0, .int (nI x)), (1, .long (lN (eW t))), (3, .int (nI wd)), (4, .ref a)]) hx hb dWord_nextCosts_56 hl (by decide) rfl (fun ls hl => ?_)
          refine lv_aload hx hb dWord_nextCosts_58 (lv_at hl 6 rfl) ?_
          refine lv_iload hx hb dWord_nextCosts_60 (lv_at hl 1 rfl) ?_
          refine hw_iald hx hb hK hZ 0 fa rfl (j := j) (by omega) (by omega) dWord_nextCosts_62 ?_
          refine hw_topi (y := nI (c1 j)) (hg2 j (by omega) (by omega)) ?_
          have hbj := hB j (by omega)
          have hbk := hB (j - 1) (by omega)
          have hbn := nxt_le (x := x) (t := t) hB (j - 1) (by omega)
          refine lv_istore (lv' := [(5, .int (nI (c1 j))), (7, .int (nI (c1 (j - 1)))), (6, .int (nI j)), (0, .int (nI x)), (1, .long (lN (eW t))), (3, .int (nI wd)), (4, .ref a)]) hx hb dWord_nextCosts_63 hl (by decide) rfl (fun ls hl => ?_)
          refine lv_aload hx hb dWord_nextCosts_65 (lv_at hl 6 rfl) ?_
          refine lv_iload hx hb dWord_nextCosts_67 (lv_at hl 2 rfl) ?_
          refine lv_iload hx hb dWord_nextCosts_69 (lv_at hl 1 rfl) ?_
          refine lv_aload hx hb dWord_nextCosts_71 (lv_at hl 6 rfl) ?_
          refine lv_iload hx hb dWord_nextCosts_73 (lv_at hl 2 rfl) ?_
          refine hw_iald hx hb hK hZ 0 fa rfl (j := j) (by omega) (by omega) dWord_nextCosts_75 ?_
          refine hw_topi (y := nI (c1 j)) (hg2 j (by omega) (by omega)) ?_
          refine lv_aload hx hb dWord_nextCosts_76 (lv_at hl 6 rfl) ?_
          refine lv_iload hx hb dWord_nextCosts_78 (lv_at hl 2 rfl) ?_
          refine lv_iconst (v := nI 1) hx hb dWord_nextCosts_80 (by decide) ?_
          refine lv_isub hx hb dWord_nextCosts_81 ?_
          refine hw_topi (pk_sub (a := j) (b := 1) (by omega)) ?_
          refine hw_iald hx hb hK hZ 0 fa rfl (j := j - 1) (by omega) (by omega) dWord_nextCosts_82 ?_
          refine hw_topi (y := nI (nxt x t c1 (j - 1))) (hg1 (j - 1) (by omega)) ?_
          refine va_mmin hx hb (hml.trans hl.1.symm) hown (hts (.methodLink RWord 32 Lib.Math.min.name) (hwMem mm_17)) (hts (.static Lib.Math.min.name) (hwMem mm_18)) (hts (.initialized "java/lang/Math") (hwMem mm_19)) (hts (.code Lib.Math.min.name Lib.Math.min.code 2 (some .int)) (hwMem mm_20)) (Nat.le_of_ble_eq_true rfl) (Nat.le_of_ble_eq_true rfl) (show 0 ≤ 0 by omega) (show 0 ≤ 0 by omega) dWord_nextCosts_83 ?_
          refine hw_topi (hw_nmin (a := c1 j) (b := nxt x t c1 (j - 1)) (by omega) (by omega)) ?_
          refine lv_iconst (v := nI 1) hx hb dWord_nextCosts_86 (by decide) ?_
          refine lv_iadd hx hb dWord_nextCosts_87 ?_
          refine hw_topi (nI_add (min (c1 j) (nxt x t c1 (j - 1))) 1) ?_
          refine va_mmin hx hb (hml.trans hl.1.symm) hown (hts (.methodLink RWord 32 Lib.Math.min.name) (hwMem mm_17)) (hts (.static Lib.Math.min.name) (hwMem mm_18)) (hts (.initialized "java/lang/Math") (hwMem mm_19)) (hts (.code Lib.Math.min.name Lib.Math.min.code 2 (some .int)) (hwMem mm_20)) (Nat.le_of_ble_eq_true rfl) (Nat.le_of_ble_eq_true rfl) (show 0 ≤ 0 by omega) (show 0 ≤ 0 by omega) dWord_nextCosts_88 ?_
          refine hw_topi (hw_nmin (a := c1 (j - 1)) (b := min (c1 j) (nxt x t c1 (j - 1)) + 1) (by omega) (by omega)) ?_
          refine hw_iast hx hb hK hZ 0 fa rfl (j := j) (by omega) (by omega) dWord_nextCosts_91 (fun X_15 H_16 lc_17 hZ hF hNw => ?_)
          have hFr := hwF.tr hFr hF (fun _ h => h) (fun M h => by first | exact False.elim h | ((try dsimp only at h ⊢); omega))
          have fa := hNw
          refine lv_iinc (v := nI (j + 1)) (lv' := [(6, .int (nI (j + 1))), (5, .int (nI (c1 j))), (7, .int (nI (c1 (j - 1)))), (0, .int (nI x)), (1, .long (lN (eW t))), (3, .int (nI wd)), (4, .ref a)]) hx hb dWord_nextCosts_92 hl (k := 2) rfl (nI_add _ 1) (by decide) rfl (fun ls hl => ?_)
          refine lv_goto (tgt := 29) hx hb dWord_nextCosts_95 (by decide) ?_
          exact ih29 (j + 1) (upd g j (nI (min (c1 (j - 1)) (min (c1 j) (nxt x t c1 (j - 1)) + 1)))) _ _ _ _ (by omega) (by omega) (by omega) (fun k hk => (Nat.lt_or_eq_of_le (Nat.le_of_lt_succ hk)).elim (fun q => by rw [pk_un (by omega)]; exact hg1 k q) (fun q => by subst q; rw [pk_us, nxt_pos hj1, if_pos cq_11])) (fun k hk hk2 => by rw [pk_un (by omega)]; exact hg2 k (by omega) hk2) hFr fa hZ (lv_sub hl [0, 1, 3, 4, 5, 6] rfl)
  exact loop29 (wd + 1 - 1 + 1) 1 (upd f 0 (nI (c1 0 + 1))) _ _ _ _ (by omega) (by omega) (by omega) (fun k hk => by obtain rfl : k = 0 := (by omega); rw [pk_us]; rfl) (fun k hk hk2 => by rw [pk_un (by omega)]; exact hf k hk2) hFr f0_ hZ (lv_sub hl [0, 1, 2, 3, 4, 5] rfl)
set_option maxHeartbeats 4000000 in
set_option maxRecDepth 100000 in
theorem c_W_dist (l : Launch) (D : va_G) (K : Nat → ClassId) (X : hwW) (sz : Nat) (f0 : List Nat) (t : List Nat) (a : Nat) (L : Nat) (f : Nat → Int32) (f0_ : hwH X a L (.inl (K 0, 13, .inl f))) (hf0 : okW f0) (ht : okW t) : Met l yWord_distance (.code yWord_distance cWord_distance 8 (some .int) :: hwG) ({ frames := 3, cells := 0, slots := 0, locals := 69 } : Room) (hwPc D vwCl (hwT K) [.long (lN (eW f0)), .long (lN (eW t)), .ref a] X sz) (hwQi D vwCl X sz (fun r Y => ∃ f' : Nat → Int32, r = nI (distL f0 t) ∧ hwF X Y (fun M => M = L) ∧ hwH Y a L (.inl (K 0, 13, .inl f')))) 0 0 (va_A X.1 sz) := by
  refine hwMeti (cc := cWord_distance) (maxL := 8) (by decide) rfl (Nat.le_of_ble_eq_true rfl) (fun p e s m args below meth c ls A Q hx hb hml hown hts hname hret hK hO hZ hA hl => ?_)
  have hl : lv_has ls 8 [(0, .long (lN (eW f0))), (2, .long (lN (eW t))), (4, .ref a)] := hl
  have hFr : hwF X X (fun M => M = L) := hwF.rf
  have ht12 := ht.1
  have hf12 := hf0.1
  refine lv_lload_n hx hb dWord_distance_0 rfl (lv_at hl 1 rfl) ?_
  refine hw_calli (va_runS (As := [.long (lN (eW t))]) (rest := []) ⟨hx, hb, hml, hown, hts⟩ (c_W_length l D K X s.heap.size (w := t) (by assumption)) (va_cwS 1 hts (hwGood (hw_3 mm_9 mm_8 mm_3 (hwAll mm_7))) rfl rfl rfl (by decide +kernel) ⟨Nat.le_of_ble_eq_true rfl, Nat.le_of_ble_eq_true rfl⟩) (hw_preS hK hO hZ) rfl rfl hl.1 rfl (lv_room (Nat.le_of_ble_eq_true rfl)) dWord_distance_1 ⟨(show 0 + 0 ≤ 0 by omega), (show 0 + 0 ≤ 0 by omega)⟩) hZ hA (fun r X_1 H_2 lc_3 hp hZ => ?_)
  obtain ⟨hr, hy⟩ := hp
  subst hy
  refine hw_topi hr ?_
  refine lv_aload hx hb dWord_distance_4 (lv_at hl 2 rfl) ?_
  refine hw_alen hx hb hK hZ 0 f0_ rfl dWord_distance_6 ?_
  refine lv_iconst (v := nI 1) hx hb dWord_distance_7 (by decide) ?_
  refine lv_isub hx hb dWord_distance_8 ?_
  refine hw_topi (pk_sub (a := 13) (b := 1) (by omega)) ?_
  refine va_mmin hx hb (hml.trans hl.1.symm) hown (hts (.methodLink RWord 32 Lib.Math.min.name) (hwMem mm_17)) (hts (.static Lib.Math.min.name) (hwMem mm_18)) (hts (.initialized "java/lang/Math") (hwMem mm_19)) (hts (.code Lib.Math.min.name Lib.Math.min.code 2 (some .int)) (hwMem mm_20)) (Nat.le_of_ble_eq_true rfl) (Nat.le_of_ble_eq_true rfl) (show 0 ≤ 0 by omega) (show 0 ≤ 0 by omega) dWord_distance_9 ?_
  refine hw_topi (hw_nmin (a := t.length) (b := 13 - 1) (by omega) (by omega)) ?_
  refine hw_topi (congrArg nI (Nat.min_eq_left (by omega))) ?_
  refine lv_istore (lv' := [(5, .int (nI t.length)), (0, .long (lN (eW f0))), (2, .long (lN (eW t))), (4, .ref a)]) hx hb dWord_distance_12 hl (by decide) rfl (fun ls hl => ?_)
  refine lv_iconst (v := nI 0) hx hb dWord_distance_14 (by decide) ?_
  refine lv_istore (lv' := [(6, .int (nI 0)), (5, .int (nI t.length)), (0, .long (lN (eW f0))), (2, .long (lN (eW t))), (4, .ref a)]) hx hb dWord_distance_15 hl (by decide) rfl (fun ls hl => ?_)
  have loop17 : ∀ (fuel : Nat) (j : Nat) (g : Nat → Int32) (XL17 : hwW) (Hh : Heap) (lcs : List Loc) (ls : Array Slot), t.length + 1 - j < fuel → (j ≤ t.length + 1) → (∀ k, k < j → g k = nI k) → (hwF X XL17 (fun M => M = L)) → (hwH XL17 a L (.inl (K 0, 13, .inl g))) → hwZ D vwCl A s.heap XL17 Hh lcs → lv_has ls 8 [(6, .int (nI j)), (5, .int (nI t.length)), (0, .long (lN (eW f0))), (2, .long (lN (eW t))), (4, .ref a)] → W p l e ({ frames := 3, cells := 0, slots := 0, locals := 69 } : Room) s m args below meth c Hh lcs 0 0 Q (F0 m 17 ls []) := by
    intro fuel; induction fuel with
    | zero => intro j g XL17 Hh lcs ls hfu; exact absurd hfu (Nat.not_lt_zero _)
    | succ fuel ih17 =>
      intro j g XL17 Hh lcs ls hfu17 hj hg hFr fa hZ hl
      refine lv_iload hx hb dWord_distance_17 (lv_at hl 0 rfl) ?_
      refine lv_iload hx hb dWord_distance_19 (lv_at hl 1 rfl) ?_
      refine hw_ic_gt (a := j) (b := t.length) (tgt := 37) hx hb dWord_distance_21 (by decide) (by omega) (by omega) (fun cq_4 => ?_) (fun cq_4 => ?_)
      · refine lv_lload_n hx hb dWord_distance_37 rfl (lv_at hl 2 rfl) ?_
        refine hw_calli (va_runS (As := [.long (lN (eW f0))]) (rest := []) ⟨hx, hb, hml, hown, hts⟩ (c_W_length l D K XL17 Hh.size (w := f0) (by assumption)) (va_cwS 1 hts (hwGood (hw_3 mm_9 mm_8 mm_3 (hwAll mm_7))) rfl rfl rfl (by decide +kernel) ⟨Nat.le_of_ble_eq_true rfl, Nat.le_of_ble_eq_true rfl⟩) (hw_preS hK hO hZ) rfl rfl hl.1 rfl (lv_room (Nat.le_of_ble_eq_true rfl)) dWord_distance_38 ⟨(show 0 + 0 ≤ 0 by omega), (show 0 + 0 ≤ 0 by omega)⟩) hZ hA (fun r X_5 H_6 lc_7 hp hZ => ?_)
        obtain ⟨hr, hy⟩ := hp
        subst hy
        refine hw_topi hr ?_
        refine lv_istore (lv' := [(6, .int (nI f0.length)), (5, .int (nI t.length)), (0, .long (lN (eW f0))), (2, .long (lN (eW t))), (4, .ref a)]) hx hb dWord_distance_41 hl (by decide) rfl (fun ls hl => ?_)
        refine lv_iconst (v := nI 0) hx hb dWord_distance_43 (by decide) ?_
        refine lv_istore (lv' := [(7, .int (nI 0)), (6, .int (nI f0.length)), (5, .int (nI t.length)), (0, .long (lN (eW f0))), (2, .long (lN (eW t))), (4, .ref a)]) hx hb dWord_distance_44 hl (by decide) rfl (fun ls hl => ?_)
        have loop46 : ∀ (fuel : Nat) (i : Nat) (g : Nat → Int32) (XL46 : hwW) (Hh : Heap) (lcs : List Loc) (ls : Array Slot), f0.length - i < fuel → (i ≤ f0.length) → (∀ k, k ≤ t.length → g k = nI (rows t (f0.take i) (fun j => j) k)) → (hwF X XL46 (fun M => M = L)) → (hwH XL46 a L (.inl (K 0, 13, .inl g))) → hwZ D vwCl A s.heap XL46 Hh lcs → lv_has ls 8 [(7, .int (nI i)), (6, .int (nI f0.length)), (5, .int (nI t.length)), (0, .long (lN (eW f0))), (2, .long (lN (eW t))), (4, .ref a)] → W p l e ({ frames := 3, cells := 0, slots := 0, locals := 69 } : Room) s m args below meth c Hh lcs 0 0 Q (F0 m 46 ls []) := by
          intro fuel; induction fuel with
          | zero => intro i g XL46 Hh lcs ls hfu; exact absurd hfu (Nat.not_lt_zero _)
          | succ fuel ih46 =>
            intro i g XL46 Hh lcs ls hfu46 hi hg hFr fa hZ hl
            refine lv_iload hx hb dWord_distance_46 (lv_at hl 0 rfl) ?_
            refine lv_iload hx hb dWord_distance_48 (lv_at hl 1 rfl) ?_
            refine hw_ic_ge (a := i) (b := f0.length) (tgt := 73) hx hb dWord_distance_50 (by decide) (by omega) (by omega) (fun cq_8 => ?_) (fun cq_8 => ?_)
            · refine lv_iload hx hb dWord_distance_73 (lv_at hl 2 rfl) ?_
              refine hw_if_ge (a := t.length) (tgt := 83) hx hb dWord_distance_75 (by decide) (by omega) (fun cq_9 => ?_) (fun cq_9 => by exfalso; omega)
              refine lv_aload hx hb dWord_distance_83 (lv_at hl 5 rfl) ?_
              refine lv_iload hx hb dWord_distance_85 (lv_at hl 2 rfl) ?_
              refine hw_iald hx hb hK hZ 0 fa rfl (j := t.length) (by omega) (by omega) dWord_distance_87 ?_
              exact hret hZ ⟨g, by rw [hg t.length (Nat.le_refl _)]; unfold distL; rw [List.take_of_length_le (by omega)], hFr, fa⟩ dWord_distance_88
            · refine lv_lload_n hx hb dWord_distance_53 rfl (lv_at hl 3 rfl) ?_
              refine lv_iload hx hb dWord_distance_54 (lv_at hl 0 rfl) ?_
              refine hw_calli (va_runS (As := [.long (lN (eW f0)), .int (nI i)]) (rest := []) ⟨hx, hb, hml, hown, hts⟩ (c_W_letterAt l D K XL46 Hh.size (w := f0) (j := i) (by assumption) (by omega)) (va_cwS 2 hts (hwGood (hw_3 mm_6 mm_5 mm_3 (hwAll mm_4))) rfl rfl rfl (by decide +kernel) ⟨Nat.le_of_ble_eq_true rfl, Nat.le_of_ble_eq_true rfl⟩) (hw_preS hK hO hZ) rfl rfl hl.1 rfl (lv_room (Nat.le_of_ble_eq_true rfl)) dWord_distance_56 ⟨(show 0 + 0 ≤ 0 by omega), (show 0 + 0 ≤ 0 by omega)⟩) hZ hA (fun r X_10 H_11 lc_12 hp hZ => ?_)
              obtain ⟨hr, hy, xx_13⟩ := hp
              subst hy
              refine hw_topi hr ?_
              refine lv_lload_n hx hb dWord_distance_59 rfl (lv_at hl 4 rfl) ?_
              refine lv_iload hx hb dWord_distance_60 (lv_at hl 2 rfl) ?_
              refine lv_aload hx hb dWord_distance_62 (lv_at hl 5 rfl) ?_
              refine hw_callv (va_runS (As := [.int (nI (f0.getD i 0)), .long (lN (eW t)), .int (nI t.length), .ref a]) (rest := []) ⟨hx, hb, hml, hown, hts⟩ (c_W_next l D K XL46 H_11.size (x := f0.getD i 0) (t := t) (wd := t.length) (a := a) (L := L) (f := g) (c1 := (rows t (f0.take i) (fun j => j))) (B := 24) fa (by assumption) (by omega) hg (fun k hk => rows_id_le t f0 i k (by omega) (by omega)) (by omega) (getD_le hf0.2 i)) (va_cwS 4 hts (hwGood (hw_3 mm_23 mm_22 mm_3 (hwAll mm_21))) rfl rfl rfl (by decide +kernel) ⟨Nat.le_of_ble_eq_true rfl, Nat.le_of_ble_eq_true rfl⟩) (hw_preS hK hO hZ) rfl rfl hl.1 rfl (lv_room (Nat.le_of_ble_eq_true rfl)) dWord_distance_64 ⟨(show 0 + 0 ≤ 0 by omega), (show 0 + 0 ≤ 0 by omega)⟩) hZ hA (fun X_14 H_15 lc_16 hp hZ => ?_)
              obtain ⟨fz_17, hF, hN_18, xx_19⟩ := hp
              have hFr := hwF.tr hFr hF (fun _ h => h) (fun M h => by first | exact False.elim h | ((try dsimp only at h ⊢); omega))
              have ff_20 := hN_18
              refine lv_iinc (v := nI (i + 1)) (lv' := [(7, .int (nI (i + 1))), (6, .int (nI f0.length)), (5, .int (nI t.length)), (0, .long (lN (eW f0))), (2, .long (lN (eW t))), (4, .ref a)]) hx hb dWord_distance_67 hl (k := 0) rfl (nI_add _ 1) (by decide) rfl (fun ls hl => ?_)
              refine lv_goto (tgt := 46) hx hb dWord_distance_70 (by decide) ?_
              exact ih46 (i + 1) fz_17 _ _ _ _ (by omega) (by omega) (fun k hk => by rw [rows_take (by omega)]; exact xx_19 k hk) hFr ff_20 hZ (lv_sub hl [0, 1, 2, 3, 4, 5] rfl)
        exact loop46 (f0.length - 0 + 1) 0 g _ _ _ _ (by omega) (by omega) (fun k hk => by rw [List.take_zero]; exact hg k (by omega)) hFr fa hZ (lv_sub hl [0, 1, 2, 3, 4, 5] rfl)
      · refine lv_aload hx hb dWord_distance_24 (lv_at hl 4 rfl) ?_
        refine lv_iload hx hb dWord_distance_26 (lv_at hl 0 rfl) ?_
        refine lv_iload hx hb dWord_distance_28 (lv_at hl 0 rfl) ?_
        refine hw_iast hx hb hK hZ 0 fa rfl (j := j) (by omega) (by omega) dWord_distance_30 (fun X_21 H_22 lc_23 hZ hF hNw => ?_)
        have hFr := hwF.tr hFr hF (fun _ h => h) (fun M h => by first | exact False.elim h | ((try dsimp only at h ⊢); omega))
        have fa := hNw
        refine lv_iinc (v := nI (j + 1)) (lv' := [(6, .int (nI (j + 1))), (5, .int (nI t.length)), (0, .long (lN (eW f0))), (2, .long (lN (eW t))), (4, .ref a)]) hx hb dWord_distance_31 hl (k := 0) rfl (nI_add _ 1) (by decide) rfl (fun ls hl => ?_)
        refine lv_goto (tgt := 17) hx hb dWord_distance_34 (by decide) ?_
        exact ih17 (j + 1) (upd g j (nI j)) _ _ _ _ (by omega) (by omega) (fun k hk => (Nat.lt_or_eq_of_le (Nat.le_of_lt_succ hk)).elim (fun q => by rw [pk_un (by omega)]; exact hg k q) (fun q => by subst q; rw [pk_us])) hFr fa hZ (lv_sub hl [0, 1, 2, 3, 4] rfl)
  exact loop17 (t.length + 1 - 0 + 1) 0 f _ _ _ _ (by omega) (by omega) (fun k hk => absurd hk (Nat.not_lt_zero _)) hFr f0_ hZ (lv_sub hl [0, 1, 2, 3, 4] rfl)
