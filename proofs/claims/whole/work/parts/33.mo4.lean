theorem dMo_meetsAll_0 : decode cMo_meetsAll 0 = .ok (.iconst 1, 1) := by decide +kernel
theorem dMo_meetsAll_1 : decode cMo_meetsAll 1 = .ok (.istore_n 1, 1) := by decide +kernel
theorem dMo_meetsAll_2 : decode cMo_meetsAll 2 = .ok (.iconst 0, 1) := by decide +kernel
theorem dMo_meetsAll_3 : decode cMo_meetsAll 3 = .ok (.istore_n 2, 1) := by decide +kernel
theorem dMo_meetsAll_4 : decode cMo_meetsAll 4 = .ok (.iload_n 2, 1) := by decide +kernel
theorem dMo_meetsAll_5 : decode cMo_meetsAll 5 = .ok (.aload_n 0, 1) := by decide +kernel
theorem dMo_meetsAll_6 : decode cMo_meetsAll 6 = .ok (.getfield 83, 3) := by decide +kernel
theorem dMo_meetsAll_9 : decode cMo_meetsAll 9 = .ok (.if_icmp .ge 43, 3) := by decide +kernel
theorem dMo_meetsAll_12 : decode cMo_meetsAll 12 = .ok (.iload_n 1, 1) := by decide +kernel
theorem dMo_meetsAll_13 : decode cMo_meetsAll 13 = .ok (.ifCond .eq 31, 3) := by decide +kernel
theorem dMo_meetsAll_16 : decode cMo_meetsAll 16 = .ok (.aload_n 0, 1) := by decide +kernel
theorem dMo_meetsAll_17 : decode cMo_meetsAll 17 = .ok (.getfield 40, 3) := by decide +kernel
theorem dMo_meetsAll_20 : decode cMo_meetsAll 20 = .ok (.iload_n 2, 1) := by decide +kernel
theorem dMo_meetsAll_21 : decode cMo_meetsAll 21 = .ok (.laload, 1) := by decide +kernel
theorem dMo_meetsAll_22 : decode cMo_meetsAll 22 = .ok (.lconst 0, 1) := by decide +kernel
theorem dMo_meetsAll_23 : decode cMo_meetsAll 23 = .ok (.lcmp, 1) := by decide +kernel
theorem dMo_meetsAll_24 : decode cMo_meetsAll 24 = .ok (.ifCond .eq 16, 3) := by decide +kernel
theorem dMo_meetsAll_27 : decode cMo_meetsAll 27 = .ok (.aload_n 0, 1) := by decide +kernel
theorem dMo_meetsAll_28 : decode cMo_meetsAll 28 = .ok (.aload_n 0, 1) := by decide +kernel
theorem dMo_meetsAll_29 : decode cMo_meetsAll 29 = .ok (.getfield 40, 3) := by decide +kernel
theorem dMo_meetsAll_32 : decode cMo_meetsAll 32 = .ok (.iload_n 2, 1) := by decide +kernel
theorem dMo_meetsAll_33 : decode cMo_meetsAll 33 = .ok (.laload, 1) := by decide +kernel
theorem dMo_meetsAll_34 : decode cMo_meetsAll 34 = .ok (.invokevirtual 118, 3) := by decide +kernel
theorem dMo_meetsAll_37 : decode cMo_meetsAll 37 = .ok (.ifCond .eq 7, 3) := by decide +kernel
theorem dMo_meetsAll_40 : decode cMo_meetsAll 40 = .ok (.iconst 1, 1) := by decide +kernel
theorem dMo_meetsAll_41 : decode cMo_meetsAll 41 = .ok (.goto 4, 3) := by decide +kernel
theorem dMo_meetsAll_44 : decode cMo_meetsAll 44 = .ok (.iconst 0, 1) := by decide +kernel
theorem dMo_meetsAll_45 : decode cMo_meetsAll 45 = .ok (.istore_n 1, 1) := by decide +kernel
theorem dMo_meetsAll_46 : decode cMo_meetsAll 46 = .ok (.iinc 2 1, 3) := by decide +kernel
theorem dMo_meetsAll_49 : decode cMo_meetsAll 49 = .ok (.goto (-45), 3) := by decide +kernel
theorem dMo_meetsAll_52 : decode cMo_meetsAll 52 = .ok (.iload_n 1, 1) := by decide +kernel
theorem dMo_meetsAll_53 : decode cMo_meetsAll 53 = .ok (.ireturn, 1) := by decide +kernel
theorem dMo_hasPhrase_0 : decode cMo_hasPhrase 0 = .ok (.iconst 0, 1) := by decide +kernel
theorem dMo_hasPhrase_1 : decode cMo_hasPhrase 1 = .ok (.istore_n 1, 1) := by decide +kernel
theorem dMo_hasPhrase_2 : decode cMo_hasPhrase 2 = .ok (.iload_n 1, 1) := by decide +kernel
theorem dMo_hasPhrase_3 : decode cMo_hasPhrase 3 = .ok (.aload_n 0, 1) := by decide +kernel
theorem dMo_hasPhrase_4 : decode cMo_hasPhrase 4 = .ok (.getfield 83, 3) := by decide +kernel
theorem dMo_hasPhrase_7 : decode cMo_hasPhrase 7 = .ok (.iadd, 1) := by decide +kernel
theorem dMo_hasPhrase_8 : decode cMo_hasPhrase 8 = .ok (.aload_n 0, 1) := by decide +kernel
theorem dMo_hasPhrase_9 : decode cMo_hasPhrase 9 = .ok (.getfield 94, 3) := by decide +kernel
theorem dMo_hasPhrase_12 : decode cMo_hasPhrase 12 = .ok (.if_icmp .gt 72, 3) := by decide +kernel
theorem dMo_hasPhrase_15 : decode cMo_hasPhrase 15 = .ok (.iconst 1, 1) := by decide +kernel
theorem dMo_hasPhrase_16 : decode cMo_hasPhrase 16 = .ok (.istore_n 2, 1) := by decide +kernel
theorem dMo_hasPhrase_17 : decode cMo_hasPhrase 17 = .ok (.iconst 0, 1) := by decide +kernel
theorem dMo_hasPhrase_18 : decode cMo_hasPhrase 18 = .ok (.istore_n 3, 1) := by decide +kernel
theorem dMo_hasPhrase_19 : decode cMo_hasPhrase 19 = .ok (.iload_n 3, 1) := by decide +kernel
theorem dMo_hasPhrase_20 : decode cMo_hasPhrase 20 = .ok (.aload_n 0, 1) := by decide +kernel
theorem dMo_hasPhrase_21 : decode cMo_hasPhrase 21 = .ok (.getfield 83, 3) := by decide +kernel
theorem dMo_hasPhrase_24 : decode cMo_hasPhrase 24 = .ok (.if_icmp .ge 48, 3) := by decide +kernel
theorem dMo_hasPhrase_27 : decode cMo_hasPhrase 27 = .ok (.iload_n 2, 1) := by decide +kernel
theorem dMo_hasPhrase_28 : decode cMo_hasPhrase 28 = .ok (.ifCond .eq 44, 3) := by decide +kernel
theorem dMo_hasPhrase_31 : decode cMo_hasPhrase 31 = .ok (.aload_n 0, 1) := by decide +kernel
theorem dMo_hasPhrase_32 : decode cMo_hasPhrase 32 = .ok (.getfield 40, 3) := by decide +kernel
theorem dMo_hasPhrase_35 : decode cMo_hasPhrase 35 = .ok (.iload_n 3, 1) := by decide +kernel
theorem dMo_hasPhrase_36 : decode cMo_hasPhrase 36 = .ok (.laload, 1) := by decide +kernel
theorem dMo_hasPhrase_37 : decode cMo_hasPhrase 37 = .ok (.lconst 0, 1) := by decide +kernel
theorem dMo_hasPhrase_38 : decode cMo_hasPhrase 38 = .ok (.lcmp, 1) := by decide +kernel
theorem dMo_hasPhrase_39 : decode cMo_hasPhrase 39 = .ok (.ifCond .eq 21, 3) := by decide +kernel
theorem dMo_hasPhrase_42 : decode cMo_hasPhrase 42 = .ok (.aload_n 0, 1) := by decide +kernel
theorem dMo_hasPhrase_43 : decode cMo_hasPhrase 43 = .ok (.getfield 37, 3) := by decide +kernel
theorem dMo_hasPhrase_46 : decode cMo_hasPhrase 46 = .ok (.iload_n 1, 1) := by decide +kernel
theorem dMo_hasPhrase_47 : decode cMo_hasPhrase 47 = .ok (.iload_n 3, 1) := by decide +kernel
theorem dMo_hasPhrase_48 : decode cMo_hasPhrase 48 = .ok (.iadd, 1) := by decide +kernel
theorem dMo_hasPhrase_49 : decode cMo_hasPhrase 49 = .ok (.laload, 1) := by decide +kernel
theorem dMo_hasPhrase_50 : decode cMo_hasPhrase 50 = .ok (.aload_n 0, 1) := by decide +kernel
theorem dMo_hasPhrase_51 : decode cMo_hasPhrase 51 = .ok (.getfield 40, 3) := by decide +kernel
theorem dMo_hasPhrase_54 : decode cMo_hasPhrase 54 = .ok (.iload_n 3, 1) := by decide +kernel
theorem dMo_hasPhrase_55 : decode cMo_hasPhrase 55 = .ok (.laload, 1) := by decide +kernel
theorem dMo_hasPhrase_56 : decode cMo_hasPhrase 56 = .ok (.lcmp, 1) := by decide +kernel
theorem dMo_hasPhrase_57 : decode cMo_hasPhrase 57 = .ok (.ifCond .ne 7, 3) := by decide +kernel
theorem dMo_hasPhrase_60 : decode cMo_hasPhrase 60 = .ok (.iconst 1, 1) := by decide +kernel
theorem dMo_hasPhrase_61 : decode cMo_hasPhrase 61 = .ok (.goto 4, 3) := by decide +kernel
theorem dMo_hasPhrase_64 : decode cMo_hasPhrase 64 = .ok (.iconst 0, 1) := by decide +kernel
theorem dMo_hasPhrase_65 : decode cMo_hasPhrase 65 = .ok (.istore_n 2, 1) := by decide +kernel
theorem dMo_hasPhrase_66 : decode cMo_hasPhrase 66 = .ok (.iinc 3 1, 3) := by decide +kernel
theorem dMo_hasPhrase_69 : decode cMo_hasPhrase 69 = .ok (.goto (-50), 3) := by decide +kernel
theorem dMo_hasPhrase_72 : decode cMo_hasPhrase 72 = .ok (.iload_n 2, 1) := by decide +kernel
theorem dMo_hasPhrase_73 : decode cMo_hasPhrase 73 = .ok (.ifCond .eq 5, 3) := by decide +kernel
theorem dMo_hasPhrase_76 : decode cMo_hasPhrase 76 = .ok (.iconst 1, 1) := by decide +kernel
theorem dMo_hasPhrase_77 : decode cMo_hasPhrase 77 = .ok (.ireturn, 1) := by decide +kernel
theorem dMo_hasPhrase_78 : decode cMo_hasPhrase 78 = .ok (.iinc 1 1, 3) := by decide +kernel
theorem dMo_hasPhrase_81 : decode cMo_hasPhrase 81 = .ok (.goto (-79), 3) := by decide +kernel
theorem dMo_hasPhrase_84 : decode cMo_hasPhrase 84 = .ok (.iconst 0, 1) := by decide +kernel
theorem dMo_hasPhrase_85 : decode cMo_hasPhrase 85 = .ok (.ireturn, 1) := by decide +kernel
theorem dMo_hasNear_0 : decode cMo_hasNear 0 = .ok (.iconst 0, 1) := by decide +kernel
theorem dMo_hasNear_1 : decode cMo_hasNear 1 = .ok (.istore_n 2, 1) := by decide +kernel
theorem dMo_hasNear_2 : decode cMo_hasNear 2 = .ok (.iload_n 2, 1) := by decide +kernel
theorem dMo_hasNear_3 : decode cMo_hasNear 3 = .ok (.aload_n 0, 1) := by decide +kernel
theorem dMo_hasNear_4 : decode cMo_hasNear 4 = .ok (.getfield 94, 3) := by decide +kernel
theorem dMo_hasNear_7 : decode cMo_hasNear 7 = .ok (.if_icmp .ge 86, 3) := by decide +kernel
theorem dMo_hasNear_10 : decode cMo_hasNear 10 = .ok (.iconst 0, 1) := by decide +kernel
theorem dMo_hasNear_11 : decode cMo_hasNear 11 = .ok (.istore_n 3, 1) := by decide +kernel
theorem dMo_hasNear_12 : decode cMo_hasNear 12 = .ok (.iload_n 3, 1) := by decide +kernel
theorem dMo_hasNear_13 : decode cMo_hasNear 13 = .ok (.aload_n 0, 1) := by decide +kernel
theorem dMo_hasNear_14 : decode cMo_hasNear 14 = .ok (.getfield 94, 3) := by decide +kernel
theorem dMo_hasNear_17 : decode cMo_hasNear 17 = .ok (.if_icmp .ge 70, 3) := by decide +kernel
theorem dMo_hasNear_20 : decode cMo_hasNear 20 = .ok (.iload_n 2, 1) := by decide +kernel
theorem dMo_hasNear_21 : decode cMo_hasNear 21 = .ok (.iload_n 3, 1) := by decide +kernel
theorem dMo_hasNear_22 : decode cMo_hasNear 22 = .ok (.if_icmp .ge 9, 3) := by decide +kernel
theorem dMo_hasNear_25 : decode cMo_hasNear 25 = .ok (.iload_n 3, 1) := by decide +kernel
theorem dMo_hasNear_26 : decode cMo_hasNear 26 = .ok (.iload_n 2, 1) := by decide +kernel
theorem dMo_hasNear_27 : decode cMo_hasNear 27 = .ok (.isub, 1) := by decide +kernel
theorem dMo_hasNear_28 : decode cMo_hasNear 28 = .ok (.goto 6, 3) := by decide +kernel
theorem dMo_hasNear_31 : decode cMo_hasNear 31 = .ok (.iload_n 2, 1) := by decide +kernel
theorem dMo_hasNear_32 : decode cMo_hasNear 32 = .ok (.iload_n 3, 1) := by decide +kernel
theorem dMo_hasNear_33 : decode cMo_hasNear 33 = .ok (.isub, 1) := by decide +kernel
theorem dMo_hasNear_34 : decode cMo_hasNear 34 = .ok (.istore 4, 2) := by decide +kernel
theorem dMo_hasNear_36 : decode cMo_hasNear 36 = .ok (.iload_n 2, 1) := by decide +kernel
theorem dMo_hasNear_37 : decode cMo_hasNear 37 = .ok (.iload_n 3, 1) := by decide +kernel
theorem dMo_hasNear_38 : decode cMo_hasNear 38 = .ok (.if_icmp .eq 43, 3) := by decide +kernel
theorem dMo_hasNear_41 : decode cMo_hasNear 41 = .ok (.iload 4, 2) := by decide +kernel
theorem dMo_hasNear_43 : decode cMo_hasNear 43 = .ok (.iload_n 1, 1) := by decide +kernel
theorem dMo_hasNear_44 : decode cMo_hasNear 44 = .ok (.if_icmp .gt 37, 3) := by decide +kernel
theorem dMo_hasNear_47 : decode cMo_hasNear 47 = .ok (.aload_n 0, 1) := by decide +kernel
theorem dMo_hasNear_48 : decode cMo_hasNear 48 = .ok (.getfield 37, 3) := by decide +kernel
theorem dMo_hasNear_51 : decode cMo_hasNear 51 = .ok (.iload_n 2, 1) := by decide +kernel
theorem dMo_hasNear_52 : decode cMo_hasNear 52 = .ok (.laload, 1) := by decide +kernel
theorem dMo_hasNear_53 : decode cMo_hasNear 53 = .ok (.aload_n 0, 1) := by decide +kernel
theorem dMo_hasNear_54 : decode cMo_hasNear 54 = .ok (.getfield 40, 3) := by decide +kernel
theorem dMo_hasNear_57 : decode cMo_hasNear 57 = .ok (.iconst 0, 1) := by decide +kernel
theorem dMo_hasNear_58 : decode cMo_hasNear 58 = .ok (.laload, 1) := by decide +kernel
theorem dMo_hasNear_59 : decode cMo_hasNear 59 = .ok (.lcmp, 1) := by decide +kernel
theorem dMo_hasNear_60 : decode cMo_hasNear 60 = .ok (.ifCond .ne 21, 3) := by decide +kernel
theorem dMo_hasNear_63 : decode cMo_hasNear 63 = .ok (.aload_n 0, 1) := by decide +kernel
theorem dMo_hasNear_64 : decode cMo_hasNear 64 = .ok (.getfield 37, 3) := by decide +kernel
theorem dMo_hasNear_67 : decode cMo_hasNear 67 = .ok (.iload_n 3, 1) := by decide +kernel
theorem dMo_hasNear_68 : decode cMo_hasNear 68 = .ok (.laload, 1) := by decide +kernel
theorem dMo_hasNear_69 : decode cMo_hasNear 69 = .ok (.aload_n 0, 1) := by decide +kernel
theorem dMo_hasNear_70 : decode cMo_hasNear 70 = .ok (.getfield 40, 3) := by decide +kernel
theorem dMo_hasNear_73 : decode cMo_hasNear 73 = .ok (.iconst 1, 1) := by decide +kernel
theorem dMo_hasNear_74 : decode cMo_hasNear 74 = .ok (.laload, 1) := by decide +kernel
theorem dMo_hasNear_75 : decode cMo_hasNear 75 = .ok (.lcmp, 1) := by decide +kernel
theorem dMo_hasNear_76 : decode cMo_hasNear 76 = .ok (.ifCond .ne 5, 3) := by decide +kernel
theorem dMo_hasNear_79 : decode cMo_hasNear 79 = .ok (.iconst 1, 1) := by decide +kernel
theorem dMo_hasNear_80 : decode cMo_hasNear 80 = .ok (.ireturn, 1) := by decide +kernel
theorem dMo_hasNear_81 : decode cMo_hasNear 81 = .ok (.iinc 3 1, 3) := by decide +kernel
theorem dMo_hasNear_84 : decode cMo_hasNear 84 = .ok (.goto (-72), 3) := by decide +kernel
theorem dMo_hasNear_87 : decode cMo_hasNear 87 = .ok (.iinc 2 1, 3) := by decide +kernel
theorem dMo_hasNear_90 : decode cMo_hasNear 90 = .ok (.goto (-88), 3) := by decide +kernel
theorem dMo_hasNear_93 : decode cMo_hasNear 93 = .ok (.iconst 0, 1) := by decide +kernel
theorem dMo_hasNear_94 : decode cMo_hasNear 94 = .ok (.ireturn, 1) := by decide +kernel
theorem dMo_found_0 : decode cMo_found 0 = .ok (.aload_n 0, 1) := by decide +kernel
theorem dMo_found_1 : decode cMo_found 1 = .ok (.getfield 111, 3) := by decide +kernel
theorem dMo_found_4 : decode cMo_found 4 = .ok (.istore_n 3, 1) := by decide +kernel
theorem dMo_found_5 : decode cMo_found 5 = .ok (.iload_n 3, 1) := by decide +kernel
theorem dMo_found_6 : decode cMo_found 6 = .ok (.ifCond .le 82, 3) := by decide +kernel
theorem dMo_found_9 : decode cMo_found 9 = .ok (.iload_n 2, 1) := by decide +kernel
theorem dMo_found_10 : decode cMo_found 10 = .ok (.i2l, 1) := by decide +kernel
theorem dMo_found_11 : decode cMo_found 11 = .ok (.aload_n 0, 1) := by decide +kernel
theorem dMo_found_12 : decode cMo_found 12 = .ok (.getfield 49, 3) := by decide +kernel
theorem dMo_found_15 : decode cMo_found 15 = .ok (.iload_n 3, 1) := by decide +kernel
theorem dMo_found_16 : decode cMo_found 16 = .ok (.iconst 1, 1) := by decide +kernel
theorem dMo_found_17 : decode cMo_found 17 = .ok (.isub, 1) := by decide +kernel
theorem dMo_found_18 : decode cMo_found 18 = .ok (.iaload, 1) := by decide +kernel
theorem dMo_found_19 : decode cMo_found 19 = .ok (.i2l, 1) := by decide +kernel
theorem dMo_found_20 : decode cMo_found 20 = .ok (.lmul, 1) := by decide +kernel
theorem dMo_found_21 : decode cMo_found 21 = .ok (.aload_n 0, 1) := by decide +kernel
theorem dMo_found_22 : decode cMo_found 22 = .ok (.getfield 46, 3) := by decide +kernel
theorem dMo_found_25 : decode cMo_found 25 = .ok (.iload_n 3, 1) := by decide +kernel
theorem dMo_found_26 : decode cMo_found 26 = .ok (.iconst 1, 1) := by decide +kernel
theorem dMo_found_27 : decode cMo_found 27 = .ok (.isub, 1) := by decide +kernel
theorem dMo_found_28 : decode cMo_found 28 = .ok (.iaload, 1) := by decide +kernel
theorem dMo_found_29 : decode cMo_found 29 = .ok (.i2l, 1) := by decide +kernel
theorem dMo_found_30 : decode cMo_found 30 = .ok (.aload_n 0, 1) := by decide +kernel
theorem dMo_found_31 : decode cMo_found 31 = .ok (.getfield 94, 3) := by decide +kernel
theorem dMo_found_34 : decode cMo_found 34 = .ok (.i2l, 1) := by decide +kernel
theorem dMo_found_35 : decode cMo_found 35 = .ok (.lmul, 1) := by decide +kernel
theorem dMo_found_36 : decode cMo_found 36 = .ok (.lcmp, 1) := by decide +kernel
theorem dMo_found_37 : decode cMo_found 37 = .ok (.ifCond .le 51, 3) := by decide +kernel
theorem dMo_found_40 : decode cMo_found 40 = .ok (.aload_n 0, 1) := by decide +kernel
theorem dMo_found_41 : decode cMo_found 41 = .ok (.getfield 43, 3) := by decide +kernel
theorem dMo_found_44 : decode cMo_found 44 = .ok (.iload_n 3, 1) := by decide +kernel
theorem dMo_found_45 : decode cMo_found 45 = .ok (.aload_n 0, 1) := by decide +kernel
theorem dMo_found_46 : decode cMo_found 46 = .ok (.getfield 43, 3) := by decide +kernel
theorem dMo_found_49 : decode cMo_found 49 = .ok (.iload_n 3, 1) := by decide +kernel
theorem dMo_found_50 : decode cMo_found 50 = .ok (.iconst 1, 1) := by decide +kernel
theorem dMo_found_51 : decode cMo_found 51 = .ok (.isub, 1) := by decide +kernel
theorem dMo_found_52 : decode cMo_found 52 = .ok (.iaload, 1) := by decide +kernel
theorem dMo_found_53 : decode cMo_found 53 = .ok (.iastore, 1) := by decide +kernel
theorem dMo_found_54 : decode cMo_found 54 = .ok (.aload_n 0, 1) := by decide +kernel
theorem dMo_found_55 : decode cMo_found 55 = .ok (.getfield 46, 3) := by decide +kernel
theorem dMo_found_58 : decode cMo_found 58 = .ok (.iload_n 3, 1) := by decide +kernel
theorem dMo_found_59 : decode cMo_found 59 = .ok (.aload_n 0, 1) := by decide +kernel
theorem dMo_found_60 : decode cMo_found 60 = .ok (.getfield 46, 3) := by decide +kernel
theorem dMo_found_63 : decode cMo_found 63 = .ok (.iload_n 3, 1) := by decide +kernel
theorem dMo_found_64 : decode cMo_found 64 = .ok (.iconst 1, 1) := by decide +kernel
theorem dMo_found_65 : decode cMo_found 65 = .ok (.isub, 1) := by decide +kernel
theorem dMo_found_66 : decode cMo_found 66 = .ok (.iaload, 1) := by decide +kernel
theorem dMo_found_67 : decode cMo_found 67 = .ok (.iastore, 1) := by decide +kernel
theorem dMo_found_68 : decode cMo_found 68 = .ok (.aload_n 0, 1) := by decide +kernel
theorem dMo_found_69 : decode cMo_found 69 = .ok (.getfield 49, 3) := by decide +kernel
theorem dMo_found_72 : decode cMo_found 72 = .ok (.iload_n 3, 1) := by decide +kernel
theorem dMo_found_73 : decode cMo_found 73 = .ok (.aload_n 0, 1) := by decide +kernel
theorem dMo_found_74 : decode cMo_found 74 = .ok (.getfield 49, 3) := by decide +kernel
theorem dMo_found_77 : decode cMo_found 77 = .ok (.iload_n 3, 1) := by decide +kernel
theorem dMo_found_78 : decode cMo_found 78 = .ok (.iconst 1, 1) := by decide +kernel
theorem dMo_found_79 : decode cMo_found 79 = .ok (.isub, 1) := by decide +kernel
theorem dMo_found_80 : decode cMo_found 80 = .ok (.iaload, 1) := by decide +kernel
theorem dMo_found_81 : decode cMo_found 81 = .ok (.iastore, 1) := by decide +kernel
theorem dMo_found_82 : decode cMo_found 82 = .ok (.iinc 3 (-1), 3) := by decide +kernel
theorem dMo_found_85 : decode cMo_found 85 = .ok (.goto (-80), 3) := by decide +kernel
theorem dMo_found_88 : decode cMo_found 88 = .ok (.aload_n 0, 1) := by decide +kernel
theorem dMo_found_89 : decode cMo_found 89 = .ok (.getfield 43, 3) := by decide +kernel
theorem dMo_found_92 : decode cMo_found 92 = .ok (.iload_n 3, 1) := by decide +kernel
theorem dMo_found_93 : decode cMo_found 93 = .ok (.iload_n 1, 1) := by decide +kernel
theorem dMo_found_94 : decode cMo_found 94 = .ok (.iastore, 1) := by decide +kernel
theorem dMo_found_95 : decode cMo_found 95 = .ok (.aload_n 0, 1) := by decide +kernel
theorem dMo_found_96 : decode cMo_found 96 = .ok (.getfield 46, 3) := by decide +kernel
theorem dMo_found_99 : decode cMo_found 99 = .ok (.iload_n 3, 1) := by decide +kernel
theorem dMo_found_100 : decode cMo_found 100 = .ok (.iload_n 2, 1) := by decide +kernel
theorem dMo_found_101 : decode cMo_found 101 = .ok (.iastore, 1) := by decide +kernel
theorem dMo_found_102 : decode cMo_found 102 = .ok (.aload_n 0, 1) := by decide +kernel
theorem dMo_found_103 : decode cMo_found 103 = .ok (.getfield 49, 3) := by decide +kernel
theorem dMo_found_106 : decode cMo_found 106 = .ok (.iload_n 3, 1) := by decide +kernel
theorem dMo_found_107 : decode cMo_found 107 = .ok (.aload_n 0, 1) := by decide +kernel
theorem dMo_found_108 : decode cMo_found 108 = .ok (.getfield 94, 3) := by decide +kernel
theorem dMo_found_111 : decode cMo_found 111 = .ok (.iastore, 1) := by decide +kernel
theorem dMo_found_112 : decode cMo_found 112 = .ok (.aload_n 0, 1) := by decide +kernel
theorem dMo_found_113 : decode cMo_found 113 = .ok (.dup, 1) := by decide +kernel
theorem dMo_found_114 : decode cMo_found 114 = .ok (.getfield 111, 3) := by decide +kernel
theorem dMo_found_117 : decode cMo_found 117 = .ok (.iconst 1, 1) := by decide +kernel
theorem dMo_found_118 : decode cMo_found 118 = .ok (.iadd, 1) := by decide +kernel
theorem dMo_found_119 : decode cMo_found 119 = .ok (.putfield 111, 3) := by decide +kernel
theorem dMo_found_122 : decode cMo_found 122 = .ok (.return_, 1) := by decide +kernel
theorem mm_405 : (.code yMo_hasTerm cMo_hasTerm 5 (some .boolean) : Cond) ∈ hwG := hwIx 698 (by decide +kernel) (by decide +kernel)
theorem mm_406 : (.methodLink RMo 118 yMo_hasTerm : Cond) ∈ hwG := hwIx 695 (by decide +kernel) (by decide +kernel)
theorem mm_407 : (.instanceMethod yMo_hasTerm : Cond) ∈ hwG := hwIx 697 (by decide +kernel) (by decide +kernel)
theorem mm_408 : (.selects RMo yMo_hasTerm yMo_hasTerm : Cond) ∈ hwG := hwIx 21 (by decide +kernel) (by decide +kernel)
theorem mm_409 : (.fieldLink RMo 111 RMo "hits" "I" : Cond) ∈ hwG := hwIx 572 (by decide +kernel) (by decide +kernel)
theorem mm_410 : (.fieldLink RMo 43 RMo "hitRecord" "[I" : Cond) ∈ hwG := hwIx 573 (by decide +kernel) (by decide +kernel)
theorem mm_411 : (.fieldLink RMo 46 RMo "hitCount" "[I" : Cond) ∈ hwG := hwIx 574 (by decide +kernel) (by decide +kernel)
theorem mm_412 : (.fieldLink RMo 49 RMo "hitWords" "[I" : Cond) ∈ hwG := hwIx 575 (by decide +kernel) (by decide +kernel)
set_option maxHeartbeats 4000000 in
set_option maxRecDepth 100000 in
theorem m_meets (l : Launch) (D : va_G) (K : Nat → ClassId) (X : hwW) (sz : Nat) (a : Nat) (r1 : Nat) (r2 : Nat) (r3 : Nat) (r4 : Nat) (r5 : Nat) (r6 : Nat) (r7 : Nat) (r8 : Nat) (r9 : Nat) (r10 : Nat) (r11 : Nat) (r12 : Nat) (r13 : Nat) (r14 : Nat) (r15 : Nat) (tz : Nat) (nr : Nat) (ng : Nat) (ns : Nat) (nz : Nat) (na : Nat) (nw : Nat) (nh : Nat) (nt : Nat) (at_ : List (List Nat)) (rt : List (List Nat)) (f0_ : hwH X a 1000 (.inr (10, [.int (nI tz), .int (nI nr), .ref r1, .int (nI ng), .ref r2, .ref r3, .ref r4, .ref r5, .int (nI ns), .ref r6, .int (nI nz), .ref r7, .int (nI na), .ref r8, .ref r9, .ref r10, .int (nI nw), .int (nI nh), .ref r11, .ref r12, .ref r13, .ref r14, .int (nI nt), .ref r15]))) (f1_ : rwAt K X r10 1010 60 at_) (f2_ : rwAt K X r9 1009 800 rt) (hnr_ : nw = rt.length) (hna : na = at_.length) : Met l yMo_meetsAll (.code yMo_meetsAll cMo_meetsAll 3 (some .boolean) :: hwG) ({ frames := 1, cells := 0, slots := 0, locals := 24 } : Room) (hwPc D vwCl (hwT K) [.ref a] X sz) (hwQi D vwCl X sz (fun r Y => r = bI (at_.all (fun t => decide (t = [] ∨ t ∈ rt))) ∧ X = Y)) 0 0 (va_A X.1 sz) := by
  refine hwMetz (cc := cMo_meetsAll) (maxL := 3) (by decide) rfl (Nat.le_of_ble_eq_true rfl) (fun p e s m args below meth c ls A Q hx hb hml hown hts hname hret hK hO hZ hA hl => ?_)
  have hl : lv_has ls 3 [(0, .ref a)] := hl
  obtain ⟨f10, g10, hN10, hv10, hk10⟩ := f1_
  have hS2 := fun j => okWs.at hk10 j
  refine lv_iconst (v := nI 1) hx hb dMo_meetsAll_0 (by decide) ?_
  refine lv_istore_n (lv' := [(1, .int (nI 1)), (0, .ref a)]) hx hb dMo_meetsAll_1 rfl hl (by decide) rfl (fun ls hl => ?_)
  refine lv_iconst (v := nI 0) hx hb dMo_meetsAll_2 (by decide) ?_
  refine lv_istore_n (lv' := [(2, .int (nI 0)), (1, .int (nI 1)), (0, .ref a)]) hx hb dMo_meetsAll_3 rfl hl (by decide) rfl (fun ls hl => ?_)
  have loop4 : ∀ (fuel : Nat) (i : Nat) (b : Bool) (Hh : Heap) (lcs : List Loc) (ls : Array Slot), at_.length - i < fuel → (i ≤ at_.length) → (b = (at_.take i).all (fun t => decide (t = [] ∨ t ∈ rt))) → hwZ D vwCl A s.heap X Hh lcs → lv_has ls 3 [(2, .int (nI i)), (1, .int (bI b)), (0, .ref a)] → W p l e ({ frames := 1, cells := 0, slots := 0, locals := 24 } : Room) s m args below meth c Hh lcs 0 0 Q (F0 m 4 ls []) := by
    intro fuel; induction fuel with
    | zero => intro i b Hh lcs ls hfu; exact absurd hfu (Nat.not_lt_zero _)
    | succ fuel ih4 =>
      intro i b Hh lcs ls hfu4 hi hbb hZ hl
      refine lv_iload_n hx hb dMo_meetsAll_4 rfl (lv_at hl 0 rfl) ?_
      refine lv_aload_n hx hb dMo_meetsAll_5 rfl (lv_at hl 2 rfl) ?_
      refine hw_get hx hb hts (hwInn inMo) hown hK hZ f0_ rfl 12 (by decide) (hts (.fieldLink RMo 83 RMo "askedCount" "I") (hwMem mm_377)) (fun _ h => h) rfl dMo_meetsAll_6 ?_
      refine hw_ic_ge (a := i) (b := na) (tgt := 52) hx hb dMo_meetsAll_9 (by decide) (by omega) (by omega) (fun cq_1 => ?_) (fun cq_1 => ?_)
      · refine lv_iload_n hx hb dMo_meetsAll_52 rfl (lv_at hl 1 rfl) ?_
        exact hret (hw_nb _) hZ ⟨by rw [all_end (by omega) hbb], rfl⟩ dMo_meetsAll_53
      · refine lv_iload_n hx hb dMo_meetsAll_12 rfl (lv_at hl 1 rfl) ?_
        refine hw_bz_eq (tgt := 44) hx hb dMo_meetsAll_13 (by decide) (fun cq_2 => ?_) (fun cq_2 => ?_)
        · refine lv_iconst (v := nI 0) hx hb dMo_meetsAll_44 (by decide) ?_
          refine lv_istore_n (lv' := [(1, .int (nI 0)), (2, .int (nI i)), (0, .ref a)]) hx hb dMo_meetsAll_45 rfl hl (by decide) rfl (fun ls hl => ?_)
          refine lv_iinc (v := nI (i + 1)) (lv' := [(2, .int (nI (i + 1))), (1, .int (nI 0)), (0, .ref a)]) hx hb dMo_meetsAll_46 hl (k := 1) rfl (nI_add _ 1) (by decide) rfl (fun ls hl => ?_)
          refine lv_goto (tgt := 4) hx hb dMo_meetsAll_49 (by decide) ?_
          exact ih4 (i + 1) false _ _ _ (by omega) (by omega) (all_f1 (by omega) hbb cq_2)  hZ (lv_sub hl [0, 1, 2] rfl)
        · refine lv_aload_n hx hb dMo_meetsAll_16 rfl (lv_at hl 2 rfl) ?_
          refine hw_get hx hb hts (hwInn inMo) hown hK hZ f0_ rfl 15 (by decide) (hts (.fieldLink RMo 40 RMo "askedTerm" "[J") (hwMem mm_397)) (fun _ h => h) rfl dMo_meetsAll_17 ?_
          refine lv_iload_n hx hb dMo_meetsAll_20 rfl (lv_at hl 0 rfl) ?_
          refine hw_lald hx hb hK hZ 1 g10 rfl (j := i) (by omega) (by omega) dMo_meetsAll_21 ?_
          refine hw_topl (hv10 i (by omega)) ?_
          refine lv_lconst (v := lN 0) hx hb dMo_meetsAll_22 rfl ?_
          refine hw_lc_eq (a := rW (at_.getD i [])) (b := 0) (tgt := 40) hx hb dMo_meetsAll_23 dMo_meetsAll_24 (by decide) (by first | exact rW_lt63 (by assumption) | exact rW_lt63 (hR2 _) | exact rW_lt63 (hS2 _) | decide) (by first | exact rW_lt63 (by assumption) | exact rW_lt63 (hR2 _) | exact rW_lt63 (hS2 _) | decide) (fun cq_3 => ?_) (fun cq_3 => ?_)
          · refine lv_iconst (v := nI 1) hx hb dMo_meetsAll_40 (by decide) ?_
            refine lv_goto (tgt := 45) hx hb dMo_meetsAll_41 (by decide) ?_
            refine lv_istore_n (lv' := [(1, .int (nI 1)), (2, .int (nI i)), (0, .ref a)]) hx hb dMo_meetsAll_45 rfl hl (by decide) rfl (fun ls hl => ?_)
            refine lv_iinc (v := nI (i + 1)) (lv' := [(2, .int (nI (i + 1))), (1, .int (nI 1)), (0, .ref a)]) hx hb dMo_meetsAll_46 hl (k := 1) rfl (nI_add _ 1) (by decide) rfl (fun ls hl => ?_)
            refine lv_goto (tgt := 4) hx hb dMo_meetsAll_49 (by decide) ?_
            exact ih4 (i + 1) true _ _ _ (by omega) (by omega) (all_t (by omega) hbb cq_2 (decide_eq_true (Or.inl ((rW_zero (hS2 _)).mp cq_3))))  hZ (lv_sub hl [0, 1, 2] rfl)
          · refine lv_aload_n hx hb dMo_meetsAll_27 rfl (lv_at hl 2 rfl) ?_
            refine lv_aload_n hx hb dMo_meetsAll_28 rfl (lv_at hl 2 rfl) ?_
            refine hw_get hx hb hts (hwInn inMo) hown hK hZ f0_ rfl 15 (by decide) (hts (.fieldLink RMo 40 RMo "askedTerm" "[J") (hwMem mm_397)) (fun _ h => h) rfl dMo_meetsAll_29 ?_
            refine lv_iload_n hx hb dMo_meetsAll_32 rfl (lv_at hl 0 rfl) ?_
            refine hw_lald hx hb hK hZ 1 g10 rfl (j := i) (by omega) (by omega) dMo_meetsAll_33 ?_
            refine hw_topl (hv10 i (by omega)) ?_
            refine hw_calli (va_runV (As := [.long (lN (rW (at_.getD i [])))]) (rest := []) ⟨hx, hb, hml, hown, hts⟩ (m_hasTerm l D K X Hh.size (a := a) (r1 := r1) (r2 := r2) (r3 := r3) (r4 := r4) (r5 := r5) (r6 := r6) (r7 := r7) (r8 := r8) (r9 := r9) (r10 := r10) (r11 := r11) (r12 := r12) (r13 := r13) (r14 := r14) (r15 := r15) (tz := tz) (nr := nr) (ng := ng) (ns := ns) (nz := nz) (na := na) (nw := nw) (nh := nh) (nt := nt) (rt := rt) (w := (at_.getD i [])) f0_ f2_ (by omega) (hS2 i)) (cwV 1 hts (hwGood (hw_4 mm_406 mm_407 mm_408 mm_365 (hwAll mm_405))) rfl rfl rfl (by decide +kernel) ⟨Nat.le_of_ble_eq_true rfl, Nat.le_of_ble_eq_true rfl⟩) (hw_preV hK hO hZ (⟨_, _, f0_⟩) rfl) rfl rfl hl.1 rfl (lv_room (Nat.le_of_ble_eq_true rfl)) dMo_meetsAll_34 ⟨(show 0 + 0 ≤ 0 by omega), (show 0 + 0 ≤ 0 by omega)⟩) hZ hA (fun r X_4 H_5 lc_6 hp hZ => ?_)
            obtain ⟨hr, hy⟩ := hp
            subst hy
            refine hw_topi hr ?_
            refine hw_bz_eq (tgt := 44) hx hb dMo_meetsAll_37 (by decide) (fun cq_7 => ?_) (fun cq_7 => ?_)
            · refine lv_iconst (v := nI 0) hx hb dMo_meetsAll_44 (by decide) ?_
              refine lv_istore_n (lv' := [(1, .int (nI 0)), (2, .int (nI i)), (0, .ref a)]) hx hb dMo_meetsAll_45 rfl hl (by decide) rfl (fun ls hl => ?_)
              refine lv_iinc (v := nI (i + 1)) (lv' := [(2, .int (nI (i + 1))), (1, .int (nI 0)), (0, .ref a)]) hx hb dMo_meetsAll_46 hl (k := 1) rfl (nI_add _ 1) (by decide) rfl (fun ls hl => ?_)
              refine lv_goto (tgt := 4) hx hb dMo_meetsAll_49 (by decide) ?_
              exact ih4 (i + 1) false _ _ _ (by omega) (by omega) (all_f2 (by omega) (decide_eq_false (fun h => h.elim (fun h => cq_3 ((rW_zero (hS2 _)).mpr h)) (of_decide_eq_false cq_7))))  hZ (lv_sub hl [0, 1, 2] rfl)
            · refine lv_iconst (v := nI 1) hx hb dMo_meetsAll_40 (by decide) ?_
              refine lv_goto (tgt := 45) hx hb dMo_meetsAll_41 (by decide) ?_
              refine lv_istore_n (lv' := [(1, .int (nI 1)), (2, .int (nI i)), (0, .ref a)]) hx hb dMo_meetsAll_45 rfl hl (by decide) rfl (fun ls hl => ?_)
              refine lv_iinc (v := nI (i + 1)) (lv' := [(2, .int (nI (i + 1))), (1, .int (nI 1)), (0, .ref a)]) hx hb dMo_meetsAll_46 hl (k := 1) rfl (nI_add _ 1) (by decide) rfl (fun ls hl => ?_)
              refine lv_goto (tgt := 4) hx hb dMo_meetsAll_49 (by decide) ?_
              exact ih4 (i + 1) true _ _ _ (by omega) (by omega) (all_t (by omega) hbb cq_2 (decide_eq_true (Or.inr (of_decide_eq_true cq_7))))  hZ (lv_sub hl [0, 1, 2] rfl)
  exact loop4 (at_.length - 0 + 1) 0 true _ _ _ (by omega) (by omega) (by rw [List.take_zero]; rfl)  hZ (lv_sub hl [0, 1, 2] rfl)
set_option maxHeartbeats 4000000 in
set_option maxRecDepth 100000 in
theorem m_phrase (l : Launch) (D : va_G) (K : Nat → ClassId) (X : hwW) (sz : Nat) (a : Nat) (r1 : Nat) (r2 : Nat) (r3 : Nat) (r4 : Nat) (r5 : Nat) (r6 : Nat) (r7 : Nat) (r8 : Nat) (r9 : Nat) (r10 : Nat) (r11 : Nat) (r12 : Nat) (r13 : Nat) (r14 : Nat) (r15 : Nat) (tz : Nat) (nr : Nat) (ng : Nat) (ns : Nat) (nz : Nat) (na : Nat) (nw : Nat) (nh : Nat) (nt : Nat) (at_ : List (List Nat)) (rt : List (List Nat)) (f0_ : hwH X a 1000 (.inr (10, [.int (nI tz), .int (nI nr), .ref r1, .int (nI ng), .ref r2, .ref r3, .ref r4, .ref r5, .int (nI ns), .ref r6, .int (nI nz), .ref r7, .int (nI na), .ref r8, .ref r9, .ref r10, .int (nI nw), .int (nI nh), .ref r11, .ref r12, .ref r13, .ref r14, .int (nI nt), .ref r15]))) (f1_ : rwAt K X r10 1010 60 at_) (f2_ : rwAt K X r9 1009 800 rt) (hnr_ : nw = rt.length) (hna : na = at_.length) (hrl : rt.length ≤ 800) (hal : at_.length ≤ 60) : Met l yMo_hasPhrase (.code yMo_hasPhrase cMo_hasPhrase 4 (some .boolean) :: hwG) ({ frames := 0, cells := 0, slots := 0, locals := 0 } : Room) (hwPc D vwCl (hwT K) [.ref a] X sz) (hwQi D vwCl X sz (fun r Y => r = bI (phL at_ rt) ∧ X = Y)) 0 0 (va_A X.1 sz) := by
  refine hwMetz (cc := cMo_hasPhrase) (maxL := 4) (by decide) rfl (Nat.le_of_ble_eq_true rfl) (fun p e s m args below meth c ls A Q hx hb hml hown hts hname hret hK hO hZ hA hl => ?_)
  have hl : lv_has ls 4 [(0, .ref a)] := hl
  obtain ⟨f10, g10, hN10, hv10, hk10⟩ := f1_
  have hS2 := fun j => okWs.at hk10 j
  obtain ⟨f9, g9, hN9, hv9, hk9⟩ := f2_
  have hR2 := fun j => okWs.at hk9 j
  refine lv_iconst (v := nI 0) hx hb dMo_hasPhrase_0 (by decide) ?_
  refine lv_istore_n (lv' := [(1, .int (nI 0)), (0, .ref a)]) hx hb dMo_hasPhrase_1 rfl hl (by decide) rfl (fun ls hl => ?_)
  have loop2 : ∀ (fuel : Nat) (i : Nat) (Hh : Heap) (lcs : List Loc) (ls : Array Slot), rt.length + 1 - i < fuel → (i ≤ rt.length + 1) → (∀ p, p < i → stL at_ rt p = false) → hwZ D vwCl A s.heap X Hh lcs → lv_has ls 4 [(1, .int (nI i)), (0, .ref a)] → W p l e ({ frames := 0, cells := 0, slots := 0, locals := 0 } : Room) s m args below meth c Hh lcs 0 0 Q (F0 m 2 ls []) := by
    intro fuel; induction fuel with
    | zero => intro i Hh lcs ls hfu; exact absurd hfu (Nat.not_lt_zero _)
    | succ fuel ih2 =>
      intro i Hh lcs ls hfu2 hi hh hZ hl
      refine lv_iload_n hx hb dMo_hasPhrase_2 rfl (lv_at hl 0 rfl) ?_
      refine lv_aload_n hx hb dMo_hasPhrase_3 rfl (lv_at hl 1 rfl) ?_
      refine hw_get hx hb hts (hwInn inMo) hown hK hZ f0_ rfl 12 (by decide) (hts (.fieldLink RMo 83 RMo "askedCount" "I") (hwMem mm_377)) (fun _ h => h) rfl dMo_hasPhrase_4 ?_
      refine lv_iadd hx hb dMo_hasPhrase_7 ?_
      refine hw_topi (nI_add i na) ?_
      refine lv_aload_n hx hb dMo_hasPhrase_8 rfl (lv_at hl 1 rfl) ?_
      refine hw_get hx hb hts (hwInn inMo) hown hK hZ f0_ rfl 16 (by decide) (hts (.fieldLink RMo 94 RMo "rowCount" "I") (hwMem mm_387)) (fun _ h => h) rfl dMo_hasPhrase_9 ?_
      refine hw_ic_gt (a := i + na) (b := nw) (tgt := 84) hx hb dMo_hasPhrase_12 (by decide) (by omega) (by omega) (fun cq_1 => ?_) (fun cq_1 => ?_)
      · refine lv_iconst (v := nI 0) hx hb dMo_hasPhrase_84 (by decide) ?_
        exact hret (by decide) hZ ⟨by rw [phL_false (fun p hp => hh p (by omega))]; rfl, rfl⟩ dMo_hasPhrase_85
      · refine lv_iconst (v := nI 1) hx hb dMo_hasPhrase_15 (by decide) ?_
        refine lv_istore_n (lv' := [(2, .int (nI 1)), (1, .int (nI i)), (0, .ref a)]) hx hb dMo_hasPhrase_16 rfl hl (by decide) rfl (fun ls hl => ?_)
        refine lv_iconst (v := nI 0) hx hb dMo_hasPhrase_17 (by decide) ?_
        refine lv_istore_n (lv' := [(3, .int (nI 0)), (2, .int (nI 1)), (1, .int (nI i)), (0, .ref a)]) hx hb dMo_hasPhrase_18 rfl hl (by decide) rfl (fun ls hl => ?_)
        have loop19 : ∀ (fuel : Nat) (k : Nat) (b : Bool) (Hh : Heap) (lcs : List Loc) (ls : Array Slot), at_.length - k < fuel → (k ≤ at_.length) → (b = stQ at_ rt i k) → hwZ D vwCl A s.heap X Hh lcs → lv_has ls 4 [(3, .int (nI k)), (2, .int (bI b)), (1, .int (nI i)), (0, .ref a)] → W p l e ({ frames := 0, cells := 0, slots := 0, locals := 0 } : Room) s m args below meth c Hh lcs 0 0 Q (F0 m 19 ls []) := by
          intro fuel; induction fuel with
          | zero => intro k b Hh lcs ls hfu; exact absurd hfu (Nat.not_lt_zero _)
          | succ fuel ih19 =>
            intro k b Hh lcs ls hfu19 hk hbb hZ hl
            refine lv_iload_n hx hb dMo_hasPhrase_19 rfl (lv_at hl 0 rfl) ?_
            refine lv_aload_n hx hb dMo_hasPhrase_20 rfl (lv_at hl 3 rfl) ?_
            refine hw_get hx hb hts (hwInn inMo) hown hK hZ f0_ rfl 12 (by decide) (hts (.fieldLink RMo 83 RMo "askedCount" "I") (hwMem mm_377)) (fun _ h => h) rfl dMo_hasPhrase_21 ?_
            refine hw_ic_ge (a := k) (b := na) (tgt := 72) hx hb dMo_hasPhrase_24 (by decide) (by omega) (by omega) (fun cq_2 => ?_) (fun cq_2 => ?_)
            · have hst := stQ_end hbb (by omega) (Or.inl (by omega))
              refine lv_iload_n hx hb dMo_hasPhrase_72 rfl (lv_at hl 1 rfl) ?_
              refine hw_bz_eq (tgt := 78) hx hb dMo_hasPhrase_73 (by decide) (fun cq_3 => ?_) (fun cq_3 => ?_)
              · refine lv_iinc (v := nI (i + 1)) (lv' := [(1, .int (nI (i + 1))), (3, .int (nI k)), (2, .int (bI b)), (0, .ref a)]) hx hb dMo_hasPhrase_78 hl (k := 2) rfl (nI_add _ 1) (by decide) rfl (fun ls hl => ?_)
                refine lv_goto (tgt := 2) hx hb dMo_hasPhrase_81 (by decide) ?_
                exact ih2 (i + 1) _ _ _ (by omega) (by omega) (fun p hp => (Nat.lt_or_eq_of_le (Nat.le_of_lt_succ hp)).elim (fun z => hh p z) (fun z => by subst z; exact hst ▸ cq_3))  hZ (lv_sub hl [0, 3] rfl)
              · refine lv_iconst (v := nI 1) hx hb dMo_hasPhrase_76 (by decide) ?_
                exact hret (by decide) hZ ⟨by rw [phL_true (p := i) (by omega) (hst ▸ cq_3)]; rfl, rfl⟩ dMo_hasPhrase_77
            · refine lv_iload_n hx hb dMo_hasPhrase_27 rfl (lv_at hl 1 rfl) ?_
              refine hw_bz_eq (tgt := 72) hx hb dMo_hasPhrase_28 (by decide) (fun cq_4 => ?_) (fun cq_4 => ?_)
              · have hst := stQ_end hbb (by omega) (Or.inr cq_4)
                refine lv_iload_n hx hb dMo_hasPhrase_72 rfl (lv_at hl 1 rfl) ?_
                refine hw_bz_eqT (tgt := 78) hx hb dMo_hasPhrase_73 (by decide) cq_4 ?_
                refine lv_iinc (v := nI (i + 1)) (lv' := [(1, .int (nI (i + 1))), (3, .int (nI k)), (2, .int (bI b)), (0, .ref a)]) hx hb dMo_hasPhrase_78 hl (k := 2) rfl (nI_add _ 1) (by decide) rfl (fun ls hl => ?_)
                refine lv_goto (tgt := 2) hx hb dMo_hasPhrase_81 (by decide) ?_
                exact ih2 (i + 1) _ _ _ (by omega) (by omega) (fun p hp => (Nat.lt_or_eq_of_le (Nat.le_of_lt_succ hp)).elim (fun z => hh p z) (fun z => by subst z; exact hst ▸ cq_4))  hZ (lv_sub hl [0, 3] rfl)
              · refine lv_aload_n hx hb dMo_hasPhrase_31 rfl (lv_at hl 3 rfl) ?_
                refine hw_get hx hb hts (hwInn inMo) hown hK hZ f0_ rfl 15 (by decide) (hts (.fieldLink RMo 40 RMo "askedTerm" "[J") (hwMem mm_397)) (fun _ h => h) rfl dMo_hasPhrase_32 ?_
                refine lv_iload_n hx hb dMo_hasPhrase_35 rfl (lv_at hl 0 rfl) ?_
                refine hw_lald hx hb hK hZ 1 g10 rfl (j := k) (by omega) (by omega) dMo_hasPhrase_36 ?_
                refine hw_topl (hv10 k (by omega)) ?_
                refine lv_lconst (v := lN 0) hx hb dMo_hasPhrase_37 rfl ?_
                refine hw_lc_eq (a := rW (at_.getD k [])) (b := 0) (tgt := 60) hx hb dMo_hasPhrase_38 dMo_hasPhrase_39 (by decide) (by first | exact rW_lt63 (by assumption) | exact rW_lt63 (hR2 _) | exact rW_lt63 (hS2 _) | decide) (by first | exact rW_lt63 (by assumption) | exact rW_lt63 (hR2 _) | exact rW_lt63 (hS2 _) | decide) (fun cq_6 => ?_) (fun cq_6 => ?_)
                · refine lv_iconst (v := nI 1) hx hb dMo_hasPhrase_60 (by decide) ?_
                  refine lv_goto (tgt := 65) hx hb dMo_hasPhrase_61 (by decide) ?_
                  refine lv_istore_n (lv' := [(2, .int (nI 1)), (3, .int (nI k)), (1, .int (nI i)), (0, .ref a)]) hx hb dMo_hasPhrase_65 rfl hl (by decide) rfl (fun ls hl => ?_)
                  refine lv_iinc (v := nI (k + 1)) (lv' := [(3, .int (nI (k + 1))), (2, .int (nI 1)), (1, .int (nI i)), (0, .ref a)]) hx hb dMo_hasPhrase_66 hl (k := 1) rfl (nI_add _ 1) (by decide) rfl (fun ls hl => ?_)
                  refine lv_goto (tgt := 19) hx hb dMo_hasPhrase_69 (by decide) ?_
                  exact ih19 (k + 1) true _ _ _ (by omega) (by omega) (stQ_t (by rw [← hbb]; exact cq_4) (Or.inl ((rW_zero (hS2 _)).mp cq_6)))  hZ (lv_sub hl [0, 1, 2, 3] rfl)
                · refine lv_aload_n hx hb dMo_hasPhrase_42 rfl (lv_at hl 3 rfl) ?_
                  refine hw_get hx hb hts (hwInn inMo) hown hK hZ f0_ rfl 14 (by decide) (hts (.fieldLink RMo 37 RMo "rowTerm" "[J") (hwMem mm_389)) (fun _ h => h) rfl dMo_hasPhrase_43 ?_
                  refine lv_iload_n hx hb dMo_hasPhrase_46 rfl (lv_at hl 2 rfl) ?_
                  refine lv_iload_n hx hb dMo_hasPhrase_47 rfl (lv_at hl 0 rfl) ?_
                  refine lv_iadd hx hb dMo_hasPhrase_48 ?_
                  refine hw_topi (nI_add i k) ?_
                  refine hw_lald hx hb hK hZ 1 g9 rfl (j := i + k) (by omega) (by omega) dMo_hasPhrase_49 ?_
                  refine hw_topl (hv9 (i + k) (by omega)) ?_
                  refine lv_aload_n hx hb dMo_hasPhrase_50 rfl (lv_at hl 3 rfl) ?_
                  refine hw_get hx hb hts (hwInn inMo) hown hK hZ f0_ rfl 15 (by decide) (hts (.fieldLink RMo 40 RMo "askedTerm" "[J") (hwMem mm_397)) (fun _ h => h) rfl dMo_hasPhrase_51 ?_
                  refine lv_iload_n hx hb dMo_hasPhrase_54 rfl (lv_at hl 0 rfl) ?_
                  refine hw_lald hx hb hK hZ 1 g10 rfl (j := k) (by omega) (by omega) dMo_hasPhrase_55 ?_
                  refine hw_topl (hv10 k (by omega)) ?_
                  refine hw_lc_ne (a := rW (rt.getD (i + k) [])) (b := rW (at_.getD k [])) (tgt := 64) hx hb dMo_hasPhrase_56 dMo_hasPhrase_57 (by decide) (by first | exact rW_lt63 (by assumption) | exact rW_lt63 (hR2 _) | exact rW_lt63 (hS2 _) | decide) (by first | exact rW_lt63 (by assumption) | exact rW_lt63 (hR2 _) | exact rW_lt63 (hS2 _) | decide) (fun cq_7 => ?_) (fun cq_7 => ?_)
                  · refine lv_iconst (v := nI 0) hx hb dMo_hasPhrase_64 (by decide) ?_
                    refine lv_istore_n (lv' := [(2, .int (nI 0)), (3, .int (nI k)), (1, .int (nI i)), (0, .ref a)]) hx hb dMo_hasPhrase_65 rfl hl (by decide) rfl (fun ls hl => ?_)
                    refine lv_iinc (v := nI (k + 1)) (lv' := [(3, .int (nI (k + 1))), (2, .int (nI 0)), (1, .int (nI i)), (0, .ref a)]) hx hb dMo_hasPhrase_66 hl (k := 1) rfl (nI_add _ 1) (by decide) rfl (fun ls hl => ?_)
                    refine lv_goto (tgt := 19) hx hb dMo_hasPhrase_69 (by decide) ?_
                    exact ih19 (k + 1) false _ _ _ (by omega) (by omega) (stQ_f (fun h => h.elim (fun h => cq_6 ((rW_zero (hS2 _)).mpr h)) (fun h => cq_7 ((rW_inj (hR2 _) (hS2 _)).mpr h.symm))))  hZ (lv_sub hl [0, 1, 2, 3] rfl)
                  · refine lv_iconst (v := nI 1) hx hb dMo_hasPhrase_60 (by decide) ?_
                    refine lv_goto (tgt := 65) hx hb dMo_hasPhrase_61 (by decide) ?_
                    refine lv_istore_n (lv' := [(2, .int (nI 1)), (3, .int (nI k)), (1, .int (nI i)), (0, .ref a)]) hx hb dMo_hasPhrase_65 rfl hl (by decide) rfl (fun ls hl => ?_)
                    refine lv_iinc (v := nI (k + 1)) (lv' := [(3, .int (nI (k + 1))), (2, .int (nI 1)), (1, .int (nI i)), (0, .ref a)]) hx hb dMo_hasPhrase_66 hl (k := 1) rfl (nI_add _ 1) (by decide) rfl (fun ls hl => ?_)
                    refine lv_goto (tgt := 19) hx hb dMo_hasPhrase_69 (by decide) ?_
                    exact ih19 (k + 1) true _ _ _ (by omega) (by omega) (stQ_t (by rw [← hbb]; exact cq_4) (Or.inr ((rW_inj (hR2 _) (hS2 _)).mp cq_7).symm))  hZ (lv_sub hl [0, 1, 2, 3] rfl)
        exact loop19 (at_.length - 0 + 1) 0 true _ _ _ (by omega) (by omega) rfl  hZ (lv_sub hl [0, 1, 2, 3] rfl)
  exact loop2 (rt.length + 1 - 0 + 1) 0 _ _ _ (by omega) (by omega) (fun p hp => absurd hp (Nat.not_lt_zero _))  hZ (lv_sub hl [0, 1] rfl)
set_option maxHeartbeats 4000000 in
set_option maxRecDepth 100000 in
theorem m_near (l : Launch) (D : va_G) (K : Nat → ClassId) (X : hwW) (sz : Nat) (a : Nat) (r1 : Nat) (r2 : Nat) (r3 : Nat) (r4 : Nat) (r5 : Nat) (r6 : Nat) (r7 : Nat) (r8 : Nat) (r9 : Nat) (r10 : Nat) (r11 : Nat) (r12 : Nat) (r13 : Nat) (r14 : Nat) (r15 : Nat) (tz : Nat) (nr : Nat) (ng : Nat) (ns : Nat) (nz : Nat) (na : Nat) (nw : Nat) (nh : Nat) (nt : Nat) (at_ : List (List Nat)) (rt : List (List Nat)) (dd : Nat) (f0_ : hwH X a 1000 (.inr (10, [.int (nI tz), .int (nI nr), .ref r1, .int (nI ng), .ref r2, .ref r3, .ref r4, .ref r5, .int (nI ns), .ref r6, .int (nI nz), .ref r7, .int (nI na), .ref r8, .ref r9, .ref r10, .int (nI nw), .int (nI nh), .ref r11, .ref r12, .ref r13, .ref r14, .int (nI nt), .ref r15]))) (f1_ : rwAt K X r10 1010 60 at_) (f2_ : rwAt K X r9 1009 800 rt) (hnr_ : nw = rt.length) (hal2 : 2 ≤ at_.length) (hdd : dd < 2147483648) : Met l yMo_hasNear (.code yMo_hasNear cMo_hasNear 5 (some .boolean) :: hwG) ({ frames := 0, cells := 0, slots := 0, locals := 0 } : Room) (hwPc D vwCl (hwT K) [.ref a, .int (nI dd)] X sz) (hwQi D vwCl X sz (fun r Y => r = bI (neL rt (at_.getD 0 []) (at_.getD 1 []) dd) ∧ X = Y)) 0 0 (va_A X.1 sz) := by
  refine hwMetz (cc := cMo_hasNear) (maxL := 5) (by decide) rfl (Nat.le_of_ble_eq_true rfl) (fun p e s m args below meth c ls A Q hx hb hml hown hts hname hret hK hO hZ hA hl => ?_)
  have hl : lv_has ls 5 [(0, .ref a), (1, .int (nI dd))] := hl
  obtain ⟨f10, g10, hN10, hv10, hk10⟩ := f1_
  have hS2 := fun j => okWs.at hk10 j
  obtain ⟨f9, g9, hN9, hv9, hk9⟩ := f2_
  have hR2 := fun j => okWs.at hk9 j
  refine lv_iconst (v := nI 0) hx hb dMo_hasNear_0 (by decide) ?_
  refine lv_istore_n (lv' := [(2, .int (nI 0)), (0, .ref a), (1, .int (nI dd))]) hx hb dMo_hasNear_1 rfl hl (by decide) rfl (fun ls hl => ?_)
  have loop2 : ∀ (fuel : Nat) (i : Nat) (Hh : Heap) (lcs : List Loc) (ls : Array Slot), rt.length - i < fuel → (i ≤ rt.length) → (∀ p, p < i → ¬ (rt.getD p [] = at_.getD 0 [] ∧ beL rt (at_.getD 1 []) dd p = true)) → hwZ D vwCl A s.heap X Hh lcs → lv_has ls 5 [(2, .int (nI i)), (0, .ref a), (1, .int (nI dd))] → W p l e ({ frames := 0, cells := 0, slots := 0, locals := 0 } : Room) s m args below meth c Hh lcs 0 0 Q (F0 m 2 ls []) := by
    intro fuel; induction fuel with
    | zero => intro i Hh lcs ls hfu; exact absurd hfu (Nat.not_lt_zero _)
    | succ fuel ih2 =>
      intro i Hh lcs ls hfu2 hi hh hZ hl
      refine lv_iload_n hx hb dMo_hasNear_2 rfl (lv_at hl 0 rfl) ?_
      refine lv_aload_n hx hb dMo_hasNear_3 rfl (lv_at hl 1 rfl) ?_
      refine hw_get hx hb hts (hwInn inMo) hown hK hZ f0_ rfl 16 (by decide) (hts (.fieldLink RMo 94 RMo "rowCount" "I") (hwMem mm_387)) (fun _ h => h) rfl dMo_hasNear_4 ?_
      refine hw_ic_ge (a := i) (b := nw) (tgt := 93) hx hb dMo_hasNear_7 (by decide) (by omega) (by omega) (fun cq_1 => ?_) (fun cq_1 => ?_)
      · refine lv_iconst (v := nI 0) hx hb dMo_hasNear_93 (by decide) ?_
        exact hret (by decide) hZ ⟨by rw [neL_false (fun p hp => hh p (by omega))]; rfl, rfl⟩ dMo_hasNear_94
      · refine lv_iconst (v := nI 0) hx hb dMo_hasNear_10 (by decide) ?_
        refine lv_istore_n (lv' := [(3, .int (nI 0)), (2, .int (nI i)), (0, .ref a), (1, .int (nI dd))]) hx hb dMo_hasNear_11 rfl hl (by decide) rfl (fun ls hl => ?_)
        have loop12 : ∀ (fuel : Nat) (k : Nat) (Hh : Heap) (lcs : List Loc) (ls : Array Slot), rt.length - k < fuel → (k ≤ rt.length) → (∀ q, q < k → ¬ (i ≠ q ∧ nd i q ≤ dd ∧ rt.getD i [] = at_.getD 0 [] ∧ rt.getD q [] = at_.getD 1 [])) → hwZ D vwCl A s.heap X Hh lcs → lv_has ls 5 [(3, .int (nI k)), (2, .int (nI i)), (0, .ref a), (1, .int (nI dd))] → W p l e ({ frames := 0, cells := 0, slots := 0, locals := 0 } : Room) s m args below meth c Hh lcs 0 0 Q (F0 m 12 ls []) := by
          intro fuel; induction fuel with
          | zero => intro k Hh lcs ls hfu; exact absurd hfu (Nat.not_lt_zero _)
          | succ fuel ih12 =>
            intro k Hh lcs ls hfu12 hk hin hZ hl
            refine lv_iload_n hx hb dMo_hasNear_12 rfl (lv_at hl 0 rfl) ?_
            refine lv_aload_n hx hb dMo_hasNear_13 rfl (lv_at hl 2 rfl) ?_
            refine hw_get hx hb hts (hwInn inMo) hown hK hZ f0_ rfl 16 (by decide) (hts (.fieldLink RMo 94 RMo "rowCount" "I") (hwMem mm_387)) (fun _ h => h) rfl dMo_hasNear_14 ?_
            refine hw_ic_ge (a := k) (b := nw) (tgt := 87) hx hb dMo_hasNear_17 (by decide) (by omega) (by omega) (fun cq_2 => ?_) (fun cq_2 => ?_)
            · refine lv_iinc (v := nI (i + 1)) (lv' := [(2, .int (nI (i + 1))), (3, .int (nI k)), (0, .ref a), (1, .int (nI dd))]) hx hb dMo_hasNear_87 hl (k := 1) rfl (nI_add _ 1) (by decide) rfl (fun ls hl => ?_)
              refine lv_goto (tgt := 2) hx hb dMo_hasNear_90 (by decide) ?_
              exact ih2 (i + 1) _ _ _ (by omega) (by omega) (fun p hp => (Nat.lt_or_eq_of_le (Nat.le_of_lt_succ hp)).elim (fun z => hh p z) (fun z => by subst z; exact near_no (fun q hq => hin q (by omega))))  hZ (lv_sub hl [0, 2, 3] rfl)
            · refine lv_iload_n hx hb dMo_hasNear_20 rfl (lv_at hl 1 rfl) ?_
              refine lv_iload_n hx hb dMo_hasNear_21 rfl (lv_at hl 0 rfl) ?_
              refine hw_ic_ge (a := i) (b := k) (tgt := 31) hx hb dMo_hasNear_22 (by decide) (by omega) (by omega) (fun cq_3 => ?_) (fun cq_3 => ?_)
              · refine lv_iload_n hx hb dMo_hasNear_31 rfl (lv_at hl 1 rfl) ?_
                refine lv_iload_n hx hb dMo_hasNear_32 rfl (lv_at hl 0 rfl) ?_
                refine lv_isub hx hb dMo_hasNear_33 ?_
                refine hw_topi (pk_sub (a := i) (b := k) (by omega)) ?_
                refine hw_topi (congrArg nI (nd_ge cq_3)) ?_
                have hnd := nd_le i k
                refine lv_istore (lv' := [(4, .int (nI (nd i k))), (3, .int (nI k)), (2, .int (nI i)), (0, .ref a), (1, .int (nI dd))]) hx hb dMo_hasNear_34 hl (by decide) rfl (fun ls hl => ?_)
                refine lv_iload_n hx hb dMo_hasNear_36 rfl (lv_at hl 2 rfl) ?_
                refine lv_iload_n hx hb dMo_hasNear_37 rfl (lv_at hl 1 rfl) ?_
                refine hw_ic_eq (a := i) (b := k) (tgt := 81) hx hb dMo_hasNear_38 (by decide) (by omega) (by omega) (fun cq_4 => ?_) (fun cq_4 => ?_)
                · refine lv_iinc (v := nI (k + 1)) (lv' := [(3, .int (nI (k + 1))), (4, .int (nI (nd i k))), (2, .int (nI i)), (0, .ref a), (1, .int (nI dd))]) hx hb dMo_hasNear_81 hl (k := 1) rfl (nI_add _ 1) (by decide) rfl (fun ls hl => ?_)
                  refine lv_goto (tgt := 12) hx hb dMo_hasNear_84 (by decide) ?_
                  exact ih12 (k + 1) _ _ _ (by omega) (by omega) (fun q hq => (Nat.lt_or_eq_of_le (Nat.le_of_lt_succ hq)).elim (fun z => hin q z) (fun z => by subst z; exact (fun h => h.1 cq_4)))  hZ (lv_sub hl [0, 2, 3, 4] rfl)
                · refine lv_iload hx hb dMo_hasNear_41 (lv_at hl 0 rfl) ?_
                  refine lv_iload_n hx hb dMo_hasNear_43 rfl (lv_at hl 4 rfl) ?_
                  refine hw_ic_gt (a := nd i k) (b := dd) (tgt := 81) hx hb dMo_hasNear_44 (by decide) (by omega) (by omega) (fun cq_5 => ?_) (fun cq_5 => ?_)
                  · refine lv_iinc (v := nI (k + 1)) (lv' := [(3, .int (nI (k + 1))), (4, .int (nI (nd i k))), (2, .int (nI i)), (0, .ref a), (1, .int (nI dd))]) hx hb dMo_hasNear_81 hl (k := 1) rfl (nI_add _ 1) (by decide) rfl (fun ls hl => ?_)
                    refine lv_goto (tgt := 12) hx hb dMo_hasNear_84 (by decide) ?_
                    exact ih12 (k + 1) _ _ _ (by omega) (by omega) (fun q hq => (Nat.lt_or_eq_of_le (Nat.le_of_lt_succ hq)).elim (fun z => hin q z) (fun z => by subst z; exact (fun h => absurd h.2.1 (by omega))))  hZ (lv_sub hl [0, 2, 3, 4] rfl)
                  · refine lv_aload_n hx hb dMo_hasNear_47 rfl (lv_at hl 3 rfl) ?_
                    refine hw_get hx hb hts (hwInn inMo) hown hK hZ f0_ rfl 14 (by decide) (hts (.fieldLink RMo 37 RMo "rowTerm" "[J") (hwMem mm_389)) (fun _ h => h) rfl dMo_hasNear_48 ?_
                    refine lv_iload_n hx hb dMo_hasNear_51 rfl (lv_at hl 2 rfl) ?_
                    refine hw_lald hx hb hK hZ 1 g9 rfl (j := i) (by omega) (by omega) dMo_hasNear_52 ?_
                    refine hw_topl (hv9 i (by omega)) ?_
                    refine lv_aload_n hx hb dMo_hasNear_53 rfl (lv_at hl 3 rfl) ?_
                    refine hw_get hx hb hts (hwInn inMo) hown hK hZ f0_ rfl 15 (by decide) (hts (.fieldLink RMo 40 RMo "askedTerm" "[J") (hwMem mm_397)) (fun _ h => h) rfl dMo_hasNear_54 ?_
                    refine lv_iconst (v := nI 0) hx hb dMo_hasNear_57 (by decide) ?_
                    refine hw_lald hx hb hK hZ 1 g10 rfl (j := 0) (by omega) (by omega) dMo_hasNear_58 ?_
                    refine hw_topl (hv10 0 (by omega)) ?_
                    refine hw_lc_ne (a := rW (rt.getD i [])) (b := rW (at_.getD 0 [])) (tgt := 81) hx hb dMo_hasNear_59 dMo_hasNear_60 (by decide) (by first | exact rW_lt63 (by assumption) | exact rW_lt63 (hR2 _) | exact rW_lt63 (hS2 _) | decide) (by first | exact rW_lt63 (by assumption) | exact rW_lt63 (hR2 _) | exact rW_lt63 (hS2 _) | decide) (fun cq_6 => ?_) (fun cq_6 => ?_)
                    · refine lv_iinc (v := nI (k + 1)) (lv' := [(3, .int (nI (k + 1))), (4, .int (nI (nd i k))), (2, .int (nI i)), (0, .ref a), (1, .int (nI dd))]) hx hb dMo_hasNear_81 hl (k := 1) rfl (nI_add _ 1) (by decide) rfl (fun ls hl => ?_)
                      refine lv_goto (tgt := 12) hx hb dMo_hasNear_84 (by decide) ?_
                      exact ih12 (k + 1) _ _ _ (by omega) (by omega) (fun q hq => (Nat.lt_or_eq_of_le (Nat.le_of_lt_succ hq)).elim (fun z => hin q z) (fun z => by subst z; exact (fun h => cq_6 ((rW_inj (hR2 _) (hS2 _)).mpr h.2.2.1))))  hZ (lv_sub hl [0, 2, 3, 4] rfl)
                    · refine lv_aload_n hx hb dMo_hasNear_63 rfl (lv_at hl 3 rfl) ?_
                      refine hw_get hx hb hts (hwInn inMo) hown hK hZ f0_ rfl 14 (by decide) (hts (.fieldLink RMo 37 RMo "rowTerm" "[J") (hwMem mm_389)) (fun _ h => h) rfl dMo_hasNear_64 ?_
                      refine lv_iload_n hx hb dMo_hasNear_67 rfl (lv_at hl 1 rfl) ?_
                      refine hw_lald hx hb hK hZ 1 g9 rfl (j := k) (by omega) (by omega) dMo_hasNear_68 ?_
                      refine hw_topl (hv9 k (by omega)) ?_
                      refine lv_aload_n hx hb dMo_hasNear_69 rfl (lv_at hl 3 rfl) ?_
                      refine hw_get hx hb hts (hwInn inMo) hown hK hZ f0_ rfl 15 (by decide) (hts (.fieldLink RMo 40 RMo "askedTerm" "[J") (hwMem mm_397)) (fun _ h => h) rfl dMo_hasNear_70 ?_
                      refine lv_iconst (v := nI 1) hx hb dMo_hasNear_73 (by decide) ?_
                      refine hw_lald hx hb hK hZ 1 g10 rfl (j := 1) (by omega) (by omega) dMo_hasNear_74 ?_
                      refine hw_topl (hv10 1 (by omega)) ?_
                      refine hw_lc_ne (a := rW (rt.getD k [])) (b := rW (at_.getD 1 [])) (tgt := 81) hx hb dMo_hasNear_75 dMo_hasNear_76 (by decide) (by first | exact rW_lt63 (by assumption) | exact rW_lt63 (hR2 _) | exact rW_lt63 (hS2 _) | decide) (by first | exact rW_lt63 (by assumption) | exact rW_lt63 (hR2 _) | exact rW_lt63 (hS2 _) | decide) (fun cq_7 => ?_) (fun cq_7 => ?_)
                      · refine lv_iinc (v := nI (k + 1)) (lv' := [(3, .int (nI (k + 1))), (4, .int (nI (nd i k))), (2, .int (nI i)), (0, .ref a), (1, .int (nI dd))]) hx hb dMo_hasNear_81 hl (k := 1) rfl (nI_add _ 1) (by decide) rfl (fun ls hl => ?_)
                        refine lv_goto (tgt := 12) hx hb dMo_hasNear_84 (by decide) ?_
                        exact ih12 (k + 1) _ _ _ (by omega) (by omega) (fun q hq => (Nat.lt_or_eq_of_le (Nat.le_of_lt_succ hq)).elim (fun z => hin q z) (fun z => by subst z; exact (fun h => cq_7 ((rW_inj (hR2 _) (hS2 _)).mpr h.2.2.2))))  hZ (lv_sub hl [0, 2, 3, 4] rfl)
                      · refine lv_iconst (v := nI 1) hx hb dMo_hasNear_79 (by decide) ?_
                        exact hret (by decide) hZ ⟨by rw [neL_true (p := i) (by omega) ⟨(rW_inj (hR2 _) (hS2 _)).mp cq_6, beL_true (p := k) (by omega) ⟨fun h => cq_4 h.symm, by rw [nd_sym]; exact cq_5, (rW_inj (hR2 _) (hS2 _)).mp cq_7⟩⟩]; rfl, rfl⟩ dMo_hasNear_80
              · refine lv_iload_n hx hb dMo_hasNear_25 rfl (lv_at hl 0 rfl) ?_
                refine lv_iload_n hx hb dMo_hasNear_26 rfl (lv_at hl 1 rfl) ?_
                refine lv_isub hx hb dMo_hasNear_27 ?_
                refine hw_topi (pk_sub (a := k) (b := i) (by omega)) ?_
                refine lv_goto (tgt := 34) hx hb dMo_hasNear_28 (by decide) ?_
                refine hw_topi (congrArg nI (nd_lt cq_3)) ?_
                have hnd := nd_le i k
                refine lv_istore (lv' := [(4, .int (nI (nd i k))), (3, .int (nI k)), (2, .int (nI i)), (0, .ref a), (1, .int (nI dd))]) hx hb dMo_hasNear_34 hl (by decide) rfl (fun ls hl => ?_)
                refine lv_iload_n hx hb dMo_hasNear_36 rfl (lv_at hl 2 rfl) ?_
                refine lv_iload_n hx hb dMo_hasNear_37 rfl (lv_at hl 1 rfl) ?_
                refine hw_ic_eq (a := i) (b := k) (tgt := 81) hx hb dMo_hasNear_38 (by decide) (by omega) (by omega) (fun cq_8 => by exfalso; omega) (fun cq_8 => ?_)
                refine lv_iload hx hb dMo_hasNear_41 (lv_at hl 0 rfl) ?_
                refine lv_iload_n hx hb dMo_hasNear_43 rfl (lv_at hl 4 rfl) ?_
                refine hw_ic_gt (a := nd i k) (b := dd) (tgt := 81) hx hb dMo_hasNear_44 (by decide) (by omega) (by omega) (fun cq_9 => ?_) (fun cq_9 => ?_)
                · refine lv_iinc (v := nI (k + 1)) (lv' := [(3, .int (nI (k + 1))), (4, .int (nI (nd i k))), (2, .int (nI i)), (0, .ref a), (1, .int (nI dd))]) hx hb dMo_hasNear_81 hl (k := 1) rfl (nI_add _ 1) (by decide) rfl (fun ls hl => ?_)
                  refine lv_goto (tgt := 12) hx hb dMo_hasNear_84 (by decide) ?_
                  exact ih12 (k + 1) _ _ _ (by omega) (by omega) (fun q hq => (Nat.lt_or_eq_of_le (Nat.le_of_lt_succ hq)).elim (fun z => hin q z) (fun z => by subst z; exact (fun h => absurd h.2.1 (by omega))))  hZ (lv_sub hl [0, 2, 3, 4] rfl)
                · refine lv_aload_n hx hb dMo_hasNear_47 rfl (lv_at hl 3 rfl) ?_
                  refine hw_get hx hb hts (hwInn inMo) hown hK hZ f0_ rfl 14 (by decide) (hts (.fieldLink RMo 37 RMo "rowTerm" "[J") (hwMem mm_389)) (fun _ h => h) rfl dMo_hasNear_48 ?_
                  refine lv_iload_n hx hb dMo_hasNear_51 rfl (lv_at hl 2 rfl) ?_
                  refine hw_lald hx hb hK hZ 1 g9 rfl (j := i) (by omega) (by omega) dMo_hasNear_52 ?_
                  refine hw_topl (hv9 i (by omega)) ?_
                  refine lv_aload_n hx hb dMo_hasNear_53 rfl (lv_at hl 3 rfl) ?_
                  refine hw_get hx hb hts (hwInn inMo) hown hK hZ f0_ rfl 15 (by decide) (hts (.fieldLink RMo 40 RMo "askedTerm" "[J") (hwMem mm_397)) (fun _ h => h) rfl dMo_hasNear_54 ?_
                  refine lv_iconst (v := nI 0) hx hb dMo_hasNear_57 (by decide) ?_
                  refine hw_lald hx hb hK hZ 1 g10 rfl (j := 0) (by omega) (by omega) dMo_hasNear_58 ?_
                  refine hw_topl (hv10 0 (by omega)) ?_
                  refine hw_lc_ne (a := rW (rt.getD i [])) (b := rW (at_.getD 0 [])) (tgt := 81) hx hb dMo_hasNear_59 dMo_hasNear_60 (by decide) (by first | exact rW_lt63 (by assumption) | exact rW_lt63 (hR2 _) | exact rW_lt63 (hS2 _) | decide) (by first | exact rW_lt63 (by assumption) | exact rW_lt63 (hR2 _) | exact rW_lt63 (hS2 _) | decide) (fun cq_10 => ?_) (fun cq_10 => ?_)
                  · refine lv_iinc (v := nI (k + 1)) (lv' := [(3, .int (nI (k + 1))), (4, .int (nI (nd i k))), (2, .int (nI i)), (0, .ref a), (1, .int (nI dd))]) hx hb dMo_hasNear_81 hl (k := 1) rfl (nI_add _ 1) (by decide) rfl (fun ls hl => ?_)
                    refine lv_goto (tgt := 12) hx hb dMo_hasNear_84 (by decide) ?_
                    exact ih12 (k + 1) _ _ _ (by omega) (by omega) (fun q hq => (Nat.lt_or_eq_of_le (Nat.le_of_lt_succ hq)).elim (fun z => hin q z) (fun z => by subst z; exact (fun h => cq_10 ((rW_inj (hR2 _) (hS2 _)).mpr h.2.2.1))))  hZ (lv_sub hl [0, 2, 3, 4] rfl)
                  · refine lv_aload_n hx hb dMo_hasNear_63 rfl (lv_at hl 3 rfl) ?_
                    refine hw_get hx hb hts (hwInn inMo) hown hK hZ f0_ rfl 14 (by decide) (hts (.fieldLink RMo 37 RMo "rowTerm" "[J") (hwMem mm_389)) (fun _ h => h) rfl dMo_hasNear_64 ?_
                    refine lv_iload_n hx hb dMo_hasNear_67 rfl (lv_at hl 1 rfl) ?_
                    refine hw_lald hx hb hK hZ 1 g9 rfl (j := k) (by omega) (by omega) dMo_hasNear_68 ?_
                    refine hw_topl (hv9 k (by omega)) ?_
                    refine lv_aload_n hx hb dMo_hasNear_69 rfl (lv_at hl 3 rfl) ?_
                    refine hw_get hx hb hts (hwInn inMo) hown hK hZ f0_ rfl 15 (by decide) (hts (.fieldLink RMo 40 RMo "askedTerm" "[J") (hwMem mm_397)) (fun _ h => h) rfl dMo_hasNear_70 ?_
                    refine lv_iconst (v := nI 1) hx hb dMo_hasNear_73 (by decide) ?_
                    refine hw_lald hx hb hK hZ 1 g10 rfl (j := 1) (by omega) (by omega) dMo_hasNear_74 ?_
                    refine hw_topl (hv10 1 (by omega)) ?_
                    refine hw_lc_ne (a := rW (rt.getD k [])) (b := rW (at_.getD 1 [])) (tgt := 81) hx hb dMo_hasNear_75 dMo_hasNear_76 (by decide) (by first | exact rW_lt63 (by assumption) | exact rW_lt63 (hR2 _) | exact rW_lt63 (hS2 _) | decide) (by first | exact rW_lt63 (by assumption) | exact rW_lt63 (hR2 _) | exact rW_lt63 (hS2 _) | decide) (fun cq_11 => ?_) (fun cq_11 => ?_)
                    · refine lv_iinc (v := nI (k + 1)) (lv' := [(3, .int (nI (k + 1))), (4, .int (nI (nd i k))), (2, .int (nI i)), (0, .ref a), (1, .int (nI dd))]) hx hb dMo_hasNear_81 hl (k := 1) rfl (nI_add _ 1) (by decide) rfl (fun ls hl => ?_)
                      refine lv_goto (tgt := 12) hx hb dMo_hasNear_84 (by decide) ?_
                      exact ih12 (k + 1) _ _ _ (by omega) (by omega) (fun q hq => (Nat.lt_or_eq_of_le (Nat.le_of_lt_succ hq)).elim (fun z => hin q z) (fun z => by subst z; exact (fun h => cq_11 ((rW_inj (hR2 _) (hS2 _)).mpr h.2.2.2))))  hZ (lv_sub hl [0, 2, 3, 4] rfl)
                    · refine lv_iconst (v := nI 1) hx hb dMo_hasNear_79 (by decide) ?_
                      exact hret (by decide) hZ ⟨by rw [neL_true (p := i) (by omega) ⟨(rW_inj (hR2 _) (hS2 _)).mp cq_10, beL_true (p := k) (by omega) ⟨fun h => cq_8 h.symm, by rw [nd_sym]; exact cq_9, (rW_inj (hR2 _) (hS2 _)).mp cq_11⟩⟩]; rfl, rfl⟩ dMo_hasNear_80
        exact loop12 (rt.length - 0 + 1) 0 _ _ _ (by omega) (by omega) (fun p hp => absurd hp (Nat.not_lt_zero _))  hZ (lv_sub hl [0, 1, 2, 3] rfl)
  exact loop2 (rt.length - 0 + 1) 0 _ _ _ (by omega) (by omega) (fun p hp => absurd hp (Nat.not_lt_zero _))  hZ (lv_sub hl [0, 1, 2] rfl)
set_option maxHeartbeats 4000000 in
set_option maxRecDepth 100000 in
theorem m_found (l : Launch) (D : va_G) (K : Nat → ClassId) (X : hwW) (sz : Nat) (a : Nat) (r1 : Nat) (r2 : Nat) (r3 : Nat) (r4 : Nat) (r5 : Nat) (r6 : Nat) (r7 : Nat) (r8 : Nat) (r9 : Nat) (r10 : Nat) (r11 : Nat) (r12 : Nat) (r13 : Nat) (r14 : Nat) (r15 : Nat) (tz : Nat) (nr : Nat) (ng : Nat) (ns : Nat) (nz : Nat) (na : Nat) (nw : Nat) (nh : Nat) (nt : Nat) (f1 : Nat → Int32) (f2 : Nat → Int32) (f3 : Nat → Int32) (hs : List (Nat × Nat × Nat)) (x0 : Nat) (c0 : Nat) (f0_ : hwH X a 1000 (.inr (10, [.int (nI tz), .int (nI nr), .ref r1, .int (nI ng), .ref r2, .ref r3, .ref r4, .ref r5, .int (nI ns), .ref r6, .int (nI nz), .ref r7, .int (nI na), .ref r8, .ref r9, .ref r10, .int (nI nw), .int (nI nh), .ref r11, .ref r12, .ref r13, .ref r14, .int (nI nt), .ref r15]))) (f1_ : hwH X r11 1011 (.inl (K 0, 30, .inl f1))) (f2_ : hwH X r12 1012 (.inl (K 0, 30, .inl f2))) (f3_ : hwH X r13 1013 (.inl (K 0, 30, .inl f3))) (hnh : nh = hs.length) (hn30 : hs.length < 30) (hv1 : ivec f1 (fun h => h.1) hs) (hv2 : ivec f2 (fun h => h.2.1) hs) (hv3 : ivec f3 (fun h => h.2.2) hs) (hB : okH hs) (h2k : c0 ≤ 1000) (h3k : nw ≤ 1000) : Met l yMo_found (.code yMo_found cMo_found 4 none :: hwG) ({ frames := 0, cells := 0, slots := 0, locals := 0 } : Room) (hwPc D vwCl (hwT K) [.ref a, .int (nI x0), .int (nI c0)] X sz) (hwQv D vwCl X sz (fun Y => ∃ (y1 y2 y3 : Nat → Int32), hwF X Y (fun M => M = 1000 ∨ M = 1011 ∨ M = 1012 ∨ M = 1013) ∧ hwH Y a 1000 (.inr (10, [.int (nI tz), .int (nI nr), .ref r1, .int (nI ng), .ref r2, .ref r3, .ref r4, .ref r5, .int (nI ns), .ref r6, .int (nI nz), .ref r7, .int (nI na), .ref r8, .ref r9, .ref r10, .int (nI nw), .int (nI ((insH (x0, c0, nw) hs).length)), .ref r11, .ref r12, .ref r13, .ref r14, .int (nI nt), .ref r15])) ∧ hwH Y r11 1011 (.inl (K 0, 30, .inl y1)) ∧ hwH Y r12 1012 (.inl (K 0, 30, .inl y2)) ∧ hwH Y r13 1013 (.inl (K 0, 30, .inl y3)) ∧ ivec y1 (fun h => h.1) (insH (x0, c0, nw) hs) ∧ ivec y2 (fun h => h.2.1) (insH (x0, c0, nw) hs) ∧ ivec y3 (fun h => h.2.2) (insH (x0, c0, nw) hs))) 0 0 (va_A X.1 sz) := by
  refine hwMetv (cc := cMo_found) (maxL := 4) (by decide) rfl (Nat.le_of_ble_eq_true rfl) (fun p e s m args below meth c ls A Q hx hb hml hown hts hname hret hK hO hZ hA hl => ?_)
  have hl : lv_has ls 4 [(0, .ref a), (1, .int (nI x0)), (2, .int (nI c0))] := hl
  have hFr : hwF X X (fun M => M = 1000 ∨ M = 1011 ∨ M = 1012 ∨ M = 1013) := hwF.rf
  subst hnh
  have hBd := okH.at hB
  refine lv_aload_n hx hb dMo_found_0 rfl (lv_at hl 0 rfl) ?_
  refine hw_get hx hb hts (hwInn inMo) hown hK hZ f0_ rfl 17 (by decide) (hts (.fieldLink RMo 111 RMo "hits" "I") (hwMem mm_409)) (fun _ h => h) rfl dMo_found_1 ?_
  refine lv_istore_n (lv' := [(3, .int (nI hs.length)), (0, .ref a), (1, .int (nI x0)), (2, .int (nI c0))]) hx hb dMo_found_4 rfl hl (by decide) rfl (fun ls hl => ?_)
  have loop5 : ∀ (fuel : Nat) (p0 : Nat) (y1 : Nat → Int32) (y2 : Nat → Int32) (y3 : Nat → Int32) (XL5 : hwW) (Hh : Heap) (lcs : List Loc) (ls : Array Slot), p0 < fuel → (p0 ≤ hs.length) → (plH (x0, c0, nw) hs p0 = plH (x0, c0, nw) hs hs.length) → (shv y1 (fun h => h.1) hs p0) → (shv y2 (fun h => h.2.1) hs p0) → (shv y3 (fun h => h.2.2) hs p0) → (hwF X XL5 (fun M => M = 1000 ∨ M = 1011 ∨ M = 1012 ∨ M = 1013)) → (hwH XL5 a 1000 (.inr (10, [.int (nI tz), .int (nI nr), .ref r1, .int (nI ng), .ref r2, .ref r3, .ref r4, .ref r5, .int (nI ns), .ref r6, .int (nI nz), .ref r7, .int (nI na), .ref r8, .ref r9, .ref r10, .int (nI nw), .int (nI hs.length), .ref r11, .ref r12, .ref r13, .ref r14, .int (nI nt), .ref r15]))) → (hwH XL5 r11 1011 (.inl (K 0, 30, .inl y1))) → (hwH XL5 r12 1012 (.inl (K 0, 30, .inl y2))) → (hwH XL5 r13 1013 (.inl (K 0, 30, .inl y3))) → hwZ D vwCl A s.heap XL5 Hh lcs → lv_has ls 4 [(3, .int (nI p0)), (0, .ref a), (1, .int (nI x0)), (2, .int (nI c0))] → W p l e ({ frames := 0, cells := 0, slots := 0, locals := 0 } : Room) s m args below meth c Hh lcs 0 0 Q (F0 m 5 ls []) := by
    intro fuel; induction fuel with
    | zero => intro p0 y1 y2 y3 XL5 Hh lcs ls hfu; exact absurd hfu (Nat.not_lt_zero _)
    | succ fuel ih5 =>
      intro p0 y1 y2 y3 XL5 Hh lcs ls hfu5 hp0 hpl hs1 hs2 hs3 hFr gx g1 g2 g3 hZ hl
      refine lv_iload_n hx hb dMo_found_5 rfl (lv_at hl 0 rfl) ?_
      refine hw_if_le (a := p0) (tgt := 88) hx hb dMo_found_6 (by decide) (by omega) (fun cq_1 => ?_) (fun cq_1 => ?_)
      · refine lv_aload_n hx hb dMo_found_88 rfl (lv_at hl 1 rfl) ?_
        refine hw_get hx hb hts (hwInn inMo) hown hK hZ gx rfl 18 (by decide) (hts (.fieldLink RMo 43 RMo "hitRecord" "[I") (hwMem mm_410)) (fun _ h => h) rfl dMo_found_89 ?_
        refine lv_iload_n hx hb dMo_found_92 rfl (lv_at hl 0 rfl) ?_
        refine lv_iload_n hx hb dMo_found_93 rfl (lv_at hl 2 rfl) ?_
        refine hw_iast hx hb hK hZ 0 g1 rfl (j := p0) (by omega) (by omega) dMo_found_94 (fun X_2 H_3 lc_4 hZ hF hNw => ?_)
        have hFr := hwF.tr hFr hF (fun _ h => h) (fun M h => by first | exact False.elim h | ((try dsimp only at h ⊢); omega))
        have gx := hF _ _ _ (by intro hNS; first | exact False.elim hNS | ((try dsimp only at hNS); omega)) gx
        have g1 := hNw
        have g2 := hF _ _ _ (by intro hNS; first | exact False.elim hNS | ((try dsimp only at hNS); omega)) g2
        have g3 := hF _ _ _ (by intro hNS; first | exact False.elim hNS | ((try dsimp only at hNS); omega)) g3
        refine lv_aload_n hx hb dMo_found_95 rfl (lv_at hl 1 rfl) ?_
        refine hw_get hx hb hts (hwInn inMo) hown hK hZ gx rfl 19 (by decide) (hts (.fieldLink RMo 46 RMo "hitCount" "[I") (hwMem mm_411)) (fun _ h => h) rfl dMo_found_96 ?_
        refine lv_iload_n hx hb dMo_found_99 rfl (lv_at hl 0 rfl) ?_
        refine lv_iload_n hx hb dMo_found_100 rfl (lv_at hl 3 rfl) ?_
        refine hw_iast hx hb hK hZ 0 g2 rfl (j := p0) (by omega) (by omega) dMo_found_101 (fun X_5 H_6 lc_7 hZ hF hNw => ?_)
        have hFr := hwF.tr hFr hF (fun _ h => h) (fun M h => by first | exact False.elim h | ((try dsimp only at h ⊢); omega))
        have gx := hF _ _ _ (by intro hNS; first | exact False.elim hNS | ((try dsimp only at hNS); omega)) gx
        have g1 := hF _ _ _ (by intro hNS; first | exact False.elim hNS | ((try dsimp only at hNS); omega)) g1
        have g2 := hNw
        have g3 := hF _ _ _ (by intro hNS; first | exact False.elim hNS | ((try dsimp only at hNS); omega)) g3
        refine lv_aload_n hx hb dMo_found_102 rfl (lv_at hl 1 rfl) ?_
        refine hw_get hx hb hts (hwInn inMo) hown hK hZ gx rfl 20 (by decide) (hts (.fieldLink RMo 49 RMo "hitWords" "[I") (hwMem mm_412)) (fun _ h => h) rfl dMo_found_103 ?_
        refine lv_iload_n hx hb dMo_found_106 rfl (lv_at hl 0 rfl) ?_
        refine lv_aload_n hx hb dMo_found_107 rfl (lv_at hl 1 rfl) ?_
        refine hw_get hx hb hts (hwInn inMo) hown hK hZ gx rfl 16 (by decide) (hts (.fieldLink RMo 94 RMo "rowCount" "I") (hwMem mm_387)) (fun _ h => h) rfl dMo_found_108 ?_
        refine hw_iast hx hb hK hZ 0 g3 rfl (j := p0) (by omega) (by omega) dMo_found_111 (fun X_8 H_9 lc_10 hZ hF hNw => ?_)
        have hFr := hwF.tr hFr hF (fun _ h => h) (fun M h => by first | exact False.elim h | ((try dsimp only at h ⊢); omega))
        have gx := hF _ _ _ (by intro hNS; first | exact False.elim hNS | ((try dsimp only at hNS); omega)) gx
        have g1 := hF _ _ _ (by intro hNS; first | exact False.elim hNS | ((try dsimp only at hNS); omega)) g1
        have g2 := hF _ _ _ (by intro hNS; first | exact False.elim hNS | ((try dsimp only at hNS); omega)) g2
        have g3 := hNw
        refine lv_aload_n hx hb dMo_found_112 rfl (lv_at hl 1 rfl) ?_
        refine lv_dup hx hb dMo_found_113 rfl ?_
        refine hw_get hx hb hts (hwInn inMo) hown hK hZ gx rfl 17 (by decide) (hts (.fieldLink RMo 111 RMo "hits" "I") (hwMem mm_409)) (fun _ h => h) rfl dMo_found_114 ?_
        refine lv_iconst (v := nI 1) hx hb dMo_found_117 (by decide) ?_
        refine lv_iadd hx hb dMo_found_118 ?_
        refine hw_topi (nI_add hs.length 1) ?_
        refine hw_put (ty := .int) (fs' := [.int (nI tz), .int (nI nr), .ref r1, .int (nI ng), .ref r2, .ref r3, .ref r4, .ref r5, .int (nI ns), .ref r6, .int (nI nz), .ref r7, .int (nI na), .ref r8, .ref r9, .ref r10, .int (nI nw), .int (nI (hs.length + 1)), .ref r11, .ref r12, .ref r13, .ref r14, .int (nI nt), .ref r15]) hx hb hts (hwInn inMo) tyMo tyMo_ok nmMo hown hK hZ gx rfl 17 (by decide) (hts (.fieldLink RMo 111 RMo "hits" "I") (hwMem mm_409)) (fun _ h => h) rfl (by decide +kernel) rfl rfl (Nat.le_of_ble_eq_true rfl) rfl dMo_found_119 (fun X_11 H_12 lc_13 hZ hF hNw => ?_)
        have hFr := hwF.tr hFr hF (fun _ h => h) (fun M h => by first | exact False.elim h | ((try dsimp only at h ⊢); omega))
        have gx := hNw
        have g1 := hF _ _ _ (by intro hNS; first | exact False.elim hNS | ((try dsimp only at hNS); omega)) g1
        have g2 := hF _ _ _ (by intro hNS; first | exact False.elim hNS | ((try dsimp only at hNS); omega)) g2
        have g3 := hF _ _ _ (by intro hNS; first | exact False.elim hNS | ((try dsimp only at hNS); omega)) g3
        exact hret hZ (by rw [insH_at (hpl.symm.trans (show plH (x0, c0, nw) hs p0 = p0 by rw [show p0 = 0 by omega]; rfl))]; exact ⟨_, _, _, hFr, by rw [insH_len (by omega)]; exact gx, g1, g2, g3, shv.done (x := (x0, c0, nw)) hs1 (by omega), shv.done (x := (x0, c0, nw)) hs2 (by omega), shv.done (x := (x0, c0, nw)) hs3 (by omega)⟩) dMo_found_122
      · refine lv_iload_n hx hb dMo_found_9 rfl (lv_at hl 3 rfl) ?_
        refine lv_i2l hx hb dMo_found_10 (nI_l (n := c0) (by omega)) ?_
        refine lv_aload_n hx hb dMo_found_11 rfl (lv_at hl 1 rfl) ?_
        refine hw_get hx hb hts (hwInn inMo) hown hK hZ gx rfl 20 (by decide) (hts (.fieldLink RMo 49 RMo "hitWords" "[I") (hwMem mm_412)) (fun _ h => h) rfl dMo_found_12 ?_
        refine lv_iload_n hx hb dMo_found_15 rfl (lv_at hl 0 rfl) ?_
        refine lv_iconst (v := nI 1) hx hb dMo_found_16 (by decide) ?_
        refine lv_isub hx hb dMo_found_17 ?_
        refine hw_topi (pk_sub (a := p0) (b := 1) (by omega)) ?_
        refine hw_iald hx hb hK hZ 0 g3 rfl (j := p0 - 1) (by omega) (by omega) dMo_found_18 ?_
        refine hw_topi (y := nI ((hs.getD (p0 - 1) (0, 0, 0)).2.2)) (hs3.1 (p0 - 1) (by omega)) ?_
        have hb9 := hBd (p0 - 1)
        refine lv_i2l hx hb dMo_found_19 (nI_l (n := (hs.getD (p0 - 1) (0, 0, 0)).2.2) (by omega)) ?_
        refine lv_lmul hx hb dMo_found_20 ?_
        refine hw_topl (lN_mul c0 ((hs.getD (p0 - 1) (0, 0, 0)).2.2)) ?_
        refine lv_aload_n hx hb dMo_found_21 rfl (lv_at hl 1 rfl) ?_
        refine hw_get hx hb hts (hwInn inMo) hown hK hZ gx rfl 19 (by decide) (hts (.fieldLink RMo 46 RMo "hitCount" "[I") (hwMem mm_411)) (fun _ h => h) rfl dMo_found_22 ?_
        refine lv_iload_n hx hb dMo_found_25 rfl (lv_at hl 0 rfl) ?_
        refine lv_iconst (v := nI 1) hx hb dMo_found_26 (by decide) ?_
        refine lv_isub hx hb dMo_found_27 ?_
        refine hw_topi (pk_sub (a := p0) (b := 1) (by omega)) ?_
        refine hw_iald hx hb hK hZ 0 g2 rfl (j := p0 - 1) (by omega) (by omega) dMo_found_28 ?_
        refine hw_topi (y := nI ((hs.getD (p0 - 1) (0, 0, 0)).2.1)) (hs2.1 (p0 - 1) (by omega)) ?_
        refine lv_i2l hx hb dMo_found_29 (nI_l (n := (hs.getD (p0 - 1) (0, 0, 0)).2.1) (by omega)) ?_
        refine lv_aload_n hx hb dMo_found_30 rfl (lv_at hl 1 rfl) ?_
        refine hw_get hx hb hts (hwInn inMo) hown hK hZ gx rfl 16 (by decide) (hts (.fieldLink RMo 94 RMo "rowCount" "I") (hwMem mm_387)) (fun _ h => h) rfl dMo_found_31 ?_
        refine lv_i2l hx hb dMo_found_34 (nI_l (n := nw) (by omega)) ?_
        refine lv_lmul hx hb dMo_found_35 ?_
        refine hw_topl (lN_mul ((hs.getD (p0 - 1) (0, 0, 0)).2.1) nw) ?_
        refine hw_lc_le (a := c0 * ((hs.getD (p0 - 1) (0, 0, 0)).2.2)) (b := ((hs.getD (p0 - 1) (0, 0, 0)).2.1) * nw) (tgt := 88) hx hb dMo_found_36 dMo_found_37 (by decide) (hw_mul63 (by omega) (by omega)) (hw_mul63 (by omega) (by omega)) (fun cq_14 => ?_) (fun cq_14 => ?_)
        · refine lv_aload_n hx hb dMo_found_88 rfl (lv_at hl 1 rfl) ?_
          refine hw_get hx hb hts (hwInn inMo) hown hK hZ gx rfl 18 (by decide) (hts (.fieldLink RMo 43 RMo "hitRecord" "[I") (hwMem mm_410)) (fun _ h => h) rfl dMo_found_89 ?_
          refine lv_iload_n hx hb dMo_found_92 rfl (lv_at hl 0 rfl) ?_
          refine lv_iload_n hx hb dMo_found_93 rfl (lv_at hl 2 rfl) ?_
          refine hw_iast hx hb hK hZ 0 g1 rfl (j := p0) (by omega) (by omega) dMo_found_94 (fun X_15 H_16 lc_17 hZ hF hNw => ?_)
          have hFr := hwF.tr hFr hF (fun _ h => h) (fun M h => by first | exact False.elim h | ((try dsimp only at h ⊢); omega))
          have gx := hF _ _ _ (by intro hNS; first | exact False.elim hNS | ((try dsimp only at hNS); omega)) gx
          have g1 := hNw
          have g2 := hF _ _ _ (by intro hNS; first | exact False.elim hNS | ((try dsimp only at hNS); omega)) g2
          have g3 := hF _ _ _ (by intro hNS; first | exact False.elim hNS | ((try dsimp only at hNS); omega)) g3
          refine lv_aload_n hx hb dMo_found_95 rfl (lv_at hl 1 rfl) ?_
          refine hw_get hx hb hts (hwInn inMo) hown hK hZ gx rfl 19 (by decide) (hts (.fieldLink RMo 46 RMo "hitCount" "[I") (hwMem mm_411)) (fun _ h => h) rfl dMo_found_96 ?_
          refine lv_iload_n hx hb dMo_found_99 rfl (lv_at hl 0 rfl) ?_
          refine lv_iload_n hx hb dMo_found_100 rfl (lv_at hl 3 rfl) ?_
          refine hw_iast hx hb hK hZ 0 g2 rfl (j := p0) (by omega) (by omega) dMo_found_101 (fun X_18 H_19 lc_20 hZ hF hNw => ?_)
          have hFr := hwF.tr hFr hF (fun _ h => h) (fun M h => by first | exact False.elim h | ((try dsimp only at h ⊢); omega))
          have gx := hF _ _ _ (by intro hNS; first | exact False.elim hNS | ((try dsimp only at hNS); omega)) gx
          have g1 := hF _ _ _ (by intro hNS; first | exact False.elim hNS | ((try dsimp only at hNS); omega)) g1
          have g2 := hNw
          have g3 := hF _ _ _ (by intro hNS; first | exact False.elim hNS | ((try dsimp only at hNS); omega)) g3
          refine lv_aload_n hx hb dMo_found_102 rfl (lv_at hl 1 rfl) ?_
          refine hw_get hx hb hts (hwInn inMo) hown hK hZ gx rfl 20 (by decide) (hts (.fieldLink RMo 49 RMo "hitWords" "[I") (hwMem mm_412)) (fun _ h => h) rfl dMo_found_103 ?_
          refine lv_iload_n hx hb dMo_found_106 rfl (lv_at hl 0 rfl) ?_
          refine lv_aload_n hx hb dMo_found_107 rfl (lv_at hl 1 rfl) ?_
          refine hw_get hx hb hts (hwInn inMo) hown hK hZ gx rfl 16 (by decide) (hts (.fieldLink RMo 94 RMo "rowCount" "I") (hwMem mm_387)) (fun _ h => h) rfl dMo_found_108 ?_
          refine hw_iast hx hb hK hZ 0 g3 rfl (j := p0) (by omega) (by omega) dMo_found_111 (fun X_21 H_22 lc_23 hZ hF hNw => ?_)
          have hFr := hwF.tr hFr hF (fun _ h => h) (fun M h => by first | exact False.elim h | ((try dsimp only at h ⊢); omega))
          have gx := hF _ _ _ (by intro hNS; first | exact False.elim hNS | ((try dsimp only at hNS); omega)) gx
          have g1 := hF _ _ _ (by intro hNS; first | exact False.elim hNS | ((try dsimp only at hNS); omega)) g1
          have g2 := hF _ _ _ (by intro hNS; first | exact False.elim hNS | ((try dsimp only at hNS); omega)) g2
          have g3 := hNw
          refine lv_aload_n hx hb dMo_found_112 rfl (lv_at hl 1 rfl) ?_
          refine lv_dup hx hb dMo_found_113 rfl ?_
          refine hw_get hx hb hts (hwInn inMo) hown hK hZ gx rfl 17 (by decide) (hts (.fieldLink RMo 111 RMo "hits" "I") (hwMem mm_409)) (fun _ h => h) rfl dMo_found_114 ?_
          refine lv_iconst (v := nI 1) hx hb dMo_found_117 (by decide) ?_
          refine lv_iadd hx hb dMo_found_118 ?_
          refine hw_topi (nI_add hs.length 1) ?_
          refine hw_put (ty := .int) (fs' := [.int (nI tz), .int (nI nr), .ref r1, .int (nI ng), .ref r2, .ref r3, .ref r4, .ref r5, .int (nI ns), .ref r6, .int (nI nz), .ref r7, .int (nI na), .ref r8, .ref r9, .ref r10, .int (nI nw), .int (nI (hs.length + 1)), .ref r11, .ref r12, .ref r13, .ref r14, .int (nI nt), .ref r15]) hx hb hts (hwInn inMo) tyMo tyMo_ok nmMo hown hK hZ gx rfl 17 (by decide) (hts (.fieldLink RMo 111 RMo "hits" "I") (hwMem mm_409)) (fun _ h => h) rfl (by decide +kernel) rfl rfl (Nat.le_of_ble_eq_true rfl) rfl dMo_found_119 (fun X_24 H_25 lc_26 hZ hF hNw => ?_)
          have hFr := hwF.tr hFr hF (fun _ h => h) (fun M h => by first | exact False.elim h | ((try dsimp only at h ⊢); omega))
          have gx := hNw
          have g1 := hF _ _ _ (by intro hNS; first | exact False.elim hNS | ((try dsimp only at hNS); omega)) g1
          have g2 := hF _ _ _ (by intro hNS; first | exact False.elim hNS | ((try dsimp only at hNS); omega)) g2
          have g3 := hF _ _ _ (by intro hNS; first | exact False.elim hNS | ((try dsimp only at hNS); omega)) g3
          exact hret hZ (by rw [insH_at (hpl.symm.trans (plH_f (x := (x0, c0, nw)) (hs := hs) (n := p0) (by omega) (decide_eq_false (Nat.not_lt.mpr cq_14))))]; exact ⟨_, _, _, hFr, by rw [insH_len (by omega)]; exact gx, g1, g2, g3, shv.done (x := (x0, c0, nw)) hs1 (by omega), shv.done (x := (x0, c0, nw)) hs2 (by omega), shv.done (x := (x0, c0, nw)) hs3 (by omega)⟩) dMo_found_122
        · refine lv_aload_n hx hb dMo_found_40 rfl (lv_at hl 1 rfl) ?_
          refine hw_get hx hb hts (hwInn inMo) hown hK hZ gx rfl 18 (by decide) (hts (.fieldLink RMo 43 RMo "hitRecord" "[I") (hwMem mm_410)) (fun _ h => h) rfl dMo_found_41 ?_
          refine lv_iload_n hx hb dMo_found_44 rfl (lv_at hl 0 rfl) ?_
          refine lv_aload_n hx hb dMo_found_45 rfl (lv_at hl 1 rfl) ?_
          refine hw_get hx hb hts (hwInn inMo) hown hK hZ gx rfl 18 (by decide) (hts (.fieldLink RMo 43 RMo "hitRecord" "[I") (hwMem mm_410)) (fun _ h => h) rfl dMo_found_46 ?_
          refine lv_iload_n hx hb dMo_found_49 rfl (lv_at hl 0 rfl) ?_
          refine lv_iconst (v := nI 1) hx hb dMo_found_50 (by decide) ?_
          refine lv_isub hx hb dMo_found_51 ?_
          refine hw_topi (pk_sub (a := p0) (b := 1) (by omega)) ?_
          refine hw_iald hx hb hK hZ 0 g1 rfl (j := p0 - 1) (by omega) (by omega) dMo_found_52 ?_
          refine hw_iast hx hb hK hZ 0 g1 rfl (j := p0) (by omega) (by omega) dMo_found_53 (fun X_27 H_28 lc_29 hZ hF hNw => ?_)
          have hFr := hwF.tr hFr hF (fun _ h => h) (fun M h => by first | exact False.elim h | ((try dsimp only at h ⊢); omega))
          have gx := hF _ _ _ (by intro hNS; first | exact False.elim hNS | ((try dsimp only at hNS); omega)) gx
          have g1 := hNw
          have g2 := hF _ _ _ (by intro hNS; first | exact False.elim hNS | ((try dsimp only at hNS); omega)) g2
          have g3 := hF _ _ _ (by intro hNS; first | exact False.elim hNS | ((try dsimp only at hNS); omega)) g3
          refine lv_aload_n hx hb dMo_found_54 rfl (lv_at hl 1 rfl) ?_
          refine hw_get hx hb hts (hwInn inMo) hown hK hZ gx rfl 19 (by decide) (hts (.fieldLink RMo 46 RMo "hitCount" "[I") (hwMem mm_411)) (fun _ h => h) rfl dMo_found_55 ?_
          refine lv_iload_n hx hb dMo_found_58 rfl (lv_at hl 0 rfl) ?_
          refine lv_aload_n hx hb dMo_found_59 rfl (lv_at hl 1 rfl) ?_
          refine hw_get hx hb hts (hwInn inMo) hown hK hZ gx rfl 19 (by decide) (hts (.fieldLink RMo 46 RMo "hitCount" "[I") (hwMem mm_411)) (fun _ h => h) rfl dMo_found_60 ?_
          refine lv_iload_n hx hb dMo_found_63 rfl (lv_at hl 0 rfl) ?_
          refine lv_iconst (v := nI 1) hx hb dMo_found_64 (by decide) ?_
          refine lv_isub hx hb dMo_found_65 ?_
          refine hw_topi (pk_sub (a := p0) (b := 1) (by omega)) ?_
          refine hw_iald hx hb hK hZ 0 g2 rfl (j := p0 - 1) (by omega) (by omega) dMo_found_66 ?_
          refine hw_iast hx hb hK hZ 0 g2 rfl (j := p0) (by omega) (by omega) dMo_found_67 (fun X_30 H_31 lc_32 hZ hF hNw => ?_)
          have hFr := hwF.tr hFr hF (fun _ h => h) (fun M h => by first | exact False.elim h | ((try dsimp only at h ⊢); omega))
          have gx := hF _ _ _ (by intro hNS; first | exact False.elim hNS | ((try dsimp only at hNS); omega)) gx
          have g1 := hF _ _ _ (by intro hNS; first | exact False.elim hNS | ((try dsimp only at hNS); omega)) g1
          have g2 := hNw
          have g3 := hF _ _ _ (by intro hNS; first | exact False.elim hNS | ((try dsimp only at hNS); omega)) g3
          refine lv_aload_n hx hb dMo_found_68 rfl (lv_at hl 1 rfl) ?_
          refine hw_get hx hb hts (hwInn inMo) hown hK hZ gx rfl 20 (by decide) (hts (.fieldLink RMo 49 RMo "hitWords" "[I") (hwMem mm_412)) (fun _ h => h) rfl dMo_found_69 ?_
          refine lv_iload_n hx hb dMo_found_72 rfl (lv_at hl 0 rfl) ?_
          refine lv_aload_n hx hb dMo_found_73 rfl (lv_at hl 1 rfl) ?_
          refine hw_get hx hb hts (hwInn inMo) hown hK hZ gx rfl 20 (by decide) (hts (.fieldLink RMo 49 RMo "hitWords" "[I") (hwMem mm_412)) (fun _ h => h) rfl dMo_found_74 ?_
          refine lv_iload_n hx hb dMo_found_77 rfl (lv_at hl 0 rfl) ?_
          refine lv_iconst (v := nI 1) hx hb dMo_found_78 (by decide) ?_
          refine lv_isub hx hb dMo_found_79 ?_
          refine hw_topi (pk_sub (a := p0) (b := 1) (by omega)) ?_
          refine hw_iald hx hb hK hZ 0 g3 rfl (j := p0 - 1) (by omega) (by omega) dMo_found_80 ?_
          refine hw_iast hx hb hK hZ 0 g3 rfl (j := p0) (by omega) (by omega) dMo_found_81 (fun X_33 H_34 lc_35 hZ hF hNw => ?_)
          have hFr := hwF.tr hFr hF (fun _ h => h) (fun M h => by first | exact False.elim h | ((try dsimp only at h ⊢); omega))
          have gx := hF _ _ _ (by intro hNS; first | exact False.elim hNS | ((try dsimp only at hNS); omega)) gx
          have g1 := hF _ _ _ (by intro hNS; first | exact False.elim hNS | ((try dsimp only at hNS); omega)) g1
          have g2 := hF _ _ _ (by intro hNS; first | exact False.elim hNS | ((try dsimp only at hNS); omega)) g2
          have g3 := hNw
          refine lv_iinc (v := nI (p0 - 1)) (lv' := [(3, .int (nI (p0 - 1))), (0, .ref a), (1, .int (nI x0)), (2, .int (nI c0))]) hx hb dMo_found_82 hl (k := 0) rfl (hw_dec (k := 1) (by omega) (by decide)) (by decide) rfl (fun ls hl => ?_)
          refine lv_goto (tgt := 5) hx hb dMo_found_85 (by decide) ?_
          exact ih5 (p0 - 1) (upd y1 p0 (y1 (p0 - 1))) (upd y2 p0 (y2 (p0 - 1))) (upd y3 p0 (y3 (p0 - 1))) _ _ _ _ (by omega) (by omega) ((plH_t (x := (x0, c0, nw)) (hs := hs) (n := p0) (by omega) (decide_eq_true cq_14)).symm.trans hpl) (hs1.step (by omega)) (hs2.step (by omega)) (hs3.step (by omega)) hFr gx g1 g2 g3 hZ (lv_sub hl [0, 1, 2, 3] rfl)
  exact loop5 (hs.length + 1) hs.length f1 f2 f3 _ _ _ _ (by omega) (by omega) rfl (shv.start hv1) (shv.start hv2) (shv.start hv3) hFr f0_ f1_ f2_ f3_ hZ (lv_sub hl [0, 1, 2, 3] rfl)
