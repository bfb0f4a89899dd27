theorem dWordSet_init_0 : decode cWordSet_init 0 = .ok (.aload_n 0, 1) := by decide +kernel
theorem dWordSet_init_1 : decode cWordSet_init 1 = .ok (.invokespecial 1, 3) := by decide +kernel
theorem dWordSet_init_4 : decode cWordSet_init 4 = .ok (.aload_n 0, 1) := by decide +kernel
theorem dWordSet_init_5 : decode cWordSet_init 5 = .ok (.iload_n 1, 1) := by decide +kernel
theorem dWordSet_init_6 : decode cWordSet_init 6 = .ok (.iconst 0, 1) := by decide +kernel
theorem dWordSet_init_7 : decode cWordSet_init 7 = .ok (.invokestatic 7, 3) := by decide +kernel
theorem dWordSet_init_10 : decode cWordSet_init 10 = .ok (.newarray .long, 2) := by decide +kernel
theorem dWordSet_init_12 : decode cWordSet_init 12 = .ok (.putfield 13, 3) := by decide +kernel
theorem dWordSet_init_15 : decode cWordSet_init 15 = .ok (.return_, 1) := by decide +kernel
theorem dWordSet_size_0 : decode cWordSet_size 0 = .ok (.aload_n 0, 1) := by decide +kernel
theorem dWordSet_size_1 : decode cWordSet_size 1 = .ok (.getfield 19, 3) := by decide +kernel
theorem dWordSet_size_4 : decode cWordSet_size 4 = .ok (.ireturn, 1) := by decide +kernel
theorem dWordSet_at_0 : decode cWordSet_at 0 = .ok (.iload_n 1, 1) := by decide +kernel
theorem dWordSet_at_1 : decode cWordSet_at 1 = .ok (.ifCond .lt 20, 3) := by decide +kernel
theorem dWordSet_at_4 : decode cWordSet_at 4 = .ok (.iload_n 1, 1) := by decide +kernel
theorem dWordSet_at_5 : decode cWordSet_at 5 = .ok (.aload_n 0, 1) := by decide +kernel
theorem dWordSet_at_6 : decode cWordSet_at 6 = .ok (.getfield 19, 3) := by decide +kernel
theorem dWordSet_at_9 : decode cWordSet_at 9 = .ok (.if_icmp .ge 12, 3) := by decide +kernel
theorem dWordSet_at_12 : decode cWordSet_at 12 = .ok (.iload_n 1, 1) := by decide +kernel
theorem dWordSet_at_13 : decode cWordSet_at 13 = .ok (.aload_n 0, 1) := by decide +kernel
theorem dWordSet_at_14 : decode cWordSet_at 14 = .ok (.getfield 13, 3) := by decide +kernel
theorem dWordSet_at_17 : decode cWordSet_at 17 = .ok (.arraylength, 1) := by decide +kernel
theorem dWordSet_at_18 : decode cWordSet_at 18 = .ok (.if_icmp .lt 7, 3) := by decide +kernel
theorem dWordSet_at_21 : decode cWordSet_at 21 = .ok (.lconst 0, 1) := by decide +kernel
theorem dWordSet_at_22 : decode cWordSet_at 22 = .ok (.goto 9, 3) := by decide +kernel
theorem dWordSet_at_25 : decode cWordSet_at 25 = .ok (.aload_n 0, 1) := by decide +kernel
theorem dWordSet_at_26 : decode cWordSet_at 26 = .ok (.getfield 13, 3) := by decide +kernel
theorem dWordSet_at_29 : decode cWordSet_at 29 = .ok (.iload_n 1, 1) := by decide +kernel
theorem dWordSet_at_30 : decode cWordSet_at 30 = .ok (.laload, 1) := by decide +kernel
theorem dWordSet_at_31 : decode cWordSet_at 31 = .ok (.lreturn, 1) := by decide +kernel
theorem dWordSet_clear_0 : decode cWordSet_clear 0 = .ok (.aload_n 0, 1) := by decide +kernel
theorem dWordSet_clear_1 : decode cWordSet_clear 1 = .ok (.iconst 0, 1) := by decide +kernel
theorem dWordSet_clear_2 : decode cWordSet_clear 2 = .ok (.putfield 19, 3) := by decide +kernel
theorem dWordSet_clear_5 : decode cWordSet_clear 5 = .ok (.return_, 1) := by decide +kernel
theorem dTerms_init_0 : decode cTerms_init 0 = .ok (.aload_n 0, 1) := by decide +kernel
theorem dTerms_init_1 : decode cTerms_init 1 = .ok (.invokespecial 1, 3) := by decide +kernel
theorem dTerms_init_4 : decode cTerms_init 4 = .ok (.aload_n 0, 1) := by decide +kernel
theorem dTerms_init_5 : decode cTerms_init 5 = .ok (.iload_n 1, 1) := by decide +kernel
theorem dTerms_init_6 : decode cTerms_init 6 = .ok (.iconst 0, 1) := by decide +kernel
theorem dTerms_init_7 : decode cTerms_init 7 = .ok (.invokestatic 7, 3) := by decide +kernel
theorem dTerms_init_10 : decode cTerms_init 10 = .ok (.newarray .long, 2) := by decide +kernel
theorem dTerms_init_12 : decode cTerms_init 12 = .ok (.putfield 13, 3) := by decide +kernel
theorem dTerms_init_15 : decode cTerms_init 15 = .ok (.return_, 1) := by decide +kernel
theorem dTerms_size_0 : decode cTerms_size 0 = .ok (.aload_n 0, 1) := by decide +kernel
theorem dTerms_size_1 : decode cTerms_size 1 = .ok (.getfield 19, 3) := by decide +kernel
theorem dTerms_size_4 : decode cTerms_size 4 = .ok (.ireturn, 1) := by decide +kernel
theorem dTerms_at_0 : decode cTerms_at 0 = .ok (.iload_n 1, 1) := by decide +kernel
theorem dTerms_at_1 : decode cTerms_at 1 = .ok (.ifCond .lt 20, 3) := by decide +kernel
theorem dTerms_at_4 : decode cTerms_at 4 = .ok (.iload_n 1, 1) := by decide +kernel
theorem dTerms_at_5 : decode cTerms_at 5 = .ok (.aload_n 0, 1) := by decide +kernel
theorem dTerms_at_6 : decode cTerms_at 6 = .ok (.getfield 19, 3) := by decide +kernel
theorem dTerms_at_9 : decode cTerms_at 9 = .ok (.if_icmp .ge 12, 3) := by decide +kernel
theorem dTerms_at_12 : decode cTerms_at 12 = .ok (.iload_n 1, 1) := by decide +kernel
theorem dTerms_at_13 : decode cTerms_at 13 = .ok (.aload_n 0, 1) := by decide +kernel
theorem dTerms_at_14 : decode cTerms_at 14 = .ok (.getfield 13, 3) := by decide +kernel
theorem dTerms_at_17 : decode cTerms_at 17 = .ok (.arraylength, 1) := by decide +kernel
theorem dTerms_at_18 : decode cTerms_at 18 = .ok (.if_icmp .lt 7, 3) := by decide +kernel
theorem dTerms_at_21 : decode cTerms_at 21 = .ok (.lconst 0, 1) := by decide +kernel
theorem dTerms_at_22 : decode cTerms_at 22 = .ok (.goto 9, 3) := by decide +kernel
theorem dTerms_at_25 : decode cTerms_at 25 = .ok (.aload_n 0, 1) := by decide +kernel
theorem dTerms_at_26 : decode cTerms_at 26 = .ok (.getfield 13, 3) := by decide +kernel
theorem dTerms_at_29 : decode cTerms_at 29 = .ok (.iload_n 1, 1) := by decide +kernel
theorem dTerms_at_30 : decode cTerms_at 30 = .ok (.laload, 1) := by decide +kernel
theorem dTerms_at_31 : decode cTerms_at 31 = .ok (.lreturn, 1) := by decide +kernel
theorem dTerms_clear_0 : decode cTerms_clear 0 = .ok (.aload_n 0, 1) := by decide +kernel
theorem dTerms_clear_1 : decode cTerms_clear 1 = .ok (.iconst 0, 1) := by decide +kernel
theorem dTerms_clear_2 : decode cTerms_clear 2 = .ok (.putfield 19, 3) := by decide +kernel
theorem dTerms_clear_5 : decode cTerms_clear 5 = .ok (.return_, 1) := by decide +kernel
theorem dWordSet_placeOf_0 : decode cWordSet_placeOf 0 = .ok (.iconst 0, 1) := by decide +kernel
theorem dWordSet_placeOf_1 : decode cWordSet_placeOf 1 = .ok (.istore_n 3, 1) := by decide +kernel
theorem dWordSet_placeOf_2 : decode cWordSet_placeOf 2 = .ok (.aload_n 0, 1) := by decide +kernel
theorem dWordSet_placeOf_3 : decode cWordSet_placeOf 3 = .ok (.getfield 19, 3) := by decide +kernel
theorem dWordSet_placeOf_6 : decode cWordSet_placeOf 6 = .ok (.istore 4, 2) := by decide +kernel
theorem dWordSet_placeOf_8 : decode cWordSet_placeOf 8 = .ok (.iconst 0, 1) := by decide +kernel
theorem dWordSet_placeOf_9 : decode cWordSet_placeOf 9 = .ok (.istore 5, 2) := by decide +kernel
theorem dWordSet_placeOf_11 : decode cWordSet_placeOf 11 = .ok (.iload 5, 2) := by decide +kernel
theorem dWordSet_placeOf_13 : decode cWordSet_placeOf 13 = .ok (.bipush 32, 2) := by decide +kernel
theorem dWordSet_placeOf_15 : decode cWordSet_placeOf 15 = .ok (.if_icmp .ge 46, 3) := by decide +kernel
theorem dWordSet_placeOf_18 : decode cWordSet_placeOf 18 = .ok (.iload_n 3, 1) := by decide +kernel
theorem dWordSet_placeOf_19 : decode cWordSet_placeOf 19 = .ok (.iload 4, 2) := by decide +kernel
theorem dWordSet_placeOf_21 : decode cWordSet_placeOf 21 = .ok (.if_icmp .ge 40, 3) := by decide +kernel
theorem dWordSet_placeOf_24 : decode cWordSet_placeOf 24 = .ok (.iload_n 3, 1) := by decide +kernel
theorem dWordSet_placeOf_25 : decode cWordSet_placeOf 25 = .ok (.iload 4, 2) := by decide +kernel
theorem dWordSet_placeOf_27 : decode cWordSet_placeOf 27 = .ok (.iadd, 1) := by decide +kernel
theorem dWordSet_placeOf_28 : decode cWordSet_placeOf 28 = .ok (.iconst 1, 1) := by decide +kernel
theorem dWordSet_placeOf_29 : decode cWordSet_placeOf 29 = .ok (.iushr, 1) := by decide +kernel
theorem dWordSet_placeOf_30 : decode cWordSet_placeOf 30 = .ok (.istore 6, 2) := by decide +kernel
theorem dWordSet_placeOf_32 : decode cWordSet_placeOf 32 = .ok (.aload_n 0, 1) := by decide +kernel
theorem dWordSet_placeOf_33 : decode cWordSet_placeOf 33 = .ok (.iload 6, 2) := by decide +kernel
theorem dWordSet_placeOf_35 : decode cWordSet_placeOf 35 = .ok (.invokevirtual 27, 3) := by decide +kernel
theorem dWordSet_placeOf_38 : decode cWordSet_placeOf 38 = .ok (.lload_n 1, 1) := by decide +kernel
theorem dWordSet_placeOf_39 : decode cWordSet_placeOf 39 = .ok (.lcmp, 1) := by decide +kernel
theorem dWordSet_placeOf_40 : decode cWordSet_placeOf 40 = .ok (.ifCond .ge 11, 3) := by decide +kernel
theorem dWordSet_placeOf_43 : decode cWordSet_placeOf 43 = .ok (.iload 6, 2) := by decide +kernel
theorem dWordSet_placeOf_45 : decode cWordSet_placeOf 45 = .ok (.iconst 1, 1) := by decide +kernel
theorem dWordSet_placeOf_46 : decode cWordSet_placeOf 46 = .ok (.iadd, 1) := by decide +kernel
theorem dWordSet_placeOf_47 : decode cWordSet_placeOf 47 = .ok (.istore_n 3, 1) := by decide +kernel
theorem dWordSet_placeOf_48 : decode cWordSet_placeOf 48 = .ok (.goto 7, 3) := by decide +kernel
theorem dWordSet_placeOf_51 : decode cWordSet_placeOf 51 = .ok (.iload 6, 2) := by decide +kernel
theorem dWordSet_placeOf_53 : decode cWordSet_placeOf 53 = .ok (.istore 4, 2) := by decide +kernel
theorem dWordSet_placeOf_55 : decode cWordSet_placeOf 55 = .ok (.iinc 5 1, 3) := by decide +kernel
theorem dWordSet_placeOf_58 : decode cWordSet_placeOf 58 = .ok (.goto (-47), 3) := by decide +kernel
theorem dWordSet_placeOf_61 : decode cWordSet_placeOf 61 = .ok (.iload_n 3, 1) := by decide +kernel
theorem dWordSet_placeOf_62 : decode cWordSet_placeOf 62 = .ok (.ireturn, 1) := by decide +kernel
theorem dWordSet_has_0 : decode cWordSet_has 0 = .ok (.aload_n 0, 1) := by decide +kernel
theorem dWordSet_has_1 : decode cWordSet_has 1 = .ok (.lload_n 1, 1) := by decide +kernel
theorem dWordSet_has_2 : decode cWordSet_has 2 = .ok (.invokevirtual 23, 3) := by decide +kernel
theorem dWordSet_has_5 : decode cWordSet_has 5 = .ok (.istore_n 3, 1) := by decide +kernel
theorem dWordSet_has_6 : decode cWordSet_has 6 = .ok (.iload_n 3, 1) := by decide +kernel
theorem dWordSet_has_7 : decode cWordSet_has 7 = .ok (.aload_n 0, 1) := by decide +kernel
theorem dWordSet_has_8 : decode cWordSet_has 8 = .ok (.getfield 19, 3) := by decide +kernel
theorem dWordSet_has_11 : decode cWordSet_has 11 = .ok (.if_icmp .ge 17, 3) := by decide +kernel
theorem dWordSet_has_14 : decode cWordSet_has 14 = .ok (.aload_n 0, 1) := by decide +kernel
theorem dWordSet_has_15 : decode cWordSet_has 15 = .ok (.iload_n 3, 1) := by decide +kernel
theorem dWordSet_has_16 : decode cWordSet_has 16 = .ok (.invokevirtual 27, 3) := by decide +kernel
theorem dWordSet_has_19 : decode cWordSet_has 19 = .ok (.lload_n 1, 1) := by decide +kernel
theorem dWordSet_has_20 : decode cWordSet_has 20 = .ok (.lcmp, 1) := by decide +kernel
theorem dWordSet_has_21 : decode cWordSet_has 21 = .ok (.ifCond .ne 7, 3) := by decide +kernel
theorem dWordSet_has_24 : decode cWordSet_has 24 = .ok (.iconst 1, 1) := by decide +kernel
theorem dWordSet_has_25 : decode cWordSet_has 25 = .ok (.goto 4, 3) := by decide +kernel
theorem dWordSet_has_28 : decode cWordSet_has 28 = .ok (.iconst 0, 1) := by decide +kernel
theorem dWordSet_has_29 : decode cWordSet_has 29 = .ok (.ireturn, 1) := by decide +kernel
theorem dWordSet_add_0 : decode cWordSet_add 0 = .ok (.aload_n 0, 1) := by decide +kernel
theorem dWordSet_add_1 : decode cWordSet_add 1 = .ok (.lload_n 1, 1) := by decide +kernel
theorem dWordSet_add_2 : decode cWordSet_add 2 = .ok (.invokevirtual 23, 3) := by decide +kernel
theorem dWordSet_add_5 : decode cWordSet_add 5 = .ok (.istore_n 3, 1) := by decide +kernel
theorem dWordSet_add_6 : decode cWordSet_add 6 = .ok (.aload_n 0, 1) := by decide +kernel
theorem dWordSet_add_7 : decode cWordSet_add 7 = .ok (.getfield 19, 3) := by decide +kernel
theorem dWordSet_add_10 : decode cWordSet_add 10 = .ok (.aload_n 0, 1) := by decide +kernel
theorem dWordSet_add_11 : decode cWordSet_add 11 = .ok (.getfield 13, 3) := by decide +kernel
theorem dWordSet_add_14 : decode cWordSet_add 14 = .ok (.arraylength, 1) := by decide +kernel
theorem dWordSet_add_15 : decode cWordSet_add 15 = .ok (.if_icmp .ge 21, 3) := by decide +kernel
theorem dWordSet_add_18 : decode cWordSet_add 18 = .ok (.iload_n 3, 1) := by decide +kernel
theorem dWordSet_add_19 : decode cWordSet_add 19 = .ok (.aload_n 0, 1) := by decide +kernel
theorem dWordSet_add_20 : decode cWordSet_add 20 = .ok (.getfield 19, 3) := by decide +kernel
theorem dWordSet_add_23 : decode cWordSet_add 23 = .ok (.if_icmp .gt 13, 3) := by decide +kernel
theorem dWordSet_add_26 : decode cWordSet_add 26 = .ok (.aload_n 0, 1) := by decide +kernel
theorem dWordSet_add_27 : decode cWordSet_add 27 = .ok (.iload_n 3, 1) := by decide +kernel
theorem dWordSet_add_28 : decode cWordSet_add 28 = .ok (.invokevirtual 27, 3) := by decide +kernel
theorem dWordSet_add_31 : decode cWordSet_add 31 = .ok (.lload_n 1, 1) := by decide +kernel
theorem dWordSet_add_32 : decode cWordSet_add 32 = .ok (.lcmp, 1) := by decide +kernel
theorem dWordSet_add_33 : decode cWordSet_add 33 = .ok (.ifCond .ne 4, 3) := by decide +kernel
theorem dWordSet_add_36 : decode cWordSet_add 36 = .ok (.return_, 1) := by decide +kernel
theorem dWordSet_add_37 : decode cWordSet_add 37 = .ok (.aload_n 0, 1) := by decide +kernel
theorem dWordSet_add_38 : decode cWordSet_add 38 = .ok (.getfield 13, 3) := by decide +kernel
theorem dWordSet_add_41 : decode cWordSet_add 41 = .ok (.iload_n 3, 1) := by decide +kernel
theorem dWordSet_add_42 : decode cWordSet_add 42 = .ok (.aload_n 0, 1) := by decide +kernel
theorem dWordSet_add_43 : decode cWordSet_add 43 = .ok (.getfield 13, 3) := by decide +kernel
theorem dWordSet_add_46 : decode cWordSet_add 46 = .ok (.iload_n 3, 1) := by decide +kernel
theorem dWordSet_add_47 : decode cWordSet_add 47 = .ok (.iconst 1, 1) := by decide +kernel
theorem dWordSet_add_48 : decode cWordSet_add 48 = .ok (.iadd, 1) := by decide +kernel
theorem dWordSet_add_49 : decode cWordSet_add 49 = .ok (.aload_n 0, 1) := by decide +kernel
theorem dWordSet_add_50 : decode cWordSet_add 50 = .ok (.getfield 19, 3) := by decide +kernel
theorem dWordSet_add_53 : decode cWordSet_add 53 = .ok (.iload_n 3, 1) := by decide +kernel
theorem dWordSet_add_54 : decode cWordSet_add 54 = .ok (.isub, 1) := by decide +kernel
theorem dWordSet_add_55 : decode cWordSet_add 55 = .ok (.invokestatic 31, 3) := by decide +kernel
theorem dWordSet_add_58 : decode cWordSet_add 58 = .ok (.aload_n 0, 1) := by decide +kernel
theorem dWordSet_add_59 : decode cWordSet_add 59 = .ok (.getfield 13, 3) := by decide +kernel
theorem dWordSet_add_62 : decode cWordSet_add 62 = .ok (.iload_n 3, 1) := by decide +kernel
theorem dWordSet_add_63 : decode cWordSet_add 63 = .ok (.lload_n 1, 1) := by decide +kernel
theorem dWordSet_add_64 : decode cWordSet_add 64 = .ok (.lastore, 1) := by decide +kernel
theorem dWordSet_add_65 : decode cWordSet_add 65 = .ok (.aload_n 0, 1) := by decide +kernel
theorem dWordSet_add_66 : decode cWordSet_add 66 = .ok (.dup, 1) := by decide +kernel
theorem dWordSet_add_67 : decode cWordSet_add 67 = .ok (.getfield 19, 3) := by decide +kernel
theorem dWordSet_add_70 : decode cWordSet_add 70 = .ok (.iconst 1, 1) := by decide +kernel
theorem dWordSet_add_71 : decode cWordSet_add 71 = .ok (.iadd, 1) := by decide +kernel
theorem dWordSet_add_72 : decode cWordSet_add 72 = .ok (.putfield 19, 3) := by decide +kernel
theorem dWordSet_add_75 : decode cWordSet_add 75 = .ok (.return_, 1) := by decide +kernel
theorem dTerms_read_0 : decode cTerms_read 0 = .ok (.aload_n 0, 1) := by decide +kernel
theorem dTerms_read_1 : decode cTerms_read 1 = .ok (.aload_n 1, 1) := by decide +kernel
theorem dTerms_read_2 : decode cTerms_read 2 = .ok (.invokevirtual 23, 3) := by decide +kernel
theorem dTerms_read_5 : decode cTerms_read 5 = .ok (.aload_n 0, 1) := by decide +kernel
theorem dTerms_read_6 : decode cTerms_read 6 = .ok (.getfield 13, 3) := by decide +kernel
theorem dTerms_read_9 : decode cTerms_read 9 = .ok (.arraylength, 1) := by decide +kernel
theorem dTerms_read_10 : decode cTerms_read 10 = .ok (.invokestatic 29, 3) := by decide +kernel
theorem dTerms_read_13 : decode cTerms_read 13 = .ok (.putfield 19, 3) := by decide +kernel
theorem dTerms_read_16 : decode cTerms_read 16 = .ok (.iconst 0, 1) := by decide +kernel
theorem dTerms_read_17 : decode cTerms_read 17 = .ok (.istore 4, 2) := by decide +kernel
theorem dTerms_read_19 : decode cTerms_read 19 = .ok (.iload 4, 2) := by decide +kernel
theorem dTerms_read_21 : decode cTerms_read 21 = .ok (.aload_n 0, 1) := by decide +kernel
theorem dTerms_read_22 : decode cTerms_read 22 = .ok (.getfield 19, 3) := by decide +kernel
theorem dTerms_read_25 : decode cTerms_read 25 = .ok (.if_icmp .ge 43, 3) := by decide +kernel
theorem dTerms_read_28 : decode cTerms_read 28 = .ok (.aload_n 1, 1) := by decide +kernel
theorem dTerms_read_29 : decode cTerms_read 29 = .ok (.iload 4, 2) := by decide +kernel
theorem dTerms_read_31 : decode cTerms_read 31 = .ok (.invokevirtual 32, 3) := by decide +kernel
theorem dTerms_read_34 : decode cTerms_read 34 = .ok (.lstore 5, 2) := by decide +kernel
theorem dTerms_read_36 : decode cTerms_read 36 = .ok (.aload_n 0, 1) := by decide +kernel
theorem dTerms_read_37 : decode cTerms_read 37 = .ok (.getfield 13, 3) := by decide +kernel
theorem dTerms_read_40 : decode cTerms_read 40 = .ok (.iload 4, 2) := by decide +kernel
theorem dTerms_read_42 : decode cTerms_read 42 = .ok (.aload_n 3, 1) := by decide +kernel
theorem dTerms_read_43 : decode cTerms_read 43 = .ok (.lload 5, 2) := by decide +kernel
theorem dTerms_read_45 : decode cTerms_read 45 = .ok (.invokevirtual 36, 3) := by decide +kernel
theorem dTerms_read_48 : decode cTerms_read 48 = .ok (.ifCond .eq 7, 3) := by decide +kernel
theorem dTerms_read_51 : decode cTerms_read 51 = .ok (.lconst 0, 1) := by decide +kernel
theorem dTerms_read_52 : decode cTerms_read 52 = .ok (.goto 9, 3) := by decide +kernel
theorem dTerms_read_55 : decode cTerms_read 55 = .ok (.lload 5, 2) := by decide +kernel
theorem dTerms_read_57 : decode cTerms_read 57 = .ok (.iload_n 2, 1) := by decide +kernel
theorem dTerms_read_58 : decode cTerms_read 58 = .ok (.invokestatic 42, 3) := by decide +kernel
theorem dTerms_read_61 : decode cTerms_read 61 = .ok (.lastore, 1) := by decide +kernel
theorem dTerms_read_62 : decode cTerms_read 62 = .ok (.iinc 4 1, 3) := by decide +kernel
theorem dTerms_read_65 : decode cTerms_read 65 = .ok (.goto (-46), 3) := by decide +kernel
theorem dTerms_read_68 : decode cTerms_read 68 = .ok (.return_, 1) := by decide +kernel
theorem dTerms_has_0 : decode cTerms_has 0 = .ok (.iconst 0, 1) := by decide +kernel
theorem dTerms_has_1 : decode cTerms_has 1 = .ok (.istore_n 3, 1) := by decide +kernel
theorem dTerms_has_2 : decode cTerms_has 2 = .ok (.iload_n 3, 1) := by decide +kernel
theorem dTerms_has_3 : decode cTerms_has 3 = .ok (.aload_n 0, 1) := by decide +kernel
theorem dTerms_has_4 : decode cTerms_has 4 = .ok (.getfield 19, 3) := by decide +kernel
theorem dTerms_has_7 : decode cTerms_has 7 = .ok (.if_icmp .ge 21, 3) := by decide +kernel
theorem dTerms_has_10 : decode cTerms_has 10 = .ok (.aload_n 0, 1) := by decide +kernel
theorem dTerms_has_11 : decode cTerms_has 11 = .ok (.iload_n 3, 1) := by decide +kernel
theorem dTerms_has_12 : decode cTerms_has 12 = .ok (.invokevirtual 48, 3) := by decide +kernel
theorem dTerms_has_15 : decode cTerms_has 15 = .ok (.lload_n 1, 1) := by decide +kernel
theorem dTerms_has_16 : decode cTerms_has 16 = .ok (.lcmp, 1) := by decide +kernel
theorem dTerms_has_17 : decode cTerms_has 17 = .ok (.ifCond .ne 5, 3) := by decide +kernel
theorem dTerms_has_20 : decode cTerms_has 20 = .ok (.iconst 1, 1) := by decide +kernel
theorem dTerms_has_21 : decode cTerms_has 21 = .ok (.ireturn, 1) := by decide +kernel
theorem dTerms_has_22 : decode cTerms_has 22 = .ok (.iinc 3 1, 3) := by decide +kernel
theorem dTerms_has_25 : decode cTerms_has 25 = .ok (.goto (-23), 3) := by decide +kernel
theorem dTerms_has_28 : decode cTerms_has 28 = .ok (.iconst 0, 1) := by decide +kernel
theorem dTerms_has_29 : decode cTerms_has 29 = .ok (.ireturn, 1) := by decide +kernel
theorem mm_49 : (.methodLink RWordSet 1 objectInit : Cond) ∈ hwG := hwIx 82 (by decide +kernel) (by decide +kernel)
theorem mm_50 : (.methodLink RWordSet 7 Lib.Math.max.name : Cond) ∈ hwG := hwIx 83 (by decide +kernel) (by decide +kernel)
theorem mm_51 : (.static Lib.Math.max.name : Cond) ∈ hwG := hwIx 84 (by decide +kernel) (by decide +kernel)
theorem mm_52 : (.code Lib.Math.max.name Lib.Math.max.code 2 (some .int) : Cond) ∈ hwG := hwIx 85 (by decide +kernel) (by decide +kernel)
theorem mm_53 : (.fieldLink RWordSet 13 RWordSet "words" "[J" : Cond) ∈ hwG := hwIx 86 (by decide +kernel) (by decide +kernel)
theorem mm_54 : (.fieldLink RWordSet 19 RWordSet "count" "I" : Cond) ∈ hwG := hwIx 87 (by decide +kernel) (by decide +kernel)
theorem mm_55 : (.methodLink RTerms 1 objectInit : Cond) ∈ hwG := hwIx 117 (by decide +kernel) (by decide +kernel)
theorem mm_56 : (.methodLink RTerms 7 Lib.Math.max.name : Cond) ∈ hwG := hwIx 118 (by decide +kernel) (by decide +kernel)
theorem mm_57 : (.fieldLink RTerms 13 RTerms "terms" "[J" : Cond) ∈ hwG := hwIx 119 (by decide +kernel) (by decide +kernel)
theorem mm_58 : (.fieldLink RTerms 19 RTerms "count" "I" : Cond) ∈ hwG := hwIx 120 (by decide +kernel) (by decide +kernel)
theorem mm_59 : (.code yWordSet_at cWordSet_at 2 (some .long) : Cond) ∈ hwG := hwIx 283 (by decide +kernel) (by decide +kernel)
theorem mm_60 : (.methodLink RWordSet 27 yWordSet_at : Cond) ∈ hwG := hwIx 280 (by decide +kernel) (by decide +kernel)
theorem mm_61 : (.instanceMethod yWordSet_at : Cond) ∈ hwG := hwIx 281 (by decide +kernel) (by decide +kernel)
theorem mm_62 : (.selects RWordSet yWordSet_at yWordSet_at : Cond) ∈ hwG := hwIx 282 (by decide +kernel) (by decide +kernel)
theorem mm_63 : (.initialized RWordSet : Cond) ∈ hwG := hwIx 35 (by decide +kernel) (by decide +kernel)
theorem mm_64 : (.code yWordSet_placeOf cWordSet_placeOf 7 (some .int) : Cond) ∈ hwG := hwIx 279 (by decide +kernel) (by decide +kernel)
theorem mm_65 : (.methodLink RWordSet 23 yWordSet_placeOf : Cond) ∈ hwG := hwIx 276 (by decide +kernel) (by decide +kernel)
theorem mm_66 : (.instanceMethod yWordSet_placeOf : Cond) ∈ hwG := hwIx 278 (by decide +kernel) (by decide +kernel)
theorem mm_67 : (.selects RWordSet yWordSet_placeOf yWordSet_placeOf : Cond) ∈ hwG := hwIx 4 (by decide +kernel) (by decide +kernel)
theorem mm_68 : (.methodLink RWordSet 31 arraycopyName : Cond) ∈ hwG := hwIx 520 (by decide +kernel) (by decide +kernel)
theorem mm_69 : (.code yText_size cText_size 1 (some .int) : Cond) ∈ hwG := hwIx 266 (by decide +kernel) (by decide +kernel)
theorem mm_70 : (.methodLink RTerms 23 yText_size : Cond) ∈ hwG := hwIx 263 (by decide +kernel) (by decide +kernel)
theorem mm_71 : (.instanceMethod yText_size : Cond) ∈ hwG := hwIx 264 (by decide +kernel) (by decide +kernel)
theorem mm_72 : (.selects RText yText_size yText_size : Cond) ∈ hwG := hwIx 265 (by decide +kernel) (by decide +kernel)
theorem mm_73 : (.methodLink RTerms 29 Lib.Math.min.name : Cond) ∈ hwG := hwIx 267 (by decide +kernel) (by decide +kernel)
theorem mm_74 : (.code yText_wordAt cText_wordAt 2 (some .long) : Cond) ∈ hwG := hwIx 271 (by decide +kernel) (by decide +kernel)
theorem mm_75 : (.methodLink RTerms 32 yText_wordAt : Cond) ∈ hwG := hwIx 268 (by decide +kernel) (by decide +kernel)
theorem mm_76 : (.instanceMethod yText_wordAt : Cond) ∈ hwG := hwIx 269 (by decide +kernel) (by decide +kernel)
theorem mm_77 : (.selects RText yText_wordAt yText_wordAt : Cond) ∈ hwG := hwIx 270 (by decide +kernel) (by decide +kernel)
theorem mm_78 : (.code yWordSet_has cWordSet_has 4 (some .boolean) : Cond) ∈ hwG := hwIx 275 (by decide +kernel) (by decide +kernel)
theorem mm_79 : (.methodLink RTerms 36 yWordSet_has : Cond) ∈ hwG := hwIx 272 (by decide +kernel) (by decide +kernel)
theorem mm_80 : (.instanceMethod yWordSet_has : Cond) ∈ hwG := hwIx 273 (by decide +kernel) (by decide +kernel)
theorem mm_81 : (.selects RWordSet yWordSet_has yWordSet_has : Cond) ∈ hwG := hwIx 274 (by decide +kernel) (by decide +kernel)
theorem mm_82 : (.code yWord_stem cWord_stem 6 (some .long) : Cond) ∈ hwG := hwIx 286 (by decide +kernel) (by decide +kernel)
theorem mm_83 : (.static yWord_stem : Cond) ∈ hwG := hwIx 285 (by decide +kernel) (by decide +kernel)
theorem mm_84 : (.methodLink RTerms 42 yWord_stem : Cond) ∈ hwG := hwIx 284 (by decide +kernel) (by decide +kernel)
theorem mm_85 : (.code yTerms_at cTerms_at 2 (some .long) : Cond) ∈ hwG := hwIx 341 (by decide +kernel) (by decide +kernel)
theorem mm_86 : (.methodLink RTerms 48 yTerms_at : Cond) ∈ hwG := hwIx 352 (by decide +kernel) (by decide +kernel)
theorem mm_87 : (.instanceMethod yTerms_at : Cond) ∈ hwG := hwIx 339 (by decide +kernel) (by decide +kernel)
theorem mm_88 : (.selects RTerms yTerms_at yTerms_at : Cond) ∈ hwG := hwIx 340 (by decide +kernel) (by decide +kernel)
theorem mm_89 : (.initialized RTerms : Cond) ∈ hwG := hwIx 38 (by decide +kernel) (by decide +kernel)
set_option maxHeartbeats 4000000 in
set_option maxRecDepth 100000 in
theorem c_Se_init (l : Launch) (D : va_G) (K : Nat → ClassId) (X : hwW) (sz : Nat) (a : Nat) (k : Nat) (N : Nat) (f0_ : hwH X a (2 * k) (.inr (4, [.null, .int (nI 0)]))) (hN : N ≤ 3000) : Met l yWordSet_init (.code yWordSet_init cWordSet_init 2 none :: hwG) ({ frames := 1, cells := 1, slots := N, locals := 22 } : Room) (hwPc D vwCl (hwT K) [.ref a, .int (nI N)] X sz) (hwQv D vwCl X sz (fun Y => hwF X Y (fun M => M = 2 * k ∨ M = 2 * k + 1) ∧ seAt K Y a k N [])) 1 N (va_A X.1 sz) := by
  refine hwMetv (cc := cWordSet_init) (maxL := 2) (by decide) rfl (Nat.le_of_ble_eq_true rfl) (fun p e s m args below meth c ls A Q hx hb hml hown hts hname hret hK hO hZ hA hl => ?_)
  have hl : lv_has ls 2 [(0, .ref a), (1, .int (nI N))] := hl
  have hFr : hwF X X (fun M => M = 2 * k ∨ M = 2 * k + 1) := hwF.rf
  refine lv_aload_n hx hb dWordSet_init_0 rfl (lv_at hl 0 rfl) ?_
  refine W.objInit hx hb hown (hts (.methodLink RWordSet 1 objectInit) (hwMem mm_49)) (hts (.instanceMethod objectInit) (hwMem mm_31)) (hts (.code objectInit ⟨#[0xb1]⟩ 1 none) (hwMem mm_32)) rfl (by rw [hml]; exact hl.1) rfl dWordSet_init_1 (Nat.le_of_ble_eq_true rfl) (Nat.le_of_ble_eq_true rfl) ?_
  refine W.eq (g2 := F0 m 4 ls []) rfl ?_
  refine lv_aload_n hx hb dWordSet_init_4 rfl (lv_at hl 0 rfl) ?_
  refine lv_iload_n hx hb dWordSet_init_5 rfl (lv_at hl 1 rfl) ?_
  refine lv_iconst (v := nI 0) hx hb dWordSet_init_6 (by decide) ?_
  refine va_mmax hx hb (hml.trans hl.1.symm) hown (hts (.methodLink RWordSet 7 Lib.Math.max.name) (hwMem mm_50)) (hts (.static Lib.Math.max.name) (hwMem mm_51)) (hts (.initialized "java/lang/Math") (hwMem mm_19)) (hts (.code Lib.Math.max.name Lib.Math.max.code 2 (some .int)) (hwMem mm_52)) (Nat.le_of_ble_eq_true rfl) (Nat.le_of_ble_eq_true rfl) (show 0 ≤ 1 by omega) (show 0 ≤ N by omega) dWordSet_init_7 ?_
  refine hw_topi (hw_nmax (a := N) (b := 0) (by omega) (by omega)) ?_
  refine hw_topi (congrArg nI (Nat.max_eq_left (by omega))) ?_
  refine hw_newa (atype := .long) (ty := .long) (a0 := (N, .inr (.inl (fun _ => 0)))) (N := N) hx hb (hts (.arrayClass .long) (hwMem mm_24)) rfl hK hZ hA 1 rfl (fun _ _ => rfl) (fun _ => rfl) (by omega) (by show _ * _ ≤ _; first | decide | (simp only [componentBytes]; omega)) (show 0 + 1 ≤ 1 by omega) (show 0 + N ≤ N by omega) dWordSet_init_10 (2 * k + 1) (fun qq_1 X_2 H_3 hZ hF hNw => ?_)
  have hFr := hwF.tr hFr hF (fun _ h => h) (fun M h => by first | exact False.elim h | ((try dsimp only at h ⊢); omega))
  have f0_ := hF _ _ _ (by intro hNS; first | exact False.elim hNS | ((try dsimp only at hNS); omega)) f0_
  have ff_5 := hNw
  refine hw_putF (ty := (.array .long)) (fs' := [.ref qq_1, .int (nI 0)]) hx hb hts (hwInn inWordSet) tyWordSet tyWordSet_ok nmWordSet hown hK hZ f0_ rfl 0 (by decide) (hts (.fieldLink RWordSet 13 RWordSet "words" "[J") (hwMem mm_53)) (fun _ h => h) rfl hname rfl (by decide +kernel) rfl rfl (Nat.le_of_ble_eq_true rfl) rfl dWordSet_init_12 (fun X_6 H_7 lc_8 hZ hF hNw => ?_)
  have hFr := hwF.tr hFr hF (fun _ h => h) (fun M h => by first | exact False.elim h | ((try dsimp only at h ⊢); omega))
  have f0_ := hNw
  have ff_5 := hF _ _ _ (by intro hNS; first | exact False.elim hNS | ((try dsimp only at hNS); omega)) ff_5
  refine W.widen (k := 1) (n := N) (by omega) (by omega) ?_
  exact hret hZ ⟨hFr, qq_1, _, f0_, ff_5, Nat.zero_le _, hN, lvec.nil, okWs.nil⟩ dWordSet_init_15
set_option maxHeartbeats 4000000 in
set_option maxRecDepth 100000 in
theorem c_Se_size (l : Launch) (D : va_G) (K : Nat → ClassId) (X : hwW) (sz : Nat) (a : Nat) (k : Nat) (N : Nat) (ts : List (List Nat)) (f0_ : seAt K X a k N ts) : Met l yWordSet_size (.code yWordSet_size cWordSet_size 1 (some .int) :: hwG) ({ frames := 0, cells := 0, slots := 0, locals := 0 } : Room) (hwPc D vwCl (hwT K) [.ref a] X sz) (hwQi D vwCl X sz (fun r Y => r = nI ts.length ∧ X = Y)) 0 0 (va_A X.1 sz) := by
  refine hwMeti (cc := cWordSet_size) (maxL := 1) (by decide) rfl (Nat.le_of_ble_eq_true rfl) (fun p e s m args below meth c ls A Q hx hb hml hown hts hname hret hK hO hZ hA hl => ?_)
  have hl : lv_has ls 1 [(0, .ref a)] := hl
  obtain ⟨q, f, g0, g1, hN, hM, hv, hk⟩ := f0_
  refine lv_aload_n hx hb dWordSet_size_0 rfl (lv_at hl 0 rfl) ?_
  refine hw_get hx hb hts (hwInn inWordSet) hown hK hZ g0 rfl 1 (by decide) (hts (.fieldLink RWordSet 19 RWordSet "count" "I") (hwMem mm_54)) (fun _ h => h) rfl dWordSet_size_1 ?_
  exact hret hZ ⟨rfl, rfl⟩ dWordSet_size_4
set_option maxHeartbeats 4000000 in
set_option maxRecDepth 100000 in
theorem c_Se_at (l : Launch) (D : va_G) (K : Nat → ClassId) (X : hwW) (sz : Nat) (a : Nat) (k : Nat) (N : Nat) (ts : List (List Nat)) (j : Nat) (f0_ : seAt K X a k N ts) (hj : j < 2147483648) : Met l yWordSet_at (.code yWordSet_at cWordSet_at 2 (some .long) :: hwG) ({ frames := 0, cells := 0, slots := 0, locals := 0 } : Room) (hwPc D vwCl (hwT K) [.ref a, .int (nI j)] X sz) (hwQl D vwCl X sz (fun r Y => r = lN (eW (ts.getD j [])) ∧ X = Y)) 0 0 (va_A X.1 sz) := by
  refine hwMetl (cc := cWordSet_at) (maxL := 2) (by decide) rfl (Nat.le_of_ble_eq_true rfl) (fun p e s m args below meth c ls A Q hx hb hml hown hts hname hret hK hO hZ hA hl => ?_)
  have hl : lv_has ls 2 [(0, .ref a), (1, .int (nI j))] := hl
  obtain ⟨q, f, g0, g1, hN, hM, hv, hk⟩ := f0_
  refine lv_iload_n hx hb dWordSet_at_0 rfl (lv_at hl 1 rfl) ?_
  refine hw_if_lt (a := j) (tgt := 21) hx hb dWordSet_at_1 (by decide) (by omega) (fun cq_1 => by exfalso; omega) (fun cq_1 => ?_)
  refine lv_iload_n hx hb dWordSet_at_4 rfl (lv_at hl 1 rfl) ?_
  refine lv_aload_n hx hb dWordSet_at_5 rfl (lv_at hl 0 rfl) ?_
  refine hw_get hx hb hts (hwInn inWordSet) hown hK hZ g0 rfl 1 (by decide) (hts (.fieldLink RWordSet 19 RWordSet "count" "I") (hwMem mm_54)) (fun _ h => h) rfl dWordSet_at_6 ?_
  refine hw_ic_ge (a := j) (b := ts.length) (tgt := 21) hx hb dWordSet_at_9 (by decide) (by omega) (by omega) (fun cq_2 => ?_) (fun cq_2 => ?_)
  · refine lv_lconst (v := lN 0) hx hb dWordSet_at_21 rfl ?_
    refine lv_goto (tgt := 31) hx hb dWordSet_at_22 (by decide) ?_
    exact hret hZ ⟨by first | exact hv j (by omega) | (rw [getD_big (by omega)]; rfl), rfl⟩ dWordSet_at_31
  · refine lv_iload_n hx hb dWordSet_at_12 rfl (lv_at hl 1 rfl) ?_
    refine lv_aload_n hx hb dWordSet_at_13 rfl (lv_at hl 0 rfl) ?_
    refine hw_get hx hb hts (hwInn inWordSet) hown hK hZ g0 rfl 0 (by decide) (hts (.fieldLink RWordSet 13 RWordSet "words" "[J") (hwMem mm_53)) (fun _ h => h) rfl dWordSet_at_14 ?_
    refine hw_alen hx hb hK hZ 1 g1 rfl dWordSet_at_17 ?_
    refine hw_ic_lt (a := j) (b := N) (tgt := 25) hx hb dWordSet_at_18 (by decide) (by omega) (by omega) (fun cq_3 => ?_) (fun cq_3 => by exfalso; omega)
    refine lv_aload_n hx hb dWordSet_at_25 rfl (lv_at hl 0 rfl) ?_
    refine hw_get hx hb hts (hwInn inWordSet) hown hK hZ g0 rfl 0 (by decide) (hts (.fieldLink RWordSet 13 RWordSet "words" "[J") (hwMem mm_53)) (fun _ h => h) rfl dWordSet_at_26 ?_
    refine lv_iload_n hx hb dWordSet_at_29 rfl (lv_at hl 1 rfl) ?_
    refine hw_lald hx hb hK hZ 1 g1 rfl (j := j) (by omega) (by omega) dWordSet_at_30 ?_
    exact hret hZ ⟨by first | exact hv j (by omega) | (rw [getD_big (by omega)]; rfl), rfl⟩ dWordSet_at_31
set_option maxHeartbeats 4000000 in
set_option maxRecDepth 100000 in
theorem c_Se_atN (l : Launch) (D : va_G) (K : Nat → ClassId) (X : hwW) (sz : Nat) (a : Nat) (k : Nat) (N : Nat) (ts : List (List Nat)) (i : Int32) (f0_ : seAt K X a k N ts) (hi : i < 0) : Met l yWordSet_at (.code yWordSet_at cWordSet_at 2 (some .long) :: hwG) ({ frames := 0, cells := 0, slots := 0, locals := 0 } : Room) (hwPc D vwCl (hwT K) [.ref a, .int i] X sz) (hwQl D vwCl X sz (fun r Y => r = lN (eW []) ∧ X = Y)) 0 0 (va_A X.1 sz) := by
  refine hwMetl (cc := cWordSet_at) (maxL := 2) (by decide) rfl (Nat.le_of_ble_eq_true rfl) (fun p e s m args below meth c ls A Q hx hb hml hown hts hname hret hK hO hZ hA hl => ?_)
  have hl : lv_has ls 2 [(0, .ref a), (1, .int i)] := hl
  obtain ⟨q, f, g0, g1, hN, hM, hv, hk⟩ := f0_
  refine lv_iload_n hx hb dWordSet_at_0 rfl (lv_at hl 1 rfl) ?_
  refine lv_if_lt (tgt := 21) hx hb dWordSet_at_1 (by decide) (fun cq_1 => ?_) (fun cq_1 => absurd hi cq_1)
  refine lv_lconst (v := lN 0) hx hb dWordSet_at_21 rfl ?_
  refine lv_goto (tgt := 31) hx hb dWordSet_at_22 (by decide) ?_
  exact hret hZ ⟨rfl, rfl⟩ dWordSet_at_31
set_option maxHeartbeats 4000000 in
set_option maxRecDepth 100000 in
theorem c_Se_clear (l : Launch) (D : va_G) (K : Nat → ClassId) (X : hwW) (sz : Nat) (a : Nat) (k : Nat) (N : Nat) (ts : List (List Nat)) (f0_ : seAt K X a k N ts) : Met l yWordSet_clear (.code yWordSet_clear cWordSet_clear 1 none :: hwG) ({ frames := 0, cells := 0, slots := 0, locals := 0 } : Room) (hwPc D vwCl (hwT K) [.ref a] X sz) (hwQv D vwCl X sz (fun Y => hwF X Y (fun M => M = 2 * k ∨ M = 2 * k + 1) ∧ seAt K Y a k N [])) 0 0 (va_A X.1 sz) := by
  refine hwMetv (cc := cWordSet_clear) (maxL := 1) (by decide) rfl (Nat.le_of_ble_eq_true rfl) (fun p e s m args below meth c ls A Q hx hb hml hown hts hname hret hK hO hZ hA hl => ?_)
  have hl : lv_has ls 1 [(0, .ref a)] := hl
  have hFr : hwF X X (fun M => M = 2 * k ∨ M = 2 * k + 1) := hwF.rf
  obtain ⟨q, f, g0, g1, hN, hM, hv, hk⟩ := f0_
  refine lv_aload_n hx hb dWordSet_clear_0 rfl (lv_at hl 0 rfl) ?_
  refine lv_iconst (v := nI 0) hx hb dWordSet_clear_1 (by decide) ?_
  refine hw_put (ty := .int) (fs' := [.ref q, .int (nI 0)]) hx hb hts (hwInn inWordSet) tyWordSet tyWordSet_ok nmWordSet hown hK hZ g0 rfl 1 (by decide) (hts (.fieldLink RWordSet 19 RWordSet "count" "I") (hwMem mm_54)) (fun _ h => h) rfl (by decide +kernel) rfl rfl (Nat.le_of_ble_eq_true rfl) rfl dWordSet_clear_2 (fun X_1 H_2 lc_3 hZ hF hNw => ?_)
  have hFr := hwF.tr hFr hF (fun _ h => h) (fun M h => by first | exact False.elim h | ((try dsimp only at h ⊢); omega))
  have g0 := hNw
  have g1 := hF _ _ _ (by intro hNS; first | exact False.elim hNS | ((try dsimp only at hNS); omega)) g1
  exact hret hZ ⟨hFr, q, f, g0, g1, Nat.zero_le _, hM, lvec.nil, okWs.nil⟩ dWordSet_clear_5
set_option maxHeartbeats 4000000 in
set_option maxRecDepth 100000 in
theorem c_Tm_init (l : Launch) (D : va_G) (K : Nat → ClassId) (X : hwW) (sz : Nat) (a : Nat) (k : Nat) (N : Nat) (f0_ : hwH X a (2 * k) (.inr (2, [.null, .int (nI 0)]))) (hN : N ≤ 3000) : Met l yTerms_init (.code yTerms_init cTerms_init 2 none :: hwG) ({ frames := 1, cells := 1, slots := N, locals := 22 } : Room) (hwPc D vwCl (hwT K) [.ref a, .int (nI N)] X sz) (hwQv D vwCl X sz (fun Y => hwF X Y (fun M => M = 2 * k ∨ M = 2 * k + 1) ∧ tmAt K Y a k N [])) 1 N (va_A X.1 sz) := by
  refine hwMetv (cc := cTerms_init) (maxL := 2) (by decide) rfl (Nat.le_of_ble_eq_true rfl) (fun p e s m args below meth c ls A Q hx hb hml hown hts hname hret hK hO hZ hA hl => ?_)
  have hl : lv_has ls 2 [(0, .ref a), (1, .int (nI N))] := hl
  have hFr : hwF X X (fun M => M = 2 * k ∨ M = 2 * k + 1) := hwF.rf
  refine lv_aload_n hx hb dTerms_init_0 rfl (lv_at hl 0 rfl) ?_
  refine W.objInit hx hb hown (hts (.methodLink RTerms 1 objectInit) (hwMem mm_55)) (hts (.instanceMethod objectInit) (hwMem mm_31)) (hts (.code objectInit ⟨#[0xb1]⟩ 1 none) (hwMem mm_32)) rfl (by rw [hml]; exact hl.1) rfl dTerms_init_1 (Nat.le_of_ble_eq_true rfl) (Nat.le_of_ble_eq_true rfl) ?_
  refine W.eq (g2 := F0 m 4 ls []) rfl ?_
  refine lv_aload_n hx hb dTerms_init_4 rfl (lv_at hl 0 rfl) ?_
  refine lv_iload_n hx hb dTerms_init_5 rfl (lv_at hl 1 rfl) ?_
  refine lv_iconst (v := nI 0) hx hb dTerms_init_6 (by decide) ?_
  refine va_mmax hx hb (hml.trans hl.1.symm) hown (hts (.methodLink RTerms 7 Lib.Math.max.name) (hwMem mm_56)) (hts (.static Lib.Math.max.name) (hwMem mm_51)) (hts (.initialized "java/lang/Math") (hwMem mm_19)) (hts (.code Lib.Math.max.name Lib.Math.max.code 2 (some .int)) (hwMem mm_52)) (Nat.le_of_ble_eq_true rfl) (Nat.le_of_ble_eq_true rfl) (show 0 ≤ 1 by omega) (show 0 ≤ N by omega) dTerms_init_7 ?_
  refine hw_topi (hw_nmax (a := N) (b := 0) (by omega) (by omega)) ?_
  refine hw_topi (congrArg nI (Nat.max_eq_left (by omega))) ?_
  refine hw_newa (atype := .long) (ty := .long) (a0 := (N, .inr (.inl (fun _ => 0)))) (N := N) hx hb (hts (.arrayClass .long) (hwMem mm_24)) rfl hK hZ hA 1 rfl (fun _ _ => rfl) (fun _ => rfl) (by omega) (by show _ * _ ≤ _; first | decide | (simp only [componentBytes]; omega)) (show 0 + 1 ≤ 1 by omega) (show 0 + N ≤ N by omega) dTerms_init_10 (2 * k + 1) (fun qq_1 X_2 H_3 hZ hF hNw => ?_)
  have hFr := hwF.tr hFr hF (fun _ h => h) (fun M h => by first | exact False.elim h | ((try dsimp only at h ⊢); omega))
  have f0_ := hF _ _ _ (by intro hNS; first | exact False.elim hNS | ((try dsimp only at hNS); omega)) f0_
  have ff_5 := hNw
  refine hw_putF (ty := (.array .long)) (fs' := [.ref qq_1, .int (nI 0)]) hx hb hts (hwInn inTerms) tyTerms tyTerms_ok nmTerms hown hK hZ f0_ rfl 0 (by decide) (hts (.fieldLink RTerms 13 RTerms "terms" "[J") (hwMem mm_57)) (fun _ h => h) rfl hname rfl (by decide +kernel) rfl rfl (Nat.le_of_ble_eq_true rfl) rfl dTerms_init_12 (fun X_6 H_7 lc_8 hZ hF hNw => ?_)
  have hFr := hwF.tr hFr hF (fun _ h => h) (fun M h => by first | exact False.elim h | ((try dsimp only at h ⊢); omega))
  have f0_ := hNw
  have ff_5 := hF _ _ _ (by intro hNS; first | exact False.elim hNS | ((try dsimp only at hNS); omega)) ff_5
  refine W.widen (k := 1) (n := N) (by omega) (by omega) ?_
  exact hret hZ ⟨hFr, qq_1, _, f0_, ff_5, Nat.zero_le _, hN, lvec.nil, okWs.nil⟩ dTerms_init_15
set_option maxHeartbeats 4000000 in
set_option maxRecDepth 100000 in
theorem c_Tm_size (l : Launch) (D : va_G) (K : Nat → ClassId) (X : hwW) (sz : Nat) (a : Nat) (k : Nat) (N : Nat) (ts : List (List Nat)) (f0_ : tmAt K X a k N ts) : Met l yTerms_size (.code yTerms_size cTerms_size 1 (some .int) :: hwG) ({ frames := 0, cells := 0, slots := 0, locals := 0 } : Room) (hwPc D vwCl (hwT K) [.ref a] X sz) (hwQi D vwCl X sz (fun r Y => r = nI ts.length ∧ X = Y)) 0 0 (va_A X.1 sz) := by
  refine hwMeti (cc := cTerms_size) (maxL := 1) (by decide) rfl (Nat.le_of_ble_eq_true rfl) (fun p e s m args below meth c ls A Q hx hb hml hown hts hname hret hK hO hZ hA hl => ?_)
  have hl : lv_has ls 1 [(0, .ref a)] := hl
  obtain ⟨q, f, g0, g1, hN, hM, hv, hk⟩ := f0_
  refine lv_aload_n hx hb dTerms_size_0 rfl (lv_at hl 0 rfl) ?_
  refine hw_get hx hb hts (hwInn inTerms) hown hK hZ g0 rfl 1 (by decide) (hts (.fieldLink RTerms 19 RTerms "count" "I") (hwMem mm_58)) (fun _ h => h) rfl dTerms_size_1 ?_
  exact hret hZ ⟨rfl, rfl⟩ dTerms_size_4
set_option maxHeartbeats 4000000 in
set_option maxRecDepth 100000 in
theorem c_Tm_at (l : Launch) (D : va_G) (K : Nat → ClassId) (X : hwW) (sz : Nat) (a : Nat) (k : Nat) (N : Nat) (ts : List (List Nat)) (j : Nat) (f0_ : tmAt K X a k N ts) (hj : j < 2147483648) : Met l yTerms_at (.code yTerms_at cTerms_at 2 (some .long) :: hwG) ({ frames := 0, cells := 0, slots := 0, locals := 0 } : Room) (hwPc D vwCl (hwT K) [.ref a, .int (nI j)] X sz) (hwQl D vwCl X sz (fun r Y => r = lN (eW (ts.getD j [])) ∧ X = Y)) 0 0 (va_A X.1 sz) := by
  refine hwMetl (cc := cTerms_at) (maxL := 2) (by decide) rfl (Nat.le_of_ble_eq_true rfl) (fun p e s m args below meth c ls A Q hx hb hml hown hts hname hret hK hO hZ hA hl => ?_)
  have hl : lv_has ls 2 [(0, .ref a), (1, .int (nI j))] := hl
  obtain ⟨q, f, g0, g1, hN, hM, hv, hk⟩ := f0_
  refine lv_iload_n hx hb dTerms_at_0 rfl (lv_at hl 1 rfl) ?_
  refine hw_if_lt (a := j) (tgt := 21) hx hb dTerms_at_1 (by decide) (by omega) (fun cq_1 => by exfalso; omega) (fun cq_1 => ?_)
  refine lv_iload_n hx hb dTerms_at_4 rfl (lv_at hl 1 rfl) ?_
  refine lv_aload_n hx hb dTerms_at_5 rfl (lv_at hl 0 rfl) ?_
  refine hw_get hx hb hts (hwInn inTerms) hown hK hZ g0 rfl 1 (by decide) (hts (.fieldLink RTerms 19 RTerms "count" "I") (hwMem mm_58)) (fun _ h => h) rfl dTerms_at_6 ?_
  refine hw_ic_ge (a := j) (b := ts.length) (tgt := 21) hx hb dTerms_at_9 (by decide) (by omega) (by omega) (fun cq_2 => ?_) (fun cq_2 => ?_)
  · refine lv_lconst (v := lN 0) hx hb dTerms_at_21 rfl ?_
    refine lv_goto (tgt := 31) hx hb dTerms_at_22 (by decide) ?_
    exact hret hZ ⟨by first | exact hv j (by omega) | (rw [getD_big (by omega)]; rfl), rfl⟩ dTerms_at_31
  · refine lv_iload_n hx hb dTerms_at_12 rfl (lv_at hl 1 rfl) ?_
    refine lv_aload_n hx hb dTerms_at_13 rfl (lv_at hl 0 rfl) ?_
    refine hw_get hx hb hts (hwInn inTerms) hown hK hZ g0 rfl 0 (by decide) (hts (.fieldLink RTerms 13 RTerms "terms" "[J") (hwMem mm_57)) (fun _ h => h) rfl dTerms_at_14 ?_
    refine hw_alen hx hb hK hZ 1 g1 rfl dTerms_at_17 ?_
    refine hw_ic_lt (a := j) (b := N) (tgt := 25) hx hb dTerms_at_18 (by decide) (by omega) (by omega) (fun cq_3 => ?_) (fun cq_3 => by exfalso; omega)
    refine lv_aload_n hx hb dTerms_at_25 rfl (lv_at hl 0 rfl) ?_
    refine hw_get hx hb hts (hwInn inTerms) hown hK hZ g0 rfl 0 (by decide) (hts (.fieldLink RTerms 13 RTerms "terms" "[J") (hwMem mm_57)) (fun _ h => h) rfl dTerms_at_26 ?_
    refine lv_iload_n hx hb dTerms_at_29 rfl (lv_at hl 1 rfl) ?_
    refine hw_lald hx hb hK hZ 1 g1 rfl (j := j) (by omega) (by omega) dTerms_at_30 ?_
    exact hret hZ ⟨by first | exact hv j (by omega) | (rw [getD_big (by omega)]; rfl), rfl⟩ dTerms_at_31
set_option maxHeartbeats 4000000 in
set_option maxRecDepth 100000 in
theorem c_Tm_atN (l : Launch) (D : va_G) (K : Nat → ClassId) (X : hwW) (sz : Nat) (a : Nat) (k : Nat) (N : Nat) (ts : List (List Nat)) (i : Int32) (f0_ : tmAt K X a k N ts) (hi : i < 0) : Met l yTerms_at (.code yTerms_at cTerms_at 2 (some .long) :: hwG) ({ frames := 0, cells := 0, slots := 0, locals := 0 } : Room) (hwPc D vwCl (hwT K) [.ref a, .int i] X sz) (hwQl D vwCl X sz (fun r Y => r = lN (eW []) ∧ X = Y)) 0 0 (va_A X.1 sz) := by
  refine hwMetl (cc := cTerms_at) (maxL := 2) (by decide) rfl (Nat.le_of_ble_eq_true rfl) (fun p e s m args below meth c ls A Q hx hb hml hown hts hname hret hK hO hZ hA hl => ?_)
  have hl : lv_has ls 2 [(0, .ref a), (1, .int i)] := hl
  obtain ⟨q, f, g0, g1, hN, hM, hv, hk⟩ := f0_
  refine lv_iload_n hx hb dTerms_at_0 rfl (lv_at hl 1 rfl) ?_
  refine lv_if_lt (tgt := 21) hx hb dTerms_at_1 (by decide) (fun cq_1 => ?_) (fun cq_1 => absurd hi cq_1)
  refine lv_lconst (v := lN 0) hx hb dTerms_at_21 rfl ?_
  refine lv_goto (tgt := 31) hx hb dTerms_at_22 (by decide) ?_
  exact hret hZ ⟨rfl, rfl⟩ dTerms_at_31
set_option maxHeartbeats 4000000 in
set_option maxRecDepth 100000 in
theorem c_Tm_clear (l : Launch) (D : va_G) (K : Nat → ClassId) (X : hwW) (sz : Nat) (a : Nat) (k : Nat) (N : Nat) (ts : List (List Nat)) (f0_ : tmAt K X a k N ts) : Met l yTerms_clear (.code yTerms_clear cTerms_clear 1 none :: hwG) ({ frames := 0, cells := 0, slots := 0, locals := 0 } : Room) (hwPc D vwCl (hwT K) [.ref a] X sz) (hwQv D vwCl X sz (fun Y => hwF X Y (fun M => M = 2 * k ∨ M = 2 * k + 1) ∧ tmAt K Y a k N [])) 0 0 (va_A X.1 sz) := by
  refine hwMetv (cc := cTerms_clear) (maxL := 1) (by decide) rfl (Nat.le_of_ble_eq_true rfl) (fun p e s m args below meth c ls A Q hx hb hml hown hts hname hret hK hO hZ hA hl => ?_)
  have hl : lv_has ls 1 [(0, .ref a)] := hl
  have hFr : hwF X X (fun M => M = 2 * k ∨ M = 2 * k + 1) := hwF.rf
  obtain ⟨q, f, g0, g1, hN, hM, hv, hk⟩ := f0_
  refine lv_aload_n hx hb dTerms_clear_0 rfl (lv_at hl 0 rfl) ?_
  refine lv_iconst (v := nI 0) hx hb dTerms_clear_1 (by decide) ?_
  refine hw_put (ty := .int) (fs' := [.ref q, .int (nI 0)]) hx hb hts (hwInn inTerms) tyTerms tyTerms_ok nmTerms hown hK hZ g0 rfl 1 (by decide) (hts (.fieldLink RTerms 19 RTerms "count" "I") (hwMem mm_58)) (fun _ h => h) rfl (by decide +kernel) rfl rfl (Nat.le_of_ble_eq_true rfl) rfl dTerms_clear_2 (fun X_1 H_2 lc_3 hZ hF hNw => ?_)
  have hFr := hwF.tr hFr hF (fun _ h => h) (fun M h => by first | exact False.elim h | ((try dsimp only at h ⊢); omega))
  have g0 := hNw
  have g1 := hF _ _ _ (by intro hNS; first | exact False.elim hNS | ((try dsimp only at hNS); omega)) g1
  exact hret hZ ⟨hFr, q, f, g0, g1, Nat.zero_le _, hM, lvec.nil, okWs.nil⟩ dTerms_clear_5
set_option maxHeartbeats 4000000 in
set_option maxRecDepth 100000 in
theorem c_Se_place (l : Launch) (D : va_G) (K : Nat → ClassId) (X : hwW) (sz : Nat) (a : Nat) (k : Nat) (N : Nat) (ts : List (List Nat)) (w : List Nat) (f0_ : seAt K X a k N ts) (hs : ts.Pairwise (· < ·)) (hw : okW w) : Met l yWordSet_placeOf (.code yWordSet_placeOf cWordSet_placeOf 7 (some .int) :: hwG) ({ frames := 1, cells := 0, slots := 0, locals := 21 } : Room) (hwPc D vwCl (hwT K) [.ref a, .long (lN (eW w))] X sz) (hwQi D vwCl X sz (fun r Y => ∃ p : Nat, r = nI p ∧ X = Y ∧ p ≤ ts.length ∧ (∀ j, j < p → ts.getD j [] < w) ∧ (∀ j, p ≤ j → j < ts.length → ¬ ts.getD j [] < w))) 0 0 (va_A X.1 sz) := by
  refine hwMeti (cc := cWordSet_placeOf) (maxL := 7) (by decide) rfl (Nat.le_of_ble_eq_true rfl) (fun p e s m args below meth c ls A Q hx hb hml hown hts hname hret hK hO hZ hA hl => ?_)
  have hl : lv_has ls 7 [(0, .ref a), (1, .long (lN (eW w)))] := hl
  have hT := f0_
  obtain ⟨q, f, g0, g1, hN, hM, hv, hk⟩ := f0_
  have hL2 := fun j => okWs.at hk j
  refine lv_iconst (v := nI 0) hx hb dWordSet_placeOf_0 (by decide) ?_
  refine lv_istore_n (lv' := [(3, .int (nI 0)), (0, .ref a), (1, .long (lN (eW w)))]) hx hb dWordSet_placeOf_1 rfl hl (by decide) rfl (fun ls hl => ?_)
  refine lv_aload_n hx hb dWordSet_placeOf_2 rfl (lv_at hl 1 rfl) ?_
  refine hw_get hx hb hts (hwInn inWordSet) hown hK hZ g0 rfl 1 (by decide) (hts (.fieldLink RWordSet 19 RWordSet "count" "I") (hwMem mm_54)) (fun _ h => h) rfl dWordSet_placeOf_3 ?_
  refine lv_istore (lv' := [(4, .int (nI ts.length)), (3, .int (nI 0)), (0, .ref a), (1, .long (lN (eW w)))]) hx hb dWordSet_placeOf_6 hl (by decide) rfl (fun ls hl => ?_)
  refine lv_iconst (v := nI 0) hx hb dWordSet_placeOf_8 (by decide) ?_
  refine lv_istore (lv' := [(5, .int (nI 0)), (4, .int (nI ts.length)), (3, .int (nI 0)), (0, .ref a), (1, .long (lN (eW w)))]) hx hb dWordSet_placeOf_9 hl (by decide) rfl (fun ls hl => ?_)
  have loop11 : ∀ (fuel : Nat) (st : Nat) (lo : Nat) (hi : Nat) (Hh : Heap) (lcs : List Loc) (ls : Array Slot), 32 - st < fuel → (st ≤ 32) → (lo ≤ hi) → (hi ≤ ts.length) → (hi - lo ≤ 3000 / 2 ^ st) → (∀ j, j < lo → ts.getD j [] < w) → (∀ j, hi ≤ j → j < ts.length → ¬ ts.getD j [] < w) → hwZ D vwCl A s.heap X Hh lcs → lv_has ls 7 [(5, .int (nI st)), (3, .int (nI lo)), (4, .int (nI hi)), (0, .ref a), (1, .long (lN (eW w)))] → W p l e ({ frames := 1, cells := 0, slots := 0, locals := 21 } : Room) s m args below meth c Hh lcs 0 0 Q (F0 m 11 ls []) := by
    intro fuel; induction fuel with
    | zero => intro st lo hi Hh lcs ls hfu; exact absurd hfu (Nat.not_lt_zero _)
    | succ fuel ih11 =>
      intro st lo hi Hh lcs ls hfu11 hst hlh hhl hd hA1 hA2 hZ hl
      refine lv_iload hx hb dWordSet_placeOf_11 (lv_at hl 0 rfl) ?_
      refine lv_bipush (v := nI 32) hx hb dWordSet_placeOf_13 (by decide) ?_
      refine hw_ic_ge (a := st) (b := 32) (tgt := 61) hx hb dWordSet_placeOf_15 (by decide) (by omega) (by omega) (fun cq_1 => ?_) (fun cq_1 => ?_)
      · refine lv_iload_n hx hb dWordSet_placeOf_61 rfl (lv_at hl 1 rfl) ?_
        exact hret hZ ⟨lo, rfl, rfl, by omega, hA1, fun j hj hj2 => hA2 j (by first | omega | (obtain rfl : st = 32 := (by omega); have h0 : 3000 / 2 ^ 32 = 0 := (by decide); omega)) hj2⟩ dWordSet_placeOf_62
      · refine lv_iload_n hx hb dWordSet_placeOf_18 rfl (lv_at hl 1 rfl) ?_
        refine lv_iload hx hb dWordSet_placeOf_19 (lv_at hl 2 rfl) ?_
        refine hw_ic_ge (a := lo) (b := hi) (tgt := 61) hx hb dWordSet_placeOf_21 (by decide) (by omega) (by omega) (fun cq_2 => ?_) (fun cq_2 => ?_)
        · refine lv_iload_n hx hb dWordSet_placeOf_61 rfl (lv_at hl 1 rfl) ?_
          exact hret hZ ⟨lo, rfl, rfl, by omega, hA1, fun j hj hj2 => hA2 j (by first | omega | (obtain rfl : st = 32 := (by omega); have h0 : 3000 / 2 ^ 32 = 0 := (by decide); omega)) hj2⟩ dWordSet_placeOf_62
        · refine lv_iload_n hx hb dWordSet_placeOf_24 rfl (lv_at hl 1 rfl) ?_
          refine lv_iload hx hb dWordSet_placeOf_25 (lv_at hl 2 rfl) ?_
          refine lv_iadd hx hb dWordSet_placeOf_27 ?_
          refine hw_topi (nI_add lo hi) ?_
          refine lv_iconst (v := nI 1) hx hb dWordSet_placeOf_28 (by decide) ?_
          refine lv_iushr hx hb dWordSet_placeOf_29 (pk_ushrN (n := lo + hi) (by omega) _ 1 (by decide)) ?_
          obtain ⟨mid, hmid⟩ : ∃ z, z = (lo + hi) / 2 ^ 1 := ⟨_, rfl⟩
          rw [← hmid]
          have hmid : mid = (lo + hi) / 2 := hmid
          have hm1 : lo ≤ mid := by omega
          have hm2 : mid < hi := by omega
          refine lv_istore (lv' := [(6, .int (nI mid)), (5, .int (nI st)), (3, .int (nI lo)), (4, .int (nI hi)), (0, .ref a), (1, .long (lN (eW w)))]) hx hb dWordSet_placeOf_30 hl (by decide) rfl (fun ls hl => ?_)
          refine lv_aload_n hx hb dWordSet_placeOf_32 rfl (lv_at hl 4 rfl) ?_
          refine lv_iload hx hb dWordSet_placeOf_33 (lv_at hl 0 rfl) ?_
          refine hw_calll (va_runV (As := [.int (nI mid)]) (rest := []) ⟨hx, hb, hml, hown, hts⟩ (c_Se_at l D K X Hh.size (a := a) (k := k) (N := N) (ts := ts) (j := mid) hT (by omega)) (cwV 1 hts (hwGood (hw_4 mm_60 mm_61 mm_62 mm_63 (hwAll mm_59))) rfl rfl rfl (by decide +kernel) ⟨Nat.le_of_ble_eq_true rfl, Nat.le_of_ble_eq_true rfl⟩) (hw_preV hK hO hZ (⟨_, _, g0⟩) rfl) rfl rfl hl.1 rfl (lv_room (Nat.le_of_ble_eq_true rfl)) dWordSet_placeOf_35 ⟨(show 0 + 0 ≤ 0 by omega), (show 0 + 0 ≤ 0 by omega)⟩) hZ hA (fun r X_3 H_4 lc_5 hp hZ => ?_)
          obtain ⟨hr, hy⟩ := hp
          subst hy
          refine hw_topl hr ?_
          refine lv_lload_n hx hb dWordSet_placeOf_38 rfl (lv_at hl 5 rfl) ?_
          refine hw_lc_ge (a := eW (ts.getD mid [])) (b := eW w) (tgt := 51) hx hb dWordSet_placeOf_39 dWordSet_placeOf_40 (by decide) (by first | exact eW_lt63 (by assumption) | exact eW_lt63 (hL2 _)) (by first | exact eW_lt63 (by assumption) | exact eW_lt63 (hL2 _)) (fun cq_6 => ?_) (fun cq_6 => ?_)
          · refine lv_iload hx hb dWordSet_placeOf_51 (lv_at hl 0 rfl) ?_
            refine lv_istore (lv' := [(4, .int (nI mid)), (6, .int (nI mid)), (5, .int (nI st)), (3, .int (nI lo)), (0, .ref a), (1, .long (lN (eW w)))]) hx hb dWordSet_placeOf_53 hl (by decide) rfl (fun ls hl => ?_)
            refine lv_iinc (v := nI (st + 1)) (lv' := [(5, .int (nI (st + 1))), (4, .int (nI mid)), (6, .int (nI mid)), (3, .int (nI lo)), (0, .ref a), (1, .long (lN (eW w)))]) hx hb dWordSet_placeOf_55 hl (k := 2) rfl (nI_add _ 1) (by decide) rfl (fun ls hl => ?_)
            refine lv_goto (tgt := 11) hx hb dWordSet_placeOf_58 (by decide) ?_
            exact ih11 (st + 1) lo mid _ _ _ (by omega) (by omega) (by omega) (by omega) (hw_halve hd (by omega)) hA1 (fun j hj hj2 q => Nat.not_lt.mpr cq_6 ((eW_lex (hL2 mid) hw).mpr (sorted_from hs hj hj2 q)))  hZ (lv_sub hl [0, 3, 1, 4, 5] rfl)
          · refine lv_iload hx hb dWordSet_placeOf_43 (lv_at hl 0 rfl) ?_
            refine lv_iconst (v := nI 1) hx hb dWordSet_placeOf_45 (by decide) ?_
            refine lv_iadd hx hb dWordSet_placeOf_46 ?_
            refine hw_topi (nI_add mid 1) ?_
            refine lv_istore_n (lv' := [(3, .int (nI (mid + 1))), (6, .int (nI mid)), (5, .int (nI st)), (4, .int (nI hi)), (0, .ref a), (1, .long (lN (eW w)))]) hx hb dWordSet_placeOf_47 rfl hl (by decide) rfl (fun ls hl => ?_)
            refine lv_goto (tgt := 55) hx hb dWordSet_placeOf_48 (by decide) ?_
            refine lv_iinc (v := nI (st + 1)) (lv' := [(5, .int (nI (st + 1))), (3, .int (nI (mid + 1))), (6, .int (nI mid)), (4, .int (nI hi)), (0, .ref a), (1, .long (lN (eW w)))]) hx hb dWordSet_placeOf_55 hl (k := 2) rfl (nI_add _ 1) (by decide) rfl (fun ls hl => ?_)
            refine lv_goto (tgt := 11) hx hb dWordSet_placeOf_58 (by decide) ?_
            exact ih11 (st + 1) (mid + 1) hi _ _ _ (by omega) (by omega) (by omega) (by omega) (hw_halve hd (by omega)) (fun j hj => sorted_upto hs ((eW_lex (hL2 mid) hw).mp cq_6) (by omega) (by omega)) hA2  hZ (lv_sub hl [0, 1, 3, 4, 5] rfl)
  exact loop11 (32 - 0 + 1) 0 0 ts.length _ _ _ (by omega) (by omega) (by omega) (by omega) (by show _ ≤ 3000 / 1; omega) (fun j hj => absurd hj (Nat.not_lt_zero _)) (fun j hj hj2 => absurd hj2 (by omega))  hZ (lv_sub hl [0, 2, 1, 3, 4] rfl)
set_option maxHeartbeats 4000000 in
set_option maxRecDepth 100000 in
theorem c_Se_has (l : Launch) (D : va_G) (K : Nat → ClassId) (X : hwW) (sz : Nat) (a : Nat) (k : Nat) (N : Nat) (ts : List (List Nat)) (w : List Nat) (f0_ : seAt K X a k N ts) (hs : ts.Pairwise (· < ·)) (hw : okW w) : Met l yWordSet_has (.code yWordSet_has cWordSet_has 4 (some .boolean) :: hwG) ({ frames := 2, cells := 0, slots := 0, locals := 47 } : Room) (hwPc D vwCl (hwT K) [.ref a, .long (lN (eW w))] X sz) (hwQi D vwCl X sz (fun r Y => r = bI (decide (w ∈ ts)) ∧ X = Y)) 0 0 (va_A X.1 sz) := by
  refine hwMetz (cc := cWordSet_has) (maxL := 4) (by decide) rfl (Nat.le_of_ble_eq_true rfl) (fun p e s m args below meth c ls A Q hx hb hml hown hts hname hret hK hO hZ hA hl => ?_)
  have hl : lv_has ls 4 [(0, .ref a), (1, .long (lN (eW w)))] := hl
  have hT := f0_
  obtain ⟨q, f, g0, g1, hN, hM, hv, hk⟩ := f0_
  have hL2 := fun j => okWs.at hk j
  refine lv_aload_n hx hb dWordSet_has_0 rfl (lv_at hl 0 rfl) ?_
  refine lv_lload_n hx hb dWordSet_has_1 rfl (lv_at hl 1 rfl) ?_
  refine hw_calli (va_runV (As := [.long (lN (eW w))]) (rest := []) ⟨hx, hb, hml, hown, hts⟩ (c_Se_place l D K X s.heap.size (a := a) (k := k) (N := N) (ts := ts) (w := w) hT (by assumption) (by assumption)) (cwV 1 hts (hwGood (hw_4 mm_65 mm_66 mm_67 mm_63 (hwAll mm_64))) rfl rfl rfl (by decide +kernel) ⟨Nat.le_of_ble_eq_true rfl, Nat.le_of_ble_eq_true rfl⟩) (hw_preV hK hO hZ (⟨_, _, g0⟩) rfl) rfl rfl hl.1 rfl (lv_room (Nat.le_of_ble_eq_true rfl)) dWordSet_has_2 ⟨(show 0 + 0 ≤ 0 by omega), (show 0 + 0 ≤ 0 by omega)⟩) hZ hA (fun r X_1 H_2 lc_3 hp hZ => ?_)
  obtain ⟨pz_4, hr, hy, xx_5, xx_6, xx_7⟩ := hp
  subst hy
  refine hw_topi hr ?_
  refine lv_istore_n (lv' := [(3, .int (nI pz_4)), (0, .ref a), (1, .long (lN (eW w)))]) hx hb dWordSet_has_5 rfl hl (by decide) rfl (fun ls hl => ?_)
  refine lv_iload_n hx hb dWordSet_has_6 rfl (lv_at hl 0 rfl) ?_
  refine lv_aload_n hx hb dWordSet_has_7 rfl (lv_at hl 1 rfl) ?_
  refine hw_get hx hb hts (hwInn inWordSet) hown hK hZ g0 rfl 1 (by decide) (hts (.fieldLink RWordSet 19 RWordSet "count" "I") (hwMem mm_54)) (fun _ h => h) rfl dWordSet_has_8 ?_
  refine hw_ic_ge (a := pz_4) (b := ts.length) (tgt := 28) hx hb dWordSet_has_11 (by decide) (by omega) (by omega) (fun cq_8 => ?_) (fun cq_8 => ?_)
  · refine lv_iconst (v := nI 0) hx hb dWordSet_has_28 (by decide) ?_
    exact hret (by decide) hZ ⟨by rw [decide_eq_false (not_mem_place hs xx_6 xx_7 (fun hlt he => absurd hlt (by omega)))]; rfl, rfl⟩ dWordSet_has_29
  · refine lv_aload_n hx hb dWordSet_has_14 rfl (lv_at hl 1 rfl) ?_
    refine lv_iload_n hx hb dWordSet_has_15 rfl (lv_at hl 0 rfl) ?_
    refine hw_calll (va_runV (As := [.int (nI pz_4)]) (rest := []) ⟨hx, hb, hml, hown, hts⟩ (c_Se_at l D K X H_2.size (a := a) (k := k) (N := N) (ts := ts) (j := pz_4) hT (by omega)) (cwV 1 hts (hwGood (hw_4 mm_60 mm_61 mm_62 mm_63 (hwAll mm_59))) rfl rfl rfl (by decide +kernel) ⟨Nat.le_of_ble_eq_true rfl, Nat.le_of_ble_eq_true rfl⟩) (hw_preV hK hO hZ (⟨_, _, g0⟩) rfl) rfl rfl hl.1 rfl (lv_room (Nat.le_of_ble_eq_true rfl)) dWordSet_has_16 ⟨(show 0 + 0 ≤ 0 by omega), (show 0 + 0 ≤ 0 by omega)⟩) hZ hA (fun r X_9 H_10 lc_11 hp hZ => ?_)
    obtain ⟨hr, hy⟩ := hp
    subst hy
    refine hw_topl hr ?_
    refine lv_lload_n hx hb dWordSet_has_19 rfl (lv_at hl 2 rfl) ?_
    refine hw_lc_ne (a := eW (ts.getD pz_4 [])) (b := eW w) (tgt := 28) hx hb dWordSet_has_20 dWordSet_has_21 (by decide) (by first | exact eW_lt63 (by assumption) | exact eW_lt63 (hL2 _)) (by first | exact eW_lt63 (by assumption) | exact eW_lt63 (hL2 _)) (fun cq_12 => ?_) (fun cq_12 => ?_)
    · refine lv_iconst (v := nI 0) hx hb dWordSet_has_28 (by decide) ?_
      exact hret (by decide) hZ ⟨by rw [decide_eq_false (not_mem_place hs xx_6 xx_7 (fun hlt he => cq_12 ((eW_inj (hL2 _) hw).mpr he)))]; rfl, rfl⟩ dWordSet_has_29
    · refine lv_iconst (v := nI 1) hx hb dWordSet_has_24 (by decide) ?_
      refine lv_goto (tgt := 29) hx hb dWordSet_has_25 (by decide) ?_
      exact hret (by decide) hZ ⟨by rw [decide_eq_true (mem_of_getD (by omega) ((eW_inj (hL2 _) hw).mp cq_12))]; rfl, rfl⟩ dWordSet_has_29
set_option maxHeartbeats 4000000 in
set_option maxRecDepth 100000 in
theorem c_Se_add (l : Launch) (D : va_G) (K : Nat → ClassId) (X : hwW) (sz : Nat) (a : Nat) (k : Nat) (N : Nat) (ts : List (List Nat)) (w : List Nat) (f0_ : seAt K X a k N ts) (hs : ts.Pairwise (· < ·)) (hw : okW w) (hn0 : 1 ≤ w.length) : Met l yWordSet_add (.code yWordSet_add cWordSet_add 4 none :: hwG) ({ frames := 2, cells := 0, slots := 0, locals := 47 } : Room) (hwPc D vwCl (hwT K) [.ref a, .long (lN (eW w))] X sz) (hwQv D vwCl X sz (fun Y => hwF X Y (fun M => M = 2 * k ∨ M = 2 * k + 1) ∧ seAt K Y a k N (insS N ts w))) 0 0 (va_A X.1 sz) := by
  refine hwMetv (cc := cWordSet_add) (maxL := 4) (by decide) rfl (Nat.le_of_ble_eq_true rfl) (fun p e s m args below meth c ls A Q hx hb hml hown hts hname hret hK hO hZ hA hl => ?_)
  have hl : lv_has ls 4 [(0, .ref a), (1, .long (lN (eW w)))] := hl
  have hFr : hwF X X (fun M => M = 2 * k ∨ M = 2 * k + 1) := hwF.rf
  have hT := f0_
  obtain ⟨q, f, g0, g1, hN, hM, hv, hk⟩ := f0_
  have hL2 := fun j => okWs.at hk j
  refine lv_aload_n hx hb dWordSet_add_0 rfl (lv_at hl 0 rfl) ?_
  refine lv_lload_n hx hb dWordSet_add_1 rfl (lv_at hl 1 rfl) ?_
  refine hw_calli (va_runV (As := [.long (lN (eW w))]) (rest := []) ⟨hx, hb, hml, hown, hts⟩ (c_Se_place l D K X s.heap.size (a := a) (k := k) (N := N) (ts := ts) (w := w) hT (by assumption) (by assumption)) (cwV 1 hts (hwGood (hw_4 mm_65 mm_66 mm_67 mm_63 (hwAll mm_64))) rfl rfl rfl (by decide +kernel) ⟨Nat.le_of_ble_eq_true rfl, Nat.le_of_ble_eq_true rfl⟩) (hw_preV hK hO hZ (⟨_, _, g0⟩) rfl) rfl rfl hl.1 rfl (lv_room (Nat.le_of_ble_eq_true rfl)) dWordSet_add_2 ⟨(show 0 + 0 ≤ 0 by omega), (show 0 + 0 ≤ 0 by omega)⟩) hZ hA (fun r X_1 H_2 lc_3 hp hZ => ?_)
  obtain ⟨pz_4, hr, hy, xx_5, xx_6, xx_7⟩ := hp
  subst hy
  refine hw_topi hr ?_
  refine lv_istore_n (lv' := [(3, .int (nI pz_4)), (0, .ref a), (1, .long (lN (eW w)))]) hx hb dWordSet_add_5 rfl hl (by decide) rfl (fun ls hl => ?_)
  refine lv_aload_n hx hb dWordSet_add_6 rfl (lv_at hl 1 rfl) ?_
  refine hw_get hx hb hts (hwInn inWordSet) hown hK hZ g0 rfl 1 (by decide) (hts (.fieldLink RWordSet 19 RWordSet "count" "I") (hwMem mm_54)) (fun _ h => h) rfl dWordSet_add_7 ?_
  refine lv_aload_n hx hb dWordSet_add_10 rfl (lv_at hl 1 rfl) ?_
  refine hw_get hx hb hts (hwInn inWordSet) hown hK hZ g0 rfl 0 (by decide) (hts (.fieldLink RWordSet 13 RWordSet "words" "[J") (hwMem mm_53)) (fun _ h => h) rfl dWordSet_add_11 ?_
  refine hw_alen hx hb hK hZ 1 g1 rfl dWordSet_add_14 ?_
  refine hw_ic_ge (a := ts.length) (b := N) (tgt := 36) hx hb dWordSet_add_15 (by decide) (by omega) (by omega) (fun cq_8 => ?_) (fun cq_8 => ?_)
  · exact hret hZ (by rw [insS_full (by omega)]; exact ⟨hFr, hT⟩) dWordSet_add_36
  · refine lv_iload_n hx hb dWordSet_add_18 rfl (lv_at hl 0 rfl) ?_
    refine lv_aload_n hx hb dWordSet_add_19 rfl (lv_at hl 1 rfl) ?_
    refine hw_get hx hb hts (hwInn inWordSet) hown hK hZ g0 rfl 1 (by decide) (hts (.fieldLink RWordSet 19 RWordSet "count" "I") (hwMem mm_54)) (fun _ h => h) rfl dWordSet_add_20 ?_
    refine hw_ic_gt (a := pz_4) (b := ts.length) (tgt := 36) hx hb dWordSet_add_23 (by decide) (by omega) (by omega) (fun cq_9 => by exfalso; omega) (fun cq_9 => ?_)
    refine lv_aload_n hx hb dWordSet_add_26 rfl (lv_at hl 1 rfl) ?_
    refine lv_iload_n hx hb dWordSet_add_27 rfl (lv_at hl 0 rfl) ?_
    refine hw_calll (va_runV (As := [.int (nI pz_4)]) (rest := []) ⟨hx, hb, hml, hown, hts⟩ (c_Se_at l D K X H_2.size (a := a) (k := k) (N := N) (ts := ts) (j := pz_4) hT (by omega)) (cwV 1 hts (hwGood (hw_4 mm_60 mm_61 mm_62 mm_63 (hwAll mm_59))) rfl rfl rfl (by decide +kernel) ⟨Nat.le_of_ble_eq_true rfl, Nat.le_of_ble_eq_true rfl⟩) (hw_preV hK hO hZ (⟨_, _, g0⟩) rfl) rfl rfl hl.1 rfl (lv_room (Nat.le_of_ble_eq_true rfl)) dWordSet_add_28 ⟨(show 0 + 0 ≤ 0 by omega), (show 0 + 0 ≤ 0 by omega)⟩) hZ hA (fun r X_10 H_11 lc_12 hp hZ => ?_)
    obtain ⟨hr, hy⟩ := hp
    subst hy
    refine hw_topl hr ?_
    refine lv_lload_n hx hb dWordSet_add_31 rfl (lv_at hl 2 rfl) ?_
    refine hw_lc_ne (a := eW (ts.getD pz_4 [])) (b := eW w) (tgt := 37) hx hb dWordSet_add_32 dWordSet_add_33 (by decide) (by first | exact eW_lt63 (by assumption) | exact eW_lt63 (hL2 _)) (by first | exact eW_lt63 (by assumption) | exact eW_lt63 (hL2 _)) (fun cq_13 => ?_) (fun cq_13 => ?_)
    · refine lv_aload_n hx hb dWordSet_add_37 rfl (lv_at hl 1 rfl) ?_
      refine hw_get hx hb hts (hwInn inWordSet) hown hK hZ g0 rfl 0 (by decide) (hts (.fieldLink RWordSet 13 RWordSet "words" "[J") (hwMem mm_53)) (fun _ h => h) rfl dWordSet_add_38 ?_
      refine lv_iload_n hx hb dWordSet_add_41 rfl (lv_at hl 0 rfl) ?_
      refine lv_aload_n hx hb dWordSet_add_42 rfl (lv_at hl 1 rfl) ?_
      refine hw_get hx hb hts (hwInn inWordSet) hown hK hZ g0 rfl 0 (by decide) (hts (.fieldLink RWordSet 13 RWordSet "words" "[J") (hwMem mm_53)) (fun _ h => h) rfl dWordSet_add_43 ?_
      refine lv_iload_n hx hb dWordSet_add_46 rfl (lv_at hl 0 rfl) ?_
      refine lv_iconst (v := nI 1) hx hb dWordSet_add_47 (by decide) ?_
      refine lv_iadd hx hb dWordSet_add_48 ?_
      refine hw_topi (nI_add pz_4 1) ?_
      refine lv_aload_n hx hb dWordSet_add_49 rfl (lv_at hl 1 rfl) ?_
      refine hw_get hx hb hts (hwInn inWordSet) hown hK hZ g0 rfl 1 (by decide) (hts (.fieldLink RWordSet 19 RWordSet "count" "I") (hwMem mm_54)) (fun _ h => h) rfl dWordSet_add_50 ?_
      refine lv_iload_n hx hb dWordSet_add_53 rfl (lv_at hl 0 rfl) ?_
      refine lv_isub hx hb dWordSet_add_54 ?_
      refine hw_topi (pk_sub (a := ts.length) (b := pz_4) (by omega)) ?_
      refine hw_copyl (sp := pz_4) (dp := pz_4 + 1) (n := ts.length - pz_4) hx hb (hml.trans hl.1.symm) hown (hts (.methodLink RWordSet 31 arraycopyName) (hwMem mm_68)) (hts (.native arraycopyName) (hwMem mm_27)) (hts (.static arraycopyName) (hwMem mm_28)) (hts (.initialized "java/lang/System") (hwMem mm_29)) hK hZ 1 1 g1 g1 rfl rfl (by omega) (by omega) (by omega) (by omega) (Nat.le_of_ble_eq_true rfl) (Nat.le_of_ble_eq_true rfl) dWordSet_add_55 (fun X_14 H_15 lc_16 hZ hF hNw => ?_)
      have hFr := hwF.tr hFr hF (fun _ h => h) (fun M h => by first | exact False.elim h | ((try dsimp only at h ⊢); omega))
      have g0 := hF _ _ _ (by intro hNS; first | exact False.elim hNS | ((try dsimp only at hNS); omega)) g0
      have g1 := hNw
      refine lv_aload_n hx hb dWordSet_add_58 rfl (lv_at hl 1 rfl) ?_
      refine hw_get hx hb hts (hwInn inWordSet) hown hK hZ g0 rfl 0 (by decide) (hts (.fieldLink RWordSet 13 RWordSet "words" "[J") (hwMem mm_53)) (fun _ h => h) rfl dWordSet_add_59 ?_
      refine lv_iload_n hx hb dWordSet_add_62 rfl (lv_at hl 0 rfl) ?_
      refine lv_lload_n hx hb dWordSet_add_63 rfl (lv_at hl 2 rfl) ?_
      refine hw_last hx hb hK hZ 1 g1 rfl (j := pz_4) (by omega) (by omega) dWordSet_add_64 (fun X_17 H_18 lc_19 hZ hF hNw => ?_)
      have hFr := hwF.tr hFr hF (fun _ h => h) (fun M h => by first | exact False.elim h | ((try dsimp only at h ⊢); omega))
      have g0 := hF _ _ _ (by intro hNS; first | exact False.elim hNS | ((try dsimp only at hNS); omega)) g0
      have g1 := hNw
      refine lv_aload_n hx hb dWordSet_add_65 rfl (lv_at hl 1 rfl) ?_
      refine lv_dup hx hb dWordSet_add_66 rfl ?_
      refine hw_get hx hb hts (hwInn inWordSet) hown hK hZ g0 rfl 1 (by decide) (hts (.fieldLink RWordSet 19 RWordSet "count" "I") (hwMem mm_54)) (fun _ h => h) rfl dWordSet_add_67 ?_
      refine lv_iconst (v := nI 1) hx hb dWordSet_add_70 (by decide) ?_
      refine lv_iadd hx hb dWordSet_add_71 ?_
      refine hw_topi (nI_add ts.length 1) ?_
      refine hw_put (ty := .int) (fs' := [.ref q, .int (nI (ts.length + 1))]) hx hb hts (hwInn inWordSet) tyWordSet tyWordSet_ok nmWordSet hown hK hZ g0 rfl 1 (by decide) (hts (.fieldLink RWordSet 19 RWordSet "count" "I") (hwMem mm_54)) (fun _ h => h) rfl (by decide +kernel) rfl rfl (Nat.le_of_ble_eq_true rfl) rfl dWordSet_add_72 (fun X_20 H_21 lc_22 hZ hF hNw => ?_)
      have hFr := hwF.tr hFr hF (fun _ h => h) (fun M h => by first | exact False.elim h | ((try dsimp only at h ⊢); omega))
      have g0 := hNw
      have g1 := hF _ _ _ (by intro hNS; first | exact False.elim hNS | ((try dsimp only at hNS); omega)) g1
      exact hret hZ (by rw [insS_new (by omega) (not_mem_place hs xx_6 xx_7 (fun _ he => cq_13 ((eW_inj (hL2 _) hw).mpr he))), ins_place xx_6 xx_7 (by omega)]; exact ⟨hFr, q, _, by rw [ins_len (by omega)]; exact g0, g1, by rw [ins_len (by omega)]; omega, hM, lvec.ins hv (by omega), okWs.ins hk hw⟩) dWordSet_add_75
    · exact hret hZ (by rw [insS_mem (mem_of_getD (nn_getD hn0 ((eW_inj (hL2 _) hw).mp cq_13)) ((eW_inj (hL2 _) hw).mp cq_13))]; exact ⟨hFr, hT⟩) dWordSet_add_36
set_option maxHeartbeats 4000000 in
set_option maxRecDepth 100000 in
theorem c_Tm_read (l : Launch) (D : va_G) (K : Nat → ClassId) (X : hwW) (sz : Nat) (a : Nat) (k : Nat) (N : Nat) (ts : List (List Nat)) (t : Nat) (kt : Nat) (ws : List (List Nat)) (o : Nat) (s0 : Nat) (ks : Nat) (Ns : Nat) (ss : List (List Nat)) (g : Nat) (f0_ : tmAt K X a k N ts) (f1_ : txAt K X t kt ws o) (f2_ : seAt K X s0 ks Ns ss) (hkt : kt ≠ k) (hks : ks ≠ k) (hg : g < 3) (hwN : ws.length ≤ N) (hne : ∀ w ∈ ws, 1 ≤ w.length) (hs : ss.Pairwise (· < ·)) : Met l yTerms_read (.code yTerms_read cTerms_read 7 none :: hwG) ({ frames := 4, cells := 0, slots := 0, locals := 89 } : Room) (hwPc D vwCl (hwT K) [.ref a, .ref t, .int (nI g), .ref s0] X sz) (hwQv D vwCl X sz (fun Y => hwF X Y (fun M => M = 2 * k ∨ M = 2 * k + 1) ∧ tmAt K Y a k N (ws.map (trm g ss)))) 0 0 (va_A X.1 sz) := by
  refine hwMetv (cc := cTerms_read) (maxL := 7) (by decide) rfl (Nat.le_of_ble_eq_true rfl) (fun p e s m args below meth c ls A Q hx hb hml hown hts hname hret hK hO hZ hA hl => ?_)
  have hl : lv_has ls 7 [(0, .ref a), (1, .ref t), (2, .int (nI g)), (3, .ref s0)] := hl
  have hFr : hwF X X (fun M => M = 2 * k ∨ M = 2 * k + 1) := hwF.rf
  obtain ⟨q, f, g0, g1, hN, hM, hv, hk⟩ := f0_
  have hW2 := fun j => okWs.at (txAt.oks f1_) j
  have hW1 := fun j (hj : j < ws.length) => ne_getD hne hj
  refine lv_aload_n hx hb dTerms_read_0 rfl (lv_at hl 0 rfl) ?_
  refine lv_aload_n hx hb dTerms_read_1 rfl (lv_at hl 1 rfl) ?_
  refine hw_calli (va_runV (As := []) (rest := [.ref a]) ⟨hx, hb, hml, hown, hts⟩ (c_Tx_size l D K X s.heap.size (a := t) (k := kt) (ws := ws) (o := o) f1_) (cwV 0 hts (hwGood (hw_4 mm_70 mm_71 mm_72 mm_45 (hwAll mm_69))) rfl rfl rfl (by decide +kernel) ⟨Nat.le_of_ble_eq_true rfl, Nat.le_of_ble_eq_true rfl⟩) (hw_preV hK hO hZ (txAt.ob f1_) rfl) rfl rfl hl.1 rfl (lv_room (Nat.le_of_ble_eq_true rfl)) dTerms_read_2 ⟨(show 0 + 0 ≤ 0 by omega), (show 0 + 0 ≤ 0 by omega)⟩) hZ hA (fun r X_1 H_2 lc_3 hp hZ => ?_)
  obtain ⟨hr, hy⟩ := hp
  subst hy
  refine hw_topi hr ?_
  refine lv_aload_n hx hb dTerms_read_5 rfl (lv_at hl 0 rfl) ?_
  refine hw_get hx hb hts (hwInn inTerms) hown hK hZ g0 rfl 0 (by decide) (hts (.fieldLink RTerms 13 RTerms "terms" "[J") (hwMem mm_57)) (fun _ h => h) rfl dTerms_read_6 ?_
  refine hw_alen hx hb hK hZ 1 g1 rfl dTerms_read_9 ?_
  refine va_mmin hx hb (hml.trans hl.1.symm) hown (hts (.methodLink RTerms 29 Lib.Math.min.name) (hwMem mm_73)) (hts (.static Lib.Math.min.name) (hwMem mm_18)) (hts (.initialized "java/lang/Math") (hwMem mm_19)) (hts (.code Lib.Math.min.name Lib.Math.min.code 2 (some .int)) (hwMem mm_20)) (Nat.le_of_ble_eq_true rfl) (Nat.le_of_ble_eq_true rfl) (show 0 ≤ 0 by omega) (show 0 ≤ 0 by omega) dTerms_read_10 ?_
  refine hw_topi (hw_nmin (a := ws.length) (b := N) (by omega) (by omega)) ?_
  refine hw_topi (congrArg nI (Nat.min_eq_left (by omega))) ?_
  refine hw_put (ty := .int) (fs' := [.ref q, .int (nI ws.length)]) hx hb hts (hwInn inTerms) tyTerms tyTerms_ok nmTerms hown hK hZ g0 rfl 1 (by decide) (hts (.fieldLink RTerms 19 RTerms "count" "I") (hwMem mm_58)) (fun _ h => h) rfl (by decide +kernel) rfl rfl (Nat.le_of_ble_eq_true rfl) rfl dTerms_read_13 (fun X_4 H_5 lc_6 hZ hF hNw => ?_)
  have hFr := hwF.tr hFr hF (fun _ h => h) (fun M h => by first | exact False.elim h | ((try dsimp only at h ⊢); omega))
  have f1_ := txAt.fr hF (by intro hNS; first | exact False.elim hNS | ((try dsimp only at hNS); omega)) (by intro hNS; first | exact False.elim hNS | ((try dsimp only at hNS); omega)) f1_
  have f2_ := seAt.fr hF (by intro hNS; first | exact False.elim hNS | ((try dsimp only at hNS); omega)) (by intro hNS; first | exact False.elim hNS | ((try dsimp only at hNS); omega)) f2_
  have g0 := hNw
  have g1 := hF _ _ _ (by intro hNS; first | exact False.elim hNS | ((try dsimp only at hNS); omega)) g1
  refine lv_iconst (v := nI 0) hx hb dTerms_read_16 (by decide) ?_
  refine lv_istore (lv' := [(4, .int (nI 0)), (0, .ref a), (1, .ref t), (2, .int (nI g)), (3, .ref s0)]) hx hb dTerms_read_17 hl (by decide) rfl (fun ls hl => ?_)
  have loop19 : ∀ (fuel : Nat) (i : Nat) (h : Nat → Int64) (XL19 : hwW) (Hh : Heap) (lcs : List Loc) (ls : Array Slot), ws.length - i < fuel → (i ≤ ws.length) → (∀ p, p < i → h p = lN (eW (trm g ss (ws.getD p [])))) → (hwF X XL19 (fun M => M = 2 * k ∨ M = 2 * k + 1)) → (hwH XL19 a (2 * k) (.inr (2, [.ref q, .int (nI ws.length)]))) → (hwH XL19 q (2 * k + 1) (.inl (K 1, N, .inr (.inl h)))) → (txAt K XL19 t kt ws o) → (seAt K XL19 s0 ks Ns ss) → hwZ D vwCl A s.heap XL19 Hh lcs → lv_has ls 7 [(4, .int (nI i)), (0, .ref a), (1, .ref t), (2, .int (nI g)), (3, .ref s0)] → W p l e ({ frames := 4, cells := 0, slots := 0, locals := 89 } : Room) s m args below meth c Hh lcs 0 0 Q (F0 m 19 ls []) := by
    intro fuel; induction fuel with
    | zero => intro i h XL19 Hh lcs ls hfu; exact absurd hfu (Nat.not_lt_zero _)
    | succ fuel ih19 =>
      intro i h XL19 Hh lcs ls hfu19 hi hh hFr g0 g1 f1_ f2_ hZ hl
      refine lv_iload hx hb dTerms_read_19 (lv_at hl 0 rfl) ?_
      refine lv_aload_n hx hb dTerms_read_21 rfl (lv_at hl 1 rfl) ?_
      refine hw_get hx hb hts (hwInn inTerms) hown hK hZ g0 rfl 1 (by decide) (hts (.fieldLink RTerms 19 RTerms "count" "I") (hwMem mm_58)) (fun _ h => h) rfl dTerms_read_22 ?_
      refine hw_ic_ge (a := i) (b := ws.length) (tgt := 68) hx hb dTerms_read_25 (by decide) (by omega) (by omega) (fun cq_7 => ?_) (fun cq_7 => ?_)
      · exact hret hZ ⟨hFr, q, h, by rw [List.length_map]; exact g0, g1, by rw [List.length_map]; omega, hM, fun p hp => by rw [List.length_map] at hp; rw [getD_map hp]; exact hh p (by omega), fun v hv0 => by obtain ⟨u, hu, rfl⟩ := List.mem_map.mp hv0; exact okW_trm (txAt.oks f1_ u hu) g ss⟩ dTerms_read_68
      · refine lv_aload_n hx hb dTerms_read_28 rfl (lv_at hl 2 rfl) ?_
        refine lv_iload hx hb dTerms_read_29 (lv_at hl 0 rfl) ?_
        refine hw_calll (va_runV (As := [.int (nI i)]) (rest := []) ⟨hx, hb, hml, hown, hts⟩ (c_Tx_at l D K XL19 Hh.size (a := t) (k := kt) (ws := ws) (o := o) (j := i) f1_ (by omega)) (cwV 1 hts (hwGood (hw_4 mm_75 mm_76 mm_77 mm_45 (hwAll mm_74))) rfl rfl rfl (by decide +kernel) ⟨Nat.le_of_ble_eq_true rfl, Nat.le_of_ble_eq_true rfl⟩) (hw_preV hK hO hZ (txAt.ob f1_) rfl) rfl rfl hl.1 rfl (lv_room (Nat.le_of_ble_eq_true rfl)) dTerms_read_31 ⟨(show 0 + 0 ≤ 0 by omega), (show 0 + 0 ≤ 0 by omega)⟩) hZ hA (fun r X_8 H_9 lc_10 hp hZ => ?_)
        obtain ⟨hr, hy⟩ := hp
        subst hy
        refine hw_topl hr ?_
        refine lv_lstore (lv' := [(5, .long (lN (eW (ws.getD i [])))), (4, .int (nI i)), (0, .ref a), (1, .ref t), (2, .int (nI g)), (3, .ref s0)]) hx hb dTerms_read_34 hl (by decide) rfl (fun ls hl => ?_)
        refine lv_aload_n hx hb dTerms_read_36 rfl (lv_at hl 2 rfl) ?_
        refine hw_get hx hb hts (hwInn inTerms) hown hK hZ g0 rfl 0 (by decide) (hts (.fieldLink RTerms 13 RTerms "terms" "[J") (hwMem mm_57)) (fun _ h => h) rfl dTerms_read_37 ?_
        refine lv_iload hx hb dTerms_read_40 (lv_at hl 1 rfl) ?_
        refine lv_aload_n hx hb dTerms_read_42 rfl (lv_at hl 5 rfl) ?_
        refine lv_lload hx hb dTerms_read_43 (lv_at hl 0 rfl) ?_
        refine hw_calli (va_runV (As := [.long (lN (eW (ws.getD i [])))]) (rest := [.int (nI i), .ref q]) ⟨hx, hb, hml, hown, hts⟩ (c_Se_has l D K XL19 H_9.size (a := s0) (k := ks) (N := Ns) (ts := ss) (w := (ws.getD i [])) f2_ (by assumption) (hW2 i)) (cwV 1 hts (hwGood (hw_4 mm_79 mm_80 mm_81 mm_63 (hwAll mm_78))) rfl rfl rfl (by decide +kernel) ⟨Nat.le_of_ble_eq_true rfl, Nat.le_of_ble_eq_true rfl⟩) (hw_preV hK hO hZ (seAt.ob f2_) rfl) rfl rfl hl.1 rfl (lv_room (Nat.le_of_ble_eq_true rfl)) dTerms_read_45 ⟨(show 0 + 0 ≤ 0 by omega), (show 0 + 0 ≤ 0 by omega)⟩) hZ hA (fun r X_11 H_12 lc_13 hp hZ => ?_)
        obtain ⟨hr, hy⟩ := hp
        subst hy
        refine hw_topi hr ?_
        refine hw_bz_eq (tgt := 55) hx hb dTerms_read_48 (by decide) (fun cq_14 => ?_) (fun cq_14 => ?_)
        · refine lv_lload hx hb dTerms_read_55 (lv_at hl 0 rfl) ?_
          refine lv_iload_n hx hb dTerms_read_57 rfl (lv_at hl 4 rfl) ?_
          refine hw_calll (va_runS (As := [.long (lN (eW (ws.getD i []))), .int (nI g)]) (rest := [.int (nI i), .ref q]) ⟨hx, hb, hml, hown, hts⟩ (c_W_stem l D K XL19 H_12.size (w := (ws.getD i [])) (g := g) (hW2 i) (by omega) (hW1 i (by omega))) (va_cwS 2 hts (hwGood (hw_3 mm_84 mm_83 mm_3 (hwAll mm_82))) rfl rfl rfl (by decide +kernel) ⟨Nat.le_of_ble_eq_true rfl, Nat.le_of_ble_eq_true rfl⟩) (hw_preS hK hO hZ) rfl rfl hl.1 rfl (lv_room (Nat.le_of_ble_eq_true rfl)) dTerms_read_58 ⟨(show 0 + 0 ≤ 0 by omega), (show 0 + 0 ≤ 0 by omega)⟩) hZ hA (fun r X_15 H_16 lc_17 hp hZ => ?_)
          obtain ⟨hr, hy⟩ := hp
          subst hy
          refine hw_topl hr ?_
          refine hw_last hx hb hK hZ 1 g1 rfl (j := i) (by omega) (by omega) dTerms_read_61 (fun X_18 H_19 lc_20 hZ hF hNw => ?_)
          have hFr := hwF.tr hFr hF (fun _ h => h) (fun M h => by first | exact False.elim h | ((try dsimp only at h ⊢); omega))
          have g0 := hF _ _ _ (by intro hNS; first | exact False.elim hNS | ((try dsimp only at hNS); omega)) g0
          have g1 := hNw
          have f1_ := txAt.fr hF (by intro hNS; first | exact False.elim hNS | ((try dsimp only at hNS); omega)) (by intro hNS; first | exact False.elim hNS | ((try dsimp only at hNS); omega)) f1_
          have f2_ := seAt.fr hF (by intro hNS; first | exact False.elim hNS | ((try dsimp only at hNS); omega)) (by intro hNS; first | exact False.elim hNS | ((try dsimp only at hNS); omega)) f2_
          refine lv_iinc (v := nI (i + 1)) (lv' := [(4, .int (nI (i + 1))), (5, .long (lN (eW (ws.getD i [])))), (0, .ref a), (1, .ref t), (2, .int (nI g)), (3, .ref s0)]) hx hb dTerms_read_62 hl (k := 1) rfl (nI_add _ 1) (by decide) rfl (fun ls hl => ?_)
          refine lv_goto (tgt := 19) hx hb dTerms_read_65 (by decide) ?_
          exact ih19 (i + 1) (vp_updL h i (lN (eW (stemL g (ws.getD i []))))) _ _ _ _ (by omega) (by omega) (fun p hp => (Nat.lt_or_eq_of_le (Nat.le_of_lt_succ hp)).elim (fun z => by rw [pk_uLn (by omega)]; exact hh p z) (fun z => by subst z; rw [pk_uLs]; unfold trm; rw [if_neg (of_decide_eq_false cq_14)])) hFr g0 g1 f1_ f2_ hZ (lv_sub hl [0, 2, 3, 4, 5] rfl)
        · refine lv_lconst (v := lN 0) hx hb dTerms_read_51 rfl ?_
          refine lv_goto (tgt := 61) hx hb dTerms_read_52 (by decide) ?_
          refine hw_last hx hb hK hZ 1 g1 rfl (j := i) (by omega) (by omega) dTerms_read_61 (fun X_21 H_22 lc_23 hZ hF hNw => ?_)
          have hFr := hwF.tr hFr hF (fun _ h => h) (fun M h => by first | exact False.elim h | ((try dsimp only at h ⊢); omega))
          have g0 := hF _ _ _ (by intro hNS; first | exact False.elim hNS | ((try dsimp only at hNS); omega)) g0
          have g1 := hNw
          have f1_ := txAt.fr hF (by intro hNS; first | exact False.elim hNS | ((try dsimp only at hNS); omega)) (by intro hNS; first | exact False.elim hNS | ((try dsimp only at hNS); omega)) f1_
          have f2_ := seAt.fr hF (by intro hNS; first | exact False.elim hNS | ((try dsimp only at hNS); omega)) (by intro hNS; first | exact False.elim hNS | ((try dsimp only at hNS); omega)) f2_
          refine lv_iinc (v := nI (i + 1)) (lv' := [(4, .int (nI (i + 1))), (5, .long (lN (eW (ws.getD i [])))), (0, .ref a), (1, .ref t), (2, .int (nI g)), (3, .ref s0)]) hx hb dTerms_read_62 hl (k := 1) rfl (nI_add _ 1) (by decide) rfl (fun ls hl => ?_)
          refine lv_goto (tgt := 19) hx hb dTerms_read_65 (by decide) ?_
          exact ih19 (i + 1) (vp_updL h i (lN 0)) _ _ _ _ (by omega) (by omega) (fun p hp => (Nat.lt_or_eq_of_le (Nat.le_of_lt_succ hp)).elim (fun z => by rw [pk_uLn (by omega)]; exact hh p z) (fun z => by subst z; rw [pk_uLs]; unfold trm; rw [if_pos (of_decide_eq_true cq_14)]; rfl)) hFr g0 g1 f1_ f2_ hZ (lv_sub hl [0, 2, 3, 4, 5] rfl)
  exact loop19 (ws.length - 0 + 1) 0 f _ _ _ _ (by omega) (by omega) (fun p hp => absurd hp (Nat.not_lt_zero _)) hFr g0 g1 f1_ f2_ hZ (lv_sub hl [0, 1, 2, 3, 4] rfl)
set_option maxHeartbeats 4000000 in
set_option maxRecDepth 100000 in
theorem c_Tm_has (l : Launch) (D : va_G) (K : Nat → ClassId) (X : hwW) (sz : Nat) (a : Nat) (k : Nat) (N : Nat) (ts : List (List Nat)) (w : List Nat) (f0_ : tmAt K X a k N ts) (hw : okW w) : Met l yTerms_has (.code yTerms_has cTerms_has 4 (some .boolean) :: hwG) ({ frames := 1, cells := 0, slots := 0, locals := 21 } : Room) (hwPc D vwCl (hwT K) [.ref a, .long (lN (eW w))] X sz) (hwQi D vwCl X sz (fun r Y => r = bI (decide (w ∈ ts)) ∧ X = Y)) 0 0 (va_A X.1 sz) := by
  refine hwMetz (cc := cTerms_has) (maxL := 4) (by decide) rfl (Nat.le_of_ble_eq_true rfl) (fun p e s m args below meth c ls A Q hx hb hml hown hts hname hret hK hO hZ hA hl => ?_)
  have hl : lv_has ls 4 [(0, .ref a), (1, .long (lN (eW w)))] := hl
  have hT := f0_
  obtain ⟨q, f, g0, g1, hN, hM, hv, hk⟩ := f0_
  have hL2 := fun j => okWs.at hk j
  refine lv_iconst (v := nI 0) hx hb dTerms_has_0 (by decide) ?_
  refine lv_istore_n (lv' := [(3, .int (nI 0)), (0, .ref a), (1, .long (lN (eW w)))]) hx hb dTerms_has_1 rfl hl (by decide) rfl (fun ls hl => ?_)
  have loop2 : ∀ (fuel : Nat) (i : Nat) (Hh : Heap) (lcs : List Loc) (ls : Array Slot), ts.length - i < fuel → (i ≤ ts.length) → (∀ p, p < i → ts.getD p [] ≠ w) → hwZ D vwCl A s.heap X Hh lcs → lv_has ls 4 [(3, .int (nI i)), (0, .ref a), (1, .long (lN (eW w)))] → W p l e ({ frames := 1, cells := 0, slots := 0, locals := 21 } : Room) s m args below meth c Hh lcs 0 0 Q (F0 m 2 ls []) := by
    intro fuel; induction fuel with
    | zero => intro i Hh lcs ls hfu; exact absurd hfu (Nat.not_lt_zero _)
    | succ fuel ih2 =>
      intro i Hh lcs ls hfu2 hi hh hZ hl
      refine lv_iload_n hx hb dTerms_has_2 rfl (lv_at hl 0 rfl) ?_
      refine lv_aload_n hx hb dTerms_has_3 rfl (lv_at hl 1 rfl) ?_
      refine hw_get hx hb hts (hwInn inTerms) hown hK hZ g0 rfl 1 (by decide) (hts (.fieldLink RTerms 19 RTerms "count" "I") (hwMem mm_58)) (fun _ h => h) rfl dTerms_has_4 ?_
      refine hw_ic_ge (a := i) (b := ts.length) (tgt := 28) hx hb dTerms_has_7 (by decide) (by omega) (by omega) (fun cq_1 => ?_) (fun cq_1 => ?_)
      · refine lv_iconst (v := nI 0) hx hb dTerms_has_28 (by decide) ?_
        exact hret (by decide) hZ ⟨by rw [decide_eq_false (not_mem_all (fun p hp => hh p (by omega)))]; rfl, rfl⟩ dTerms_has_29
      · refine lv_aload_n hx hb dTerms_has_10 rfl (lv_at hl 1 rfl) ?_
        refine lv_iload_n hx hb dTerms_has_11 rfl (lv_at hl 0 rfl) ?_
        refine hw_calll (va_runV (As := [.int (nI i)]) (rest := []) ⟨hx, hb, hml, hown, hts⟩ (c_Tm_at l D K X Hh.size (a := a) (k := k) (N := N) (ts := ts) (j := i) hT (by omega)) (cwV 1 hts (hwGood (hw_4 mm_86 mm_87 mm_88 mm_89 (hwAll mm_85))) rfl rfl rfl (by decide +kernel) ⟨Nat.le_of_ble_eq_true rfl, Nat.le_of_ble_eq_true rfl⟩) (hw_preV hK hO hZ (⟨_, _, g0⟩) rfl) rfl rfl hl.1 rfl (lv_room (Nat.le_of_ble_eq_true rfl)) dTerms_has_12 ⟨(show 0 + 0 ≤ 0 by omega), (show 0 + 0 ≤ 0 by omega)⟩) hZ hA (fun r X_2 H_3 lc_4 hp hZ => ?_)
        obtain ⟨hr, hy⟩ := hp
        subst hy
        refine hw_topl hr ?_
        refine lv_lload_n hx hb dTerms_has_15 rfl (lv_at hl 2 rfl) ?_
        refine hw_lc_ne (a := eW (ts.getD i [])) (b := eW w) (tgt := 22) hx hb dTerms_has_16 dTerms_has_17 (by decide) (by first | exact eW_lt63 (by assumption) | exact eW_lt63 (hL2 _) | decide) (by first | exact eW_lt63 (by assumption) | exact eW_lt63 (hL2 _) | decide) (fun cq_5 => ?_) (fun cq_5 => ?_)
        · refine lv_iinc (v := nI (i + 1)) (lv' := [(3, .int (nI (i + 1))), (0, .ref a), (1, .long (lN (eW w)))]) hx hb dTerms_has_22 hl (k := 0) rfl (nI_add _ 1) (by decide) rfl (fun ls hl => ?_)
          refine lv_goto (tgt := 2) hx hb dTerms_has_25 (by decide) ?_
          exact ih2 (i + 1) _ _ _ (by omega) (by omega) (fun p hp => (Nat.lt_or_eq_of_le (Nat.le_of_lt_succ hp)).elim (fun z => by exact hh p z) (fun z => by subst z; exact fun he => cq_5 ((eW_inj (hL2 _) hw).mpr he)))  hZ (lv_sub hl [0, 1, 2] rfl)
        · refine lv_iconst (v := nI 1) hx hb dTerms_has_20 (by decide) ?_
          exact hret (by decide) hZ ⟨by rw [decide_eq_true (mem_of_getD (by omega) ((eW_inj (hL2 _) hw).mp cq_5))]; rfl, rfl⟩ dTerms_has_21
  exact loop2 (ts.length - 0 + 1) 0 _ _ _ (by omega) (by omega) (fun p hp => absurd hp (Nat.not_lt_zero _))  hZ (lv_sub hl [0, 1, 2] rfl)
