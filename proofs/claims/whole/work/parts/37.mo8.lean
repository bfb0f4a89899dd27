theorem term_ne {l : List (List Nat)} {x : Nat} (hl : x < l.length) (hne : ∀ w ∈ l, w ≠ []) : l.getD x [] ≠ [] := by
  have e : l.getD x [] = l[x] := by simp [List.getD, hl]
  rw [e]; exact hne _ (List.getElem_mem hl)
theorem term_out {l : List (List Nat)} {x y : Nat} (hx : x < 2147483648) (hy : y < 2147483648) (hl : x < l.length) (hne : ∀ w ∈ l, w ≠ []) (h : (l.getD x []).length ≤ y) : termW l (nI x) (nI y) = nI 0 := by
  rw [termW_g hx hy (term_ne hl hne)]
  have e : (l.getD x []).getD y 0 = 0 := by rw [List.getD, List.getElem?_eq_none h]; rfl
  rw [e]; rfl
theorem term_in {l : List (List Nat)} {x y : Nat} (hx : x < 2147483648) (hy : y < 2147483648) (hl : x < l.length) (hne : ∀ w ∈ l, w ≠ []) (hok : okW (l.getD x [])) (h : y < (l.getD x []).length) : termW l (nI x) (nI y) = nI (96 + rW (l.getD x []) / 2 ^ (5 * ((l.getD x []).length - 1 - y)) % 32) := by
  rw [termW_g hx hy (term_ne hl hne), rW_letter hok.2 h, sgn_pos]
  have e : (l.getD x []).getD y 0 = (l.getD x [])[y] := by rw [List.getD, List.getElem?_eq_getElem h]; rfl
  rw [e]
  exact (hok.2 _ (List.getElem_mem h)).1
theorem dMo_term_0 : decode cMo_term 0 = .ok (.aload_n 0, 1) := by decide +kernel
theorem dMo_term_1 : decode cMo_term 1 = .ok (.iconst 0, 1) := by decide +kernel
theorem dMo_term_2 : decode cMo_term 2 = .ok (.putfield 58, 3) := by decide +kernel
theorem dMo_term_5 : decode cMo_term 5 = .ok (.iload_n 1, 1) := by decide +kernel
theorem dMo_term_6 : decode cMo_term 6 = .ok (.invokestatic 65, 3) := by decide +kernel
theorem dMo_term_9 : decode cMo_term 9 = .ok (.ifCond .eq 11, 3) := by decide +kernel
theorem dMo_term_12 : decode cMo_term 12 = .ok (.iload_n 2, 1) := by decide +kernel
theorem dMo_term_13 : decode cMo_term 13 = .ok (.ifCond .lt 7, 3) := by decide +kernel
theorem dMo_term_16 : decode cMo_term 16 = .ok (.iload_n 3, 1) := by decide +kernel
theorem dMo_term_17 : decode cMo_term 17 = .ok (.ifCond .ge 5, 3) := by decide +kernel
theorem dMo_term_20 : decode cMo_term 20 = .ok (.iconst (-1), 1) := by decide +kernel
theorem dMo_term_21 : decode cMo_term 21 = .ok (.ireturn, 1) := by decide +kernel
theorem dMo_term_22 : decode cMo_term 22 = .ok (.aload_n 0, 1) := by decide +kernel
theorem dMo_term_23 : decode cMo_term 23 = .ok (.iload_n 1, 1) := by decide +kernel
theorem dMo_term_24 : decode cMo_term 24 = .ok (.invokevirtual 172, 3) := by decide +kernel
theorem dMo_term_27 : decode cMo_term 27 = .ok (.iload_n 2, 1) := by decide +kernel
theorem dMo_term_28 : decode cMo_term 28 = .ok (.aload_n 0, 1) := by decide +kernel
theorem dMo_term_29 : decode cMo_term 29 = .ok (.getfield 161, 3) := by decide +kernel
theorem dMo_term_32 : decode cMo_term 32 = .ok (.if_icmp .lt 5, 3) := by decide +kernel
theorem dMo_term_35 : decode cMo_term 35 = .ok (.iconst (-1), 1) := by decide +kernel
theorem dMo_term_36 : decode cMo_term 36 = .ok (.ireturn, 1) := by decide +kernel
theorem dMo_term_37 : decode cMo_term 37 = .ok (.aload_n 0, 1) := by decide +kernel
theorem dMo_term_38 : decode cMo_term 38 = .ok (.getfield 52, 3) := by decide +kernel
theorem dMo_term_41 : decode cMo_term 41 = .ok (.iload_n 2, 1) := by decide +kernel
theorem dMo_term_42 : decode cMo_term 42 = .ok (.laload, 1) := by decide +kernel
theorem dMo_term_43 : decode cMo_term 43 = .ok (.invokestatic 77, 3) := by decide +kernel
theorem dMo_term_46 : decode cMo_term 46 = .ok (.istore 4, 2) := by decide +kernel
theorem dMo_term_48 : decode cMo_term 48 = .ok (.iload_n 3, 1) := by decide +kernel
theorem dMo_term_49 : decode cMo_term 49 = .ok (.iload 4, 2) := by decide +kernel
theorem dMo_term_51 : decode cMo_term 51 = .ok (.if_icmp .lt 7, 3) := by decide +kernel
theorem dMo_term_54 : decode cMo_term 54 = .ok (.iconst 0, 1) := by decide +kernel
theorem dMo_term_55 : decode cMo_term 55 = .ok (.goto 26, 3) := by decide +kernel
theorem dMo_term_58 : decode cMo_term 58 = .ok (.bipush 96, 2) := by decide +kernel
theorem dMo_term_60 : decode cMo_term 60 = .ok (.aload_n 0, 1) := by decide +kernel
theorem dMo_term_61 : decode cMo_term 61 = .ok (.getfield 52, 3) := by decide +kernel
theorem dMo_term_64 : decode cMo_term 64 = .ok (.iload_n 2, 1) := by decide +kernel
theorem dMo_term_65 : decode cMo_term 65 = .ok (.laload, 1) := by decide +kernel
theorem dMo_term_66 : decode cMo_term 66 = .ok (.iconst 5, 1) := by decide +kernel
theorem dMo_term_67 : decode cMo_term 67 = .ok (.iload 4, 2) := by decide +kernel
theorem dMo_term_69 : decode cMo_term 69 = .ok (.iconst 1, 1) := by decide +kernel
theorem dMo_term_70 : decode cMo_term 70 = .ok (.isub, 1) := by decide +kernel
theorem dMo_term_71 : decode cMo_term 71 = .ok (.iload_n 3, 1) := by decide +kernel
theorem dMo_term_72 : decode cMo_term 72 = .ok (.isub, 1) := by decide +kernel
theorem dMo_term_73 : decode cMo_term 73 = .ok (.imul, 1) := by decide +kernel
theorem dMo_term_74 : decode cMo_term 74 = .ok (.lshr, 1) := by decide +kernel
theorem dMo_term_75 : decode cMo_term 75 = .ok (.ldc2_w 75, 3) := by decide +kernel
theorem dMo_term_78 : decode cMo_term 78 = .ok (.land, 1) := by decide +kernel
theorem dMo_term_79 : decode cMo_term 79 = .ok (.l2i, 1) := by decide +kernel
theorem dMo_term_80 : decode cMo_term 80 = .ok (.iadd, 1) := by decide +kernel
theorem dMo_term_81 : decode cMo_term 81 = .ok (.ireturn, 1) := by decide +kernel
theorem dMo_nearest_0 : decode cMo_nearest 0 = .ok (.aload_n 0, 1) := by decide +kernel
theorem dMo_nearest_1 : decode cMo_nearest 1 = .ok (.iconst 0, 1) := by decide +kernel
theorem dMo_nearest_2 : decode cMo_nearest 2 = .ok (.putfield 58, 3) := by decide +kernel
theorem dMo_nearest_5 : decode cMo_nearest 5 = .ok (.aload_n 0, 1) := by decide +kernel
theorem dMo_nearest_6 : decode cMo_nearest 6 = .ok (.invokevirtual 125, 3) := by decide +kernel
theorem dMo_nearest_9 : decode cMo_nearest 9 = .ok (.iload_n 1, 1) := by decide +kernel
theorem dMo_nearest_10 : decode cMo_nearest 10 = .ok (.invokestatic 65, 3) := by decide +kernel
theorem dMo_nearest_13 : decode cMo_nearest 13 = .ok (.ifCond .eq 10, 3) := by decide +kernel
theorem dMo_nearest_16 : decode cMo_nearest 16 = .ok (.aload_n 0, 1) := by decide +kernel
theorem dMo_nearest_17 : decode cMo_nearest 17 = .ok (.getfield 83, 3) := by decide +kernel
theorem dMo_nearest_20 : decode cMo_nearest 20 = .ok (.ifCond .ne 5, 3) := by decide +kernel
theorem dMo_nearest_23 : decode cMo_nearest 23 = .ok (.iconst (-1), 1) := by decide +kernel
theorem dMo_nearest_24 : decode cMo_nearest 24 = .ok (.ireturn, 1) := by decide +kernel
theorem dMo_nearest_25 : decode cMo_nearest 25 = .ok (.aload_n 0, 1) := by decide +kernel
theorem dMo_nearest_26 : decode cMo_nearest 26 = .ok (.iload_n 1, 1) := by decide +kernel
theorem dMo_nearest_27 : decode cMo_nearest 27 = .ok (.invokevirtual 172, 3) := by decide +kernel
theorem dMo_nearest_30 : decode cMo_nearest 30 = .ok (.iconst (-1), 1) := by decide +kernel
theorem dMo_nearest_31 : decode cMo_nearest 31 = .ok (.istore_n 2, 1) := by decide +kernel
theorem dMo_nearest_32 : decode cMo_nearest 32 = .ok (.iconst 3, 1) := by decide +kernel
theorem dMo_nearest_33 : decode cMo_nearest 33 = .ok (.istore_n 3, 1) := by decide +kernel
theorem dMo_nearest_34 : decode cMo_nearest 34 = .ok (.iconst 0, 1) := by decide +kernel
theorem dMo_nearest_35 : decode cMo_nearest 35 = .ok (.istore 4, 2) := by decide +kernel
theorem dMo_nearest_37 : decode cMo_nearest 37 = .ok (.iload 4, 2) := by decide +kernel
theorem dMo_nearest_39 : decode cMo_nearest 39 = .ok (.aload_n 0, 1) := by decide +kernel
theorem dMo_nearest_40 : decode cMo_nearest 40 = .ok (.getfield 161, 3) := by decide +kernel
theorem dMo_nearest_43 : decode cMo_nearest 43 = .ok (.if_icmp .ge 40, 3) := by decide +kernel
theorem dMo_nearest_46 : decode cMo_nearest 46 = .ok (.aload_n 0, 1) := by decide +kernel
theorem dMo_nearest_47 : decode cMo_nearest 47 = .ok (.aload_n 0, 1) := by decide +kernel
theorem dMo_nearest_48 : decode cMo_nearest 48 = .ok (.getfield 31, 3) := by decide +kernel
theorem dMo_nearest_51 : decode cMo_nearest 51 = .ok (.iconst 0, 1) := by decide +kernel
theorem dMo_nearest_52 : decode cMo_nearest 52 = .ok (.laload, 1) := by decide +kernel
theorem dMo_nearest_53 : decode cMo_nearest 53 = .ok (.aload_n 0, 1) := by decide +kernel
theorem dMo_nearest_54 : decode cMo_nearest 54 = .ok (.getfield 52, 3) := by decide +kernel
theorem dMo_nearest_57 : decode cMo_nearest 57 = .ok (.iload 4, 2) := by decide +kernel
theorem dMo_nearest_59 : decode cMo_nearest 59 = .ok (.laload, 1) := by decide +kernel
theorem dMo_nearest_60 : decode cMo_nearest 60 = .ok (.invokevirtual 184, 3) := by decide +kernel
theorem dMo_nearest_63 : decode cMo_nearest 63 = .ok (.istore 5, 2) := by decide +kernel
theorem dMo_nearest_65 : decode cMo_nearest 65 = .ok (.iload 5, 2) := by decide +kernel
theorem dMo_nearest_67 : decode cMo_nearest 67 = .ok (.iload_n 3, 1) := by decide +kernel
theorem dMo_nearest_68 : decode cMo_nearest 68 = .ok (.if_icmp .ge 9, 3) := by decide +kernel
theorem dMo_nearest_71 : decode cMo_nearest 71 = .ok (.iload 5, 2) := by decide +kernel
theorem dMo_nearest_73 : decode cMo_nearest 73 = .ok (.istore_n 3, 1) := by decide +kernel
theorem dMo_nearest_74 : decode cMo_nearest 74 = .ok (.iload 4, 2) := by decide +kernel
theorem dMo_nearest_76 : decode cMo_nearest 76 = .ok (.istore_n 2, 1) := by decide +kernel
theorem dMo_nearest_77 : decode cMo_nearest 77 = .ok (.iinc 4 1, 3) := by decide +kernel
theorem dMo_nearest_80 : decode cMo_nearest 80 = .ok (.goto (-43), 3) := by decide +kernel
theorem dMo_nearest_83 : decode cMo_nearest 83 = .ok (.iload_n 2, 1) := by decide +kernel
theorem dMo_nearest_84 : decode cMo_nearest 84 = .ok (.ireturn, 1) := by decide +kernel
theorem dMo_stop_0 : decode cMo_stop 0 = .ok (.aload_n 0, 1) := by decide +kernel
theorem dMo_stop_1 : decode cMo_stop 1 = .ok (.iconst 0, 1) := by decide +kernel
theorem dMo_stop_2 : decode cMo_stop 2 = .ok (.putfield 58, 3) := by decide +kernel
theorem dMo_stop_5 : decode cMo_stop 5 = .ok (.aload_n 0, 1) := by decide +kernel
theorem dMo_stop_6 : decode cMo_stop 6 = .ok (.invokevirtual 125, 3) := by decide +kernel
theorem dMo_stop_9 : decode cMo_stop 9 = .ok (.iconst 0, 1) := by decide +kernel
theorem dMo_stop_10 : decode cMo_stop 10 = .ok (.istore_n 1, 1) := by decide +kernel
theorem dMo_stop_11 : decode cMo_stop 11 = .ok (.iload_n 1, 1) := by decide +kernel
theorem dMo_stop_12 : decode cMo_stop 12 = .ok (.aload_n 0, 1) := by decide +kernel
theorem dMo_stop_13 : decode cMo_stop 13 = .ok (.getfield 83, 3) := by decide +kernel
theorem dMo_stop_16 : decode cMo_stop 16 = .ok (.if_icmp .ge 56, 3) := by decide +kernel
theorem dMo_stop_19 : decode cMo_stop 19 = .ok (.aload_n 0, 1) := by decide +kernel
theorem dMo_stop_20 : decode cMo_stop 20 = .ok (.aload_n 0, 1) := by decide +kernel
theorem dMo_stop_21 : decode cMo_stop 21 = .ok (.getfield 31, 3) := by decide +kernel
theorem dMo_stop_24 : decode cMo_stop 24 = .ok (.iload_n 1, 1) := by decide +kernel
theorem dMo_stop_25 : decode cMo_stop 25 = .ok (.laload, 1) := by decide +kernel
theorem dMo_stop_26 : decode cMo_stop 26 = .ok (.invokevirtual 104, 3) := by decide +kernel
theorem dMo_stop_29 : decode cMo_stop 29 = .ok (.ifCond .ne 37, 3) := by decide +kernel
theorem dMo_stop_32 : decode cMo_stop 32 = .ok (.aload_n 0, 1) := by decide +kernel
theorem dMo_stop_33 : decode cMo_stop 33 = .ok (.getfield 101, 3) := by decide +kernel
theorem dMo_stop_36 : decode cMo_stop 36 = .ok (.bipush 40, 2) := by decide +kernel
theorem dMo_stop_38 : decode cMo_stop 38 = .ok (.if_icmp .ge 28, 3) := by decide +kernel
theorem dMo_stop_41 : decode cMo_stop 41 = .ok (.aload_n 0, 1) := by decide +kernel
theorem dMo_stop_42 : decode cMo_stop 42 = .ok (.getfield 24, 3) := by decide +kernel
theorem dMo_stop_45 : decode cMo_stop 45 = .ok (.aload_n 0, 1) := by decide +kernel
theorem dMo_stop_46 : decode cMo_stop 46 = .ok (.getfield 101, 3) := by decide +kernel
theorem dMo_stop_49 : decode cMo_stop 49 = .ok (.aload_n 0, 1) := by decide +kernel
theorem dMo_stop_50 : decode cMo_stop 50 = .ok (.getfield 31, 3) := by decide +kernel
theorem dMo_stop_53 : decode cMo_stop 53 = .ok (.iload_n 1, 1) := by decide +kernel
theorem dMo_stop_54 : decode cMo_stop 54 = .ok (.laload, 1) := by decide +kernel
theorem dMo_stop_55 : decode cMo_stop 55 = .ok (.lastore, 1) := by decide +kernel
theorem dMo_stop_56 : decode cMo_stop 56 = .ok (.aload_n 0, 1) := by decide +kernel
theorem dMo_stop_57 : decode cMo_stop 57 = .ok (.dup, 1) := by decide +kernel
theorem dMo_stop_58 : decode cMo_stop 58 = .ok (.getfield 101, 3) := by decide +kernel
theorem dMo_stop_61 : decode cMo_stop 61 = .ok (.iconst 1, 1) := by decide +kernel
theorem dMo_stop_62 : decode cMo_stop 62 = .ok (.iadd, 1) := by decide +kernel
theorem dMo_stop_63 : decode cMo_stop 63 = .ok (.putfield 101, 3) := by decide +kernel
theorem dMo_stop_66 : decode cMo_stop 66 = .ok (.iinc 1 1, 3) := by decide +kernel
theorem dMo_stop_69 : decode cMo_stop 69 = .ok (.goto (-58), 3) := by decide +kernel
theorem dMo_stop_72 : decode cMo_stop 72 = .ok (.aload_n 0, 1) := by decide +kernel
theorem dMo_stop_73 : decode cMo_stop 73 = .ok (.getfield 101, 3) := by decide +kernel
theorem dMo_stop_76 : decode cMo_stop 76 = .ok (.ireturn, 1) := by decide +kernel
theorem dMo_init_0 : decode cMo_init 0 = .ok (.aload_n 0, 1) := by decide +kernel
theorem dMo_init_1 : decode cMo_init 1 = .ok (.invokespecial 1, 3) := by decide +kernel
theorem dMo_init_4 : decode cMo_init 4 = .ok (.aload_n 0, 1) := by decide +kernel
theorem dMo_init_5 : decode cMo_init 5 = .ok (.bipush 31, 2) := by decide +kernel
theorem dMo_init_7 : decode cMo_init 7 = .ok (.newarray .boolean, 2) := by decide +kernel
theorem dMo_init_9 : decode cMo_init 9 = .ok (.putfield 7, 3) := by decide +kernel
theorem dMo_init_12 : decode cMo_init 12 = .ok (.aload_n 0, 1) := by decide +kernel
theorem dMo_init_13 : decode cMo_init 13 = .ok (.sipush 1500, 3) := by decide +kernel
theorem dMo_init_16 : decode cMo_init 16 = .ok (.newarray .byte, 2) := by decide +kernel
theorem dMo_init_18 : decode cMo_init 18 = .ok (.putfield 13, 3) := by decide +kernel
theorem dMo_init_21 : decode cMo_init 21 = .ok (.aload_n 0, 1) := by decide +kernel
theorem dMo_init_22 : decode cMo_init 22 = .ok (.sipush 1500, 3) := by decide +kernel
theorem dMo_init_25 : decode cMo_init 25 = .ok (.newarray .int, 2) := by decide +kernel
theorem dMo_init_27 : decode cMo_init 27 = .ok (.putfield 17, 3) := by decide +kernel
theorem dMo_init_30 : decode cMo_init 30 = .ok (.aload_n 0, 1) := by decide +kernel
theorem dMo_init_31 : decode cMo_init 31 = .ok (.iconst 4, 1) := by decide +kernel
theorem dMo_init_32 : decode cMo_init 32 = .ok (.newarray .int, 2) := by decide +kernel
theorem dMo_init_34 : decode cMo_init 34 = .ok (.putfield 21, 3) := by decide +kernel
theorem dMo_init_37 : decode cMo_init 37 = .ok (.aload_n 0, 1) := by decide +kernel
theorem dMo_init_38 : decode cMo_init 38 = .ok (.bipush 40, 2) := by decide +kernel
theorem dMo_init_40 : decode cMo_init 40 = .ok (.newarray .long, 2) := by decide +kernel
theorem dMo_init_42 : decode cMo_init 42 = .ok (.putfield 24, 3) := by decide +kernel
theorem dMo_init_45 : decode cMo_init 45 = .ok (.aload_n 0, 1) := by decide +kernel
theorem dMo_init_46 : decode cMo_init 46 = .ok (.bipush 100, 2) := by decide +kernel
theorem dMo_init_48 : decode cMo_init 48 = .ok (.newarray .byte, 2) := by decide +kernel
theorem dMo_init_50 : decode cMo_init 50 = .ok (.putfield 28, 3) := by decide +kernel
theorem dMo_init_53 : decode cMo_init 53 = .ok (.aload_n 0, 1) := by decide +kernel
theorem dMo_init_54 : decode cMo_init 54 = .ok (.bipush 60, 2) := by decide +kernel
theorem dMo_init_56 : decode cMo_init 56 = .ok (.newarray .long, 2) := by decide +kernel
theorem dMo_init_58 : decode cMo_init 58 = .ok (.putfield 31, 3) := by decide +kernel
theorem dMo_init_61 : decode cMo_init 61 = .ok (.aload_n 0, 1) := by decide +kernel
theorem dMo_init_62 : decode cMo_init 62 = .ok (.sipush 800, 3) := by decide +kernel
theorem dMo_init_65 : decode cMo_init 65 = .ok (.newarray .long, 2) := by decide +kernel
theorem dMo_init_67 : decode cMo_init 67 = .ok (.putfield 34, 3) := by decide +kernel
theorem dMo_init_70 : decode cMo_init 70 = .ok (.aload_n 0, 1) := by decide +kernel
theorem dMo_init_71 : decode cMo_init 71 = .ok (.sipush 800, 3) := by decide +kernel
theorem dMo_init_74 : decode cMo_init 74 = .ok (.newarray .long, 2) := by decide +kernel
theorem dMo_init_76 : decode cMo_init 76 = .ok (.putfield 37, 3) := by decide +kernel
theorem dMo_init_79 : decode cMo_init 79 = .ok (.aload_n 0, 1) := by decide +kernel
theorem dMo_init_80 : decode cMo_init 80 = .ok (.bipush 60, 2) := by decide +kernel
theorem dMo_init_82 : decode cMo_init 82 = .ok (.newarray .long, 2) := by decide +kernel
theorem dMo_init_84 : decode cMo_init 84 = .ok (.putfield 40, 3) := by decide +kernel
theorem dMo_init_87 : decode cMo_init 87 = .ok (.aload_n 0, 1) := by decide +kernel
theorem dMo_init_88 : decode cMo_init 88 = .ok (.bipush 30, 2) := by decide +kernel
theorem dMo_init_90 : decode cMo_init 90 = .ok (.newarray .int, 2) := by decide +kernel
theorem dMo_init_92 : decode cMo_init 92 = .ok (.putfield 43, 3) := by decide +kernel
theorem dMo_init_95 : decode cMo_init 95 = .ok (.aload_n 0, 1) := by decide +kernel
theorem dMo_init_96 : decode cMo_init 96 = .ok (.bipush 30, 2) := by decide +kernel
theorem dMo_init_98 : decode cMo_init 98 = .ok (.newarray .int, 2) := by decide +kernel
theorem dMo_init_100 : decode cMo_init 100 = .ok (.putfield 46, 3) := by decide +kernel
theorem dMo_init_103 : decode cMo_init 103 = .ok (.aload_n 0, 1) := by decide +kernel
theorem dMo_init_104 : decode cMo_init 104 = .ok (.bipush 30, 2) := by decide +kernel
theorem dMo_init_106 : decode cMo_init 106 = .ok (.newarray .int, 2) := by decide +kernel
theorem dMo_init_108 : decode cMo_init 108 = .ok (.putfield 49, 3) := by decide +kernel
theorem dMo_init_111 : decode cMo_init 111 = .ok (.aload_n 0, 1) := by decide +kernel
theorem dMo_init_112 : decode cMo_init 112 = .ok (.sipush 800, 3) := by decide +kernel
theorem dMo_init_115 : decode cMo_init 115 = .ok (.newarray .long, 2) := by decide +kernel
theorem dMo_init_117 : decode cMo_init 117 = .ok (.putfield 52, 3) := by decide +kernel
theorem dMo_init_120 : decode cMo_init 120 = .ok (.aload_n 0, 1) := by decide +kernel
theorem dMo_init_121 : decode cMo_init 121 = .ok (.sipush 169, 3) := by decide +kernel
theorem dMo_init_124 : decode cMo_init 124 = .ok (.newarray .int, 2) := by decide +kernel
theorem dMo_init_126 : decode cMo_init 126 = .ok (.putfield 55, 3) := by decide +kernel
theorem dMo_init_129 : decode cMo_init 129 = .ok (.return_, 1) := by decide +kernel
theorem mm_477 : (.code yMo_list cMo_list 4 none : Cond) ∈ hwG := hwIx 754 (by decide +kernel) (by decide +kernel)
theorem mm_478 : (.methodLink RMo 172 yMo_list : Cond) ∈ hwG := hwIx 751 (by decide +kernel) (by decide +kernel)
theorem mm_479 : (.instanceMethod yMo_list : Cond) ∈ hwG := hwIx 753 (by decide +kernel) (by decide +kernel)
theorem mm_480 : (.selects RMo yMo_list yMo_list : Cond) ∈ hwG := hwIx 28 (by decide +kernel) (by decide +kernel)
theorem mm_481 : (.code yMo_distance cMo_distance 10 (some .int) : Cond) ∈ hwG := hwIx 769 (by decide +kernel) (by decide +kernel)
theorem mm_482 : (.methodLink RMo 184 yMo_distance : Cond) ∈ hwG := hwIx 766 (by decide +kernel) (by decide +kernel)
theorem mm_483 : (.instanceMethod yMo_distance : Cond) ∈ hwG := hwIx 768 (by decide +kernel) (by decide +kernel)
theorem mm_484 : (.selects RMo yMo_distance yMo_distance : Cond) ∈ hwG := hwIx 30 (by decide +kernel) (by decide +kernel)
theorem mm_485 : (.methodLink RMo 1 objectInit : Cond) ∈ hwG := hwIx 554 (by decide +kernel) (by decide +kernel)
theorem mm_486 : (.arrayClass .boolean : Cond) ∈ hwG := hwIx 628 (by decide +kernel) (by decide +kernel)
theorem mm_487 : (.arrayClass .byte : Cond) ∈ hwG := hwIx 629 (by decide +kernel) (by decide +kernel)
set_option maxHeartbeats 4000000 in
set_option maxRecDepth 100000 in
theorem q_term (l : Launch) (D : va_G) (K : Nat → ClassId) (X : hwW) (sz : Nat) (a : Nat) (its : hwIt) (sg : List (Nat × Nat)) (lg : Nat → Nat) (st : List (List Nat)) (sd : List Nat) (hs : List (Nat × Nat × Nat)) (kk : Int32) (ii : Int32) (ll : Int32) (f0_ : moAt K X a its sg lg st sd hs) (okm : okM its sg lg st sd hs) : Met l yMo_term (.code yMo_term cMo_term 5 (some .int) :: hwG) ({ frames := 4, cells := 0, slots := 0, locals := 96 } : Room) (hwPc D vwCl (hwT K) [.ref a, .int kk, .int ii, .int ll] X sz) (hwQi D vwCl X sz (fun r Y => r = askI (fun j => termW (liN (Tf its lg st j) its.length) ii ll) kk ∧ hwF X Y (fun M => 1000 ≤ M ∧ M < 1100) ∧ moAt K Y a its sg lg st sd hs)) 0 0 (va_A X.1 sz) := by
  refine hwMeti (cc := cMo_term) (maxL := 5) (by decide) rfl (Nat.le_of_ble_eq_true rfl) (fun p e s m args below meth c ls A Q hx hb hml hown hts hname hret hK hO hZ hA hl => ?_)
  have hl : lv_has ls 5 [(0, .ref a), (1, .int kk), (2, .int ii), (3, .int ll)] := hl
  have hFr : hwF X X (fun M => 1000 ≤ M ∧ M < 1100) := hwF.rf
  obtain ⟨hni3, hsl, hsb, hlg, hsd, hh30, hB, htx⟩ := okm
  obtain ⟨r1, r2, r3, r4, r5, r6, r7, r8, r9, r10, r11, r12, r13, r14, r15, tz, na, nw, nt, ft, fg, fp, fl, fd, f1, f2, f3, qa, rw, rt, at_, tm, y, gx, g1, g2, g3, g4, g5, g6, g7, g8, g9, g10, g11, g12, g13, g14, g15, hft, hfg, hfp, hfl, hfd, hv1, hv2, hv3⟩ := f0_
  have hst40 := rwAt.len g5
  rcases kN_cases kk with hk | ⟨j, hj, rfl⟩
  · rcases nI_cases ii with hi0 | ⟨x, hx2, rfl⟩
    · rcases nI_cases ll with hk0 | ⟨yy, hy2, rfl⟩
      · refine lv_aload_n hx hb dMo_term_0 rfl (lv_at hl 0 rfl) ?_
        refine lv_iconst (v := nI 0) hx hb dMo_term_1 (by decide) ?_
        refine hw_put (ty := .int) (fs' := [.int (nI 0), .int (nI its.length), .ref r1, .int (nI sg.length), .ref r2, .ref r3, .ref r4, .ref r5, .int (nI st.length), .ref r6, .int (nI sd.length), .ref r7, .int (nI na), .ref r8, .ref r9, .ref r10, .int (nI nw), .int (nI hs.length), .ref r11, .ref r12, .ref r13, .ref r14, .int (nI nt), .ref r15]) hx hb hts (hwInn inMo) tyMo tyMo_ok nmMo hown hK hZ gx rfl 0 (by decide) (hts (.fieldLink RMo 58 RMo "thrown" "I") (hwMem mm_471)) (fun _ h => h) rfl (by decide +kernel) rfl rfl (Nat.le_of_ble_eq_true rfl) rfl dMo_term_2 (fun X_1 H_2 lc_3 hZ hF hNw => ?_)
        have hFr := hwF.tr hFr hF (fun _ h => h) (fun M h => by first | exact False.elim h | ((try dsimp only at h ⊢); omega))
        have gx := hNw
        have g1 := hF _ _ _ (by intro hNS; first | exact False.elim hNS | ((try dsimp only at hNS); omega)) g1
        have g2 := hF _ _ _ (by intro hNS; first | exact False.elim hNS | ((try dsimp only at hNS); omega)) g2
        have g3 := hF _ _ _ (by intro hNS; first | exact False.elim hNS | ((try dsimp only at hNS); omega)) g3
        have g4 := hF _ _ _ (by intro hNS; first | exact False.elim hNS | ((try dsimp only at hNS); omega)) g4
        have g5 := rwAt.fr hF (by intro hNS; first | exact False.elim hNS | ((try dsimp only at hNS); omega)) g5
        have g6 := hF _ _ _ (by intro hNS; first | exact False.elim hNS | ((try dsimp only at hNS); omega)) g6
        have g7 := rwAt.fr hF (by intro hNS; first | exact False.elim hNS | ((try dsimp only at hNS); omega)) g7
        have g8 := rwAt.fr hF (by intro hNS; first | exact False.elim hNS | ((try dsimp only at hNS); omega)) g8
        have g9 := rwAt.fr hF (by intro hNS; first | exact False.elim hNS | ((try dsimp only at hNS); omega)) g9
        have g10 := rwAt.fr hF (by intro hNS; first | exact False.elim hNS | ((try dsimp only at hNS); omega)) g10
        have g11 := hF _ _ _ (by intro hNS; first | exact False.elim hNS | ((try dsimp only at hNS); omega)) g11
        have g12 := hF _ _ _ (by intro hNS; first | exact False.elim hNS | ((try dsimp only at hNS); omega)) g12
        have g13 := hF _ _ _ (by intro hNS; first | exact False.elim hNS | ((try dsimp only at hNS); omega)) g13
        have g14 := rwAt.fr hF (by intro hNS; first | exact False.elim hNS | ((try dsimp only at hNS); omega)) g14
        have g15 := hF _ _ _ (by intro hNS; first | exact False.elim hNS | ((try dsimp only at hNS); omega)) g15
        refine lv_iload_n hx hb dMo_term_5 rfl (lv_at hl 1 rfl) ?_
        refine hw_calli (va_runS (As := [.int kk]) (rest := []) ⟨hx, hb, hml, hown, hts⟩ (m_isFieldB l D K X_1 H_2.size (kind := kk) (by assumption)) (va_cwS 1 hts (hwGood (hw_3 mm_442 mm_441 mm_365 (hwAll mm_440))) rfl rfl rfl (by decide +kernel) ⟨Nat.le_of_ble_eq_true rfl, Nat.le_of_ble_eq_true rfl⟩) (hw_preS hK hO hZ) rfl rfl hl.1 rfl (lv_room (Nat.le_of_ble_eq_true rfl)) dMo_term_6 ⟨(show 0 + 0 ≤ 0 by omega), (show 0 + 0 ≤ 0 by omega)⟩) hZ hA (fun r X_4 H_5 lc_6 hp hZ => ?_)
        obtain ⟨hr, hy⟩ := hp
        subst hy
        refine hw_topi hr ?_
        refine hw_bz_eqT (tgt := 20) hx hb dMo_term_9 (by decide) rfl ?_
        refine lv_iconst (v := (-1)) hx hb dMo_term_20 (by decide) ?_
        exact hret hZ ⟨by rw [askI_b (kN_bad hk)], hFr, ⟨_, _, _, _, _, _, _, _, _, _, _, _, _, _, _, _, _, _, _, _, _, _, _, _, _, _, _, _, _, _, _, _, _, gx, g1, g2, g3, g4, g5, g6, g7, g8, g9, g10, g11, g12, g13, g14, g15, hft, hfg, hfp, hfl, hfd, hv1, hv2, hv3⟩⟩ dMo_term_21
      · refine lv_aload_n hx hb dMo_term_0 rfl (lv_at hl 0 rfl) ?_
        refine lv_iconst (v := nI 0) hx hb dMo_term_1 (by decide) ?_
        refine hw_put (ty := .int) (fs' := [.int (nI 0), .int (nI its.length), .ref r1, .int (nI sg.length), .ref r2, .ref r3, .ref r4, .ref r5, .int (nI st.length), .ref r6, .int (nI sd.length), .ref r7, .int (nI na), .ref r8, .ref r9, .ref r10, .int (nI nw), .int (nI hs.length), .ref r11, .ref r12, .ref r13, .ref r14, .int (nI nt), .ref r15]) hx hb hts (hwInn inMo) tyMo tyMo_ok nmMo hown hK hZ gx rfl 0 (by decide) (hts (.fieldLink RMo 58 RMo "thrown" "I") (hwMem mm_471)) (fun _ h => h) rfl (by decide +kernel) rfl rfl (Nat.le_of_ble_eq_true rfl) rfl dMo_term_2 (fun X_8 H_9 lc_10 hZ hF hNw => ?_)
        have hFr := hwF.tr hFr hF (fun _ h => h) (fun M h => by first | exact False.elim h | ((try dsimp only at h ⊢); omega))
        have gx := hNw
        have g1 := hF _ _ _ (by intro hNS; first | exact False.elim hNS | ((try dsimp only at hNS); omega)) g1
        have g2 := hF _ _ _ (by intro hNS; first | exact False.elim hNS | ((try dsimp only at hNS); omega)) g2
        have g3 := hF _ _ _ (by intro hNS; first | exact False.elim hNS | ((try dsimp only at hNS); omega)) g3
        have g4 := hF _ _ _ (by intro hNS; first | exact False.elim hNS | ((try dsimp only at hNS); omega)) g4
        have g5 := rwAt.fr hF (by intro hNS; first | exact False.elim hNS | ((try dsimp only at hNS); omega)) g5
        have g6 := hF _ _ _ (by intro hNS; first | exact False.elim hNS | ((try dsimp only at hNS); omega)) g6
        have g7 := rwAt.fr hF (by intro hNS; first | exact False.elim hNS | ((try dsimp only at hNS); omega)) g7
        have g8 := rwAt.fr hF (by intro hNS; first | exact False.elim hNS | ((try dsimp only at hNS); omega)) g8
        have g9 := rwAt.fr hF (by intro hNS; first | exact False.elim hNS | ((try dsimp only at hNS); omega)) g9
        have g10 := rwAt.fr hF (by intro hNS; first | exact False.elim hNS | ((try dsimp only at hNS); omega)) g10
        have g11 := hF _ _ _ (by intro hNS; first | exact False.elim hNS | ((try dsimp only at hNS); omega)) g11
        have g12 := hF _ _ _ (by intro hNS; first | exact False.elim hNS | ((try dsimp only at hNS); omega)) g12
        have g13 := hF _ _ _ (by intro hNS; first | exact False.elim hNS | ((try dsimp only at hNS); omega)) g13
        have g14 := rwAt.fr hF (by intro hNS; first | exact False.elim hNS | ((try dsimp only at hNS); omega)) g14
        have g15 := hF _ _ _ (by intro hNS; first | exact False.elim hNS | ((try dsimp only at hNS); omega)) g15
        refine lv_iload_n hx hb dMo_term_5 rfl (lv_at hl 1 rfl) ?_
        refine hw_calli (va_runS (As := [.int kk]) (rest := []) ⟨hx, hb, hml, hown, hts⟩ (m_isFieldB l D K X_8 H_9.size (kind := kk) (by assumption)) (va_cwS 1 hts (hwGood (hw_3 mm_442 mm_441 mm_365 (hwAll mm_440))) rfl rfl rfl (by decide +kernel) ⟨Nat.le_of_ble_eq_true rfl, Nat.le_of_ble_eq_true rfl⟩) (hw_preS hK hO hZ) rfl rfl hl.1 rfl (lv_room (Nat.le_of_ble_eq_true rfl)) dMo_term_6 ⟨(show 0 + 0 ≤ 0 by omega), (show 0 + 0 ≤ 0 by omega)⟩) hZ hA (fun r X_11 H_12 lc_13 hp hZ => ?_)
        obtain ⟨hr, hy⟩ := hp
        subst hy
        refine hw_topi hr ?_
        refine hw_bz_eqT (tgt := 20) hx hb dMo_term_9 (by decide) rfl ?_
        refine lv_iconst (v := (-1)) hx hb dMo_term_20 (by decide) ?_
        exact hret hZ ⟨by rw [askI_b (kN_bad hk)], hFr, ⟨_, _, _, _, _, _, _, _, _, _, _, _, _, _, _, _, _, _, _, _, _, _, _, _, _, _, _, _, _, _, _, _, _, gx, g1, g2, g3, g4, g5, g6, g7, g8, g9, g10, g11, g12, g13, g14, g15, hft, hfg, hfp, hfl, hfd, hv1, hv2, hv3⟩⟩ dMo_term_21
    · rcases nI_cases ll with hk0 | ⟨yy, hy2, rfl⟩
      · refine lv_aload_n hx hb dMo_term_0 rfl (lv_at hl 0 rfl) ?_
        refine lv_iconst (v := nI 0) hx hb dMo_term_1 (by decide) ?_
        refine hw_put (ty := .int) (fs' := [.int (nI 0), .int (nI its.length), .ref r1, .int (nI sg.length), .ref r2, .ref r3, .ref r4, .ref r5, .int (nI st.length), .ref r6, .int (nI sd.length), .ref r7, .int (nI na), .ref r8, .ref r9, .ref r10, .int (nI nw), .int (nI hs.length), .ref r11, .ref r12, .ref r13, .ref r14, .int (nI nt), .ref r15]) hx hb hts (hwInn inMo) tyMo tyMo_ok nmMo hown hK hZ gx rfl 0 (by decide) (hts (.fieldLink RMo 58 RMo "thrown" "I") (hwMem mm_471)) (fun _ h => h) rfl (by decide +kernel) rfl rfl (Nat.le_of_ble_eq_true rfl) rfl dMo_term_2 (fun X_15 H_16 lc_17 hZ hF hNw => ?_)
        have hFr := hwF.tr hFr hF (fun _ h => h) (fun M h => by first | exact False.elim h | ((try dsimp only at h ⊢); omega))
        have gx := hNw
        have g1 := hF _ _ _ (by intro hNS; first | exact False.elim hNS | ((try dsimp only at hNS); omega)) g1
        have g2 := hF _ _ _ (by intro hNS; first | exact False.elim hNS | ((try dsimp only at hNS); omega)) g2
        have g3 := hF _ _ _ (by intro hNS; first | exact False.elim hNS | ((try dsimp only at hNS); omega)) g3
        have g4 := hF _ _ _ (by intro hNS; first | exact False.elim hNS | ((try dsimp only at hNS); omega)) g4
        have g5 := rwAt.fr hF (by intro hNS; first | exact False.elim hNS | ((try dsimp only at hNS); omega)) g5
        have g6 := hF _ _ _ (by intro hNS; first | exact False.elim hNS | ((try dsimp only at hNS); omega)) g6
        have g7 := rwAt.fr hF (by intro hNS; first | exact False.elim hNS | ((try dsimp only at hNS); omega)) g7
        have g8 := rwAt.fr hF (by intro hNS; first | exact False.elim hNS | ((try dsimp only at hNS); omega)) g8
        have g9 := rwAt.fr hF (by intro hNS; first | exact False.elim hNS | ((try dsimp only at hNS); omega)) g9
        have g10 := rwAt.fr hF (by intro hNS; first | exact False.elim hNS | ((try dsimp only at hNS); omega)) g10
        have g11 := hF _ _ _ (by intro hNS; first | exact False.elim hNS | ((try dsimp only at hNS); omega)) g11
        have g12 := hF _ _ _ (by intro hNS; first | exact False.elim hNS | ((try dsimp only at hNS); omega)) g12
        have g13 := hF _ _ _ (by intro hNS; first | exact False.elim hNS | ((try dsimp only at hNS); omega)) g13
        have g14 := rwAt.fr hF (by intro hNS; first | exact False.elim hNS | ((try dsimp only at hNS); omega)) g14
        have g15 := hF _ _ _ (by intro hNS; first | exact False.elim hNS | ((try dsimp only at hNS); omega)) g15
        refine lv_iload_n hx hb dMo_term_5 rfl (lv_at hl 1 rfl) ?_
        refine hw_calli (va_runS (As := [.int kk]) (rest := []) ⟨hx, hb, hml, hown, hts⟩ (m_isFieldB l D K X_15 H_16.size (kind := kk) (by assumption)) (va_cwS 1 hts (hwGood (hw_3 mm_442 mm_441 mm_365 (hwAll mm_440))) rfl rfl rfl (by decide +kernel) ⟨Nat.le_of_ble_eq_true rfl, Nat.le_of_ble_eq_true rfl⟩) (hw_preS hK hO hZ) rfl rfl hl.1 rfl (lv_room (Nat.le_of_ble_eq_true rfl)) dMo_term_6 ⟨(show 0 + 0 ≤ 0 by omega), (show 0 + 0 ≤ 0 by omega)⟩) hZ hA (fun r X_18 H_19 lc_20 hp hZ => ?_)
        obtain ⟨hr, hy⟩ := hp
        subst hy
        refine hw_topi hr ?_
        refine hw_bz_eqT (tgt := 20) hx hb dMo_term_9 (by decide) rfl ?_
        refine lv_iconst (v := (-1)) hx hb dMo_term_20 (by decide) ?_
        exact hret hZ ⟨by rw [askI_b (kN_bad hk)], hFr, ⟨_, _, _, _, _, _, _, _, _, _, _, _, _, _, _, _, _, _, _, _, _, _, _, _, _, _, _, _, _, _, _, _, _, gx, g1, g2, g3, g4, g5, g6, g7, g8, g9, g10, g11, g12, g13, g14, g15, hft, hfg, hfp, hfl, hfd, hv1, hv2, hv3⟩⟩ dMo_term_21
      · refine lv_aload_n hx hb dMo_term_0 rfl (lv_at hl 0 rfl) ?_
        refine lv_iconst (v := nI 0) hx hb dMo_term_1 (by decide) ?_
        refine hw_put (ty := .int) (fs' := [.int (nI 0), .int (nI its.length), .ref r1, .int (nI sg.length), .ref r2, .ref r3, .ref r4, .ref r5, .int (nI st.length), .ref r6, .int (nI sd.length), .ref r7, .int (nI na), .ref r8, .ref r9, .ref r10, .int (nI nw), .int (nI hs.length), .ref r11, .ref r12, .ref r13, .ref r14, .int (nI nt), .ref r15]) hx hb hts (hwInn inMo) tyMo tyMo_ok nmMo hown hK hZ gx rfl 0 (by decide) (hts (.fieldLink RMo 58 RMo "thrown" "I") (hwMem mm_471)) (fun _ h => h) rfl (by decide +kernel) rfl rfl (Nat.le_of_ble_eq_true rfl) rfl dMo_term_2 (fun X_22 H_23 lc_24 hZ hF hNw => ?_)
        have hFr := hwF.tr hFr hF (fun _ h => h) (fun M h => by first | exact False.elim h | ((try dsimp only at h ⊢); omega))
        have gx := hNw
        have g1 := hF _ _ _ (by intro hNS; first | exact False.elim hNS | ((try dsimp only at hNS); omega)) g1
        have g2 := hF _ _ _ (by intro hNS; first | exact False.elim hNS | ((try dsimp only at hNS); omega)) g2
        have g3 := hF _ _ _ (by intro hNS; first | exact False.elim hNS | ((try dsimp only at hNS); omega)) g3
        have g4 := hF _ _ _ (by intro hNS; first | exact False.elim hNS | ((try dsimp only at hNS); omega)) g4
        have g5 := rwAt.fr hF (by intro hNS; first | exact False.elim hNS | ((try dsimp only at hNS); omega)) g5
        have g6 := hF _ _ _ (by intro hNS; first | exact False.elim hNS | ((try dsimp only at hNS); omega)) g6
        have g7 := rwAt.fr hF (by intro hNS; first | exact False.elim hNS | ((try dsimp only at hNS); omega)) g7
        have g8 := rwAt.fr hF (by intro hNS; first | exact False.elim hNS | ((try dsimp only at hNS); omega)) g8
        have g9 := rwAt.fr hF (by intro hNS; first | exact False.elim hNS | ((try dsimp only at hNS); omega)) g9
        have g10 := rwAt.fr hF (by intro hNS; first | exact False.elim hNS | ((try dsimp only at hNS); omega)) g10
        have g11 := hF _ _ _ (by intro hNS; first | exact False.elim hNS | ((try dsimp only at hNS); omega)) g11
        have g12 := hF _ _ _ (by intro hNS; first | exact False.elim hNS | ((try dsimp only at hNS); omega)) g12
        have g13 := hF _ _ _ (by intro hNS; first | exact False.elim hNS | ((try dsimp only at hNS); omega)) g13
        have g14 := rwAt.fr hF (by intro hNS; first | exact False.elim hNS | ((try dsimp only at hNS); omega)) g14
        have g15 := hF _ _ _ (by intro hNS; first | exact False.elim hNS | ((try dsimp only at hNS); omega)) g15
        refine lv_iload_n hx hb dMo_term_5 rfl (lv_at hl 1 rfl) ?_
        refine hw_calli (va_runS (As := [.int kk]) (rest := []) ⟨hx, hb, hml, hown, hts⟩ (m_isFieldB l D K X_22 H_23.size (kind := kk) (by assumption)) (va_cwS 1 hts (hwGood (hw_3 mm_442 mm_441 mm_365 (hwAll mm_440))) rfl rfl rfl (by decide +kernel) ⟨Nat.le_of_ble_eq_true rfl, Nat.le_of_ble_eq_true rfl⟩) (hw_preS hK hO hZ) rfl rfl hl.1 rfl (lv_room (Nat.le_of_ble_eq_true rfl)) dMo_term_6 ⟨(show 0 + 0 ≤ 0 by omega), (show 0 + 0 ≤ 0 by omega)⟩) hZ hA (fun r X_25 H_26 lc_27 hp hZ => ?_)
        obtain ⟨hr, hy⟩ := hp
        subst hy
        refine hw_topi hr ?_
        refine hw_bz_eqT (tgt := 20) hx hb dMo_term_9 (by decide) rfl ?_
        refine lv_iconst (v := (-1)) hx hb dMo_term_20 (by decide) ?_
        exact hret hZ ⟨by rw [askI_b (kN_bad hk)], hFr, ⟨_, _, _, _, _, _, _, _, _, _, _, _, _, _, _, _, _, _, _, _, _, _, _, _, _, _, _, _, _, _, _, _, _, gx, g1, g2, g3, g4, g5, g6, g7, g8, g9, g10, g11, g12, g13, g14, g15, hft, hfg, hfp, hfl, hfd, hv1, hv2, hv3⟩⟩ dMo_term_21
  · rcases nI_cases ii with hi0 | ⟨x, hx2, rfl⟩
    · rcases nI_cases ll with hk0 | ⟨yy, hy2, rfl⟩
      · refine lv_aload_n hx hb dMo_term_0 rfl (lv_at hl 0 rfl) ?_
        refine lv_iconst (v := nI 0) hx hb dMo_term_1 (by decide) ?_
        refine hw_put (ty := .int) (fs' := [.int (nI 0), .int (nI its.length), .ref r1, .int (nI sg.length), .ref r2, .ref r3, .ref r4, .ref r5, .int (nI st.length), .ref r6, .int (nI sd.length), .ref r7, .int (nI na), .ref r8, .ref r9, .ref r10, .int (nI nw), .int (nI hs.length), .ref r11, .ref r12, .ref r13, .ref r14, .int (nI nt), .ref r15]) hx hb hts (hwInn inMo) tyMo tyMo_ok nmMo hown hK hZ gx rfl 0 (by decide) (hts (.fieldLink RMo 58 RMo "thrown" "I") (hwMem mm_471)) (fun _ h => h) rfl (by decide +kernel) rfl rfl (Nat.le_of_ble_eq_true rfl) rfl dMo_term_2 (fun X_29 H_30 lc_31 hZ hF hNw => ?_)
        have hFr := hwF.tr hFr hF (fun _ h => h) (fun M h => by first | exact False.elim h | ((try dsimp only at h ⊢); omega))
        have gx := hNw
        have g1 := hF _ _ _ (by intro hNS; first | exact False.elim hNS | ((try dsimp only at hNS); omega)) g1
        have g2 := hF _ _ _ (by intro hNS; first | exact False.elim hNS | ((try dsimp only at hNS); omega)) g2
        have g3 := hF _ _ _ (by intro hNS; first | exact False.elim hNS | ((try dsimp only at hNS); omega)) g3
        have g4 := hF _ _ _ (by intro hNS; first | exact False.elim hNS | ((try dsimp only at hNS); omega)) g4
        have g5 := rwAt.fr hF (by intro hNS; first | exact False.elim hNS | ((try dsimp only at hNS); omega)) g5
        have g6 := hF _ _ _ (by intro hNS; first | exact False.elim hNS | ((try dsimp only at hNS); omega)) g6
        have g7 := rwAt.fr hF (by intro hNS; first | exact False.elim hNS | ((try dsimp only at hNS); omega)) g7
        have g8 := rwAt.fr hF (by intro hNS; first | exact False.elim hNS | ((try dsimp only at hNS); omega)) g8
        have g9 := rwAt.fr hF (by intro hNS; first | exact False.elim hNS | ((try dsimp only at hNS); omega)) g9
        have g10 := rwAt.fr hF (by intro hNS; first | exact False.elim hNS | ((try dsimp only at hNS); omega)) g10
        have g11 := hF _ _ _ (by intro hNS; first | exact False.elim hNS | ((try dsimp only at hNS); omega)) g11
        have g12 := hF _ _ _ (by intro hNS; first | exact False.elim hNS | ((try dsimp only at hNS); omega)) g12
        have g13 := hF _ _ _ (by intro hNS; first | exact False.elim hNS | ((try dsimp only at hNS); omega)) g13
        have g14 := rwAt.fr hF (by intro hNS; first | exact False.elim hNS | ((try dsimp only at hNS); omega)) g14
        have g15 := hF _ _ _ (by intro hNS; first | exact False.elim hNS | ((try dsimp only at hNS); omega)) g15
        refine lv_iload_n hx hb dMo_term_5 rfl (lv_at hl 1 rfl) ?_
        refine hw_calli (va_runS (As := [.int (nI j)]) (rest := []) ⟨hx, hb, hml, hown, hts⟩ (m_isField l D K X_29 H_30.size (j := j) (by omega)) (va_cwS 1 hts (hwGood (hw_3 mm_442 mm_441 mm_365 (hwAll mm_440))) rfl rfl rfl (by decide +kernel) ⟨Nat.le_of_ble_eq_true rfl, Nat.le_of_ble_eq_true rfl⟩) (hw_preS hK hO hZ) rfl rfl hl.1 rfl (lv_room (Nat.le_of_ble_eq_true rfl)) dMo_term_6 ⟨(show 0 + 0 ≤ 0 by omega), (show 0 + 0 ≤ 0 by omega)⟩) hZ hA (fun r X_32 H_33 lc_34 hp hZ => ?_)
        obtain ⟨hr, hy⟩ := hp
        subst hy
        refine hw_topi hr ?_
        refine hw_bz_eqF (tgt := 20) hx hb dMo_term_9 (by decide) rfl ?_
        refine lv_iload_n hx hb dMo_term_12 rfl (lv_at hl 2 rfl) ?_
        refine lv_if_lt (tgt := 20) hx hb dMo_term_13 (by decide) (fun cq_36 => ?_) (fun cq_36 => absurd hi0 cq_36)
        refine lv_iconst (v := (-1)) hx hb dMo_term_20 (by decide) ?_
        exact hret hZ ⟨by rw [askI_g (kN_nI hj)]; exact (termW_e (Or.inl (lA_neg hi0))).symm, hFr, ⟨_, _, _, _, _, _, _, _, _, _, _, _, _, _, _, _, _, _, _, _, _, _, _, _, _, _, _, _, _, _, _, _, _, gx, g1, g2, g3, g4, g5, g6, g7, g8, g9, g10, g11, g12, g13, g14, g15, hft, hfg, hfp, hfl, hfd, hv1, hv2, hv3⟩⟩ dMo_term_21
      · refine lv_aload_n hx hb dMo_term_0 rfl (lv_at hl 0 rfl) ?_
        refine lv_iconst (v := nI 0) hx hb dMo_term_1 (by decide) ?_
        refine hw_put (ty := .int) (fs' := [.int (nI 0), .int (nI its.length), .ref r1, .int (nI sg.length), .ref r2, .ref r3, .ref r4, .ref r5, .int (nI st.length), .ref r6, .int (nI sd.length), .ref r7, .int (nI na), .ref r8, .ref r9, .ref r10, .int (nI nw), .int (nI hs.length), .ref r11, .ref r12, .ref r13, .ref r14, .int (nI nt), .ref r15]) hx hb hts (hwInn inMo) tyMo tyMo_ok nmMo hown hK hZ gx rfl 0 (by decide) (hts (.fieldLink RMo 58 RMo "thrown" "I") (hwMem mm_471)) (fun _ h => h) rfl (by decide +kernel) rfl rfl (Nat.le_of_ble_eq_true rfl) rfl dMo_term_2 (fun X_37 H_38 lc_39 hZ hF hNw => ?_)
        have hFr := hwF.tr hFr hF (fun _ h => h) (fun M h => by first | exact False.elim h | ((try dsimp only at h ⊢); omega))
        have gx := hNw
        have g1 := hF _ _ _ (by intro hNS; first | exact False.elim hNS | ((try dsimp only at hNS); omega)) g1
        have g2 := hF _ _ _ (by intro hNS; first | exact False.elim hNS | ((try dsimp only at hNS); omega)) g2
        have g3 := hF _ _ _ (by intro hNS; first | exact False.elim hNS | ((try dsimp only at hNS); omega)) g3
        have g4 := hF _ _ _ (by intro hNS; first | exact False.elim hNS | ((try dsimp only at hNS); omega)) g4
        have g5 := rwAt.fr hF (by intro hNS; first | exact False.elim hNS | ((try dsimp only at hNS); omega)) g5
        have g6 := hF _ _ _ (by intro hNS; first | exact False.elim hNS | ((try dsimp only at hNS); omega)) g6
        have g7 := rwAt.fr hF (by intro hNS; first | exact False.elim hNS | ((try dsimp only at hNS); omega)) g7
        have g8 := rwAt.fr hF (by intro hNS; first | exact False.elim hNS | ((try dsimp only at hNS); omega)) g8
        have g9 := rwAt.fr hF (by intro hNS; first | exact False.elim hNS | ((try dsimp only at hNS); omega)) g9
        have g10 := rwAt.fr hF (by intro hNS; first | exact False.elim hNS | ((try dsimp only at hNS); omega)) g10
        have g11 := hF _ _ _ (by intro hNS; first | exact False.elim hNS | ((try dsimp only at hNS); omega)) g11
        have g12 := hF _ _ _ (by intro hNS; first | exact False.elim hNS | ((try dsimp only at hNS); omega)) g12
        have g13 := hF _ _ _ (by intro hNS; first | exact False.elim hNS | ((try dsimp only at hNS); omega)) g13
        have g14 := rwAt.fr hF (by intro hNS; first | exact False.elim hNS | ((try dsimp only at hNS); omega)) g14
        have g15 := hF _ _ _ (by intro hNS; first | exact False.elim hNS | ((try dsimp only at hNS); omega)) g15
        refine lv_iload_n hx hb dMo_term_5 rfl (lv_at hl 1 rfl) ?_
        refine hw_calli (va_runS (As := [.int (nI j)]) (rest := []) ⟨hx, hb, hml, hown, hts⟩ (m_isField l D K X_37 H_38.size (j := j) (by omega)) (va_cwS 1 hts (hwGood (hw_3 mm_442 mm_441 mm_365 (hwAll mm_440))) rfl rfl rfl (by decide +kernel) ⟨Nat.le_of_ble_eq_true rfl, Nat.le_of_ble_eq_true rfl⟩) (hw_preS hK hO hZ) rfl rfl hl.1 rfl (lv_room (Nat.le_of_ble_eq_true rfl)) dMo_term_6 ⟨(show 0 + 0 ≤ 0 by omega), (show 0 + 0 ≤ 0 by omega)⟩) hZ hA (fun r X_40 H_41 lc_42 hp hZ => ?_)
        obtain ⟨hr, hy⟩ := hp
        subst hy
        refine hw_topi hr ?_
        refine hw_bz_eqF (tgt := 20) hx hb dMo_term_9 (by decide) rfl ?_
        refine lv_iload_n hx hb dMo_term_12 rfl (lv_at hl 2 rfl) ?_
        refine lv_if_lt (tgt := 20) hx hb dMo_term_13 (by decide) (fun cq_44 => ?_) (fun cq_44 => absurd hi0 cq_44)
        refine lv_iconst (v := (-1)) hx hb dMo_term_20 (by decide) ?_
        exact hret hZ ⟨by rw [askI_g (kN_nI hj)]; exact (termW_e (Or.inl (lA_neg hi0))).symm, hFr, ⟨_, _, _, _, _, _, _, _, _, _, _, _, _, _, _, _, _, _, _, _, _, _, _, _, _, _, _, _, _, _, _, _, _, gx, g1, g2, g3, g4, g5, g6, g7, g8, g9, g10, g11, g12, g13, g14, g15, hft, hfg, hfp, hfl, hfd, hv1, hv2, hv3⟩⟩ dMo_term_21
    · rcases nI_cases ll with hk0 | ⟨yy, hy2, rfl⟩
      · refine lv_aload_n hx hb dMo_term_0 rfl (lv_at hl 0 rfl) ?_
        refine lv_iconst (v := nI 0) hx hb dMo_term_1 (by decide) ?_
        refine hw_put (ty := .int) (fs' := [.int (nI 0), .int (nI its.length), .ref r1, .int (nI sg.length), .ref r2, .ref r3, .ref r4, .ref r5, .int (nI st.length), .ref r6, .int (nI sd.length), .ref r7, .int (nI na), .ref r8, .ref r9, .ref r10, .int (nI nw), .int (nI hs.length), .ref r11, .ref r12, .ref r13, .ref r14, .int (nI nt), .ref r15]) hx hb hts (hwInn inMo) tyMo tyMo_ok nmMo hown hK hZ gx rfl 0 (by decide) (hts (.fieldLink RMo 58 RMo "thrown" "I") (hwMem mm_471)) (fun _ h => h) rfl (by decide +kernel) rfl rfl (Nat.le_of_ble_eq_true rfl) rfl dMo_term_2 (fun X_45 H_46 lc_47 hZ hF hNw => ?_)
        have hFr := hwF.tr hFr hF (fun _ h => h) (fun M h => by first | exact False.elim h | ((try dsimp only at h ⊢); omega))
        have gx := hNw
        have g1 := hF _ _ _ (by intro hNS; first | exact False.elim hNS | ((try dsimp only at hNS); omega)) g1
        have g2 := hF _ _ _ (by intro hNS; first | exact False.elim hNS | ((try dsimp only at hNS); omega)) g2
        have g3 := hF _ _ _ (by intro hNS; first | exact False.elim hNS | ((try dsimp only at hNS); omega)) g3
        have g4 := hF _ _ _ (by intro hNS; first | exact False.elim hNS | ((try dsimp only at hNS); omega)) g4
        have g5 := rwAt.fr hF (by intro hNS; first | exact False.elim hNS | ((try dsimp only at hNS); omega)) g5
        have g6 := hF _ _ _ (by intro hNS; first | exact False.elim hNS | ((try dsimp only at hNS); omega)) g6
        have g7 := rwAt.fr hF (by intro hNS; first | exact False.elim hNS | ((try dsimp only at hNS); omega)) g7
        have g8 := rwAt.fr hF (by intro hNS; first | exact False.elim hNS | ((try dsimp only at hNS); omega)) g8
        have g9 := rwAt.fr hF (by intro hNS; first | exact False.elim hNS | ((try dsimp only at hNS); omega)) g9
        have g10 := rwAt.fr hF (by intro hNS; first | exact False.elim hNS | ((try dsimp only at hNS); omega)) g10
        have g11 := hF _ _ _ (by intro hNS; first | exact False.elim hNS | ((try dsimp only at hNS); omega)) g11
        have g12 := hF _ _ _ (by intro hNS; first | exact False.elim hNS | ((try dsimp only at hNS); omega)) g12
        have g13 := hF _ _ _ (by intro hNS; first | exact False.elim hNS | ((try dsimp only at hNS); omega)) g13
        have g14 := rwAt.fr hF (by intro hNS; first | exact False.elim hNS | ((try dsimp only at hNS); omega)) g14
        have g15 := hF _ _ _ (by intro hNS; first | exact False.elim hNS | ((try dsimp only at hNS); omega)) g15
        refine lv_iload_n hx hb dMo_term_5 rfl (lv_at hl 1 rfl) ?_
        refine hw_calli (va_runS (As := [.int (nI j)]) (rest := []) ⟨hx, hb, hml, hown, hts⟩ (m_isField l D K X_45 H_46.size (j := j) (by omega)) (va_cwS 1 hts (hwGood (hw_3 mm_442 mm_441 mm_365 (hwAll mm_440))) rfl rfl rfl (by decide +kernel) ⟨Nat.le_of_ble_eq_true rfl, Nat.le_of_ble_eq_true rfl⟩) (hw_preS hK hO hZ) rfl rfl hl.1 rfl (lv_room (Nat.le_of_ble_eq_true rfl)) dMo_term_6 ⟨(show 0 + 0 ≤ 0 by omega), (show 0 + 0 ≤ 0 by omega)⟩) hZ hA (fun r X_48 H_49 lc_50 hp hZ => ?_)
        obtain ⟨hr, hy⟩ := hp
        subst hy
        refine hw_topi hr ?_
        refine hw_bz_eqF (tgt := 20) hx hb dMo_term_9 (by decide) rfl ?_
        refine lv_iload_n hx hb dMo_term_12 rfl (lv_at hl 2 rfl) ?_
        refine hw_if_lt (a := x) (tgt := 20) hx hb dMo_term_13 (by decide) (by omega) (fun cq_52 => by exfalso; omega) (fun cq_52 => ?_)
        refine lv_iload_n hx hb dMo_term_16 rfl (lv_at hl 3 rfl) ?_
        refine lv_if_ge (tgt := 22) hx hb dMo_term_17 (by decide) (fun cq_53 => absurd cq_53 (hw_nle hk0)) (fun cq_53 => ?_)
        refine lv_iconst (v := (-1)) hx hb dMo_term_20 (by decide) ?_
        exact hret hZ ⟨by rw [askI_g (kN_nI hj)]; exact (termW_e (Or.inr hk0)).symm, hFr, ⟨_, _, _, _, _, _, _, _, _, _, _, _, _, _, _, _, _, _, _, _, _, _, _, _, _, _, _, _, _, _, _, _, _, gx, g1, g2, g3, g4, g5, g6, g7, g8, g9, g10, g11, g12, g13, g14, g15, hft, hfg, hfp, hfl, hfd, hv1, hv2, hv3⟩⟩ dMo_term_21
      · refine lv_aload_n hx hb dMo_term_0 rfl (lv_at hl 0 rfl) ?_
        refine lv_iconst (v := nI 0) hx hb dMo_term_1 (by decide) ?_
        refine hw_put (ty := .int) (fs' := [.int (nI 0), .int (nI its.length), .ref r1, .int (nI sg.length), .ref r2, .ref r3, .ref r4, .ref r5, .int (nI st.length), .ref r6, .int (nI sd.length), .ref r7, .int (nI na), .ref r8, .ref r9, .ref r10, .int (nI nw), .int (nI hs.length), .ref r11, .ref r12, .ref r13, .ref r14, .int (nI nt), .ref r15]) hx hb hts (hwInn inMo) tyMo tyMo_ok nmMo hown hK hZ gx rfl 0 (by decide) (hts (.fieldLink RMo 58 RMo "thrown" "I") (hwMem mm_471)) (fun _ h => h) rfl (by decide +kernel) rfl rfl (Nat.le_of_ble_eq_true rfl) rfl dMo_term_2 (fun X_54 H_55 lc_56 hZ hF hNw => ?_)
        have hFr := hwF.tr hFr hF (fun _ h => h) (fun M h => by first | exact False.elim h | ((try dsimp only at h ⊢); omega))
        have gx := hNw
        have g1 := hF _ _ _ (by intro hNS; first | exact False.elim hNS | ((try dsimp only at hNS); omega)) g1
        have g2 := hF _ _ _ (by intro hNS; first | exact False.elim hNS | ((try dsimp only at hNS); omega)) g2
        have g3 := hF _ _ _ (by intro hNS; first | exact False.elim hNS | ((try dsimp only at hNS); omega)) g3
        have g4 := hF _ _ _ (by intro hNS; first | exact False.elim hNS | ((try dsimp only at hNS); omega)) g4
        have g5 := rwAt.fr hF (by intro hNS; first | exact False.elim hNS | ((try dsimp only at hNS); omega)) g5
        have g6 := hF _ _ _ (by intro hNS; first | exact False.elim hNS | ((try dsimp only at hNS); omega)) g6
        have g7 := rwAt.fr hF (by intro hNS; first | exact False.elim hNS | ((try dsimp only at hNS); omega)) g7
        have g8 := rwAt.fr hF (by intro hNS; first | exact False.elim hNS | ((try dsimp only at hNS); omega)) g8
        have g9 := rwAt.fr hF (by intro hNS; first | exact False.elim hNS | ((try dsimp only at hNS); omega)) g9
        have g10 := rwAt.fr hF (by intro hNS; first | exact False.elim hNS | ((try dsimp only at hNS); omega)) g10
        have g11 := hF _ _ _ (by intro hNS; first | exact False.elim hNS | ((try dsimp only at hNS); omega)) g11
        have g12 := hF _ _ _ (by intro hNS; first | exact False.elim hNS | ((try dsimp only at hNS); omega)) g12
        have g13 := hF _ _ _ (by intro hNS; first | exact False.elim hNS | ((try dsimp only at hNS); omega)) g13
        have g14 := rwAt.fr hF (by intro hNS; first | exact False.elim hNS | ((try dsimp only at hNS); omega)) g14
        have g15 := hF _ _ _ (by intro hNS; first | exact False.elim hNS | ((try dsimp only at hNS); omega)) g15
        refine lv_iload_n hx hb dMo_term_5 rfl (lv_at hl 1 rfl) ?_
        refine hw_calli (va_runS (As := [.int (nI j)]) (rest := []) ⟨hx, hb, hml, hown, hts⟩ (m_isField l D K X_54 H_55.size (j := j) (by omega)) (va_cwS 1 hts (hwGood (hw_3 mm_442 mm_441 mm_365 (hwAll mm_440))) rfl rfl rfl (by decide +kernel) ⟨Nat.le_of_ble_eq_true rfl, Nat.le_of_ble_eq_true rfl⟩) (hw_preS hK hO hZ) rfl rfl hl.1 rfl (lv_room (Nat.le_of_ble_eq_true rfl)) dMo_term_6 ⟨(show 0 + 0 ≤ 0 by omega), (show 0 + 0 ≤ 0 by omega)⟩) hZ hA (fun r X_57 H_58 lc_59 hp hZ => ?_)
        obtain ⟨hr, hy⟩ := hp
        subst hy
        refine hw_topi hr ?_
        refine hw_bz_eqF (tgt := 20) hx hb dMo_term_9 (by decide) rfl ?_
        refine lv_iload_n hx hb dMo_term_12 rfl (lv_at hl 2 rfl) ?_
        refine hw_if_lt (a := x) (tgt := 20) hx hb dMo_term_13 (by decide) (by omega) (fun cq_61 => by exfalso; omega) (fun cq_61 => ?_)
        refine lv_iload_n hx hb dMo_term_16 rfl (lv_at hl 3 rfl) ?_
        refine hw_if_ge (a := yy) (tgt := 22) hx hb dMo_term_17 (by decide) (by omega) (fun cq_62 => ?_) (fun cq_62 => by exfalso; omega)
        refine lv_aload_n hx hb dMo_term_22 rfl (lv_at hl 0 rfl) ?_
        refine lv_iload_n hx hb dMo_term_23 rfl (lv_at hl 1 rfl) ?_
        refine hw_callv (va_runV (As := [.int (nI j)]) (rest := []) ⟨hx, hb, hml, hown, hts⟩ (m_list l D K X_54 H_58.size (a := a) (r1 := r1) (r2 := r2) (r3 := r3) (r4 := r4) (r5 := r5) (r6 := r6) (r7 := r7) (r8 := r8) (r9 := r9) (r10 := r10) (r11 := r11) (r12 := r12) (r13 := r13) (r14 := r14) (r15 := r15) (tz := 0) (nr := its.length) (ng := sg.length) (ns := st.length) (nz := sd.length) (na := na) (nw := nw) (nh := hs.length) (nt := nt) (ft := ft) (fg := fg) (fp := fp) (fl := fl) (st := st) (rw0 := rw) (rt0 := rt) (tm0 := tm) (sg := sg) (its := its) (lg := lg) (j := j) gx g1 g2 g3 g4 g5 g8 g9 g14 (by omega) (by omega) (by omega) (by assumption) (by assumption) (by assumption) (by omega) (by omega) (by assumption) (by assumption) (by omega) (by assumption) (by assumption) (hbd_of htx hj hsl)) (cwV 1 hts (hwGood (hw_4 mm_478 mm_479 mm_480 mm_365 (hwAll mm_477))) rfl rfl rfl (by decide +kernel) ⟨Nat.le_of_ble_eq_true rfl, Nat.le_of_ble_eq_true rfl⟩) (hw_preV hK hO hZ (⟨_, _, gx⟩) rfl) rfl rfl hl.1 rfl (lv_room (Nat.le_of_ble_eq_true rfl)) dMo_term_24 ⟨(show 0 + 0 ≤ 0 by omega), (show 0 + 0 ≤ 0 by omega)⟩) hZ hA (fun X_63 H_64 lc_65 hp hZ => ?_)
        obtain ⟨rwz_66, rtz_67, nwz_68, hF, hN_69, hN_70, hN_71, hN_72⟩ := hp
        have hFr := hwF.tr hFr hF (fun _ h => h) (fun M h => by first | exact False.elim h | ((try dsimp only at h ⊢); omega))
        have g1 := hF _ _ _ (by intro hNS; first | exact False.elim hNS | ((try dsimp only at hNS); omega)) g1
        have g2 := hF _ _ _ (by intro hNS; first | exact False.elim hNS | ((try dsimp only at hNS); omega)) g2
        have g3 := hF _ _ _ (by intro hNS; first | exact False.elim hNS | ((try dsimp only at hNS); omega)) g3
        have g4 := hF _ _ _ (by intro hNS; first | exact False.elim hNS | ((try dsimp only at hNS); omega)) g4
        have g5 := rwAt.fr hF (by intro hNS; first | exact False.elim hNS | ((try dsimp only at hNS); omega)) g5
        have g6 := hF _ _ _ (by intro hNS; first | exact False.elim hNS | ((try dsimp only at hNS); omega)) g6
        have g7 := rwAt.fr hF (by intro hNS; first | exact False.elim hNS | ((try dsimp only at hNS); omega)) g7
        have g10 := rwAt.fr hF (by intro hNS; first | exact False.elim hNS | ((try dsimp only at hNS); omega)) g10
        have g11 := hF _ _ _ (by intro hNS; first | exact False.elim hNS | ((try dsimp only at hNS); omega)) g11
        have g12 := hF _ _ _ (by intro hNS; first | exact False.elim hNS | ((try dsimp only at hNS); omega)) g12
        have g13 := hF _ _ _ (by intro hNS; first | exact False.elim hNS | ((try dsimp only at hNS); omega)) g13
        have g15 := hF _ _ _ (by intro hNS; first | exact False.elim hNS | ((try dsimp only at hNS); omega)) g15
        have ff_73 := hN_69
        have ff_74 := hN_70
        have ff_75 := hN_71
        have ff_76 := hN_72
        have hLl := rwAt.len ff_76
        refine lv_iload_n hx hb dMo_term_27 rfl (lv_at hl 2 rfl) ?_
        refine lv_aload_n hx hb dMo_term_28 rfl (lv_at hl 0 rfl) ?_
        refine hw_get hx hb hts (hwInn inMo) hown hK hZ ff_73 rfl 22 (by decide) (hts (.fieldLink RMo 161 RMo "termCount" "I") (hwMem mm_413)) (fun _ h => h) rfl dMo_term_29 ?_
        refine hw_ic_lt (a := x) (b := (liN (Tf its lg st j) its.length).length) (tgt := 37) hx hb dMo_term_32 (by decide) (by omega) (by omega) (fun cq_77 => ?_) (fun cq_77 => ?_)
        · obtain ⟨f14, gc14, hN14, hv14, hk14⟩ := ff_76
          have ff_76 : rwAt K X_63 r14 1014 800 (liN (Tf its lg st j) its.length) := ⟨f14, gc14, hN14, hv14, hk14⟩
          have hL2 := fun j => okWs.at hk14 j
          refine lv_aload_n hx hb dMo_term_37 rfl (lv_at hl 0 rfl) ?_
          refine hw_get hx hb hts (hwInn inMo) hown hK hZ ff_73 rfl 21 (by decide) (hts (.fieldLink RMo 52 RMo "terms" "[J") (hwMem mm_414)) (fun _ h => h) rfl dMo_term_38 ?_
          refine lv_iload_n hx hb dMo_term_41 rfl (lv_at hl 2 rfl) ?_
          refine hw_lald hx hb hK hZ 1 gc14 rfl (j := x) (by omega) (by omega) dMo_term_42 ?_
          refine hw_topl (hv14 x (by omega)) ?_
          refine hw_calli (va_runS (As := [.long (lN (rW ((liN (Tf its lg st j) its.length).getD x [])))]) (rest := []) ⟨hx, hb, hml, hown, hts⟩ (m_length l D K X_63 H_64.size (w := ((liN (Tf its lg st j) its.length).getD x [])) (hL2 x)) (va_cwS 1 hts (hwGood (hw_3 mm_364 mm_363 mm_365 (hwAll mm_362))) rfl rfl rfl (by decide +kernel) ⟨Nat.le_of_ble_eq_true rfl, Nat.le_of_ble_eq_true rfl⟩) (hw_preS hK hO hZ) rfl rfl hl.1 rfl (lv_room (Nat.le_of_ble_eq_true rfl)) dMo_term_43 ⟨(show 0 + 0 ≤ 0 by omega), (show 0 + 0 ≤ 0 by omega)⟩) hZ hA (fun r X_78 H_79 lc_80 hp hZ => ?_)
          obtain ⟨hr, hy, xx_81⟩ := hp
          subst hy
          refine hw_topi hr ?_
          refine lv_istore (lv' := [(4, .int (nI (((liN (Tf its lg st j) its.length).getD x []).length))), (0, .ref a), (1, .int (nI j)), (2, .int (nI x)), (3, .int (nI yy))]) hx hb dMo_term_46 hl (by decide) rfl (fun ls hl => ?_)
          refine lv_iload_n hx hb dMo_term_48 rfl (lv_at hl 4 rfl) ?_
          refine lv_iload hx hb dMo_term_49 (lv_at hl 0 rfl) ?_
          refine hw_ic_lt (a := yy) (b := ((liN (Tf its lg st j) its.length).getD x []).length) (tgt := 58) hx hb dMo_term_51 (by decide) (by omega) (by omega) (fun cq_82 => ?_) (fun cq_82 => ?_)
          · refine lv_bipush (v := nI 96) hx hb dMo_term_58 (by decide) ?_
            refine lv_aload_n hx hb dMo_term_60 rfl (lv_at hl 1 rfl) ?_
            refine hw_get hx hb hts (hwInn inMo) hown hK hZ ff_73 rfl 21 (by decide) (hts (.fieldLink RMo 52 RMo "terms" "[J") (hwMem mm_414)) (fun _ h => h) rfl dMo_term_61 ?_
            refine lv_iload_n hx hb dMo_term_64 rfl (lv_at hl 3 rfl) ?_
            refine hw_lald hx hb hK hZ 1 gc14 rfl (j := x) (by omega) (by omega) dMo_term_65 ?_
            refine hw_topl (hv14 x (by omega)) ?_
            refine lv_iconst (v := nI 5) hx hb dMo_term_66 (by decide) ?_
            refine lv_iload hx hb dMo_term_67 (lv_at hl 0 rfl) ?_
            refine lv_iconst (v := nI 1) hx hb dMo_term_69 (by decide) ?_
            refine lv_isub hx hb dMo_term_70 ?_
            refine hw_topi (pk_sub (a := ((liN (Tf its lg st j) its.length).getD x []).length) (b := 1) (by omega)) ?_
            refine lv_iload_n hx hb dMo_term_71 rfl (lv_at hl 4 rfl) ?_
            refine lv_isub hx hb dMo_term_72 ?_
            refine hw_topi (pk_sub (a := ((liN (Tf its lg st j) its.length).getD x []).length - 1) (b := yy) (by omega)) ?_
            refine lv_imul hx hb dMo_term_73 ?_
            refine hw_topi (pk_mul 5 (((liN (Tf its lg st j) its.length).getD x []).length - 1 - yy)) ?_
            refine lv_lshr hx hb dMo_term_74 (hw_lshr (n := rW ((liN (Tf its lg st j) its.length).getD x [])) (k := 5 * (((liN (Tf its lg st j) its.length).getD x []).length - 1 - yy)) (by first | exact rW_lt62 (hL2 x) | exact rW_lt62 (by assumption) | omega) (by omega)) ?_
            refine lv_ldc2 (v := lN 31) hx hb hown (hts (.constantLong RMo 75 31) (hwMem mm_361)) dMo_term_75 ?_
            refine lv_land hx hb dMo_term_78 ?_
            refine hw_topl (hw_lmask ((rW ((liN (Tf its lg st j) its.length).getD x [])) / 2 ^ (5 * (((liN (Tf its lg st j) its.length).getD x []).length - 1 - yy))) 5 rfl (by decide)) ?_
            refine lv_l2i hx hb dMo_term_79 (lN_i (((rW ((liN (Tf its lg st j) its.length).getD x [])) / 2 ^ (5 * (((liN (Tf its lg st j) its.length).getD x []).length - 1 - yy))) % 32)) ?_
            refine lv_iadd hx hb dMo_term_80 ?_
            refine hw_topi (nI_add 96 (((rW ((liN (Tf its lg st j) its.length).getD x [])) / 2 ^ (5 * (((liN (Tf its lg st j) its.length).getD x []).length - 1 - yy))) % 32)) ?_
            exact hret hZ ⟨by rw [askI_g (kN_nI hj)]; exact (term_in hx2 hy2 (by omega) (liN_ne _) (hL2 x) (by omega)).symm, hFr, ⟨_, _, _, _, _, _, _, _, _, _, _, _, _, _, _, _, _, _, _, _, _, _, _, _, _, _, _, _, _, _, _, _, _, ff_73, g1, g2, g3, g4, g5, g6, g7, ff_74, ff_75, g10, g11, g12, g13, ff_76, g15, hft, hfg, hfp, hfl, hfd, hv1, hv2, hv3⟩⟩ dMo_term_81
          · refine lv_iconst (v := nI 0) hx hb dMo_term_54 (by decide) ?_
            refine lv_goto (tgt := 81) hx hb dMo_term_55 (by decide) ?_
            exact hret hZ ⟨by rw [askI_g (kN_nI hj)]; exact (term_out hx2 hy2 (by omega) (liN_ne _) (by omega)).symm, hFr, ⟨_, _, _, _, _, _, _, _, _, _, _, _, _, _, _, _, _, _, _, _, _, _, _, _, _, _, _, _, _, _, _, _, _, ff_73, g1, g2, g3, g4, g5, g6, g7, ff_74, ff_75, g10, g11, g12, g13, ff_76, g15, hft, hfg, hfp, hfl, hfd, hv1, hv2, hv3⟩⟩ dMo_term_81
        · refine lv_iconst (v := (-1)) hx hb dMo_term_35 (by decide) ?_
          exact hret hZ ⟨by rw [askI_g (kN_nI hj)]; exact (termW_e (Or.inl ((lA_nI hx2).trans (getD_big (by omega))))).symm, hFr, ⟨_, _, _, _, _, _, _, _, _, _, _, _, _, _, _, _, _, _, _, _, _, _, _, _, _, _, _, _, _, _, _, _, _, ff_73, g1, g2, g3, g4, g5, g6, g7, ff_74, ff_75, g10, g11, g12, g13, ff_76, g15, hft, hfg, hfp, hfl, hfd, hv1, hv2, hv3⟩⟩ dMo_term_36
set_option maxHeartbeats 4000000 in
set_option maxRecDepth 100000 in
theorem q_nearest (l : Launch) (D : va_G) (K : Nat → ClassId) (X : hwW) (sz : Nat) (a : Nat) (its : hwIt) (sg : List (Nat × Nat)) (lg : Nat → Nat) (st : List (List Nat)) (sd : List Nat) (hs : List (Nat × Nat × Nat)) (kk : Int32) (f0_ : moAt K X a its sg lg st sd hs) (okm : okM its sg lg st sd hs) : Met l yMo_nearest (.code yMo_nearest cMo_nearest 6 (some .int) :: hwG) ({ frames := 4, cells := 0, slots := 0, locals := 96 } : Room) (hwPc D vwCl (hwT K) [.ref a, .int kk] X sz) (hwQi D vwCl X sz (fun r Y => r = (if ((tkF sd).1.getD 0 []) = [] then -1 else askI (fun j => (nrN ((tkF sd).1.getD 0 []) (liN (Tf its lg st j) its.length) (liN (Tf its lg st j) its.length).length).2) kk) ∧ hwF X Y (fun M => 1000 ≤ M ∧ M < 1100) ∧ moAt K Y a its sg lg st [] hs)) 0 0 (va_A X.1 sz) := by
  refine hwMeti (cc := cMo_nearest) (maxL := 6) (by decide) rfl (Nat.le_of_ble_eq_true rfl) (fun p e s m args below meth c ls A Q hx hb hml hown hts hname hret hK hO hZ hA hl => ?_)
  have hl : lv_has ls 6 [(0, .ref a), (1, .int kk)] := hl
  have hFr : hwF X X (fun M => 1000 ≤ M ∧ M < 1100) := hwF.rf
  obtain ⟨hni3, hsl, hsb, hlg, hsd, hh30, hB, htx⟩ := okm
  obtain ⟨r1, r2, r3, r4, r5, r6, r7, r8, r9, r10, r11, r12, r13, r14, r15, tz, na, nw, nt, ft, fg, fp, fl, fd, f1, f2, f3, qa, rw, rt, at_, tm, y, gx, g1, g2, g3, g4, g5, g6, g7, g8, g9, g10, g11, g12, g13, g14, g15, hft, hfg, hfp, hfl, hfd, hv1, hv2, hv3⟩ := f0_
  have hst40 := rwAt.len g5
  rcases kN_cases kk with hk | ⟨j, hj, rfl⟩
  · refine lv_aload_n hx hb dMo_nearest_0 rfl (lv_at hl 0 rfl) ?_
    refine lv_iconst (v := nI 0) hx hb dMo_nearest_1 (by decide) ?_
    refine hw_put (ty := .int) (fs' := [.int (nI 0), .int (nI its.length), .ref r1, .int (nI sg.length), .ref r2, .ref r3, .ref r4, .ref r5, .int (nI st.length), .ref r6, .int (nI sd.length), .ref r7, .int (nI na), .ref r8, .ref r9, .ref r10, .int (nI nw), .int (nI hs.length), .ref r11, .ref r12, .ref r13, .ref r14, .int (nI nt), .ref r15]) hx hb hts (hwInn inMo) tyMo tyMo_ok nmMo hown hK hZ gx rfl 0 (by decide) (hts (.fieldLink RMo 58 RMo "thrown" "I") (hwMem mm_471)) (fun _ h => h) rfl (by decide +kernel) rfl rfl (Nat.le_of_ble_eq_true rfl) rfl dMo_nearest_2 (fun X_1 H_2 lc_3 hZ hF hNw => ?_)
    have hFr := hwF.tr hFr hF (fun _ h => h) (fun M h => by first | exact False.elim h | ((try dsimp only at h ⊢); omega))
    have gx := hNw
    have g1 := hF _ _ _ (by intro hNS; first | exact False.elim hNS | ((try dsimp only at hNS); omega)) g1
    have g2 := hF _ _ _ (by intro hNS; first | exact False.elim hNS | ((try dsimp only at hNS); omega)) g2
    have g3 := hF _ _ _ (by intro hNS; first | exact False.elim hNS | ((try dsimp only at hNS); omega)) g3
    have g4 := hF _ _ _ (by intro hNS; first | exact False.elim hNS | ((try dsimp only at hNS); omega)) g4
    have g5 := rwAt.fr hF (by intro hNS; first | exact False.elim hNS | ((try dsimp only at hNS); omega)) g5
    have g6 := hF _ _ _ (by intro hNS; first | exact False.elim hNS | ((try dsimp only at hNS); omega)) g6
    have g7 := rwAt.fr hF (by intro hNS; first | exact False.elim hNS | ((try dsimp only at hNS); omega)) g7
    have g8 := rwAt.fr hF (by intro hNS; first | exact False.elim hNS | ((try dsimp only at hNS); omega)) g8
    have g9 := rwAt.fr hF (by intro hNS; first | exact False.elim hNS | ((try dsimp only at hNS); omega)) g9
    have g10 := rwAt.fr hF (by intro hNS; first | exact False.elim hNS | ((try dsimp only at hNS); omega)) g10
    have g11 := hF _ _ _ (by intro hNS; first | exact False.elim hNS | ((try dsimp only at hNS); omega)) g11
    have g12 := hF _ _ _ (by intro hNS; first | exact False.elim hNS | ((try dsimp only at hNS); omega)) g12
    have g13 := hF _ _ _ (by intro hNS; first | exact False.elim hNS | ((try dsimp only at hNS); omega)) g13
    have g14 := rwAt.fr hF (by intro hNS; first | exact False.elim hNS | ((try dsimp only at hNS); omega)) g14
    have g15 := hF _ _ _ (by intro hNS; first | exact False.elim hNS | ((try dsimp only at hNS); omega)) g15
    refine lv_aload_n hx hb dMo_nearest_5 rfl (lv_at hl 0 rfl) ?_
    refine hw_callv (va_runV (As := []) (rest := []) ⟨hx, hb, hml, hown, hts⟩ (m_take l D K X_1 H_2.size (a := a) (r1 := r1) (r2 := r2) (r3 := r3) (r4 := r4) (r5 := r5) (r6 := r6) (r7 := r7) (r8 := r8) (r9 := r9) (r10 := r10) (r11 := r11) (r12 := r12) (r13 := r13) (r14 := r14) (r15 := r15) (tz := 0) (nr := its.length) (ng := sg.length) (ns := st.length) (nz := sd.length) (na := na) (nw := nw) (nh := hs.length) (nt := nt) (fd := fd) (qa := qa) (sd := sd) gx g6 g7 (by omega) (by omega) (by assumption)) (cwV 0 hts (hwGood (hw_4 mm_437 mm_438 mm_439 mm_365 (hwAll mm_436))) rfl rfl rfl (by decide +kernel) ⟨Nat.le_of_ble_eq_true rfl, Nat.le_of_ble_eq_true rfl⟩) (hw_preV hK hO hZ (⟨_, _, gx⟩) rfl) rfl rfl hl.1 rfl (lv_room (Nat.le_of_ble_eq_true rfl)) dMo_nearest_6 ⟨(show 0 + 0 ≤ 0 by omega), (show 0 + 0 ≤ 0 by omega)⟩) hZ hA (fun X_4 H_5 lc_6 hp hZ => ?_)
    obtain ⟨hF, hN_7, hN_8⟩ := hp
    have hFr := hwF.tr hFr hF (fun _ h => h) (fun M h => by first | exact False.elim h | ((try dsimp only at h ⊢); omega))
    have g1 := hF _ _ _ (by intro hNS; first | exact False.elim hNS | ((try dsimp only at hNS); omega)) g1
    have g2 := hF _ _ _ (by intro hNS; first | exact False.elim hNS | ((try dsimp only at hNS); omega)) g2
    have g3 := hF _ _ _ (by intro hNS; first | exact False.elim hNS | ((try dsimp only at hNS); omega)) g3
    have g4 := hF _ _ _ (by intro hNS; first | exact False.elim hNS | ((try dsimp only at hNS); omega)) g4
    have g5 := rwAt.fr hF (by intro hNS; first | exact False.elim hNS | ((try dsimp only at hNS); omega)) g5
    have g6 := hF _ _ _ (by intro hNS; first | exact False.elim hNS | ((try dsimp only at hNS); omega)) g6
    have g8 := rwAt.fr hF (by intro hNS; first | exact False.elim hNS | ((try dsimp only at hNS); omega)) g8
    have g9 := rwAt.fr hF (by intro hNS; first | exact False.elim hNS | ((try dsimp only at hNS); omega)) g9
    have g10 := rwAt.fr hF (by intro hNS; first | exact False.elim hNS | ((try dsimp only at hNS); omega)) g10
    have g11 := hF _ _ _ (by intro hNS; first | exact False.elim hNS | ((try dsimp only at hNS); omega)) g11
    have g12 := hF _ _ _ (by intro hNS; first | exact False.elim hNS | ((try dsimp only at hNS); omega)) g12
    have g13 := hF _ _ _ (by intro hNS; first | exact False.elim hNS | ((try dsimp only at hNS); omega)) g13
    have g14 := rwAt.fr hF (by intro hNS; first | exact False.elim hNS | ((try dsimp only at hNS); omega)) g14
    have g15 := hF _ _ _ (by intro hNS; first | exact False.elim hNS | ((try dsimp only at hNS); omega)) g15
    have ff_9 := hN_7
    have ff_10 := hN_8
    have hq60 := rwAt.len ff_10
    have hqne := tkF_ne sd (fun k hk => hfd k hk ▸ mL_le _)
    refine lv_iload_n hx hb dMo_nearest_9 rfl (lv_at hl 1 rfl) ?_
    refine hw_calli (va_runS (As := [.int kk]) (rest := []) ⟨hx, hb, hml, hown, hts⟩ (m_isFieldB l D K X_4 H_5.size (kind := kk) (by assumption)) (va_cwS 1 hts (hwGood (hw_3 mm_442 mm_441 mm_365 (hwAll mm_440))) rfl rfl rfl (by decide +kernel) ⟨Nat.le_of_ble_eq_true rfl, Nat.le_of_ble_eq_true rfl⟩) (hw_preS hK hO hZ) rfl rfl hl.1 rfl (lv_room (Nat.le_of_ble_eq_true rfl)) dMo_nearest_10 ⟨(show 0 + 0 ≤ 0 by omega), (show 0 + 0 ≤ 0 by omega)⟩) hZ hA (fun r X_11 H_12 lc_13 hp hZ => ?_)
    obtain ⟨hr, hy⟩ := hp
    subst hy
    refine hw_topi hr ?_
    refine hw_bz_eqT (tgt := 23) hx hb dMo_nearest_13 (by decide) rfl ?_
    refine lv_iconst (v := (-1)) hx hb dMo_nearest_23 (by decide) ?_
    exact hret hZ ⟨by rw [askI_b (kN_bad hk), ite_self], hFr, ⟨_, _, _, _, _, _, _, _, _, _, _, _, _, _, _, _, _, _, _, _, _, _, _, _, _, _, _, _, _, _, _, _, _, ff_9, g1, g2, g3, g4, g5, g6, ff_10, g8, g9, g10, g11, g12, g13, g14, g15, hft, hfg, hfp, hfl, (fun k hk => absurd hk (Nat.not_lt_zero _)), hv1, hv2, hv3⟩⟩ dMo_nearest_24
  · refine lv_aload_n hx hb dMo_nearest_0 rfl (lv_at hl 0 rfl) ?_
    refine lv_iconst (v := nI 0) hx hb dMo_nearest_1 (by decide) ?_
    refine hw_put (ty := .int) (fs' := [.int (nI 0), .int (nI its.length), .ref r1, .int (nI sg.length), .ref r2, .ref r3, .ref r4, .ref r5, .int (nI st.length), .ref r6, .int (nI sd.length), .ref r7, .int (nI na), .ref r8, .ref r9, .ref r10, .int (nI nw), .int (nI hs.length), .ref r11, .ref r12, .ref r13, .ref r14, .int (nI nt), .ref r15]) hx hb hts (hwInn inMo) tyMo tyMo_ok nmMo hown hK hZ gx rfl 0 (by decide) (hts (.fieldLink RMo 58 RMo "thrown" "I") (hwMem mm_471)) (fun _ h => h) rfl (by decide +kernel) rfl rfl (Nat.le_of_ble_eq_true rfl) rfl dMo_nearest_2 (fun X_15 H_16 lc_17 hZ hF hNw => ?_)
    have hFr := hwF.tr hFr hF (fun _ h => h) (fun M h => by first | exact False.elim h | ((try dsimp only at h ⊢); omega))
    have gx := hNw
    have g1 := hF _ _ _ (by intro hNS; first | exact False.elim hNS | ((try dsimp only at hNS); omega)) g1
    have g2 := hF _ _ _ (by intro hNS; first | exact False.elim hNS | ((try dsimp only at hNS); omega)) g2
    have g3 := hF _ _ _ (by intro hNS; first | exact False.elim hNS | ((try dsimp only at hNS); omega)) g3
    have g4 := hF _ _ _ (by intro hNS; first | exact False.elim hNS | ((try dsimp only at hNS); omega)) g4
    have g5 := rwAt.fr hF (by intro hNS; first | exact False.elim hNS | ((try dsimp only at hNS); omega)) g5
    have g6 := hF _ _ _ (by intro hNS; first | exact False.elim hNS | ((try dsimp only at hNS); omega)) g6
    have g7 := rwAt.fr hF (by intro hNS; first | exact False.elim hNS | ((try dsimp only at hNS); omega)) g7
    have g8 := rwAt.fr hF (by intro hNS; first | exact False.elim hNS | ((try dsimp only at hNS); omega)) g8
    have g9 := rwAt.fr hF (by intro hNS; first | exact False.elim hNS | ((try dsimp only at hNS); omega)) g9
    have g10 := rwAt.fr hF (by intro hNS; first | exact False.elim hNS | ((try dsimp only at hNS); omega)) g10
    have g11 := hF _ _ _ (by intro hNS; first | exact False.elim hNS | ((try dsimp only at hNS); omega)) g11
    have g12 := hF _ _ _ (by intro hNS; first | exact False.elim hNS | ((try dsimp only at hNS); omega)) g12
    have g13 := hF _ _ _ (by intro hNS; first | exact False.elim hNS | ((try dsimp only at hNS); omega)) g13
    have g14 := rwAt.fr hF (by intro hNS; first | exact False.elim hNS | ((try dsimp only at hNS); omega)) g14
    have g15 := hF _ _ _ (by intro hNS; first | exact False.elim hNS | ((try dsimp only at hNS); omega)) g15
    refine lv_aload_n hx hb dMo_nearest_5 rfl (lv_at hl 0 rfl) ?_
    refine hw_callv (va_runV (As := []) (rest := []) ⟨hx, hb, hml, hown, hts⟩ (m_take l D K X_15 H_16.size (a := a) (r1 := r1) (r2 := r2) (r3 := r3) (r4 := r4) (r5 := r5) (r6 := r6) (r7 := r7) (r8 := r8) (r9 := r9) (r10 := r10) (r11 := r11) (r12 := r12) (r13 := r13) (r14 := r14) (r15 := r15) (tz := 0) (nr := its.length) (ng := sg.length) (ns := st.length) (nz := sd.length) (na := na) (nw := nw) (nh := hs.length) (nt := nt) (fd := fd) (qa := qa) (sd := sd) gx g6 g7 (by omega) (by omega) (by assumption)) (cwV 0 hts (hwGood (hw_4 mm_437 mm_438 mm_439 mm_365 (hwAll mm_436))) rfl rfl rfl (by decide +kernel) ⟨Nat.le_of_ble_eq_true rfl, Nat.le_of_ble_eq_true rfl⟩) (hw_preV hK hO hZ (⟨_, _, gx⟩) rfl) rfl rfl hl.1 rfl (lv_room (Nat.le_of_ble_eq_true rfl)) dMo_nearest_6 ⟨(show 0 + 0 ≤ 0 by omega), (show 0 + 0 ≤ 0 by omega)⟩) hZ hA (fun X_18 H_19 lc_20 hp hZ => ?_)
    obtain ⟨hF, hN_21, hN_22⟩ := hp
    have hFr := hwF.tr hFr hF (fun _ h => h) (fun M h => by first | exact False.elim h | ((try dsimp only at h ⊢); omega))
    have g1 := hF _ _ _ (by intro hNS; first | exact False.elim hNS | ((try dsimp only at hNS); omega)) g1
    have g2 := hF _ _ _ (by intro hNS; first | exact False.elim hNS | ((try dsimp only at hNS); omega)) g2
    have g3 := hF _ _ _ (by intro hNS; first | exact False.elim hNS | ((try dsimp only at hNS); omega)) g3
    have g4 := hF _ _ _ (by intro hNS; first | exact False.elim hNS | ((try dsimp only at hNS); omega)) g4
    have g5 := rwAt.fr hF (by intro hNS; first | exact False.elim hNS | ((try dsimp only at hNS); omega)) g5
    have g6 := hF _ _ _ (by intro hNS; first | exact False.elim hNS | ((try dsimp only at hNS); omega)) g6
    have g8 := rwAt.fr hF (by intro hNS; first | exact False.elim hNS | ((try dsimp only at hNS); omega)) g8
    have g9 := rwAt.fr hF (by intro hNS; first | exact False.elim hNS | ((try dsimp only at hNS); omega)) g9
    have g10 := rwAt.fr hF (by intro hNS; first | exact False.elim hNS | ((try dsimp only at hNS); omega)) g10
    have g11 := hF _ _ _ (by intro hNS; first | exact False.elim hNS | ((try dsimp only at hNS); omega)) g11
    have g12 := hF _ _ _ (by intro hNS; first | exact False.elim hNS | ((try dsimp only at hNS); omega)) g12
    have g13 := hF _ _ _ (by intro hNS; first | exact False.elim hNS | ((try dsimp only at hNS); omega)) g13
    have g14 := rwAt.fr hF (by intro hNS; first | exact False.elim hNS | ((try dsimp only at hNS); omega)) g14
    have g15 := hF _ _ _ (by intro hNS; first | exact False.elim hNS | ((try dsimp only at hNS); omega)) g15
    have ff_23 := hN_21
    have ff_24 := hN_22
    have hq60 := rwAt.len ff_24
    have hqne := tkF_ne sd (fun k hk => hfd k hk ▸ mL_le _)
    refine lv_iload_n hx hb dMo_nearest_9 rfl (lv_at hl 1 rfl) ?_
    refine hw_calli (va_runS (As := [.int (nI j)]) (rest := []) ⟨hx, hb, hml, hown, hts⟩ (m_isField l D K X_18 H_19.size (j := j) (by omega)) (va_cwS 1 hts (hwGood (hw_3 mm_442 mm_441 mm_365 (hwAll mm_440))) rfl rfl rfl (by decide +kernel) ⟨Nat.le_of_ble_eq_true rfl, Nat.le_of_ble_eq_true rfl⟩) (hw_preS hK hO hZ) rfl rfl hl.1 rfl (lv_room (Nat.le_of_ble_eq_true rfl)) dMo_nearest_10 ⟨(show 0 + 0 ≤ 0 by omega), (show 0 + 0 ≤ 0 by omega)⟩) hZ hA (fun r X_25 H_26 lc_27 hp hZ => ?_)
    obtain ⟨hr, hy⟩ := hp
    subst hy
    refine hw_topi hr ?_
    refine hw_bz_eqF (tgt := 23) hx hb dMo_nearest_13 (by decide) rfl ?_
    refine lv_aload_n hx hb dMo_nearest_16 rfl (lv_at hl 0 rfl) ?_
    refine hw_get hx hb hts (hwInn inMo) hown hK hZ ff_23 rfl 12 (by decide) (hts (.fieldLink RMo 83 RMo "askedCount" "I") (hwMem mm_377)) (fun _ h => h) rfl dMo_nearest_17 ?_
    refine hw_if_ne (a := (tkF sd).1.length) (tgt := 25) hx hb dMo_nearest_20 (by decide) (by omega) (fun cq_29 => ?_) (fun cq_29 => ?_)
    · refine lv_aload_n hx hb dMo_nearest_25 rfl (lv_at hl 0 rfl) ?_
      refine lv_iload_n hx hb dMo_nearest_26 rfl (lv_at hl 1 rfl) ?_
      refine hw_callv (va_runV (As := [.int (nI j)]) (rest := []) ⟨hx, hb, hml, hown, hts⟩ (m_list l D K X_18 H_26.size (a := a) (r1 := r1) (r2 := r2) (r3 := r3) (r4 := r4) (r5 := r5) (r6 := r6) (r7 := r7) (r8 := r8) (r9 := r9) (r10 := r10) (r11 := r11) (r12 := r12) (r13 := r13) (r14 := r14) (r15 := r15) (tz := 0) (nr := its.length) (ng := sg.length) (ns := st.length) (nz := 0) (na := (tkF sd).1.length) (nw := nw) (nh := hs.length) (nt := nt) (ft := ft) (fg := fg) (fp := fp) (fl := fl) (st := st) (rw0 := rw) (rt0 := rt) (tm0 := tm) (sg := sg) (its := its) (lg := lg) (j := j) ff_23 g1 g2 g3 g4 g5 g8 g9 g14 (by omega) (by omega) (by omega) (by assumption) (by assumption) (by assumption) (by omega) (by omega) (by assumption) (by assumption) (by omega) (by assumption) (by assumption) (hbd_of htx hj hsl)) (cwV 1 hts (hwGood (hw_4 mm_478 mm_479 mm_480 mm_365 (hwAll mm_477))) rfl rfl rfl (by decide +kernel) ⟨Nat.le_of_ble_eq_true rfl, Nat.le_of_ble_eq_true rfl⟩) (hw_preV hK hO hZ (⟨_, _, ff_23⟩) rfl) rfl rfl hl.1 rfl (lv_room (Nat.le_of_ble_eq_true rfl)) dMo_nearest_27 ⟨(show 0 + 0 ≤ 0 by omega), (show 0 + 0 ≤ 0 by omega)⟩) hZ hA (fun X_30 H_31 lc_32 hp hZ => ?_)
      obtain ⟨rwz_33, rtz_34, nwz_35, hF, hN_36, hN_37, hN_38, hN_39⟩ := hp
      have hFr := hwF.tr hFr hF (fun _ h => h) (fun M h => by first | exact False.elim h | ((try dsimp only at h ⊢); omega))
      have g1 := hF _ _ _ (by intro hNS; first | exact False.elim hNS | ((try dsimp only at hNS); omega)) g1
      have g2 := hF _ _ _ (by intro hNS; first | exact False.elim hNS | ((try dsimp only at hNS); omega)) g2
      have g3 := hF _ _ _ (by intro hNS; first | exact False.elim hNS | ((try dsimp only at hNS); omega)) g3
      have g4 := hF _ _ _ (by intro hNS; first | exact False.elim hNS | ((try dsimp only at hNS); omega)) g4
      have g5 := rwAt.fr hF (by intro hNS; first | exact False.elim hNS | ((try dsimp only at hNS); omega)) g5
      have g6 := hF _ _ _ (by intro hNS; first | exact False.elim hNS | ((try dsimp only at hNS); omega)) g6
      have g10 := rwAt.fr hF (by intro hNS; first | exact False.elim hNS | ((try dsimp only at hNS); omega)) g10
      have g11 := hF _ _ _ (by intro hNS; first | exact False.elim hNS | ((try dsimp only at hNS); omega)) g11
      have g12 := hF _ _ _ (by intro hNS; first | exact False.elim hNS | ((try dsimp only at hNS); omega)) g12
      have g13 := hF _ _ _ (by intro hNS; first | exact False.elim hNS | ((try dsimp only at hNS); omega)) g13
      have g15 := hF _ _ _ (by intro hNS; first | exact False.elim hNS | ((try dsimp only at hNS); omega)) g15
      have ff_24 := rwAt.fr hF (by intro hNS; first | exact False.elim hNS | ((try dsimp only at hNS); omega)) ff_24
      have ff_40 := hN_36
      have ff_41 := hN_37
      have ff_42 := hN_38
      have ff_43 := hN_39
      have hLl := rwAt.len ff_43
      refine lv_iconst (v := (-1)) hx hb dMo_nearest_30 (by decide) ?_
      refine lv_istore_n (lv' := [(2, .int (-1)), (0, .ref a), (1, .int (nI j))]) hx hb dMo_nearest_31 rfl hl (by decide) rfl (fun ls hl => ?_)
      refine lv_iconst (v := nI 3) hx hb dMo_nearest_32 (by decide) ?_
      refine lv_istore_n (lv' := [(3, .int (nI 3)), (2, .int (-1)), (0, .ref a), (1, .int (nI j))]) hx hb dMo_nearest_33 rfl hl (by decide) rfl (fun ls hl => ?_)
      refine lv_iconst (v := nI 0) hx hb dMo_nearest_34 (by decide) ?_
      refine lv_istore (lv' := [(4, .int (nI 0)), (3, .int (nI 3)), (2, .int (-1)), (0, .ref a), (1, .int (nI j))]) hx hb dMo_nearest_35 hl (by decide) rfl (fun ls hl => ?_)
      have loop37 : ∀ (fuel : Nat) (i : Nat) (bs : Nat) (pl : Int32) (y9 : Nat → Int32) (XL37 : hwW) (Hh : Heap) (lcs : List Loc) (ls : Array Slot), (liN (Tf its lg st j) its.length).length - i < fuel → (i ≤ (liN (Tf its lg st j) its.length).length) → (nrN ((tkF sd).1.getD 0 []) (liN (Tf its lg st j) its.length) i = (bs, pl)) → (bs ≤ 3) → (hwF X XL37 (fun M => 1000 ≤ M ∧ M < 1100)) → (hwH XL37 a 1000 (.inr (10, [.int (nI 0), .int (nI its.length), .ref r1, .int (nI sg.length), .ref r2, .ref r3, .ref r4, .ref r5, .int (nI st.length), .ref r6, .int (nI 0), .ref r7, .int (nI ((tkF sd).1.length)), .ref r8, .ref r9, .ref r10, .int (nI nwz_35), .int (nI hs.length), .ref r11, .ref r12, .ref r13, .ref r14, .int (nI ((liN (Tf its lg st j) its.length).length)), .ref r15]))) → (hwH XL37 r1 1001 (.inl (K 2, 31, .inl ft))) → (hwH XL37 r2 1002 (.inl (K 3, 1500, .inl fg))) → (hwH XL37 r3 1003 (.inl (K 0, 1500, .inl fp))) → (hwH XL37 r4 1004 (.inl (K 0, 4, .inl fl))) → (rwAt K XL37 r5 1005 40 st) → (hwH XL37 r6 1006 (.inl (K 3, 100, .inl fd))) → (rwAt K XL37 r7 1007 60 ((tkF sd).1)) → (rwAt K XL37 r8 1008 800 rwz_33) → (rwAt K XL37 r9 1009 800 rtz_34) → (rwAt K XL37 r10 1010 60 at_) → (hwH XL37 r11 1011 (.inl (K 0, 30, .inl f1))) → (hwH XL37 r12 1012 (.inl (K 0, 30, .inl f2))) → (hwH XL37 r13 1013 (.inl (K 0, 30, .inl f3))) → (rwAt K XL37 r14 1014 800 (liN (Tf its lg st j) its.length)) → (hwH XL37 r15 1015 (.inl (K 0, 169, .inl y9))) → hwZ D vwCl A s.heap XL37 Hh lcs → lv_has ls 6 [(4, .int (nI i)), (3, .int (nI bs)), (2, .int pl), (0, .ref a), (1, .int (nI j))] → W p l e ({ frames := 4, cells := 0, slots := 0, locals := 96 } : Room) s m args below meth c Hh lcs 0 0 Q (F0 m 37 ls []) := by
        intro fuel; induction fuel with
        | zero => intro i bs pl y9 XL37 Hh lcs ls hfu; exact absurd hfu (Nat.not_lt_zero _)
        | succ fuel ih37 =>
          intro i bs pl y9 XL37 Hh lcs ls hfu37 hi hbs hb3 hFr gx g1 g2 g3 g4 g5 g6 g7 g8 g9 g10 g11 g12 g13 g14 g15 hZ hl
          refine lv_iload hx hb dMo_nearest_37 (lv_at hl 0 rfl) ?_
          refine lv_aload_n hx hb dMo_nearest_39 rfl (lv_at hl 3 rfl) ?_
          refine hw_get hx hb hts (hwInn inMo) hown hK hZ gx rfl 22 (by decide) (hts (.fieldLink RMo 161 RMo "termCount" "I") (hwMem mm_413)) (fun _ h => h) rfl dMo_nearest_40 ?_
          refine hw_ic_ge (a := i) (b := (liN (Tf its lg st j) its.length).length) (tgt := 83) hx hb dMo_nearest_43 (by decide) (by omega) (by omega) (fun cq_44 => ?_) (fun cq_44 => ?_)
          · refine lv_iload_n hx hb dMo_nearest_83 rfl (lv_at hl 2 rfl) ?_
            exact hret hZ ⟨by rw [if_neg (qne_of hqne (by omega)), askI_g (kN_nI hj)]; exact (nrN_end hbs (by omega)).symm, hFr, ⟨_, _, _, _, _, _, _, _, _, _, _, _, _, _, _, _, _, _, _, _, _, _, _, _, _, _, _, _, _, _, _, _, _, gx, g1, g2, g3, g4, g5, g6, g7, g8, g9, g10, g11, g12, g13, g14, g15, hft, hfg, hfp, hfl, (fun k hk => absurd hk (Nat.not_lt_zero _)), hv1, hv2, hv3⟩⟩ dMo_nearest_84
          · obtain ⟨f7, gc7, hN7, hv7, hk7⟩ := g7
            have g7 : rwAt K XL37 r7 1007 60 ((tkF sd).1) := ⟨f7, gc7, hN7, hv7, hk7⟩
            have hQ2 := fun j => okWs.at hk7 j
            obtain ⟨f14, gc14, hN14, hv14, hk14⟩ := g14
            have g14 : rwAt K XL37 r14 1014 800 (liN (Tf its lg st j) its.length) := ⟨f14, gc14, hN14, hv14, hk14⟩
            have hL2 := fun j => okWs.at hk14 j
            refine lv_aload_n hx hb dMo_nearest_46 rfl (lv_at hl 3 rfl) ?_
            refine lv_aload_n hx hb dMo_nearest_47 rfl (lv_at hl 3 rfl) ?_
            refine hw_get hx hb hts (hwInn inMo) hown hK hZ gx rfl 11 (by decide) (hts (.fieldLink RMo 31 RMo "asked" "[J") (hwMem mm_383)) (fun _ h => h) rfl dMo_nearest_48 ?_
            refine lv_iconst (v := nI 0) hx hb dMo_nearest_51 (by decide) ?_
            refine hw_lald hx hb hK hZ 1 gc7 rfl (j := 0) (by omega) (by omega) dMo_nearest_52 ?_
            refine hw_topl (hv7 0 (by omega)) ?_
            refine lv_aload_n hx hb dMo_nearest_53 rfl (lv_at hl 3 rfl) ?_
            refine hw_get hx hb hts (hwInn inMo) hown hK hZ gx rfl 21 (by decide) (hts (.fieldLink RMo 52 RMo "terms" "[J") (hwMem mm_414)) (fun _ h => h) rfl dMo_nearest_54 ?_
            refine lv_iload hx hb dMo_nearest_57 (lv_at hl 0 rfl) ?_
            refine hw_lald hx hb hK hZ 1 gc14 rfl (j := i) (by omega) (by omega) dMo_nearest_59 ?_
            refine hw_topl (hv14 i (by omega)) ?_
            refine hw_calli (va_runV (As := [.long (lN (rW ((tkF sd).1.getD 0 []))), .long (lN (rW ((liN (Tf its lg st j) its.length).getD i [])))]) (rest := []) ⟨hx, hb, hml, hown, hts⟩ (m_dist l D K XL37 Hh.size (a := a) (r1 := r1) (r2 := r2) (r3 := r3) (r4 := r4) (r5 := r5) (r6 := r6) (r7 := r7) (r8 := r8) (r9 := r9) (r10 := r10) (r11 := r11) (r12 := r12) (r13 := r13) (r14 := r14) (r15 := r15) (tz := 0) (nr := its.length) (ng := sg.length) (ns := st.length) (nz := 0) (na := (tkF sd).1.length) (nw := nwz_35) (nh := hs.length) (nt := (liN (Tf its lg st j) its.length).length) (y0 := y9) (f := ((tkF sd).1.getD 0 [])) (t := ((liN (Tf its lg st j) its.length).getD i [])) gx g15 (hQ2 0) (hL2 i)) (cwV 2 hts (hwGood (hw_4 mm_482 mm_483 mm_484 mm_365 (hwAll mm_481))) rfl rfl rfl (by decide +kernel) ⟨Nat.le_of_ble_eq_true rfl, Nat.le_of_ble_eq_true rfl⟩) (hw_preV hK hO hZ (⟨_, _, gx⟩) rfl) rfl rfl hl.1 rfl (lv_room (Nat.le_of_ble_eq_true rfl)) dMo_nearest_60 ⟨(show 0 + 0 ≤ 0 by omega), (show 0 + 0 ≤ 0 by omega)⟩) hZ hA (fun r X_45 H_46 lc_47 hp hZ => ?_)
            obtain ⟨yz_48, hr, hF, hN_49⟩ := hp
            have hFr := hwF.tr hFr hF (fun _ h => h) (fun M h => by first | exact False.elim h | ((try dsimp only at h ⊢); omega))
            have gx := hF _ _ _ (by intro hNS; first | exact False.elim hNS | ((try dsimp only at hNS); omega)) gx
            have g1 := hF _ _ _ (by intro hNS; first | exact False.elim hNS | ((try dsimp only at hNS); omega)) g1
            have g2 := hF _ _ _ (by intro hNS; first | exact False.elim hNS | ((try dsimp only at hNS); omega)) g2
            have g3 := hF _ _ _ (by intro hNS; first | exact False.elim hNS | ((try dsimp only at hNS); omega)) g3
            have g4 := hF _ _ _ (by intro hNS; first | exact False.elim hNS | ((try dsimp only at hNS); omega)) g4
            have g5 := rwAt.fr hF (by intro hNS; first | exact False.elim hNS | ((try dsimp only at hNS); omega)) g5
            have g6 := hF _ _ _ (by intro hNS; first | exact False.elim hNS | ((try dsimp only at hNS); omega)) g6
            have g7 := rwAt.fr hF (by intro hNS; first | exact False.elim hNS | ((try dsimp only at hNS); omega)) g7
            have g8 := rwAt.fr hF (by intro hNS; first | exact False.elim hNS | ((try dsimp only at hNS); omega)) g8
            have g9 := rwAt.fr hF (by intro hNS; first | exact False.elim hNS | ((try dsimp only at hNS); omega)) g9
            have g10 := rwAt.fr hF (by intro hNS; first | exact False.elim hNS | ((try dsimp only at hNS); omega)) g10
            have g11 := hF _ _ _ (by intro hNS; first | exact False.elim hNS | ((try dsimp only at hNS); omega)) g11
            have g12 := hF _ _ _ (by intro hNS; first | exact False.elim hNS | ((try dsimp only at hNS); omega)) g12
            have g13 := hF _ _ _ (by intro hNS; first | exact False.elim hNS | ((try dsimp only at hNS); omega)) g13
            have g14 := rwAt.fr hF (by intro hNS; first | exact False.elim hNS | ((try dsimp only at hNS); omega)) g14
            have ff_50 := hN_49
            refine hw_topi hr ?_
            have hdl := distL_le (hQ2 0).1 (hL2 i).1
            refine lv_istore (lv' := [(5, .int (nI (distL ((tkF sd).1.getD 0 []) ((liN (Tf its lg st j) its.length).getD i [])))), (4, .int (nI i)), (3, .int (nI bs)), (2, .int pl), (0, .ref a), (1, .int (nI j))]) hx hb dMo_nearest_63 hl (by decide) rfl (fun ls hl => ?_)
            refine lv_iload hx hb dMo_nearest_65 (lv_at hl 0 rfl) ?_
            refine lv_iload_n hx hb dMo_nearest_67 rfl (lv_at hl 2 rfl) ?_
            refine hw_ic_ge (a := distL ((tkF sd).1.getD 0 []) ((liN (Tf its lg st j) its.length).getD i [])) (b := bs) (tgt := 77) hx hb dMo_nearest_68 (by decide) (by omega) (by omega) (fun cq_51 => ?_) (fun cq_51 => ?_)
            · refine lv_iinc (v := nI (i + 1)) (lv' := [(4, .int (nI (i + 1))), (5, .int (nI (distL ((tkF sd).1.getD 0 []) ((liN (Tf its lg st j) its.length).getD i [])))), (3, .int (nI bs)), (2, .int pl), (0, .ref a), (1, .int (nI j))]) hx hb dMo_nearest_77 hl (k := 1) rfl (nI_add _ 1) (by decide) rfl (fun ls hl => ?_)
              refine lv_goto (tgt := 37) hx hb dMo_nearest_80 (by decide) ?_
              exact ih37 (i + 1) bs pl yz_48 _ _ _ _ (by omega) (by omega) (nrN_ge hbs cq_51) (by omega) hFr gx g1 g2 g3 g4 g5 g6 g7 g8 g9 g10 g11 g12 g13 g14 ff_50 hZ (lv_sub hl [0, 2, 3, 4, 5] rfl)
            · refine lv_iload hx hb dMo_nearest_71 (lv_at hl 0 rfl) ?_
              refine lv_istore_n (lv' := [(3, .int (nI (distL ((tkF sd).1.getD 0 []) ((liN (Tf its lg st j) its.length).getD i [])))), (5, .int (nI (distL ((tkF sd).1.getD 0 []) ((liN (Tf its lg st j) its.length).getD i [])))), (4, .int (nI i)), (2, .int pl), (0, .ref a), (1, .int (nI j))]) hx hb dMo_nearest_73 rfl hl (by decide) rfl (fun ls hl => ?_)
              refine lv_iload hx hb dMo_nearest_74 (lv_at hl 2 rfl) ?_
              refine lv_istore_n (lv' := [(2, .int (nI i)), (3, .int (nI (distL ((tkF sd).1.getD 0 []) ((liN (Tf its lg st j) its.length).getD i [])))), (5, .int (nI (distL ((tkF sd).1.getD 0 []) ((liN (Tf its lg st j) its.length).getD i [])))), (4, .int (nI i)), (0, .ref a), (1, .int (nI j))]) hx hb dMo_nearest_76 rfl hl (by decide) rfl (fun ls hl => ?_)
              refine lv_iinc (v := nI (i + 1)) (lv' := [(4, .int (nI (i + 1))), (2, .int (nI i)), (3, .int (nI (distL ((tkF sd).1.getD 0 []) ((liN (Tf its lg st j) its.length).getD i [])))), (5, .int (nI (distL ((tkF sd).1.getD 0 []) ((liN (Tf its lg st j) its.length).getD i [])))), (0, .ref a), (1, .int (nI j))]) hx hb dMo_nearest_77 hl (k := 3) rfl (nI_add _ 1) (by decide) rfl (fun ls hl => ?_)
              refine lv_goto (tgt := 37) hx hb dMo_nearest_80 (by decide) ?_
              exact ih37 (i + 1) (distL ((tkF sd).1.getD 0 []) ((liN (Tf its lg st j) its.length).getD i [])) (nI i) yz_48 _ _ _ _ (by omega) (by omega) (nrN_lt hbs cq_51) (by omega) hFr gx g1 g2 g3 g4 g5 g6 g7 g8 g9 g10 g11 g12 g13 g14 ff_50 hZ (lv_sub hl [0, 2, 1, 4, 5] rfl)
      exact loop37 ((liN (Tf its lg st j) its.length).length - 0 + 1) 0 3 (-1) y _ _ _ _ (by omega) (by omega) rfl (by omega) hFr ff_40 g1 g2 g3 g4 g5 g6 ff_24 ff_41 ff_42 g10 g11 g12 g13 ff_43 g15 hZ (lv_sub hl [0, 1, 2, 3, 4] rfl)
    · refine lv_iconst (v := (-1)) hx hb dMo_nearest_23 (by decide) ?_
      exact hret hZ ⟨by rw [if_pos (getD_big (by omega))], hFr, ⟨_, _, _, _, _, _, _, _, _, _, _, _, _, _, _, _, _, _, _, _, _, _, _, _, _, _, _, _, _, _, _, _, _, ff_23, g1, g2, g3, g4, g5, g6, ff_24, g8, g9, g10, g11, g12, g13, g14, g15, hft, hfg, hfp, hfl, (fun k hk => absurd hk (Nat.not_lt_zero _)), hv1, hv2, hv3⟩⟩ dMo_nearest_24
set_option maxHeartbeats 4000000 in
set_option maxRecDepth 100000 in
theorem q_stop (l : Launch) (D : va_G) (K : Nat → ClassId) (X : hwW) (sz : Nat) (a : Nat) (its : hwIt) (sg : List (Nat × Nat)) (lg : Nat → Nat) (st : List (List Nat)) (sd : List Nat) (hs : List (Nat × Nat × Nat)) (f0_ : moAt K X a its sg lg st sd hs) (okm : okM its sg lg st sd hs) : Met l yMo_stop (.code yMo_stop cMo_stop 2 (some .int) :: hwG) ({ frames := 3, cells := 0, slots := 0, locals := 70 } : Room) (hwPc D vwCl (hwT K) [.ref a] X sz) (hwQi D vwCl X sz (fun r Y => r = nI (stF st (tkF sd).1).length ∧ hwF X Y (fun M => 1000 ≤ M ∧ M < 1100) ∧ moAt K Y a its sg lg (stF st (tkF sd).1) [] hs)) 0 0 (va_A X.1 sz) := by
  refine hwMeti (cc := cMo_stop) (maxL := 2) (by decide) rfl (Nat.le_of_ble_eq_true rfl) (fun p e s m args below meth c ls A Q hx hb hml hown hts hname hret hK hO hZ hA hl => ?_)
  have hl : lv_has ls 2 [(0, .ref a)] := hl
  have hFr : hwF X X (fun M => 1000 ≤ M ∧ M < 1100) := hwF.rf
  obtain ⟨hni3, hsl, hsb, hlg, hsd, hh30, hB, htx⟩ := okm
  obtain ⟨r1, r2, r3, r4, r5, r6, r7, r8, r9, r10, r11, r12, r13, r14, r15, tz, na, nw, nt, ft, fg, fp, fl, fd, f1, f2, f3, qa, rw, rt, at_, tm, y, gx, g1, g2, g3, g4, g5, g6, g7, g8, g9, g10, g11, g12, g13, g14, g15, hft, hfg, hfp, hfl, hfd, hv1, hv2, hv3⟩ := f0_
  have hst40 := rwAt.len g5
  refine lv_aload_n hx hb dMo_stop_0 rfl (lv_at hl 0 rfl) ?_
  refine lv_iconst (v := nI 0) hx hb dMo_stop_1 (by decide) ?_
  refine hw_put (ty := .int) (fs' := [.int (nI 0), .int (nI its.length), .ref r1, .int (nI sg.length), .ref r2, .ref r3, .ref r4, .ref r5, .int (nI st.length), .ref r6, .int (nI sd.length), .ref r7, .int (nI na), .ref r8, .ref r9, .ref r10, .int (nI nw), .int (nI hs.length), .ref r11, .ref r12, .ref r13, .ref r14, .int (nI nt), .ref r15]) hx hb hts (hwInn inMo) tyMo tyMo_ok nmMo hown hK hZ gx rfl 0 (by decide) (hts (.fieldLink RMo 58 RMo "thrown" "I") (hwMem mm_471)) (fun _ h => h) rfl (by decide +kernel) rfl rfl (Nat.le_of_ble_eq_true rfl) rfl dMo_stop_2 (fun X_1 H_2 lc_3 hZ hF hNw => ?_)
  have hFr := hwF.tr hFr hF (fun _ h => h) (fun M h => by first | exact False.elim h | ((try dsimp only at h ⊢); omega))
  have gx := hNw
  have g1 := hF _ _ _ (by intro hNS; first | exact False.elim hNS | ((try dsimp only at hNS); omega)) g1
  have g2 := hF _ _ _ (by intro hNS; first | exact False.elim hNS | ((try dsimp only at hNS); omega)) g2
  have g3 := hF _ _ _ (by intro hNS; first | exact False.elim hNS | ((try dsimp only at hNS); omega)) g3
  have g4 := hF _ _ _ (by intro hNS; first | exact False.elim hNS | ((try dsimp only at hNS); omega)) g4
  have g5 := rwAt.fr hF (by intro hNS; first | exact False.elim hNS | ((try dsimp only at hNS); omega)) g5
  have g6 := hF _ _ _ (by intro hNS; first | exact False.elim hNS | ((try dsimp only at hNS); omega)) g6
  have g7 := rwAt.fr hF (by intro hNS; first | exact False.elim hNS | ((try dsimp only at hNS); omega)) g7
  have g8 := rwAt.fr hF (by intro hNS; first | exact False.elim hNS | ((try dsimp only at hNS); omega)) g8
  have g9 := rwAt.fr hF (by intro hNS; first | exact False.elim hNS | ((try dsimp only at hNS); omega)) g9
  have g10 := rwAt.fr hF (by intro hNS; first | exact False.elim hNS | ((try dsimp only at hNS); omega)) g10
  have g11 := hF _ _ _ (by intro hNS; first | exact False.elim hNS | ((try dsimp only at hNS); omega)) g11
  have g12 := hF _ _ _ (by intro hNS; first | exact False.elim hNS | ((try dsimp only at hNS); omega)) g12
  have g13 := hF _ _ _ (by intro hNS; first | exact False.elim hNS | ((try dsimp only at hNS); omega)) g13
  have g14 := rwAt.fr hF (by intro hNS; first | exact False.elim hNS | ((try dsimp only at hNS); omega)) g14
  have g15 := hF _ _ _ (by intro hNS; first | exact False.elim hNS | ((try dsimp only at hNS); omega)) g15
  refine lv_aload_n hx hb dMo_stop_5 rfl (lv_at hl 0 rfl) ?_
  refine hw_callv (va_runV (As := []) (rest := []) ⟨hx, hb, hml, hown, hts⟩ (m_take l D K X_1 H_2.size (a := a) (r1 := r1) (r2 := r2) (r3 := r3) (r4 := r4) (r5 := r5) (r6 := r6) (r7 := r7) (r8 := r8) (r9 := r9) (r10 := r10) (r11 := r11) (r12 := r12) (r13 := r13) (r14 := r14) (r15 := r15) (tz := 0) (nr := its.length) (ng := sg.length) (ns := st.length) (nz := sd.length) (na := na) (nw := nw) (nh := hs.length) (nt := nt) (fd := fd) (qa := qa) (sd := sd) gx g6 g7 (by omega) (by omega) (by assumption)) (cwV 0 hts (hwGood (hw_4 mm_437 mm_438 mm_439 mm_365 (hwAll mm_436))) rfl rfl rfl (by decide +kernel) ⟨Nat.le_of_ble_eq_true rfl, Nat.le_of_ble_eq_true rfl⟩) (hw_preV hK hO hZ (⟨_, _, gx⟩) rfl) rfl rfl hl.1 rfl (lv_room (Nat.le_of_ble_eq_true rfl)) dMo_stop_6 ⟨(show 0 + 0 ≤ 0 by omega), (show 0 + 0 ≤ 0 by omega)⟩) hZ hA (fun X_4 H_5 lc_6 hp hZ => ?_)
  obtain ⟨hF, hN_7, hN_8⟩ := hp
  have hFr := hwF.tr hFr hF (fun _ h => h) (fun M h => by first | exact False.elim h | ((try dsimp only at h ⊢); omega))
  have g1 := hF _ _ _ (by intro hNS; first | exact False.elim hNS | ((try dsimp only at hNS); omega)) g1
  have g2 := hF _ _ _ (by intro hNS; first | exact False.elim hNS | ((try dsimp only at hNS); omega)) g2
  have g3 := hF _ _ _ (by intro hNS; first | exact False.elim hNS | ((try dsimp only at hNS); omega)) g3
  have g4 := hF _ _ _ (by intro hNS; first | exact False.elim hNS | ((try dsimp only at hNS); omega)) g4
  have g5 := rwAt.fr hF (by intro hNS; first | exact False.elim hNS | ((try dsimp only at hNS); omega)) g5
  have g6 := hF _ _ _ (by intro hNS; first | exact False.elim hNS | ((try dsimp only at hNS); omega)) g6
  have g8 := rwAt.fr hF (by intro hNS; first | exact False.elim hNS | ((try dsimp only at hNS); omega)) g8
  have g9 := rwAt.fr hF (by intro hNS; first | exact False.elim hNS | ((try dsimp only at hNS); omega)) g9
  have g10 := rwAt.fr hF (by intro hNS; first | exact False.elim hNS | ((try dsimp only at hNS); omega)) g10
  have g11 := hF _ _ _ (by intro hNS; first | exact False.elim hNS | ((try dsimp only at hNS); omega)) g11
  have g12 := hF _ _ _ (by intro hNS; first | exact False.elim hNS | ((try dsimp only at hNS); omega)) g12
  have g13 := hF _ _ _ (by intro hNS; first | exact False.elim hNS | ((try dsimp only at hNS); omega)) g13
  have g14 := rwAt.fr hF (by intro hNS; first | exact False.elim hNS | ((try dsimp only at hNS); omega)) g14
  have g15 := hF _ _ _ (by intro hNS; first | exact False.elim hNS | ((try dsimp only at hNS); omega)) g15
  have ff_9 := hN_7
  have ff_10 := hN_8
  have hq60 := rwAt.len ff_10
  have hqne := tkF_ne sd (fun k hk => hfd k hk ▸ mL_le _)
  refine lv_iconst (v := nI 0) hx hb dMo_stop_9 (by decide) ?_
  refine lv_istore_n (lv' := [(1, .int (nI 0)), (0, .ref a)]) hx hb dMo_stop_10 rfl hl (by decide) rfl (fun ls hl => ?_)
  have loop11 : ∀ (fuel : Nat) (i : Nat) (stz : List (List Nat)) (XL11 : hwW) (Hh : Heap) (lcs : List Loc) (ls : Array Slot), (tkF sd).1.length - i < fuel → (i ≤ (tkF sd).1.length) → (stz = stF st ((tkF sd).1.take i)) → (hwF X XL11 (fun M => 1000 ≤ M ∧ M < 1100)) → (hwH XL11 a 1000 (.inr (10, [.int (nI 0), .int (nI its.length), .ref r1, .int (nI sg.length), .ref r2, .ref r3, .ref r4, .ref r5, .int (nI stz.length), .ref r6, .int (nI 0), .ref r7, .int (nI ((tkF sd).1.length)), .ref r8, .ref r9, .ref r10, .int (nI nw), .int (nI hs.length), .ref r11, .ref r12, .ref r13, .ref r14, .int (nI nt), .ref r15]))) → (hwH XL11 r1 1001 (.inl (K 2, 31, .inl ft))) → (hwH XL11 r2 1002 (.inl (K 3, 1500, .inl fg))) → (hwH XL11 r3 1003 (.inl (K 0, 1500, .inl fp))) → (hwH XL11 r4 1004 (.inl (K 0, 4, .inl fl))) → (rwAt K XL11 r5 1005 40 stz) → (hwH XL11 r6 1006 (.inl (K 3, 100, .inl fd))) → (rwAt K XL11 r7 1007 60 ((tkF sd).1)) → (rwAt K XL11 r8 1008 800 rw) → (rwAt K XL11 r9 1009 800 rt) → (rwAt K XL11 r10 1010 60 at_) → (hwH XL11 r11 1011 (.inl (K 0, 30, .inl f1))) → (hwH XL11 r12 1012 (.inl (K 0, 30, .inl f2))) → (hwH XL11 r13 1013 (.inl (K 0, 30, .inl f3))) → (rwAt K XL11 r14 1014 800 tm) → (hwH XL11 r15 1015 (.inl (K 0, 169, .inl y))) → hwZ D vwCl A s.heap XL11 Hh lcs → lv_has ls 2 [(1, .int (nI i)), (0, .ref a)] → W p l e ({ frames := 3, cells := 0, slots := 0, locals := 70 } : Room) s m args below meth c Hh lcs 0 0 Q (F0 m 11 ls []) := by
    intro fuel; induction fuel with
    | zero => intro i stz XL11 Hh lcs ls hfu; exact absurd hfu (Nat.not_lt_zero _)
    | succ fuel ih11 =>
      intro i stz XL11 Hh lcs ls hfu11 hi hsz hFr gx g1 g2 g3 g4 g5 g6 g7 g8 g9 g10 g11 g12 g13 g14 g15 hZ hl
      have hs40 : stz.length ≤ 40 := rwAt.len g5
      refine lv_iload_n hx hb dMo_stop_11 rfl (lv_at hl 0 rfl) ?_
      refine lv_aload_n hx hb dMo_stop_12 rfl (lv_at hl 1 rfl) ?_
      refine hw_get hx hb hts (hwInn inMo) hown hK hZ gx rfl 12 (by decide) (hts (.fieldLink RMo 83 RMo "askedCount" "I") (hwMem mm_377)) (fun _ h => h) rfl dMo_stop_13 ?_
      refine hw_ic_ge (a := i) (b := (tkF sd).1.length) (tgt := 72) hx hb dMo_stop_16 (by decide) (by omega) (by omega) (fun cq_11 => ?_) (fun cq_11 => ?_)
      · rw [List.take_of_length_le (by omega)] at hsz
        refine lv_aload_n hx hb dMo_stop_72 rfl (lv_at hl 1 rfl) ?_
        refine hw_get hx hb hts (hwInn inMo) hown hK hZ gx rfl 8 (by decide) (hts (.fieldLink RMo 101 RMo "stopCount" "I") (hwMem mm_367)) (fun _ h => h) rfl dMo_stop_73 ?_
        exact hret hZ (by rw [← hsz]; exact ⟨rfl, hFr, ⟨_, _, _, _, _, _, _, _, _, _, _, _, _, _, _, _, _, _, _, _, _, _, _, _, _, _, _, _, _, _, _, _, _, gx, g1, g2, g3, g4, g5, g6, g7, g8, g9, g10, g11, g12, g13, g14, g15, hft, hfg, hfp, hfl, (fun k hk => absurd hk (Nat.not_lt_zero _)), hv1, hv2, hv3⟩⟩) dMo_stop_76
      · obtain ⟨f7, gc7, hN7, hv7, hk7⟩ := g7
        have g7 : rwAt K XL11 r7 1007 60 ((tkF sd).1) := ⟨f7, gc7, hN7, hv7, hk7⟩
        have hQ2 := fun j => okWs.at hk7 j
        refine lv_aload_n hx hb dMo_stop_19 rfl (lv_at hl 1 rfl) ?_
        refine lv_aload_n hx hb dMo_stop_20 rfl (lv_at hl 1 rfl) ?_
        refine hw_get hx hb hts (hwInn inMo) hown hK hZ gx rfl 11 (by decide) (hts (.fieldLink RMo 31 RMo "asked" "[J") (hwMem mm_383)) (fun _ h => h) rfl dMo_stop_21 ?_
        refine lv_iload_n hx hb dMo_stop_24 rfl (lv_at hl 0 rfl) ?_
        refine hw_lald hx hb hK hZ 1 gc7 rfl (j := i) (by omega) (by omega) dMo_stop_25 ?_
        refine hw_topl (hv7 i (by omega)) ?_
        refine hw_calli (va_runV (As := [.long (lN (rW ((tkF sd).1.getD i [])))]) (rest := []) ⟨hx, hb, hml, hown, hts⟩ (m_isStop l D K XL11 Hh.size (a := a) (r1 := r1) (r2 := r2) (r3 := r3) (r4 := r4) (r5 := r5) (r6 := r6) (r7 := r7) (r8 := r8) (r9 := r9) (r10 := r10) (r11 := r11) (r12 := r12) (r13 := r13) (r14 := r14) (r15 := r15) (tz := 0) (nr := its.length) (ng := sg.length) (ns := stz.length) (nz := 0) (na := (tkF sd).1.length) (nw := nw) (nh := hs.length) (nt := nt) (st := stz) (w := ((tkF sd).1.getD i [])) gx g5 (by omega) (hQ2 i)) (cwV 1 hts (hwGood (hw_4 mm_370 mm_371 mm_372 mm_365 (hwAll mm_369))) rfl rfl rfl (by decide +kernel) ⟨Nat.le_of_ble_eq_true rfl, Nat.le_of_ble_eq_true rfl⟩) (hw_preV hK hO hZ (⟨_, _, gx⟩) rfl) rfl rfl hl.1 rfl (lv_room (Nat.le_of_ble_eq_true rfl)) dMo_stop_26 ⟨(show 0 + 0 ≤ 0 by omega), (show 0 + 0 ≤ 0 by omega)⟩) hZ hA (fun r X_12 H_13 lc_14 hp hZ => ?_)
        obtain ⟨hr, hy⟩ := hp
        subst hy
        refine hw_topi hr ?_
        refine hw_bz_ne (tgt := 66) hx hb dMo_stop_29 (by decide) (fun cq_15 => ?_) (fun cq_15 => ?_)
        · refine lv_iinc (v := nI (i + 1)) (lv' := [(1, .int (nI (i + 1))), (0, .ref a)]) hx hb dMo_stop_66 hl (k := 0) rfl (nI_add _ 1) (by decide) rfl (fun ls hl => ?_)
          refine lv_goto (tgt := 11) hx hb dMo_stop_69 (by decide) ?_
          exact ih11 (i + 1) stz _ _ _ _ (by omega) (by omega) (by rw [stF_take (by omega), ← hsz, if_pos (Or.inr (of_decide_eq_true cq_15))]) hFr gx g1 g2 g3 g4 g5 g6 g7 g8 g9 g10 g11 g12 g13 g14 g15 hZ (lv_sub hl [0, 1] rfl)
        · refine lv_aload_n hx hb dMo_stop_32 rfl (lv_at hl 1 rfl) ?_
          refine hw_get hx hb hts (hwInn inMo) hown hK hZ gx rfl 8 (by decide) (hts (.fieldLink RMo 101 RMo "stopCount" "I") (hwMem mm_367)) (fun _ h => h) rfl dMo_stop_33 ?_
          refine lv_bipush (v := nI 40) hx hb dMo_stop_36 (by decide) ?_
          refine hw_ic_ge (a := stz.length) (b := 40) (tgt := 66) hx hb dMo_stop_38 (by decide) (by omega) (by omega) (fun cq_16 => ?_) (fun cq_16 => ?_)
          · refine lv_iinc (v := nI (i + 1)) (lv' := [(1, .int (nI (i + 1))), (0, .ref a)]) hx hb dMo_stop_66 hl (k := 0) rfl (nI_add _ 1) (by decide) rfl (fun ls hl => ?_)
            refine lv_goto (tgt := 11) hx hb dMo_stop_69 (by decide) ?_
            exact ih11 (i + 1) stz _ _ _ _ (by omega) (by omega) (by rw [stF_take (by omega), ← hsz, if_pos (Or.inl (by omega))]) hFr gx g1 g2 g3 g4 g5 g6 g7 g8 g9 g10 g11 g12 g13 g14 g15 hZ (lv_sub hl [0, 1] rfl)
          · obtain ⟨f5, g5b, hN5, hv5, hk5⟩ := g5
            refine lv_aload_n hx hb dMo_stop_41 rfl (lv_at hl 1 rfl) ?_
            refine hw_get hx hb hts (hwInn inMo) hown hK hZ gx rfl 7 (by decide) (hts (.fieldLink RMo 24 RMo "stops" "[J") (hwMem mm_368)) (fun _ h => h) rfl dMo_stop_42 ?_
            refine lv_aload_n hx hb dMo_stop_45 rfl (lv_at hl 1 rfl) ?_
            refine hw_get hx hb hts (hwInn inMo) hown hK hZ gx rfl 8 (by decide) (hts (.fieldLink RMo 101 RMo "stopCount" "I") (hwMem mm_367)) (fun _ h => h) rfl dMo_stop_46 ?_
            refine lv_aload_n hx hb dMo_stop_49 rfl (lv_at hl 1 rfl) ?_
            refine hw_get hx hb hts (hwInn inMo) hown hK hZ gx rfl 11 (by decide) (hts (.fieldLink RMo 31 RMo "asked" "[J") (hwMem mm_383)) (fun _ h => h) rfl dMo_stop_50 ?_
            refine lv_iload_n hx hb dMo_stop_53 rfl (lv_at hl 0 rfl) ?_
            refine hw_lald hx hb hK hZ 1 gc7 rfl (j := i) (by omega) (by omega) dMo_stop_54 ?_
            refine hw_topl (hv7 i (by omega)) ?_
            refine hw_last hx hb hK hZ 1 g5b rfl (j := stz.length) (by omega) (by omega) dMo_stop_55 (fun X_17 H_18 lc_19 hZ hF hNw => ?_)
            have hFr := hwF.tr hFr hF (fun _ h => h) (fun M h => by first | exact False.elim h | ((try dsimp only at h ⊢); omega))
            have gx := hF _ _ _ (by intro hNS; first | exact False.elim hNS | ((try dsimp only at hNS); omega)) gx
            have g1 := hF _ _ _ (by intro hNS; first | exact False.elim hNS | ((try dsimp only at hNS); omega)) g1
            have g2 := hF _ _ _ (by intro hNS; first | exact False.elim hNS | ((try dsimp only at hNS); omega)) g2
            have g3 := hF _ _ _ (by intro hNS; first | exact False.elim hNS | ((try dsimp only at hNS); omega)) g3
            have g4 := hF _ _ _ (by intro hNS; first | exact False.elim hNS | ((try dsimp only at hNS); omega)) g4
            have g6 := hF _ _ _ (by intro hNS; first | exact False.elim hNS | ((try dsimp only at hNS); omega)) g6
            have g7 := rwAt.fr hF (by intro hNS; first | exact False.elim hNS | ((try dsimp only at hNS); omega)) g7
            have g8 := rwAt.fr hF (by intro hNS; first | exact False.elim hNS | ((try dsimp only at hNS); omega)) g8
            have g9 := rwAt.fr hF (by intro hNS; first | exact False.elim hNS | ((try dsimp only at hNS); omega)) g9
            have g10 := rwAt.fr hF (by intro hNS; first | exact False.elim hNS | ((try dsimp only at hNS); omega)) g10
            have g11 := hF _ _ _ (by intro hNS; first | exact False.elim hNS | ((try dsimp only at hNS); omega)) g11
            have g12 := hF _ _ _ (by intro hNS; first | exact False.elim hNS | ((try dsimp only at hNS); omega)) g12
            have g13 := hF _ _ _ (by intro hNS; first | exact False.elim hNS | ((try dsimp only at hNS); omega)) g13
            have g14 := rwAt.fr hF (by intro hNS; first | exact False.elim hNS | ((try dsimp only at hNS); omega)) g14
            have g15 := hF _ _ _ (by intro hNS; first | exact False.elim hNS | ((try dsimp only at hNS); omega)) g15
            have gc7 := hF _ _ _ (by intro hNS; first | exact False.elim hNS | ((try dsimp only at hNS); omega)) gc7
            have g5b := hNw
            refine lv_aload_n hx hb dMo_stop_56 rfl (lv_at hl 1 rfl) ?_
            refine lv_dup hx hb dMo_stop_57 rfl ?_
            refine hw_get hx hb hts (hwInn inMo) hown hK hZ gx rfl 8 (by decide) (hts (.fieldLink RMo 101 RMo "stopCount" "I") (hwMem mm_367)) (fun _ h => h) rfl dMo_stop_58 ?_
            refine lv_iconst (v := nI 1) hx hb dMo_stop_61 (by decide) ?_
            refine lv_iadd hx hb dMo_stop_62 ?_
            refine hw_topi (nI_add stz.length 1) ?_
            refine hw_put (ty := .int) (fs' := [.int (nI 0), .int (nI its.length), .ref r1, .int (nI sg.length), .ref r2, .ref r3, .ref r4, .ref r5, .int (nI (stz.length + 1)), .ref r6, .int (nI 0), .ref r7, .int (nI ((tkF sd).1.length)), .ref r8, .ref r9, .ref r10, .int (nI nw), .int (nI hs.length), .ref r11, .ref r12, .ref r13, .ref r14, .int (nI nt), .ref r15]) hx hb hts (hwInn inMo) tyMo tyMo_ok nmMo hown hK hZ gx rfl 8 (by decide) (hts (.fieldLink RMo 101 RMo "stopCount" "I") (hwMem mm_367)) (fun _ h => h) rfl (by decide +kernel) rfl rfl (Nat.le_of_ble_eq_true rfl) rfl dMo_stop_63 (fun X_20 H_21 lc_22 hZ hF hNw => ?_)
            have hFr := hwF.tr hFr hF (fun _ h => h) (fun M h => by first | exact False.elim h | ((try dsimp only at h ⊢); omega))
            have gx := hNw
            have g1 := hF _ _ _ (by intro hNS; first | exact False.elim hNS | ((try dsimp only at hNS); omega)) g1
            have g2 := hF _ _ _ (by intro hNS; first | exact False.elim hNS | ((try dsimp only at hNS); omega)) g2
            have g3 := hF _ _ _ (by intro hNS; first | exact False.elim hNS | ((try dsimp only at hNS); omega)) g3
            have g4 := hF _ _ _ (by intro hNS; first | exact False.elim hNS | ((try dsimp only at hNS); omega)) g4
            have g6 := hF _ _ _ (by intro hNS; first | exact False.elim hNS | ((try dsimp only at hNS); omega)) g6
            have g7 := rwAt.fr hF (by intro hNS; first | exact False.elim hNS | ((try dsimp only at hNS); omega)) g7
            have g8 := rwAt.fr hF (by intro hNS; first | exact False.elim hNS | ((try dsimp only at hNS); omega)) g8
            have g9 := rwAt.fr hF (by intro hNS; first | exact False.elim hNS | ((try dsimp only at hNS); omega)) g9
            have g10 := rwAt.fr hF (by intro hNS; first | exact False.elim hNS | ((try dsimp only at hNS); omega)) g10
            have g11 := hF _ _ _ (by intro hNS; first | exact False.elim hNS | ((try dsimp only at hNS); omega)) g11
            have g12 := hF _ _ _ (by intro hNS; first | exact False.elim hNS | ((try dsimp only at hNS); omega)) g12
            have g13 := hF _ _ _ (by intro hNS; first | exact False.elim hNS | ((try dsimp only at hNS); omega)) g13
            have g14 := rwAt.fr hF (by intro hNS; first | exact False.elim hNS | ((try dsimp only at hNS); omega)) g14
            have g15 := hF _ _ _ (by intro hNS; first | exact False.elim hNS | ((try dsimp only at hNS); omega)) g15
            have gc7 := hF _ _ _ (by intro hNS; first | exact False.elim hNS | ((try dsimp only at hNS); omega)) gc7
            have g5b := hF _ _ _ (by intro hNS; first | exact False.elim hNS | ((try dsimp only at hNS); omega)) g5b
            have g5c : rwAt K X_20 r5 1005 40 (stz ++ [(tkF sd).1.getD i []]) := ⟨_, g5b, by rw [app1_len]; omega, hv5.push, hk5.app (okWs.one (hQ2 i))⟩
            rw [show stz.length + 1 = (stz ++ [(tkF sd).1.getD i []]).length from (app1_len _ _).symm] at gx
            refine lv_iinc (v := nI (i + 1)) (lv' := [(1, .int (nI (i + 1))), (0, .ref a)]) hx hb dMo_stop_66 hl (k := 0) rfl (nI_add _ 1) (by decide) rfl (fun ls hl => ?_)
            refine lv_goto (tgt := 11) hx hb dMo_stop_69 (by decide) ?_
            exact ih11 (i + 1) (stz ++ [(tkF sd).1.getD i []]) _ _ _ _ (by omega) (by omega) (by rw [stF_take (by omega), ← hsz, if_neg (fun h => h.elim (fun h => absurd h (by omega)) (fun h => absurd h (of_decide_eq_false cq_15)))]) hFr gx g1 g2 g3 g4 g5c g6 g7 g8 g9 g10 g11 g12 g13 g14 g15 hZ (lv_sub hl [0, 1] rfl)
  exact loop11 ((tkF sd).1.length - 0 + 1) 0 st _ _ _ _ (by omega) (by omega) (by rw [List.take_zero]; rfl) hFr ff_9 g1 g2 g3 g4 g5 g6 ff_10 g8 g9 g10 g11 g12 g13 g14 g15 hZ (lv_sub hl [0, 1] rfl)
set_option maxHeartbeats 4000000 in
set_option maxRecDepth 100000 in
theorem q_init (l : Launch) (D : va_G) (K : Nat → ClassId) (X : hwW) (sz : Nat) (a : Nat) (f0_ : hwH X a 1000 (.inr (10, [.int (nI 0), .int (nI 0), .null, .int (nI 0), .null, .null, .null, .null, .int (nI 0), .null, .int (nI 0), .null, .int (nI 0), .null, .null, .null, .int (nI 0), .int (nI 0), .null, .null, .null, .null, .int (nI 0), .null]))) : Met l yMo_init (.code yMo_init cMo_init 1 none :: hwG) ({ frames := 1, cells := 15, slots := 5954, locals := 20 } : Room) (hwPc D vwCl (hwT K) [.ref a] X sz) (hwQv D vwCl X sz (fun Y => hwF X Y (fun M => 1000 ≤ M ∧ M < 1100) ∧ moAt K Y a [] [] (fun _ => 0) [] [] [])) 15 5954 (va_A X.1 sz) := by
  refine hwMetv (cc := cMo_init) (maxL := 1) (by decide) rfl (Nat.le_of_ble_eq_true rfl) (fun p e s m args below meth c ls A Q hx hb hml hown hts hname hret hK hO hZ hA hl => ?_)
  have hl : lv_has ls 1 [(0, .ref a)] := hl
  have hFr : hwF X X (fun M => 1000 ≤ M ∧ M < 1100) := hwF.rf
  refine lv_aload_n hx hb dMo_init_0 rfl (lv_at hl 0 rfl) ?_
  refine W.objInit hx hb hown (hts (.methodLink RMo 1 objectInit) (hwMem mm_485)) (hts (.instanceMethod objectInit) (hwMem mm_31)) (hts (.code objectInit ⟨#[0xb1]⟩ 1 none) (hwMem mm_32)) rfl (by rw [hml]; exact hl.1) rfl dMo_init_1 (Nat.le_of_ble_eq_true rfl) (Nat.le_of_ble_eq_true rfl) ?_
  refine W.eq (g2 := F0 m 4 ls []) rfl ?_
  refine lv_aload_n hx hb dMo_init_4 rfl (lv_at hl 0 rfl) ?_
  refine lv_bipush (v := nI 31) hx hb dMo_init_5 (by decide) ?_
  refine hw_newa (atype := .boolean) (ty := .boolean) (a0 := (31, .inl (fun _ => 0))) (N := 31) hx hb (hts (.arrayClass .boolean) (hwMem mm_486)) rfl hK hZ hA 2 rfl (fun _ _ => rfl) (fun _ => rfl) (by omega) (by show _ * _ ≤ _; first | decide | (simp only [componentBytes]; omega)) (show 0 + 1 ≤ 15 by omega) (show 0 + 31 ≤ 5954 by omega) dMo_init_7 1001 (fun qq_1 X_2 H_3 hZ hF hNw => ?_)
  have hFr := hwF.tr hFr hF (fun _ h => h) (fun M h => by first | exact False.elim h | ((try dsimp only at h ⊢); omega))
  have f0_ := hF _ _ _ (by intro hNS; first | exact False.elim hNS | ((try dsimp only at hNS); omega)) f0_
  have ff_5 := hNw
  refine hw_putF (ty := (.array .boolean)) (fs' := [.int (nI 0), .int (nI 0), .ref qq_1, .int (nI 0), .null, .null, .null, .null, .int (nI 0), .null, .int (nI 0), .null, .int (nI 0), .null, .null, .null, .int (nI 0), .int (nI 0), .null, .null, .null, .null, .int (nI 0), .null]) hx hb hts (hwInn inMo) tyMo tyMo_ok nmMo hown hK hZ f0_ rfl 2 (by decide) (hts (.fieldLink RMo 7 RMo "there" "[Z") (hwMem mm_419)) (fun _ h => h) rfl hname rfl (by decide +kernel) rfl rfl (Nat.le_of_ble_eq_true rfl) rfl dMo_init_9 (fun X_6 H_7 lc_8 hZ hF hNw => ?_)
  have hFr := hwF.tr hFr hF (fun _ h => h) (fun M h => by first | exact False.elim h | ((try dsimp only at h ⊢); omega))
  have f0_ := hNw
  have ff_5 := hF _ _ _ (by intro hNS; first | exact False.elim hNS | ((try dsimp only at hNS); omega)) ff_5
  refine lv_aload_n hx hb dMo_init_12 rfl (lv_at hl 0 rfl) ?_
  refine lv_sipush (v := nI 1500) hx hb dMo_init_13 (by decide) ?_
  refine hw_newa (atype := .byte) (ty := .byte) (a0 := (1500, .inl (fun _ => 0))) (N := 1500) hx hb (hts (.arrayClass .byte) (hwMem mm_487)) rfl hK hZ hA 3 rfl (fun _ _ => rfl) (fun _ => rfl) (by omega) (by show _ * _ ≤ _; first | decide | (simp only [componentBytes]; omega)) (show 1 + 1 ≤ 15 by omega) (show (0 + 31) + 1500 ≤ 5954 by omega) dMo_init_16 1002 (fun qq_9 X_10 H_11 hZ hF hNw => ?_)
  have hFr := hwF.tr hFr hF (fun _ h => h) (fun M h => by first | exact False.elim h | ((try dsimp only at h ⊢); omega))
  have f0_ := hF _ _ _ (by intro hNS; first | exact False.elim hNS | ((try dsimp only at hNS); omega)) f0_
  have ff_5 := hF _ _ _ (by intro hNS; first | exact False.elim hNS | ((try dsimp only at hNS); omega)) ff_5
  have ff_13 := hNw
  refine hw_putF (ty := (.array .byte)) (fs' := [.int (nI 0), .int (nI 0), .ref qq_1, .int (nI 0), .ref qq_9, .null, .null, .null, .int (nI 0), .null, .int (nI 0), .null, .int (nI 0), .null, .null, .null, .int (nI 0), .int (nI 0), .null, .null, .null, .null, .int (nI 0), .null]) hx hb hts (hwInn inMo) tyMo tyMo_ok nmMo hown hK hZ f0_ rfl 4 (by decide) (hts (.fieldLink RMo 13 RMo "sign" "[B") (hwMem mm_396)) (fun _ h => h) rfl hname rfl (by decide +kernel) rfl rfl (Nat.le_of_ble_eq_true rfl) rfl dMo_init_18 (fun X_14 H_15 lc_16 hZ hF hNw => ?_)
  have hFr := hwF.tr hFr hF (fun _ h => h) (fun M h => by first | exact False.elim h | ((try dsimp only at h ⊢); omega))
  have f0_ := hNw
  have ff_5 := hF _ _ _ (by intro hNS; first | exact False.elim hNS | ((try dsimp only at hNS); omega)) ff_5
  have ff_13 := hF _ _ _ (by intro hNS; first | exact False.elim hNS | ((try dsimp only at hNS); omega)) ff_13
  refine lv_aload_n hx hb dMo_init_21 rfl (lv_at hl 0 rfl) ?_
  refine lv_sipush (v := nI 1500) hx hb dMo_init_22 (by decide) ?_
  refine hw_newa (atype := .int) (ty := .int) (a0 := (1500, .inl (fun _ => 0))) (N := 1500) hx hb (hts (.arrayClass .int) (hwMem mm_170)) rfl hK hZ hA 0 rfl (fun _ _ => rfl) (fun _ => rfl) (by omega) (by show _ * _ ≤ _; first | decide | (simp only [componentBytes]; omega)) (show 2 + 1 ≤ 15 by omega) (show (0 + 31 + 1500) + 1500 ≤ 5954 by omega) dMo_init_25 1003 (fun qq_17 X_18 H_19 hZ hF hNw => ?_)
  have hFr := hwF.tr hFr hF (fun _ h => h) (fun M h => by first | exact False.elim h | ((try dsimp only at h ⊢); omega))
  have f0_ := hF _ _ _ (by intro hNS; first | exact False.elim hNS | ((try dsimp only at hNS); omega)) f0_
  have ff_5 := hF _ _ _ (by intro hNS; first | exact False.elim hNS | ((try dsimp only at hNS); omega)) ff_5
  have ff_13 := hF _ _ _ (by intro hNS; first | exact False.elim hNS | ((try dsimp only at hNS); omega)) ff_13
  have ff_21 := hNw
  refine hw_putF (ty := (.array .int)) (fs' := [.int (nI 0), .int (nI 0), .ref qq_1, .int (nI 0), .ref qq_9, .ref qq_17, .null, .null, .int (nI 0), .null, .int (nI 0), .null, .int (nI 0), .null, .null, .null, .int (nI 0), .int (nI 0), .null, .null, .null, .null, .int (nI 0), .null]) hx hb hts (hwInn inMo) tyMo tyMo_ok nmMo hown hK hZ f0_ rfl 5 (by decide) (hts (.fieldLink RMo 17 RMo "place" "[I") (hwMem mm_395)) (fun _ h => h) rfl hname rfl (by decide +kernel) rfl rfl (Nat.le_of_ble_eq_true rfl) rfl dMo_init_27 (fun X_22 H_23 lc_24 hZ hF hNw => ?_)
  have hFr := hwF.tr hFr hF (fun _ h => h) (fun M h => by first | exact False.elim h | ((try dsimp only at h ⊢); omega))
  have f0_ := hNw
  have ff_5 := hF _ _ _ (by intro hNS; first | exact False.elim hNS | ((try dsimp only at hNS); omega)) ff_5
  have ff_13 := hF _ _ _ (by intro hNS; first | exact False.elim hNS | ((try dsimp only at hNS); omega)) ff_13
  have ff_21 := hF _ _ _ (by intro hNS; first | exact False.elim hNS | ((try dsimp only at hNS); omega)) ff_21
  refine lv_aload_n hx hb dMo_init_30 rfl (lv_at hl 0 rfl) ?_
  refine lv_iconst (v := nI 4) hx hb dMo_init_31 (by decide) ?_
  refine hw_newa (atype := .int) (ty := .int) (a0 := (4, .inl (fun _ => 0))) (N := 4) hx hb (hts (.arrayClass .int) (hwMem mm_170)) rfl hK hZ hA 0 rfl (fun _ _ => rfl) (fun _ => rfl) (by omega) (by show _ * _ ≤ _; first | decide | (simp only [componentBytes]; omega)) (show 3 + 1 ≤ 15 by omega) (show (0 + 31 + 1500 + 1500) + 4 ≤ 5954 by omega) dMo_init_32 1004 (fun qq_25 X_26 H_27 hZ hF hNw => ?_)
  have hFr := hwF.tr hFr hF (fun _ h => h) (fun M h => by first | exact False.elim h | ((try dsimp only at h ⊢); omega))
  have f0_ := hF _ _ _ (by intro hNS; first | exact False.elim hNS | ((try dsimp only at hNS); omega)) f0_
  have ff_5 := hF _ _ _ (by intro hNS; first | exact False.elim hNS | ((try dsimp only at hNS); omega)) ff_5
  have ff_13 := hF _ _ _ (by intro hNS; first | exact False.elim hNS | ((try dsimp only at hNS); omega)) ff_13
  have ff_21 := hF _ _ _ (by intro hNS; first | exact False.elim hNS | ((try dsimp only at hNS); omega)) ff_21
  have ff_29 := hNw
  refine hw_putF (ty := (.array .int)) (fs' := [.int (nI 0), .int (nI 0), .ref qq_1, .int (nI 0), .ref qq_9, .ref qq_17, .ref qq_25, .null, .int (nI 0), .null, .int (nI 0), .null, .int (nI 0), .null, .null, .null, .int (nI 0), .int (nI 0), .null, .null, .null, .null, .int (nI 0), .null]) hx hb hts (hwInn inMo) tyMo tyMo_ok nmMo hown hK hZ f0_ rfl 6 (by decide) (hts (.fieldLink RMo 21 RMo "languages" "[I") (hwMem mm_373)) (fun _ h => h) rfl hname rfl (by decide +kernel) rfl rfl (Nat.le_of_ble_eq_true rfl) rfl dMo_init_34 (fun X_30 H_31 lc_32 hZ hF hNw => ?_)
  have hFr := hwF.tr hFr hF (fun _ h => h) (fun M h => by first | exact False.elim h | ((try dsimp only at h ⊢); omega))
  have f0_ := hNw
  have ff_5 := hF _ _ _ (by intro hNS; first | exact False.elim hNS | ((try dsimp only at hNS); omega)) ff_5
  have ff_13 := hF _ _ _ (by intro hNS; first | exact False.elim hNS | ((try dsimp only at hNS); omega)) ff_13
  have ff_21 := hF _ _ _ (by intro hNS; first | exact False.elim hNS | ((try dsimp only at hNS); omega)) ff_21
  have ff_29 := hF _ _ _ (by intro hNS; first | exact False.elim hNS | ((try dsimp only at hNS); omega)) ff_29
  refine lv_aload_n hx hb dMo_init_37 rfl (lv_at hl 0 rfl) ?_
  refine lv_bipush (v := nI 40) hx hb dMo_init_38 (by decide) ?_
  refine hw_newa (atype := .long) (ty := .long) (a0 := (40, .inr (.inl (fun _ => 0)))) (N := 40) hx hb (hts (.arrayClass .long) (hwMem mm_24)) rfl hK hZ hA 1 rfl (fun _ _ => rfl) (fun _ => rfl) (by omega) (by show _ * _ ≤ _; first | decide | (simp only [componentBytes]; omega)) (show 4 + 1 ≤ 15 by omega) (show (0 + 31 + 1500 + 1500 + 4) + 40 ≤ 5954 by omega) dMo_init_40 1005 (fun qq_33 X_34 H_35 hZ hF hNw => ?_)
  have hFr := hwF.tr hFr hF (fun _ h => h) (fun M h => by first | exact False.elim h | ((try dsimp only at h ⊢); omega))
  have f0_ := hF _ _ _ (by intro hNS; first | exact False.elim hNS | ((try dsimp only at hNS); omega)) f0_
  have ff_5 := hF _ _ _ (by intro hNS; first | exact False.elim hNS | ((try dsimp only at hNS); omega)) ff_5
  have ff_13 := hF _ _ _ (by intro hNS; first | exact False.elim hNS | ((try dsimp only at hNS); omega)) ff_13
  have ff_21 := hF _ _ _ (by intro hNS; first | exact False.elim hNS | ((try dsimp only at hNS); omega)) ff_21
  have ff_29 := hF _ _ _ (by intro hNS; first | exact False.elim hNS | ((try dsimp only at hNS); omega)) ff_29
  have ff_37 := hNw
  refine hw_putF (ty := (.array .long)) (fs' := [.int (nI 0), .int (nI 0), .ref qq_1, .int (nI 0), .ref qq_9, .ref qq_17, .ref qq_25, .ref qq_33, .int (nI 0), .null, .int (nI 0), .null, .int (nI 0), .null, .null, .null, .int (nI 0), .int (nI 0), .null, .null, .null, .null, .int (nI 0), .null]) hx hb hts (hwInn inMo) tyMo tyMo_ok nmMo hown hK hZ f0_ rfl 7 (by decide) (hts (.fieldLink RMo 24 RMo "stops" "[J") (hwMem mm_368)) (fun _ h => h) rfl hname rfl (by decide +kernel) rfl rfl (Nat.le_of_ble_eq_true rfl) rfl dMo_init_42 (fun X_38 H_39 lc_40 hZ hF hNw => ?_)
  have hFr := hwF.tr hFr hF (fun _ h => h) (fun M h => by first | exact False.elim h | ((try dsimp only at h ⊢); omega))
  have f0_ := hNw
  have ff_5 := hF _ _ _ (by intro hNS; first | exact False.elim hNS | ((try dsimp only at hNS); omega)) ff_5
  have ff_13 := hF _ _ _ (by intro hNS; first | exact False.elim hNS | ((try dsimp only at hNS); omega)) ff_13
  have ff_21 := hF _ _ _ (by intro hNS; first | exact False.elim hNS | ((try dsimp only at hNS); omega)) ff_21
  have ff_29 := hF _ _ _ (by intro hNS; first | exact False.elim hNS | ((try dsimp only at hNS); omega)) ff_29
  have ff_37 := hF _ _ _ (by intro hNS; first | exact False.elim hNS | ((try dsimp only at hNS); omega)) ff_37
  refine lv_aload_n hx hb dMo_init_45 rfl (lv_at hl 0 rfl) ?_
  refine lv_bipush (v := nI 100) hx hb dMo_init_46 (by decide) ?_
  refine hw_newa (atype := .byte) (ty := .byte) (a0 := (100, .inl (fun _ => 0))) (N := 100) hx hb (hts (.arrayClass .byte) (hwMem mm_487)) rfl hK hZ hA 3 rfl (fun _ _ => rfl) (fun _ => rfl) (by omega) (by show _ * _ ≤ _; first | decide | (simp only [componentBytes]; omega)) (show 5 + 1 ≤ 15 by omega) (show (0 + 31 + 1500 + 1500 + 4 + 40) + 100 ≤ 5954 by omega) dMo_init_48 1006 (fun qq_41 X_42 H_43 hZ hF hNw => ?_)
  have hFr := hwF.tr hFr hF (fun _ h => h) (fun M h => by first | exact False.elim h | ((try dsimp only at h ⊢); omega))
  have f0_ := hF _ _ _ (by intro hNS; first | exact False.elim hNS | ((try dsimp only at hNS); omega)) f0_
  have ff_5 := hF _ _ _ (by intro hNS; first | exact False.elim hNS | ((try dsimp only at hNS); omega)) ff_5
  have ff_13 := hF _ _ _ (by intro hNS; first | exact False.elim hNS | ((try dsimp only at hNS); omega)) ff_13
  have ff_21 := hF _ _ _ (by intro hNS; first | exact False.elim hNS | ((try dsimp only at hNS); omega)) ff_21
  have ff_29 := hF _ _ _ (by intro hNS; first | exact False.elim hNS | ((try dsimp only at hNS); omega)) ff_29
  have ff_37 := hF _ _ _ (by intro hNS; first | exact False.elim hNS | ((try dsimp only at hNS); omega)) ff_37
  have ff_45 := hNw
  refine hw_putF (ty := (.array .byte)) (fs' := [.int (nI 0), .int (nI 0), .ref qq_1, .int (nI 0), .ref qq_9, .ref qq_17, .ref qq_25, .ref qq_33, .int (nI 0), .ref qq_41, .int (nI 0), .null, .int (nI 0), .null, .null, .null, .int (nI 0), .int (nI 0), .null, .null, .null, .null, .int (nI 0), .null]) hx hb hts (hwInn inMo) tyMo tyMo_ok nmMo hown hK hZ f0_ rfl 9 (by decide) (hts (.fieldLink RMo 28 RMo "said" "[B") (hwMem mm_379)) (fun _ h => h) rfl hname rfl (by decide +kernel) rfl rfl (Nat.le_of_ble_eq_true rfl) rfl dMo_init_50 (fun X_46 H_47 lc_48 hZ hF hNw => ?_)
  have hFr := hwF.tr hFr hF (fun _ h => h) (fun M h => by first | exact False.elim h | ((try dsimp only at h ⊢); omega))
  have f0_ := hNw
  have ff_5 := hF _ _ _ (by intro hNS; first | exact False.elim hNS | ((try dsimp only at hNS); omega)) ff_5
  have ff_13 := hF _ _ _ (by intro hNS; first | exact False.elim hNS | ((try dsimp only at hNS); omega)) ff_13
  have ff_21 := hF _ _ _ (by intro hNS; first | exact False.elim hNS | ((try dsimp only at hNS); omega)) ff_21
  have ff_29 := hF _ _ _ (by intro hNS; first | exact False.elim hNS | ((try dsimp only at hNS); omega)) ff_29
  have ff_37 := hF _ _ _ (by intro hNS; first | exact False.elim hNS | ((try dsimp only at hNS); omega)) ff_37
  have ff_45 := hF _ _ _ (by intro hNS; first | exact False.elim hNS | ((try dsimp only at hNS); omega)) ff_45
  refine lv_aload_n hx hb dMo_init_53 rfl (lv_at hl 0 rfl) ?_
  refine lv_bipush (v := nI 60) hx hb dMo_init_54 (by decide) ?_
  refine hw_newa (atype := .long) (ty := .long) (a0 := (60, .inr (.inl (fun _ => 0)))) (N := 60) hx hb (hts (.arrayClass .long) (hwMem mm_24)) rfl hK hZ hA 1 rfl (fun _ _ => rfl) (fun _ => rfl) (by omega) (by show _ * _ ≤ _; first | decide | (simp only [componentBytes]; omega)) (show 6 + 1 ≤ 15 by omega) (show (0 + 31 + 1500 + 1500 + 4 + 40 + 100) + 60 ≤ 5954 by omega) dMo_init_56 1007 (fun qq_49 X_50 H_51 hZ hF hNw => ?_)
  have hFr := hwF.tr hFr hF (fun _ h => h) (fun M h => by first | exact False.elim h | ((try dsimp only at h ⊢); omega))
  have f0_ := hF _ _ _ (by intro hNS; first | exact False.elim hNS | ((try dsimp only at hNS); omega)) f0_
  have ff_5 := hF _ _ _ (by intro hNS; first | exact False.elim hNS | ((try dsimp only at hNS); omega)) ff_5
  have ff_13 := hF _ _ _ (by intro hNS; first | exact False.elim hNS | ((try dsimp only at hNS); omega)) ff_13
  have ff_21 := hF _ _ _ (by intro hNS; first | exact False.elim hNS | ((try dsimp only at hNS); omega)) ff_21
  have ff_29 := hF _ _ _ (by intro hNS; first | exact False.elim hNS | ((try dsimp only at hNS); omega)) ff_29
  have ff_37 := hF _ _ _ (by intro hNS; first | exact False.elim hNS | ((try dsimp only at hNS); omega)) ff_37
  have ff_45 := hF _ _ _ (by intro hNS; first | exact False.elim hNS | ((try dsimp only at hNS); omega)) ff_45
  have ff_53 := hNw
  refine hw_putF (ty := (.array .long)) (fs' := [.int (nI 0), .int (nI 0), .ref qq_1, .int (nI 0), .ref qq_9, .ref qq_17, .ref qq_25, .ref qq_33, .int (nI 0), .ref qq_41, .int (nI 0), .ref qq_49, .int (nI 0), .null, .null, .null, .int (nI 0), .int (nI 0), .null, .null, .null, .null, .int (nI 0), .null]) hx hb hts (hwInn inMo) tyMo tyMo_ok nmMo hown hK hZ f0_ rfl 11 (by decide) (hts (.fieldLink RMo 31 RMo "asked" "[J") (hwMem mm_383)) (fun _ h => h) rfl hname rfl (by decide +kernel) rfl rfl (Nat.le_of_ble_eq_true rfl) rfl dMo_init_58 (fun X_54 H_55 lc_56 hZ hF hNw => ?_)
  have hFr := hwF.tr hFr hF (fun _ h => h) (fun M h => by first | exact False.elim h | ((try dsimp only at h ⊢); omega))
  have f0_ := hNw
  have ff_5 := hF _ _ _ (by intro hNS; first | exact False.elim hNS | ((try dsimp only at hNS); omega)) ff_5
  have ff_13 := hF _ _ _ (by intro hNS; first | exact False.elim hNS | ((try dsimp only at hNS); omega)) ff_13
  have ff_21 := hF _ _ _ (by intro hNS; first | exact False.elim hNS | ((try dsimp only at hNS); omega)) ff_21
  have ff_29 := hF _ _ _ (by intro hNS; first | exact False.elim hNS | ((try dsimp only at hNS); omega)) ff_29
  have ff_37 := hF _ _ _ (by intro hNS; first | exact False.elim hNS | ((try dsimp only at hNS); omega)) ff_37
  have ff_45 := hF _ _ _ (by intro hNS; first | exact False.elim hNS | ((try dsimp only at hNS); omega)) ff_45
  have ff_53 := hF _ _ _ (by intro hNS; first | exact False.elim hNS | ((try dsimp only at hNS); omega)) ff_53
  refine lv_aload_n hx hb dMo_init_61 rfl (lv_at hl 0 rfl) ?_
  refine lv_sipush (v := nI 800) hx hb dMo_init_62 (by decide) ?_
  refine hw_newa (atype := .long) (ty := .long) (a0 := (800, .inr (.inl (fun _ => 0)))) (N := 800) hx hb (hts (.arrayClass .long) (hwMem mm_24)) rfl hK hZ hA 1 rfl (fun _ _ => rfl) (fun _ => rfl) (by omega) (by show _ * _ ≤ _; first | decide | (simp only [componentBytes]; omega)) (show 7 + 1 ≤ 15 by omega) (show (0 + 31 + 1500 + 1500 + 4 + 40 + 100 + 60) + 800 ≤ 5954 by omega) dMo_init_65 1008 (fun qq_57 X_58 H_59 hZ hF hNw => ?_)
  have hFr := hwF.tr hFr hF (fun _ h => h) (fun M h => by first | exact False.elim h | ((try dsimp only at h ⊢); omega))
  have f0_ := hF _ _ _ (by intro hNS; first | exact False.elim hNS | ((try dsimp only at hNS); omega)) f0_
  have ff_5 := hF _ _ _ (by intro hNS; first | exact False.elim hNS | ((try dsimp only at hNS); omega)) ff_5
  have ff_13 := hF _ _ _ (by intro hNS; first | exact False.elim hNS | ((try dsimp only at hNS); omega)) ff_13
  have ff_21 := hF _ _ _ (by intro hNS; first | exact False.elim hNS | ((try dsimp only at hNS); omega)) ff_21
  have ff_29 := hF _ _ _ (by intro hNS; first | exact False.elim hNS | ((try dsimp only at hNS); omega)) ff_29
  have ff_37 := hF _ _ _ (by intro hNS; first | exact False.elim hNS | ((try dsimp only at hNS); omega)) ff_37
  have ff_45 := hF _ _ _ (by intro hNS; first | exact False.elim hNS | ((try dsimp only at hNS); omega)) ff_45
  have ff_53 := hF _ _ _ (by intro hNS; first | exact False.elim hNS | ((try dsimp only at hNS); omega)) ff_53
  have ff_61 := hNw
  refine hw_putF (ty := (.array .long)) (fs' := [.int (nI 0), .int (nI 0), .ref qq_1, .int (nI 0), .ref qq_9, .ref qq_17, .ref qq_25, .ref qq_33, .int (nI 0), .ref qq_41, .int (nI 0), .ref qq_49, .int (nI 0), .ref qq_57, .null, .null, .int (nI 0), .int (nI 0), .null, .null, .null, .null, .int (nI 0), .null]) hx hb hts (hwInn inMo) tyMo tyMo_ok nmMo hown hK hZ f0_ rfl 13 (by decide) (hts (.fieldLink RMo 34 RMo "row" "[J") (hwMem mm_390)) (fun _ h => h) rfl hname rfl (by decide +kernel) rfl rfl (Nat.le_of_ble_eq_true rfl) rfl dMo_init_67 (fun X_62 H_63 lc_64 hZ hF hNw => ?_)
  have hFr := hwF.tr hFr hF (fun _ h => h) (fun M h => by first | exact False.elim h | ((try dsimp only at h ⊢); omega))
  have f0_ := hNw
  have ff_5 := hF _ _ _ (by intro hNS; first | exact False.elim hNS | ((try dsimp only at hNS); omega)) ff_5
  have ff_13 := hF _ _ _ (by intro hNS; first | exact False.elim hNS | ((try dsimp only at hNS); omega)) ff_13
  have ff_21 := hF _ _ _ (by intro hNS; first | exact False.elim hNS | ((try dsimp only at hNS); omega)) ff_21
  have ff_29 := hF _ _ _ (by intro hNS; first | exact False.elim hNS | ((try dsimp only at hNS); omega)) ff_29
  have ff_37 := hF _ _ _ (by intro hNS; first | exact False.elim hNS | ((try dsimp only at hNS); omega)) ff_37
  have ff_45 := hF _ _ _ (by intro hNS; first | exact False.elim hNS | ((try dsimp only at hNS); omega)) ff_45
  have ff_53 := hF _ _ _ (by intro hNS; first | exact False.elim hNS | ((try dsimp only at hNS); omega)) ff_53
  have ff_61 := hF _ _ _ (by intro hNS; first | exact False.elim hNS | ((try dsimp only at hNS); omega)) ff_61
  refine lv_aload_n hx hb dMo_init_70 rfl (lv_at hl 0 rfl) ?_
  refine lv_sipush (v := nI 800) hx hb dMo_init_71 (by decide) ?_
  refine hw_newa (atype := .long) (ty := .long) (a0 := (800, .inr (.inl (fun _ => 0)))) (N := 800) hx hb (hts (.arrayClass .long) (hwMem mm_24)) rfl hK hZ hA 1 rfl (fun _ _ => rfl) (fun _ => rfl) (by omega) (by show _ * _ ≤ _; first | decide | (simp only [componentBytes]; omega)) (show 8 + 1 ≤ 15 by omega) (show (0 + 31 + 1500 + 1500 + 4 + 40 + 100 + 60 + 800) + 800 ≤ 5954 by omega) dMo_init_74 1009 (fun qq_65 X_66 H_67 hZ hF hNw => ?_)
  have hFr := hwF.tr hFr hF (fun _ h => h) (fun M h => by first | exact False.elim h | ((try dsimp only at h ⊢); omega))
  have f0_ := hF _ _ _ (by intro hNS; first | exact False.elim hNS | ((try dsimp only at hNS); omega)) f0_
  have ff_5 := hF _ _ _ (by intro hNS; first | exact False.elim hNS | ((try dsimp only at hNS); omega)) ff_5
  have ff_13 := hF _ _ _ (by intro hNS; first | exact False.elim hNS | ((try dsimp only at hNS); omega)) ff_13
  have ff_21 := hF _ _ _ (by intro hNS; first | exact False.elim hNS | ((try dsimp only at hNS); omega)) ff_21
  have ff_29 := hF _ _ _ (by intro hNS; first | exact False.elim hNS | ((try dsimp only at hNS); omega)) ff_29
  have ff_37 := hF _ _ _ (by intro hNS; first | exact False.elim hNS | ((try dsimp only at hNS); omega)) ff_37
  have ff_45 := hF _ _ _ (by intro hNS; first | exact False.elim hNS | ((try dsimp only at hNS); omega)) ff_45
  have ff_53 := hF _ _ _ (by intro hNS; first | exact False.elim hNS | ((try dsimp only at hNS); omega)) ff_53
  have ff_61 := hF _ _ _ (by intro hNS; first | exact False.elim hNS | ((try dsimp only at hNS); omega)) ff_61
  have ff_69 := hNw
  refine hw_putF (ty := (.array .long)) (fs' := [.int (nI 0), .int (nI 0), .ref qq_1, .int (nI 0), .ref qq_9, .ref qq_17, .ref qq_25, .ref qq_33, .int (nI 0), .ref qq_41, .int (nI 0), .ref qq_49, .int (nI 0), .ref qq_57, .ref qq_65, .null, .int (nI 0), .int (nI 0), .null, .null, .null, .null, .int (nI 0), .null]) hx hb hts (hwInn inMo) tyMo tyMo_ok nmMo hown hK hZ f0_ rfl 14 (by decide) (hts (.fieldLink RMo 37 RMo "rowTerm" "[J") (hwMem mm_389)) (fun _ h => h) rfl hname rfl (by decide +kernel) rfl rfl (Nat.le_of_ble_eq_true rfl) rfl dMo_init_76 (fun X_70 H_71 lc_72 hZ hF hNw => ?_)
  have hFr := hwF.tr hFr hF (fun _ h => h) (fun M h => by first | exact False.elim h | ((try dsimp only at h ⊢); omega))
  have f0_ := hNw
  have ff_5 := hF _ _ _ (by intro hNS; first | exact False.elim hNS | ((try dsimp only at hNS); omega)) ff_5
  have ff_13 := hF _ _ _ (by intro hNS; first | exact False.elim hNS | ((try dsimp only at hNS); omega)) ff_13
  have ff_21 := hF _ _ _ (by intro hNS; first | exact False.elim hNS | ((try dsimp only at hNS); omega)) ff_21
  have ff_29 := hF _ _ _ (by intro hNS; first | exact False.elim hNS | ((try dsimp only at hNS); omega)) ff_29
  have ff_37 := hF _ _ _ (by intro hNS; first | exact False.elim hNS | ((try dsimp only at hNS); omega)) ff_37
  have ff_45 := hF _ _ _ (by intro hNS; first | exact False.elim hNS | ((try dsimp only at hNS); omega)) ff_45
  have ff_53 := hF _ _ _ (by intro hNS; first | exact False.elim hNS | ((try dsimp only at hNS); omega)) ff_53
  have ff_61 := hF _ _ _ (by intro hNS; first | exact False.elim hNS | ((try dsimp only at hNS); omega)) ff_61
  have ff_69 := hF _ _ _ (by intro hNS; first | exact False.elim hNS | ((try dsimp only at hNS); omega)) ff_69
  refine lv_aload_n hx hb dMo_init_79 rfl (lv_at hl 0 rfl) ?_
  refine lv_bipush (v := nI 60) hx hb dMo_init_80 (by decide) ?_
  refine hw_newa (atype := .long) (ty := .long) (a0 := (60, .inr (.inl (fun _ => 0)))) (N := 60) hx hb (hts (.arrayClass .long) (hwMem mm_24)) rfl hK hZ hA 1 rfl (fun _ _ => rfl) (fun _ => rfl) (by omega) (by show _ * _ ≤ _; first | decide | (simp only [componentBytes]; omega)) (show 9 + 1 ≤ 15 by omega) (show (0 + 31 + 1500 + 1500 + 4 + 40 + 100 + 60 + 800 + 800) + 60 ≤ 5954 by omega) dMo_init_82 1010 (fun qq_73 X_74 H_75 hZ hF hNw => ?_)
  have hFr := hwF.tr hFr hF (fun _ h => h) (fun M h => by first | exact False.elim h | ((try dsimp only at h ⊢); omega))
  have f0_ := hF _ _ _ (by intro hNS; first | exact False.elim hNS | ((try dsimp only at hNS); omega)) f0_
  have ff_5 := hF _ _ _ (by intro hNS; first | exact False.elim hNS | ((try dsimp only at hNS); omega)) ff_5
  have ff_13 := hF _ _ _ (by intro hNS; first | exact False.elim hNS | ((try dsimp only at hNS); omega)) ff_13
  have ff_21 := hF _ _ _ (by intro hNS; first | exact False.elim hNS | ((try dsimp only at hNS); omega)) ff_21
  have ff_29 := hF _ _ _ (by intro hNS; first | exact False.elim hNS | ((try dsimp only at hNS); omega)) ff_29
  have ff_37 := hF _ _ _ (by intro hNS; first | exact False.elim hNS | ((try dsimp only at hNS); omega)) ff_37
  have ff_45 := hF _ _ _ (by intro hNS; first | exact False.elim hNS | ((try dsimp only at hNS); omega)) ff_45
  have ff_53 := hF _ _ _ (by intro hNS; first | exact False.elim hNS | ((try dsimp only at hNS); omega)) ff_53
  have ff_61 := hF _ _ _ (by intro hNS; first | exact False.elim hNS | ((try dsimp only at hNS); omega)) ff_61
  have ff_69 := hF _ _ _ (by intro hNS; first | exact False.elim hNS | ((try dsimp only at hNS); omega)) ff_69
  have ff_77 := hNw
  refine hw_putF (ty := (.array .long)) (fs' := [.int (nI 0), .int (nI 0), .ref qq_1, .int (nI 0), .ref qq_9, .ref qq_17, .ref qq_25, .ref qq_33, .int (nI 0), .ref qq_41, .int (nI 0), .ref qq_49, .int (nI 0), .ref qq_57, .ref qq_65, .ref qq_73, .int (nI 0), .int (nI 0), .null, .null, .null, .null, .int (nI 0), .null]) hx hb hts (hwInn inMo) tyMo tyMo_ok nmMo hown hK hZ f0_ rfl 15 (by decide) (hts (.fieldLink RMo 40 RMo "askedTerm" "[J") (hwMem mm_397)) (fun _ h => h) rfl hname rfl (by decide +kernel) rfl rfl (Nat.le_of_ble_eq_true rfl) rfl dMo_init_84 (fun X_78 H_79 lc_80 hZ hF hNw => ?_)
  have hFr := hwF.tr hFr hF (fun _ h => h) (fun M h => by first | exact False.elim h | ((try dsimp only at h ⊢); omega))
  have f0_ := hNw
  have ff_5 := hF _ _ _ (by intro hNS; first | exact False.elim hNS | ((try dsimp only at hNS); omega)) ff_5
  have ff_13 := hF _ _ _ (by intro hNS; first | exact False.elim hNS | ((try dsimp only at hNS); omega)) ff_13
  have ff_21 := hF _ _ _ (by intro hNS; first | exact False.elim hNS | ((try dsimp only at hNS); omega)) ff_21
  have ff_29 := hF _ _ _ (by intro hNS; first | exact False.elim hNS | ((try dsimp only at hNS); omega)) ff_29
  have ff_37 := hF _ _ _ (by intro hNS; first | exact False.elim hNS | ((try dsimp only at hNS); omega)) ff_37
  have ff_45 := hF _ _ _ (by intro hNS; first | exact False.elim hNS | ((try dsimp only at hNS); omega)) ff_45
  have ff_53 := hF _ _ _ (by intro hNS; first | exact False.elim hNS | ((try dsimp only at hNS); omega)) ff_53
  have ff_61 := hF _ _ _ (by intro hNS; first | exact False.elim hNS | ((try dsimp only at hNS); omega)) ff_61
  have ff_69 := hF _ _ _ (by intro hNS; first | exact False.elim hNS | ((try dsimp only at hNS); omega)) ff_69
  have ff_77 := hF _ _ _ (by intro hNS; first | exact False.elim hNS | ((try dsimp only at hNS); omega)) ff_77
  refine lv_aload_n hx hb dMo_init_87 rfl (lv_at hl 0 rfl) ?_
  refine lv_bipush (v := nI 30) hx hb dMo_init_88 (by decide) ?_
  refine hw_newa (atype := .int) (ty := .int) (a0 := (30, .inl (fun _ => 0))) (N := 30) hx hb (hts (.arrayClass .int) (hwMem mm_170)) rfl hK hZ hA 0 rfl (fun _ _ => rfl) (fun _ => rfl) (by omega) (by show _ * _ ≤ _; first | decide | (simp only [componentBytes]; omega)) (show 10 + 1 ≤ 15 by omega) (show (0 + 31 + 1500 + 1500 + 4 + 40 + 100 + 60 + 800 + 800 + 60) + 30 ≤ 5954 by omega) dMo_init_90 1011 (fun qq_81 X_82 H_83 hZ hF hNw => ?_)
  have hFr := hwF.tr hFr hF (fun _ h => h) (fun M h => by first | exact False.elim h | ((try dsimp only at h ⊢); omega))
  have f0_ := hF _ _ _ (by intro hNS; first | exact False.elim hNS | ((try dsimp only at hNS); omega)) f0_
  have ff_5 := hF _ _ _ (by intro hNS; first | exact False.elim hNS | ((try dsimp only at hNS); omega)) ff_5
  have ff_13 := hF _ _ _ (by intro hNS; first | exact False.elim hNS | ((try dsimp only at hNS); omega)) ff_13
  have ff_21 := hF _ _ _ (by intro hNS; first | exact False.elim hNS | ((try dsimp only at hNS); omega)) ff_21
  have ff_29 := hF _ _ _ (by intro hNS; first | exact False.elim hNS | ((try dsimp only at hNS); omega)) ff_29
  have ff_37 := hF _ _ _ (by intro hNS; first | exact False.elim hNS | ((try dsimp only at hNS); omega)) ff_37
  have ff_45 := hF _ _ _ (by intro hNS; first | exact False.elim hNS | ((try dsimp only at hNS); omega)) ff_45
  have ff_53 := hF _ _ _ (by intro hNS; first | exact False.elim hNS | ((try dsimp only at hNS); omega)) ff_53
  have ff_61 := hF _ _ _ (by intro hNS; first | exact False.elim hNS | ((try dsimp only at hNS); omega)) ff_61
  have ff_69 := hF _ _ _ (by intro hNS; first | exact False.elim hNS | ((try dsimp only at hNS); omega)) ff_69
  have ff_77 := hF _ _ _ (by intro hNS; first | exact False.elim hNS | ((try dsimp only at hNS); omega)) ff_77
  have ff_85 := hNw
  refine hw_putF (ty := (.array .int)) (fs' := [.int (nI 0), .int (nI 0), .ref qq_1, .int (nI 0), .ref qq_9, .ref qq_17, .ref qq_25, .ref qq_33, .int (nI 0), .ref qq_41, .int (nI 0), .ref qq_49, .int (nI 0), .ref qq_57, .ref qq_65, .ref qq_73, .int (nI 0), .int (nI 0), .ref qq_81, .null, .null, .null, .int (nI 0), .null]) hx hb hts (hwInn inMo) tyMo tyMo_ok nmMo hown hK hZ f0_ rfl 18 (by decide) (hts (.fieldLink RMo 43 RMo "hitRecord" "[I") (hwMem mm_410)) (fun _ h => h) rfl hname rfl (by decide +kernel) rfl rfl (Nat.le_of_ble_eq_true rfl) rfl dMo_init_92 (fun X_86 H_87 lc_88 hZ hF hNw => ?_)
  have hFr := hwF.tr hFr hF (fun _ h => h) (fun M h => by first | exact False.elim h | ((try dsimp only at h ⊢); omega))
  have f0_ := hNw
  have ff_5 := hF _ _ _ (by intro hNS; first | exact False.elim hNS | ((try dsimp only at hNS); omega)) ff_5
  have ff_13 := hF _ _ _ (by intro hNS; first | exact False.elim hNS | ((try dsimp only at hNS); omega)) ff_13
  have ff_21 := hF _ _ _ (by intro hNS; first | exact False.elim hNS | ((try dsimp only at hNS); omega)) ff_21
  have ff_29 := hF _ _ _ (by intro hNS; first | exact False.elim hNS | ((try dsimp only at hNS); omega)) ff_29
  have ff_37 := hF _ _ _ (by intro hNS; first | exact False.elim hNS | ((try dsimp only at hNS); omega)) ff_37
  have ff_45 := hF _ _ _ (by intro hNS; first | exact False.elim hNS | ((try dsimp only at hNS); omega)) ff_45
  have ff_53 := hF _ _ _ (by intro hNS; first | exact False.elim hNS | ((try dsimp only at hNS); omega)) ff_53
  have ff_61 := hF _ _ _ (by intro hNS; first | exact False.elim hNS | ((try dsimp only at hNS); omega)) ff_61
  have ff_69 := hF _ _ _ (by intro hNS; first | exact False.elim hNS | ((try dsimp only at hNS); omega)) ff_69
  have ff_77 := hF _ _ _ (by intro hNS; first | exact False.elim hNS | ((try dsimp only at hNS); omega)) ff_77
  have ff_85 := hF _ _ _ (by intro hNS; first | exact False.elim hNS | ((try dsimp only at hNS); omega)) ff_85
  refine lv_aload_n hx hb dMo_init_95 rfl (lv_at hl 0 rfl) ?_
  refine lv_bipush (v := nI 30) hx hb dMo_init_96 (by decide) ?_
  refine hw_newa (atype := .int) (ty := .int) (a0 := (30, .inl (fun _ => 0))) (N := 30) hx hb (hts (.arrayClass .int) (hwMem mm_170)) rfl hK hZ hA 0 rfl (fun _ _ => rfl) (fun _ => rfl) (by omega) (by show _ * _ ≤ _; first | decide | (simp only [componentBytes]; omega)) (show 11 + 1 ≤ 15 by omega) (show (0 + 31 + 1500 + 1500 + 4 + 40 + 100 + 60 + 800 + 800 + 60 + 30) + 30 ≤ 5954 by omega) dMo_init_98 1012 (fun qq_89 X_90 H_91 hZ hF hNw => ?_)
  have hFr := hwF.tr hFr hF (fun _ h => h) (fun M h => by first | exact False.elim h | ((try dsimp only at h ⊢); omega))
  have f0_ := hF _ _ _ (by intro hNS; first | exact False.elim hNS | ((try dsimp only at hNS); omega)) f0_
  have ff_5 := hF _ _ _ (by intro hNS; first | exact False.elim hNS | ((try dsimp only at hNS); omega)) ff_5
  have ff_13 := hF _ _ _ (by intro hNS; first | exact False.elim hNS | ((try dsimp only at hNS); omega)) ff_13
  have ff_21 := hF _ _ _ (by intro hNS; first | exact False.elim hNS | ((try dsimp only at hNS); omega)) ff_21
  have ff_29 := hF _ _ _ (by intro hNS; first | exact False.elim hNS | ((try dsimp only at hNS); omega)) ff_29
  have ff_37 := hF _ _ _ (by intro hNS; first | exact False.elim hNS | ((try dsimp only at hNS); omega)) ff_37
  have ff_45 := hF _ _ _ (by intro hNS; first | exact False.elim hNS | ((try dsimp only at hNS); omega)) ff_45
  have ff_53 := hF _ _ _ (by intro hNS; first | exact False.elim hNS | ((try dsimp only at hNS); omega)) ff_53
  have ff_61 := hF _ _ _ (by intro hNS; first | exact False.elim hNS | ((try dsimp only at hNS); omega)) ff_61
  have ff_69 := hF _ _ _ (by intro hNS; first | exact False.elim hNS | ((try dsimp only at hNS); omega)) ff_69
  have ff_77 := hF _ _ _ (by intro hNS; first | exact False.elim hNS | ((try dsimp only at hNS); omega)) ff_77
  have ff_85 := hF _ _ _ (by intro hNS; first | exact False.elim hNS | ((try dsimp only at hNS); omega)) ff_85
  have ff_93 := hNw
  refine hw_putF (ty := (.array .int)) (fs' := [.int (nI 0), .int (nI 0), .ref qq_1, .int (nI 0), .ref qq_9, .ref qq_17, .ref qq_25, .ref qq_33, .int (nI 0), .ref qq_41, .int (nI 0), .ref qq_49, .int (nI 0), .ref qq_57, .ref qq_65, .ref qq_73, .int (nI 0), .int (nI 0), .ref qq_81, .ref qq_89, .null, .null, .int (nI 0), .null]) hx hb hts (hwInn inMo) tyMo tyMo_ok nmMo hown hK hZ f0_ rfl 19 (by decide) (hts (.fieldLink RMo 46 RMo "hitCount" "[I") (hwMem mm_411)) (fun _ h => h) rfl hname rfl (by decide +kernel) rfl rfl (Nat.le_of_ble_eq_true rfl) rfl dMo_init_100 (fun X_94 H_95 lc_96 hZ hF hNw => ?_)
  have hFr := hwF.tr hFr hF (fun _ h => h) (fun M h => by first | exact False.elim h | ((try dsimp only at h ⊢); omega))
  have f0_ := hNw
  have ff_5 := hF _ _ _ (by intro hNS; first | exact False.elim hNS | ((try dsimp only at hNS); omega)) ff_5
  have ff_13 := hF _ _ _ (by intro hNS; first | exact False.elim hNS | ((try dsimp only at hNS); omega)) ff_13
  have ff_21 := hF _ _ _ (by intro hNS; first | exact False.elim hNS | ((try dsimp only at hNS); omega)) ff_21
  have ff_29 := hF _ _ _ (by intro hNS; first | exact False.elim hNS | ((try dsimp only at hNS); omega)) ff_29
  have ff_37 := hF _ _ _ (by intro hNS; first | exact False.elim hNS | ((try dsimp only at hNS); omega)) ff_37
  have ff_45 := hF _ _ _ (by intro hNS; first | exact False.elim hNS | ((try dsimp only at hNS); omega)) ff_45
  have ff_53 := hF _ _ _ (by intro hNS; first | exact False.elim hNS | ((try dsimp only at hNS); omega)) ff_53
  have ff_61 := hF _ _ _ (by intro hNS; first | exact False.elim hNS | ((try dsimp only at hNS); omega)) ff_61
  have ff_69 := hF _ _ _ (by intro hNS; first | exact False.elim hNS | ((try dsimp only at hNS); omega)) ff_69
  have ff_77 := hF _ _ _ (by intro hNS; first | exact False.elim hNS | ((try dsimp only at hNS); omega)) ff_77
  have ff_85 := hF _ _ _ (by intro hNS; first | exact False.elim hNS | ((try dsimp only at hNS); omega)) ff_85
  have ff_93 := hF _ _ _ (by intro hNS; first | exact False.elim hNS | ((try dsimp only at hNS); omega)) ff_93
  refine lv_aload_n hx hb dMo_init_103 rfl (lv_at hl 0 rfl) ?_
  refine lv_bipush (v := nI 30) hx hb dMo_init_104 (by decide) ?_
  refine hw_newa (atype := .int) (ty := .int) (a0 := (30, .inl (fun _ => 0))) (N := 30) hx hb (hts (.arrayClass .int) (hwMem mm_170)) rfl hK hZ hA 0 rfl (fun _ _ => rfl) (fun _ => rfl) (by omega) (by show _ * _ ≤ _; first | decide | (simp only [componentBytes]; omega)) (show 12 + 1 ≤ 15 by omega) (show (0 + 31 + 1500 + 1500 + 4 + 40 + 100 + 60 + 800 + 800 + 60 + 30 + 30) + 30 ≤ 5954 by omega) dMo_init_106 1013 (fun qq_97 X_98 H_99 hZ hF hNw => ?_)
  have hFr := hwF.tr hFr hF (fun _ h => h) (fun M h => by first | exact False.elim h | ((try dsimp only at h ⊢); omega))
  have f0_ := hF _ _ _ (by intro hNS; first | exact False.elim hNS | ((try dsimp only at hNS); omega)) f0_
  have ff_5 := hF _ _ _ (by intro hNS; first | exact False.elim hNS | ((try dsimp only at hNS); omega)) ff_5
  have ff_13 := hF _ _ _ (by intro hNS; first | exact False.elim hNS | ((try dsimp only at hNS); omega)) ff_13
  have ff_21 := hF _ _ _ (by intro hNS; first | exact False.elim hNS | ((try dsimp only at hNS); omega)) ff_21
  have ff_29 := hF _ _ _ (by intro hNS; first | exact False.elim hNS | ((try dsimp only at hNS); omega)) ff_29
  have ff_37 := hF _ _ _ (by intro hNS; first | exact False.elim hNS | ((try dsimp only at hNS); omega)) ff_37
  have ff_45 := hF _ _ _ (by intro hNS; first | exact False.elim hNS | ((try dsimp only at hNS); omega)) ff_45
  have ff_53 := hF _ _ _ (by intro hNS; first | exact False.elim hNS | ((try dsimp only at hNS); omega)) ff_53
  have ff_61 := hF _ _ _ (by intro hNS; first | exact False.elim hNS | ((try dsimp only at hNS); omega)) ff_61
  have ff_69 := hF _ _ _ (by intro hNS; first | exact False.elim hNS | ((try dsimp only at hNS); omega)) ff_69
  have ff_77 := hF _ _ _ (by intro hNS; first | exact False.elim hNS | ((try dsimp only at hNS); omega)) ff_77
  have ff_85 := hF _ _ _ (by intro hNS; first | exact False.elim hNS | ((try dsimp only at hNS); omega)) ff_85
  have ff_93 := hF _ _ _ (by intro hNS; first | exact False.elim hNS | ((try dsimp only at hNS); omega)) ff_93
  have ff_101 := hNw
  refine hw_putF (ty := (.array .int)) (fs' := [.int (nI 0), .int (nI 0), .ref qq_1, .int (nI 0), .ref qq_9, .ref qq_17, .ref qq_25, .ref qq_33, .int (nI 0), .ref qq_41, .int (nI 0), .ref qq_49, .int (nI 0), .ref qq_57, .ref qq_65, .ref qq_73, .int (nI 0), .int (nI 0), .ref qq_81, .ref qq_89, .ref qq_97, .null, .int (nI 0), .null]) hx hb hts (hwInn inMo) tyMo tyMo_ok nmMo hown hK hZ f0_ rfl 20 (by decide) (hts (.fieldLink RMo 49 RMo "hitWords" "[I") (hwMem mm_412)) (fun _ h => h) rfl hname rfl (by decide +kernel) rfl rfl (Nat.le_of_ble_eq_true rfl) rfl dMo_init_108 (fun X_102 H_103 lc_104 hZ hF hNw => ?_)
  have hFr := hwF.tr hFr hF (fun _ h => h) (fun M h => by first | exact False.elim h | ((try dsimp only at h ⊢); omega))
  have f0_ := hNw
  have ff_5 := hF _ _ _ (by intro hNS; first | exact False.elim hNS | ((try dsimp only at hNS); omega)) ff_5
  have ff_13 := hF _ _ _ (by intro hNS; first | exact False.elim hNS | ((try dsimp only at hNS); omega)) ff_13
  have ff_21 := hF _ _ _ (by intro hNS; first | exact False.elim hNS | ((try dsimp only at hNS); omega)) ff_21
  have ff_29 := hF _ _ _ (by intro hNS; first | exact False.elim hNS | ((try dsimp only at hNS); omega)) ff_29
  have ff_37 := hF _ _ _ (by intro hNS; first | exact False.elim hNS | ((try dsimp only at hNS); omega)) ff_37
  have ff_45 := hF _ _ _ (by intro hNS; first | exact False.elim hNS | ((try dsimp only at hNS); omega)) ff_45
  have ff_53 := hF _ _ _ (by intro hNS; first | exact False.elim hNS | ((try dsimp only at hNS); omega)) ff_53
  have ff_61 := hF _ _ _ (by intro hNS; first | exact False.elim hNS | ((try dsimp only at hNS); omega)) ff_61
  have ff_69 := hF _ _ _ (by intro hNS; first | exact False.elim hNS | ((try dsimp only at hNS); omega)) ff_69
  have ff_77 := hF _ _ _ (by intro hNS; first | exact False.elim hNS | ((try dsimp only at hNS); omega)) ff_77
  have ff_85 := hF _ _ _ (by intro hNS; first | exact False.elim hNS | ((try dsimp only at hNS); omega)) ff_85
  have ff_93 := hF _ _ _ (by intro hNS; first | exact False.elim hNS | ((try dsimp only at hNS); omega)) ff_93
  have ff_101 := hF _ _ _ (by intro hNS; first | exact False.elim hNS | ((try dsimp only at hNS); omega)) ff_101
  refine lv_aload_n hx hb dMo_init_111 rfl (lv_at hl 0 rfl) ?_
  refine lv_sipush (v := nI 800) hx hb dMo_init_112 (by decide) ?_
  refine hw_newa (atype := .long) (ty := .long) (a0 := (800, .inr (.inl (fun _ => 0)))) (N := 800) hx hb (hts (.arrayClass .long) (hwMem mm_24)) rfl hK hZ hA 1 rfl (fun _ _ => rfl) (fun _ => rfl) (by omega) (by show _ * _ ≤ _; first | decide | (simp only [componentBytes]; omega)) (show 13 + 1 ≤ 15 by omega) (show (0 + 31 + 1500 + 1500 + 4 + 40 + 100 + 60 + 800 + 800 + 60 + 30 + 30 + 30) + 800 ≤ 5954 by omega) dMo_init_115 1014 (fun qq_105 X_106 H_107 hZ hF hNw => ?_)
  have hFr := hwF.tr hFr hF (fun _ h => h) (fun M h => by first | exact False.elim h | ((try dsimp only at h ⊢); omega))
  have f0_ := hF _ _ _ (by intro hNS; first | exact False.elim hNS | ((try dsimp only at hNS); omega)) f0_
  have ff_5 := hF _ _ _ (by intro hNS; first | exact False.elim hNS | ((try dsimp only at hNS); omega)) ff_5
  have ff_13 := hF _ _ _ (by intro hNS; first | exact False.elim hNS | ((try dsimp only at hNS); omega)) ff_13
  have ff_21 := hF _ _ _ (by intro hNS; first | exact False.elim hNS | ((try dsimp only at hNS); omega)) ff_21
  have ff_29 := hF _ _ _ (by intro hNS; first | exact False.elim hNS | ((try dsimp only at hNS); omega)) ff_29
  have ff_37 := hF _ _ _ (by intro hNS; first | exact False.elim hNS | ((try dsimp only at hNS); omega)) ff_37
  have ff_45 := hF _ _ _ (by intro hNS; first | exact False.elim hNS | ((try dsimp only at hNS); omega)) ff_45
  have ff_53 := hF _ _ _ (by intro hNS; first | exact False.elim hNS | ((try dsimp only at hNS); omega)) ff_53
  have ff_61 := hF _ _ _ (by intro hNS; first | exact False.elim hNS | ((try dsimp only at hNS); omega)) ff_61
  have ff_69 := hF _ _ _ (by intro hNS; first | exact False.elim hNS | ((try dsimp only at hNS); omega)) ff_69
  have ff_77 := hF _ _ _ (by intro hNS; first | exact False.elim hNS | ((try dsimp only at hNS); omega)) ff_77
  have ff_85 := hF _ _ _ (by intro hNS; first | exact False.elim hNS | ((try dsimp only at hNS); omega)) ff_85
  have ff_93 := hF _ _ _ (by intro hNS; first | exact False.elim hNS | ((try dsimp only at hNS); omega)) ff_93
  have ff_101 := hF _ _ _ (by intro hNS; first | exact False.elim hNS | ((try dsimp only at hNS); omega)) ff_101
  have ff_109 := hNw
  refine hw_putF (ty := (.array .long)) (fs' := [.int (nI 0), .int (nI 0), .ref qq_1, .int (nI 0), .ref qq_9, .ref qq_17, .ref qq_25, .ref qq_33, .int (nI 0), .ref qq_41, .int (nI 0), .ref qq_49, .int (nI 0), .ref qq_57, .ref qq_65, .ref qq_73, .int (nI 0), .int (nI 0), .ref qq_81, .ref qq_89, .ref qq_97, .ref qq_105, .int (nI 0), .null]) hx hb hts (hwInn inMo) tyMo tyMo_ok nmMo hown hK hZ f0_ rfl 21 (by decide) (hts (.fieldLink RMo 52 RMo "terms" "[J") (hwMem mm_414)) (fun _ h => h) rfl hname rfl (by decide +kernel) rfl rfl (Nat.le_of_ble_eq_true rfl) rfl dMo_init_117 (fun X_110 H_111 lc_112 hZ hF hNw => ?_)
  have hFr := hwF.tr hFr hF (fun _ h => h) (fun M h => by first | exact False.elim h | ((try dsimp only at h ⊢); omega))
  have f0_ := hNw
  have ff_5 := hF _ _ _ (by intro hNS; first | exact False.elim hNS | ((try dsimp only at hNS); omega)) ff_5
  have ff_13 := hF _ _ _ (by intro hNS; first | exact False.elim hNS | ((try dsimp only at hNS); omega)) ff_13
  have ff_21 := hF _ _ _ (by intro hNS; first | exact False.elim hNS | ((try dsimp only at hNS); omega)) ff_21
  have ff_29 := hF _ _ _ (by intro hNS; first | exact False.elim hNS | ((try dsimp only at hNS); omega)) ff_29
  have ff_37 := hF _ _ _ (by intro hNS; first | exact False.elim hNS | ((try dsimp only at hNS); omega)) ff_37
  have ff_45 := hF _ _ _ (by intro hNS; first | exact False.elim hNS | ((try dsimp only at hNS); omega)) ff_45
  have ff_53 := hF _ _ _ (by intro hNS; first | exact False.elim hNS | ((try dsimp only at hNS); omega)) ff_53
  have ff_61 := hF _ _ _ (by intro hNS; first | exact False.elim hNS | ((try dsimp only at hNS); omega)) ff_61
  have ff_69 := hF _ _ _ (by intro hNS; first | exact False.elim hNS | ((try dsimp only at hNS); omega)) ff_69
  have ff_77 := hF _ _ _ (by intro hNS; first | exact False.elim hNS | ((try dsimp only at hNS); omega)) ff_77
  have ff_85 := hF _ _ _ (by intro hNS; first | exact False.elim hNS | ((try dsimp only at hNS); omega)) ff_85
  have ff_93 := hF _ _ _ (by intro hNS; first | exact False.elim hNS | ((try dsimp only at hNS); omega)) ff_93
  have ff_101 := hF _ _ _ (by intro hNS; first | exact False.elim hNS | ((try dsimp only at hNS); omega)) ff_101
  have ff_109 := hF _ _ _ (by intro hNS; first | exact False.elim hNS | ((try dsimp only at hNS); omega)) ff_109
  refine lv_aload_n hx hb dMo_init_120 rfl (lv_at hl 0 rfl) ?_
  refine lv_sipush (v := nI 169) hx hb dMo_init_121 (by decide) ?_
  refine hw_newa (atype := .int) (ty := .int) (a0 := (169, .inl (fun _ => 0))) (N := 169) hx hb (hts (.arrayClass .int) (hwMem mm_170)) rfl hK hZ hA 0 rfl (fun _ _ => rfl) (fun _ => rfl) (by omega) (by show _ * _ ≤ _; first | decide | (simp only [componentBytes]; omega)) (show 14 + 1 ≤ 15 by omega) (show (0 + 31 + 1500 + 1500 + 4 + 40 + 100 + 60 + 800 + 800 + 60 + 30 + 30 + 30 + 800) + 169 ≤ 5954 by omega) dMo_init_124 1015 (fun qq_113 X_114 H_115 hZ hF hNw => ?_)
  have hFr := hwF.tr hFr hF (fun _ h => h) (fun M h => by first | exact False.elim h | ((try dsimp only at h ⊢); omega))
  have f0_ := hF _ _ _ (by intro hNS; first | exact False.elim hNS | ((try dsimp only at hNS); omega)) f0_
  have ff_5 := hF _ _ _ (by intro hNS; first | exact False.elim hNS | ((try dsimp only at hNS); omega)) ff_5
  have ff_13 := hF _ _ _ (by intro hNS; first | exact False.elim hNS | ((try dsimp only at hNS); omega)) ff_13
  have ff_21 := hF _ _ _ (by intro hNS; first | exact False.elim hNS | ((try dsimp only at hNS); omega)) ff_21
  have ff_29 := hF _ _ _ (by intro hNS; first | exact False.elim hNS | ((try dsimp only at hNS); omega)) ff_29
  have ff_37 := hF _ _ _ (by intro hNS; first | exact False.elim hNS | ((try dsimp only at hNS); omega)) ff_37
  have ff_45 := hF _ _ _ (by intro hNS; first | exact False.elim hNS | ((try dsimp only at hNS); omega)) ff_45
  have ff_53 := hF _ _ _ (by intro hNS; first | exact False.elim hNS | ((try dsimp only at hNS); omega)) ff_53
  have ff_61 := hF _ _ _ (by intro hNS; first | exact False.elim hNS | ((try dsimp only at hNS); omega)) ff_61
  have ff_69 := hF _ _ _ (by intro hNS; first | exact False.elim hNS | ((try dsimp only at hNS); omega)) ff_69
  have ff_77 := hF _ _ _ (by intro hNS; first | exact False.elim hNS | ((try dsimp only at hNS); omega)) ff_77
  have ff_85 := hF _ _ _ (by intro hNS; first | exact False.elim hNS | ((try dsimp only at hNS); omega)) ff_85
  have ff_93 := hF _ _ _ (by intro hNS; first | exact False.elim hNS | ((try dsimp only at hNS); omega)) ff_93
  have ff_101 := hF _ _ _ (by intro hNS; first | exact False.elim hNS | ((try dsimp only at hNS); omega)) ff_101
  have ff_109 := hF _ _ _ (by intro hNS; first | exact False.elim hNS | ((try dsimp only at hNS); omega)) ff_109
  have ff_117 := hNw
  refine hw_putF (ty := (.array .int)) (fs' := [.int (nI 0), .int (nI 0), .ref qq_1, .int (nI 0), .ref qq_9, .ref qq_17, .ref qq_25, .ref qq_33, .int (nI 0), .ref qq_41, .int (nI 0), .ref qq_49, .int (nI 0), .ref qq_57, .ref qq_65, .ref qq_73, .int (nI 0), .int (nI 0), .ref qq_81, .ref qq_89, .ref qq_97, .ref qq_105, .int (nI 0), .ref qq_113]) hx hb hts (hwInn inMo) tyMo tyMo_ok nmMo hown hK hZ f0_ rfl 23 (by decide) (hts (.fieldLink RMo 55 RMo "table" "[I") (hwMem mm_428)) (fun _ h => h) rfl hname rfl (by decide +kernel) rfl rfl (Nat.le_of_ble_eq_true rfl) rfl dMo_init_126 (fun X_118 H_119 lc_120 hZ hF hNw => ?_)
  have hFr := hwF.tr hFr hF (fun _ h => h) (fun M h => by first | exact False.elim h | ((try dsimp only at h ⊢); omega))
  have f0_ := hNw
  have ff_5 := hF _ _ _ (by intro hNS; first | exact False.elim hNS | ((try dsimp only at hNS); omega)) ff_5
  have ff_13 := hF _ _ _ (by intro hNS; first | exact False.elim hNS | ((try dsimp only at hNS); omega)) ff_13
  have ff_21 := hF _ _ _ (by intro hNS; first | exact False.elim hNS | ((try dsimp only at hNS); omega)) ff_21
  have ff_29 := hF _ _ _ (by intro hNS; first | exact False.elim hNS | ((try dsimp only at hNS); omega)) ff_29
  have ff_37 := hF _ _ _ (by intro hNS; first | exact False.elim hNS | ((try dsimp only at hNS); omega)) ff_37
  have ff_45 := hF _ _ _ (by intro hNS; first | exact False.elim hNS | ((try dsimp only at hNS); omega)) ff_45
  have ff_53 := hF _ _ _ (by intro hNS; first | exact False.elim hNS | ((try dsimp only at hNS); omega)) ff_53
  have ff_61 := hF _ _ _ (by intro hNS; first | exact False.elim hNS | ((try dsimp only at hNS); omega)) ff_61
  have ff_69 := hF _ _ _ (by intro hNS; first | exact False.elim hNS | ((try dsimp only at hNS); omega)) ff_69
  have ff_77 := hF _ _ _ (by intro hNS; first | exact False.elim hNS | ((try dsimp only at hNS); omega)) ff_77
  have ff_85 := hF _ _ _ (by intro hNS; first | exact False.elim hNS | ((try dsimp only at hNS); omega)) ff_85
  have ff_93 := hF _ _ _ (by intro hNS; first | exact False.elim hNS | ((try dsimp only at hNS); omega)) ff_93
  have ff_101 := hF _ _ _ (by intro hNS; first | exact False.elim hNS | ((try dsimp only at hNS); omega)) ff_101
  have ff_109 := hF _ _ _ (by intro hNS; first | exact False.elim hNS | ((try dsimp only at hNS); omega)) ff_109
  have ff_117 := hF _ _ _ (by intro hNS; first | exact False.elim hNS | ((try dsimp only at hNS); omega)) ff_117
  refine W.widen (k := 15) (n := 5954) (by omega) (by omega) ?_
  exact hret hZ ⟨hFr, _, _, _, _, _, _, _, _, _, _, _, _, _, _, _, _, _, _, _, _, _, _, _, _, _, _, _, [], [], [], [], [], _, f0_, ff_5, ff_13, ff_21, ff_29, ⟨_, ff_37, Nat.zero_le _, rvec.nil, okWs.nil⟩, ff_45, ⟨_, ff_53, Nat.zero_le _, rvec.nil, okWs.nil⟩, ⟨_, ff_61, Nat.zero_le _, rvec.nil, okWs.nil⟩, ⟨_, ff_69, Nat.zero_le _, rvec.nil, okWs.nil⟩, ⟨_, ff_77, Nat.zero_le _, rvec.nil, okWs.nil⟩, ff_85, ff_93, ff_101, ⟨_, ff_109, Nat.zero_le _, rvec.nil, okWs.nil⟩, ff_117, (fun k hk => absurd hk (Nat.not_lt_zero _)), (fun k hk => absurd hk (Nat.not_lt_zero _)), (fun k hk => absurd hk (Nat.not_lt_zero _)), (fun _ _ => rfl), (fun k hk => absurd hk (Nat.not_lt_zero _)), ivec.nil, ivec.nil, ivec.nil⟩ dMo_init_129
