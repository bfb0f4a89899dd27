theorem lan_fl {fl : Nat → Int32} {lg : Nat → Nat} {j x : Nat} (h : ∀ z, z < 4 → fl z = nI (lg z)) : ∀ z, z < 4 → upd fl j (nI x) z = nI (va_up lg j x z) := by
  intro z hz
  by_cases e : z = j
  · rw [e, pk_us, va_up_self]
  · rw [pk_un e, va_up_ne _ _ e]; exact h z hz
theorem nrN_lt {w : List Nat} {l : List (List Nat)} {i bs : Nat} {pl : Int32} (h : nrN w l i = (bs, pl)) (hd : distL w (l.getD i []) < bs) : nrN w l (i + 1) = (distL w (l.getD i []), nI i) := by
  show (if distL w (l.getD i []) < (nrN w l i).1 then (distL w (l.getD i []), nI i) else nrN w l i) = _
  rw [h, if_pos hd]
theorem nrN_ge {w : List Nat} {l : List (List Nat)} {i bs : Nat} {pl : Int32} (h : nrN w l i = (bs, pl)) (hd : bs ≤ distL w (l.getD i [])) : nrN w l (i + 1) = (bs, pl) := by
  show (if distL w (l.getD i []) < (nrN w l i).1 then (distL w (l.getD i []), nI i) else nrN w l i) = _
  rw [h, if_neg (Nat.not_lt.mpr hd)]
theorem nrN_end {w : List Nat} {l : List (List Nat)} {i bs : Nat} {pl : Int32} (h : nrN w l i = (bs, pl)) (hi : i = l.length) : (nrN w l l.length).2 = pl := by rw [← hi, h]
theorem dIx_nearest_0 : decode cIx_nearest 0 = .ok (.aload_n 0, 1) := by decide +kernel
theorem dIx_nearest_1 : decode cIx_nearest 1 = .ok (.getfield 22, 3) := by decide +kernel
theorem dIx_nearest_4 : decode cIx_nearest 4 = .ok (.iconst 0, 1) := by decide +kernel
theorem dIx_nearest_5 : decode cIx_nearest 5 = .ok (.invokevirtual 108, 3) := by decide +kernel
theorem dIx_nearest_8 : decode cIx_nearest 8 = .ok (.lstore_n 2, 1) := by decide +kernel
theorem dIx_nearest_9 : decode cIx_nearest 9 = .ok (.aload_n 0, 1) := by decide +kernel
theorem dIx_nearest_10 : decode cIx_nearest 10 = .ok (.invokevirtual 146, 3) := by decide +kernel
theorem dIx_nearest_13 : decode cIx_nearest 13 = .ok (.lload_n 2, 1) := by decide +kernel
theorem dIx_nearest_14 : decode cIx_nearest 14 = .ok (.lconst 0, 1) := by decide +kernel
theorem dIx_nearest_15 : decode cIx_nearest 15 = .ok (.lcmp, 1) := by decide +kernel
theorem dIx_nearest_16 : decode cIx_nearest 16 = .ok (.ifCond .ne 5, 3) := by decide +kernel
theorem dIx_nearest_19 : decode cIx_nearest 19 = .ok (.iconst (-1), 1) := by decide +kernel
theorem dIx_nearest_20 : decode cIx_nearest 20 = .ok (.ireturn, 1) := by decide +kernel
theorem dIx_nearest_21 : decode cIx_nearest 21 = .ok (.aload_n 0, 1) := by decide +kernel
theorem dIx_nearest_22 : decode cIx_nearest 22 = .ok (.iload_n 1, 1) := by decide +kernel
theorem dIx_nearest_23 : decode cIx_nearest 23 = .ok (.invokevirtual 138, 3) := by decide +kernel
theorem dIx_nearest_26 : decode cIx_nearest 26 = .ok (.iconst 3, 1) := by decide +kernel
theorem dIx_nearest_27 : decode cIx_nearest 27 = .ok (.istore 4, 2) := by decide +kernel
theorem dIx_nearest_29 : decode cIx_nearest 29 = .ok (.iconst (-1), 1) := by decide +kernel
theorem dIx_nearest_30 : decode cIx_nearest 30 = .ok (.istore 5, 2) := by decide +kernel
theorem dIx_nearest_32 : decode cIx_nearest 32 = .ok (.iconst 0, 1) := by decide +kernel
theorem dIx_nearest_33 : decode cIx_nearest 33 = .ok (.istore 6, 2) := by decide +kernel
theorem dIx_nearest_35 : decode cIx_nearest 35 = .ok (.iload 6, 2) := by decide +kernel
theorem dIx_nearest_37 : decode cIx_nearest 37 = .ok (.aload_n 0, 1) := by decide +kernel
theorem dIx_nearest_38 : decode cIx_nearest 38 = .ok (.getfield 52, 3) := by decide +kernel
theorem dIx_nearest_41 : decode cIx_nearest 41 = .ok (.invokevirtual 149, 3) := by decide +kernel
theorem dIx_nearest_44 : decode cIx_nearest 44 = .ok (.if_icmp .ge 43, 3) := by decide +kernel
theorem dIx_nearest_47 : decode cIx_nearest 47 = .ok (.lload_n 2, 1) := by decide +kernel
theorem dIx_nearest_48 : decode cIx_nearest 48 = .ok (.aload_n 0, 1) := by decide +kernel
theorem dIx_nearest_49 : decode cIx_nearest 49 = .ok (.getfield 52, 3) := by decide +kernel
theorem dIx_nearest_52 : decode cIx_nearest 52 = .ok (.iload 6, 2) := by decide +kernel
theorem dIx_nearest_54 : decode cIx_nearest 54 = .ok (.invokevirtual 141, 3) := by decide +kernel
theorem dIx_nearest_57 : decode cIx_nearest 57 = .ok (.aload_n 0, 1) := by decide +kernel
theorem dIx_nearest_58 : decode cIx_nearest 58 = .ok (.getfield 55, 3) := by decide +kernel
theorem dIx_nearest_61 : decode cIx_nearest 61 = .ok (.invokestatic 153, 3) := by decide +kernel
theorem dIx_nearest_64 : decode cIx_nearest 64 = .ok (.istore 7, 2) := by decide +kernel
theorem dIx_nearest_66 : decode cIx_nearest 66 = .ok (.iload 7, 2) := by decide +kernel
theorem dIx_nearest_68 : decode cIx_nearest 68 = .ok (.iload 4, 2) := by decide +kernel
theorem dIx_nearest_70 : decode cIx_nearest 70 = .ok (.if_icmp .ge 11, 3) := by decide +kernel
theorem dIx_nearest_73 : decode cIx_nearest 73 = .ok (.iload 7, 2) := by decide +kernel
theorem dIx_nearest_75 : decode cIx_nearest 75 = .ok (.istore 4, 2) := by decide +kernel
theorem dIx_nearest_77 : decode cIx_nearest 77 = .ok (.iload 6, 2) := by decide +kernel
theorem dIx_nearest_79 : decode cIx_nearest 79 = .ok (.istore 5, 2) := by decide +kernel
theorem dIx_nearest_81 : decode cIx_nearest 81 = .ok (.iinc 6 1, 3) := by decide +kernel
theorem dIx_nearest_84 : decode cIx_nearest 84 = .ok (.goto (-49), 3) := by decide +kernel
theorem dIx_nearest_87 : decode cIx_nearest 87 = .ok (.iload 5, 2) := by decide +kernel
theorem dIx_nearest_89 : decode cIx_nearest 89 = .ok (.ireturn, 1) := by decide +kernel
theorem dIx_stop_0 : decode cIx_stop 0 = .ok (.iconst 0, 1) := by decide +kernel
theorem dIx_stop_1 : decode cIx_stop 1 = .ok (.istore_n 1, 1) := by decide +kernel
theorem dIx_stop_2 : decode cIx_stop 2 = .ok (.iload_n 1, 1) := by decide +kernel
theorem dIx_stop_3 : decode cIx_stop 3 = .ok (.aload_n 0, 1) := by decide +kernel
theorem dIx_stop_4 : decode cIx_stop 4 = .ok (.getfield 22, 3) := by decide +kernel
theorem dIx_stop_7 : decode cIx_stop 7 = .ok (.invokevirtual 157, 3) := by decide +kernel
theorem dIx_stop_10 : decode cIx_stop 10 = .ok (.if_icmp .ge 24, 3) := by decide +kernel
theorem dIx_stop_13 : decode cIx_stop 13 = .ok (.aload_n 0, 1) := by decide +kernel
theorem dIx_stop_14 : decode cIx_stop 14 = .ok (.getfield 31, 3) := by decide +kernel
theorem dIx_stop_17 : decode cIx_stop 17 = .ok (.aload_n 0, 1) := by decide +kernel
theorem dIx_stop_18 : decode cIx_stop 18 = .ok (.getfield 22, 3) := by decide +kernel
theorem dIx_stop_21 : decode cIx_stop 21 = .ok (.iload_n 1, 1) := by decide +kernel
theorem dIx_stop_22 : decode cIx_stop 22 = .ok (.invokevirtual 108, 3) := by decide +kernel
theorem dIx_stop_25 : decode cIx_stop 25 = .ok (.invokevirtual 158, 3) := by decide +kernel
theorem dIx_stop_28 : decode cIx_stop 28 = .ok (.iinc 1 1, 3) := by decide +kernel
theorem dIx_stop_31 : decode cIx_stop 31 = .ok (.goto (-29), 3) := by decide +kernel
theorem dIx_stop_34 : decode cIx_stop 34 = .ok (.aload_n 0, 1) := by decide +kernel
theorem dIx_stop_35 : decode cIx_stop 35 = .ok (.invokevirtual 146, 3) := by decide +kernel
theorem dIx_stop_38 : decode cIx_stop 38 = .ok (.aload_n 0, 1) := by decide +kernel
theorem dIx_stop_39 : decode cIx_stop 39 = .ok (.getfield 31, 3) := by decide +kernel
theorem dIx_stop_42 : decode cIx_stop 42 = .ok (.invokevirtual 149, 3) := by decide +kernel
theorem dIx_stop_45 : decode cIx_stop 45 = .ok (.ireturn, 1) := by decide +kernel
theorem dIx_language_0 : decode cIx_language 0 = .ok (.iload_n 1, 1) := by decide +kernel
theorem dIx_language_1 : decode cIx_language 1 = .ok (.invokestatic 162, 3) := by decide +kernel
theorem dIx_language_4 : decode cIx_language 4 = .ok (.ifCond .eq 12, 3) := by decide +kernel
theorem dIx_language_7 : decode cIx_language 7 = .ok (.iload_n 2, 1) := by decide +kernel
theorem dIx_language_8 : decode cIx_language 8 = .ok (.ifCond .lt 8, 3) := by decide +kernel
theorem dIx_language_11 : decode cIx_language 11 = .ok (.iload_n 2, 1) := by decide +kernel
theorem dIx_language_12 : decode cIx_language 12 = .ok (.iconst 3, 1) := by decide +kernel
theorem dIx_language_13 : decode cIx_language 13 = .ok (.if_icmp .lt 5, 3) := by decide +kernel
theorem dIx_language_16 : decode cIx_language 16 = .ok (.iconst (-1), 1) := by decide +kernel
theorem dIx_language_17 : decode cIx_language 17 = .ok (.ireturn, 1) := by decide +kernel
theorem dIx_language_18 : decode cIx_language 18 = .ok (.aload_n 0, 1) := by decide +kernel
theorem dIx_language_19 : decode cIx_language 19 = .ok (.getfield 15, 3) := by decide +kernel
theorem dIx_language_22 : decode cIx_language 22 = .ok (.iload_n 1, 1) := by decide +kernel
theorem dIx_language_23 : decode cIx_language 23 = .ok (.iaload, 1) := by decide +kernel
theorem dIx_language_24 : decode cIx_language 24 = .ok (.istore_n 3, 1) := by decide +kernel
theorem dIx_language_25 : decode cIx_language 25 = .ok (.aload_n 0, 1) := by decide +kernel
theorem dIx_language_26 : decode cIx_language 26 = .ok (.getfield 15, 3) := by decide +kernel
theorem dIx_language_29 : decode cIx_language 29 = .ok (.iload_n 1, 1) := by decide +kernel
theorem dIx_language_30 : decode cIx_language 30 = .ok (.iload_n 2, 1) := by decide +kernel
theorem dIx_language_31 : decode cIx_language 31 = .ok (.iastore, 1) := by decide +kernel
theorem dIx_language_32 : decode cIx_language 32 = .ok (.iload_n 3, 1) := by decide +kernel
theorem dIx_language_33 : decode cIx_language 33 = .ok (.ireturn, 1) := by decide +kernel
theorem dIx_init_0 : decode cIx_init 0 = .ok (.aload_n 0, 1) := by decide +kernel
theorem dIx_init_1 : decode cIx_init 1 = .ok (.invokespecial 1, 3) := by decide +kernel
theorem dIx_init_4 : decode cIx_init 4 = .ok (.aload_n 0, 1) := by decide +kernel
theorem dIx_init_5 : decode cIx_init 5 = .ok (.bipush 30, 2) := by decide +kernel
theorem dIx_init_7 : decode cIx_init 7 = .ok (.anewarray 9, 3) := by decide +kernel
theorem dIx_init_10 : decode cIx_init 10 = .ok (.putfield 11, 3) := by decide +kernel
theorem dIx_init_13 : decode cIx_init 13 = .ok (.aload_n 0, 1) := by decide +kernel
theorem dIx_init_14 : decode cIx_init 14 = .ok (.iconst 4, 1) := by decide +kernel
theorem dIx_init_15 : decode cIx_init 15 = .ok (.newarray .int, 2) := by decide +kernel
theorem dIx_init_17 : decode cIx_init 17 = .ok (.putfield 15, 3) := by decide +kernel
theorem dIx_init_20 : decode cIx_init 20 = .ok (.aload_n 0, 1) := by decide +kernel
theorem dIx_init_21 : decode cIx_init 21 = .ok (.new 19, 3) := by decide +kernel
theorem dIx_init_24 : decode cIx_init 24 = .ok (.dup, 1) := by decide +kernel
theorem dIx_init_25 : decode cIx_init 25 = .ok (.invokespecial 21, 3) := by decide +kernel
theorem dIx_init_28 : decode cIx_init 28 = .ok (.putfield 22, 3) := by decide +kernel
theorem dIx_init_31 : decode cIx_init 31 = .ok (.aload_n 0, 1) := by decide +kernel
theorem dIx_init_32 : decode cIx_init 32 = .ok (.new 26, 3) := by decide +kernel
theorem dIx_init_35 : decode cIx_init 35 = .ok (.dup, 1) := by decide +kernel
theorem dIx_init_36 : decode cIx_init 36 = .ok (.bipush 40, 2) := by decide +kernel
theorem dIx_init_38 : decode cIx_init 38 = .ok (.invokespecial 28, 3) := by decide +kernel
theorem dIx_init_41 : decode cIx_init 41 = .ok (.putfield 31, 3) := by decide +kernel
theorem dIx_init_44 : decode cIx_init 44 = .ok (.aload_n 0, 1) := by decide +kernel
theorem dIx_init_45 : decode cIx_init 45 = .ok (.new 35, 3) := by decide +kernel
theorem dIx_init_48 : decode cIx_init 48 = .ok (.dup, 1) := by decide +kernel
theorem dIx_init_49 : decode cIx_init 49 = .ok (.invokespecial 37, 3) := by decide +kernel
theorem dIx_init_52 : decode cIx_init 52 = .ok (.putfield 38, 3) := by decide +kernel
theorem dIx_init_55 : decode cIx_init 55 = .ok (.aload_n 0, 1) := by decide +kernel
theorem dIx_init_56 : decode cIx_init 56 = .ok (.new 42, 3) := by decide +kernel
theorem dIx_init_59 : decode cIx_init 59 = .ok (.dup, 1) := by decide +kernel
theorem dIx_init_60 : decode cIx_init 60 = .ok (.bipush 50, 2) := by decide +kernel
theorem dIx_init_62 : decode cIx_init 62 = .ok (.invokespecial 44, 3) := by decide +kernel
theorem dIx_init_65 : decode cIx_init 65 = .ok (.putfield 45, 3) := by decide +kernel
theorem dIx_init_68 : decode cIx_init 68 = .ok (.aload_n 0, 1) := by decide +kernel
theorem dIx_init_69 : decode cIx_init 69 = .ok (.new 42, 3) := by decide +kernel
theorem dIx_init_72 : decode cIx_init 72 = .ok (.dup, 1) := by decide +kernel
theorem dIx_init_73 : decode cIx_init 73 = .ok (.sipush 750, 3) := by decide +kernel
theorem dIx_init_76 : decode cIx_init 76 = .ok (.invokespecial 44, 3) := by decide +kernel
theorem dIx_init_79 : decode cIx_init 79 = .ok (.putfield 49, 3) := by decide +kernel
theorem dIx_init_82 : decode cIx_init 82 = .ok (.aload_n 0, 1) := by decide +kernel
theorem dIx_init_83 : decode cIx_init 83 = .ok (.new 26, 3) := by decide +kernel
theorem dIx_init_86 : decode cIx_init 86 = .ok (.dup, 1) := by decide +kernel
theorem dIx_init_87 : decode cIx_init 87 = .ok (.sipush 750, 3) := by decide +kernel
theorem dIx_init_90 : decode cIx_init 90 = .ok (.invokespecial 28, 3) := by decide +kernel
theorem dIx_init_93 : decode cIx_init 93 = .ok (.putfield 52, 3) := by decide +kernel
theorem dIx_init_96 : decode cIx_init 96 = .ok (.aload_n 0, 1) := by decide +kernel
theorem dIx_init_97 : decode cIx_init 97 = .ok (.bipush 13, 2) := by decide +kernel
theorem dIx_init_99 : decode cIx_init 99 = .ok (.newarray .int, 2) := by decide +kernel
theorem dIx_init_101 : decode cIx_init 101 = .ok (.putfield 55, 3) := by decide +kernel
theorem dIx_init_104 : decode cIx_init 104 = .ok (.return_, 1) := by decide +kernel
theorem mm_336 : (.code yWordSet_size cWordSet_size 1 (some .int) : Cond) ∈ hwG := hwIx 532 (by decide +kernel) (by decide +kernel)
theorem mm_337 : (.methodLink RIx 149 yWordSet_size : Cond) ∈ hwG := hwIx 529 (by decide +kernel) (by decide +kernel)
theorem mm_338 : (.instanceMethod yWordSet_size : Cond) ∈ hwG := hwIx 530 (by decide +kernel) (by decide +kernel)
theorem mm_339 : (.selects RWordSet yWordSet_size yWordSet_size : Cond) ∈ hwG := hwIx 531 (by decide +kernel) (by decide +kernel)
theorem mm_340 : (.fieldLink RIx 55 RIx "costs" "[I" : Cond) ∈ hwG := hwIx 137 (by decide +kernel) (by decide +kernel)
theorem mm_341 : (.code yWord_distance cWord_distance 8 (some .int) : Cond) ∈ hwG := hwIx 535 (by decide +kernel) (by decide +kernel)
theorem mm_342 : (.static yWord_distance : Cond) ∈ hwG := hwIx 534 (by decide +kernel) (by decide +kernel)
theorem mm_343 : (.methodLink RIx 153 yWord_distance : Cond) ∈ hwG := hwIx 533 (by decide +kernel) (by decide +kernel)
theorem mm_344 : (.methodLink RIx 157 yText_size : Cond) ∈ hwG := hwIx 544 (by decide +kernel) (by decide +kernel)
theorem mm_345 : (.methodLink RIx 1 objectInit : Cond) ∈ hwG := hwIx 54 (by decide +kernel) (by decide +kernel)
theorem mm_346 : (.classLink RIx 19 RText : Cond) ∈ hwG := hwIx 59 (by decide +kernel) (by decide +kernel)
theorem mm_347 : (.classLink RIx 26 RWordSet : Cond) ∈ hwG := hwIx 77 (by decide +kernel) (by decide +kernel)
theorem mm_348 : (.instantiable RWordSet 2 : Cond) ∈ hwG := hwIx 78 (by decide +kernel) (by decide +kernel)
theorem mm_349 : (.code yWordSet_init cWordSet_init 2 none : Cond) ∈ hwG := hwIx 81 (by decide +kernel) (by decide +kernel)
theorem mm_350 : (.methodLink RIx 28 yWordSet_init : Cond) ∈ hwG := hwIx 79 (by decide +kernel) (by decide +kernel)
theorem mm_351 : (.instanceMethod yWordSet_init : Cond) ∈ hwG := hwIx 80 (by decide +kernel) (by decide +kernel)
theorem mm_352 : (.classLink RIx 35 RHits : Cond) ∈ hwG := hwIx 93 (by decide +kernel) (by decide +kernel)
theorem mm_353 : (.instantiable RHits 4 : Cond) ∈ hwG := hwIx 94 (by decide +kernel) (by decide +kernel)
theorem mm_354 : (.code yHits_init cHits_init 1 none : Cond) ∈ hwG := hwIx 97 (by decide +kernel) (by decide +kernel)
theorem mm_355 : (.instanceMethod yHits_init : Cond) ∈ hwG := hwIx 96 (by decide +kernel) (by decide +kernel)
theorem mm_356 : (.classLink RIx 42 RTerms : Cond) ∈ hwG := hwIx 112 (by decide +kernel) (by decide +kernel)
theorem mm_357 : (.instantiable RTerms 2 : Cond) ∈ hwG := hwIx 113 (by decide +kernel) (by decide +kernel)
theorem mm_358 : (.code yTerms_init cTerms_init 2 none : Cond) ∈ hwG := hwIx 116 (by decide +kernel) (by decide +kernel)
theorem mm_359 : (.methodLink RIx 44 yTerms_init : Cond) ∈ hwG := hwIx 114 (by decide +kernel) (by decide +kernel)
theorem mm_360 : (.instanceMethod yTerms_init : Cond) ∈ hwG := hwIx 115 (by decide +kernel) (by decide +kernel)
set_option maxHeartbeats 4000000 in
set_option maxRecDepth 100000 in
theorem p_nearest (l : Launch) (D : va_G) (K : Nat → ClassId) (X : hwW) (sz : Nat) (a : Nat) (its : hwIt) (fs : Nat) (lg : Nat → Nat) (qw : List (List Nat)) (qo : Nat) (qs : Nat) (ss : List (List Nat)) (hs : List (Nat × Nat × Nat)) (kk : Int32) (f0_ : ixAt K X a its fs lg qw qo qs ss hs) (ok : okS its fs lg qw qo qs ss) : Met l yIx_nearest (.code yIx_nearest cIx_nearest 8 (some .int) :: hwG) ({ frames := 7, cells := 0, slots := 0, locals := 160 } : Room) (hwPc D vwCl (hwT K) [.ref a, .int kk] X sz) (hwQi D vwCl X sz (fun r Y => r = (if (qw.getD 0 []) = [] then -1 else askI (fun j => (nrN (qw.getD 0 []) (liN (Tf its lg ss j) its.length) (liN (Tf its lg ss j) its.length).length).2) kk) ∧ hwF X Y (fun M => M < 1000) ∧ ixAt K Y a its fs lg [] 0 0 ss hs)) 0 0 (va_A X.1 sz) := by
  refine hwMeti (cc := cIx_nearest) (maxL := 8) (by decide) rfl (Nat.le_of_ble_eq_true rfl) (fun p e s m args below meth c ls A Q hx hb hml hown hts hname hret hK hO hZ hA hl => ?_)
  have hl : lv_has ls 8 [(0, .ref a), (1, .int kk)] := hl
  have hFr : hwF X X (fun M => M < 1000) := hwF.rf
  obtain ⟨hni3, hTG, hfs, hlg, hsss, hqG, hq2, hqs⟩ := ok
  have hok := okIt_of hTG hfs
  have hq50 : qw.length ≤ 50 := by split at hq2 <;> omega
  have hne := hqG.1
  obtain ⟨b0, b1, b2, b3, b4, b5, b6, b7, b8, fi, fl, ta, tf, tl, fc, gx, gi, gt, gl, hfl, gq, gs, gh, ga, gf, gk, gc⟩ := f0_
  have hQ2 := fun j => okWs.at (txAt.oks gq) j
  have hQ0 := (hQ2 0).1
  rcases kN_cases kk with hk | ⟨j, hj, rfl⟩
  · refine lv_aload_n hx hb dIx_nearest_0 rfl (lv_at hl 0 rfl) ?_
    refine hw_get hx hb hts (hwInn inIx) hown hK hZ gx rfl 4 (by decide) (hts (.fieldLink RIx 22 RIx "question" "LWordIndex2$Text;") (hwMem mm_194)) (fun _ h => h) rfl dIx_nearest_1 ?_
    refine lv_iconst (v := nI 0) hx hb dIx_nearest_4 (by decide) ?_
    refine hw_calll (va_runV (As := [.int (nI 0)]) (rest := []) ⟨hx, hb, hml, hown, hts⟩ (c_Tx_at l D K X s.heap.size (a := b2) (k := 5) (ws := qw) (o := qo) (j := 0) gq (by omega)) (cwV 1 hts (hwGood (hw_4 mm_311 mm_76 mm_77 mm_45 (hwAll mm_74))) rfl rfl rfl (by decide +kernel) ⟨Nat.le_of_ble_eq_true rfl, Nat.le_of_ble_eq_true rfl⟩) (hw_preV hK hO hZ (txAt.ob gq) rfl) rfl rfl hl.1 rfl (lv_room (Nat.le_of_ble_eq_true rfl)) dIx_nearest_5 ⟨(show 0 + 0 ≤ 0 by omega), (show 0 + 0 ≤ 0 by omega)⟩) hZ hA (fun r X_1 H_2 lc_3 hp hZ => ?_)
    obtain ⟨hr, hy⟩ := hp
    subst hy
    refine hw_topl hr ?_
    refine lv_lstore_n (lv' := [(2, .long (lN (eW (qw.getD 0 [])))), (0, .ref a), (1, .int kk)]) hx hb dIx_nearest_8 rfl hl (by decide) rfl (fun ls hl => ?_)
    refine lv_aload_n hx hb dIx_nearest_9 rfl (lv_at hl 1 rfl) ?_
    refine hw_callv (va_runV (As := []) (rest := []) ⟨hx, hb, hml, hown, hts⟩ (c_Ix_clearQ l D K X H_2.size (a := a) (b0 := b0) (b1 := b1) (b2 := b2) (b3 := b3) (b4 := b4) (b5 := b5) (b6 := b6) (b7 := b7) (b8 := b8) (ni := its.length) (fs := fs) (qs := qs) (qw := qw) (qo := qo) gx gq) (cwV 0 hts (hwGood (hw_4 mm_260 mm_261 mm_262 mm_188 (hwAll mm_259))) rfl rfl rfl (by decide +kernel) ⟨Nat.le_of_ble_eq_true rfl, Nat.le_of_ble_eq_true rfl⟩) (hw_preV hK hO hZ (⟨_, _, gx⟩) rfl) rfl rfl hl.1 rfl (lv_room (Nat.le_of_ble_eq_true rfl)) dIx_nearest_10 ⟨(show 0 + 0 ≤ 0 by omega), (show 0 + 0 ≤ 0 by omega)⟩) hZ hA (fun X_4 H_5 lc_6 hp hZ => ?_)
    obtain ⟨hF, hN_7, hN_8⟩ := hp
    have hFr := hwF.tr hFr hF (fun _ h => h) (fun M h => by first | exact False.elim h | ((try dsimp only at h ⊢); omega))
    have gi := hF _ _ _ (by intro hNS; first | exact False.elim hNS | ((try dsimp only at hNS); omega)) gi
    have gt := itsAt.fr hF (fun M h1 h2 hNS => by first | exact False.elim hNS | ((try dsimp only at hNS); omega)) gt
    have gl := hF _ _ _ (by intro hNS; first | exact False.elim hNS | ((try dsimp only at hNS); omega)) gl
    have gs := seAt.fr hF (by intro hNS; first | exact False.elim hNS | ((try dsimp only at hNS); omega)) (by intro hNS; first | exact False.elim hNS | ((try dsimp only at hNS); omega)) gs
    have gh := hiAt.fr hF (by intro hNS; first | exact False.elim hNS | ((try dsimp only at hNS); omega)) (by intro hNS; first | exact False.elim hNS | ((try dsimp only at hNS); omega)) (by intro hNS; first | exact False.elim hNS | ((try dsimp only at hNS); omega)) (by intro hNS; first | exact False.elim hNS | ((try dsimp only at hNS); omega)) gh
    have ga := tmAt.fr hF (by intro hNS; first | exact False.elim hNS | ((try dsimp only at hNS); omega)) (by intro hNS; first | exact False.elim hNS | ((try dsimp only at hNS); omega)) ga
    have gf := tmAt.fr hF (by intro hNS; first | exact False.elim hNS | ((try dsimp only at hNS); omega)) (by intro hNS; first | exact False.elim hNS | ((try dsimp only at hNS); omega)) gf
    have gk := seAt.fr hF (by intro hNS; first | exact False.elim hNS | ((try dsimp only at hNS); omega)) (by intro hNS; first | exact False.elim hNS | ((try dsimp only at hNS); omega)) gk
    have gc := hF _ _ _ (by intro hNS; first | exact False.elim hNS | ((try dsimp only at hNS); omega)) gc
    have ff_9 := hN_7
    have ff_10 := hN_8
    refine lv_lload_n hx hb dIx_nearest_13 rfl (lv_at hl 0 rfl) ?_
    refine lv_lconst (v := lN 0) hx hb dIx_nearest_14 rfl ?_
    refine hw_lc_ne (a := eW (qw.getD 0 [])) (b := 0) (tgt := 21) hx hb dIx_nearest_15 dIx_nearest_16 (by decide) (by first | exact eW_lt63 (hT2 _) | exact eW_lt63 (hQ2 _) | exact eW_lt63 (hL2 _) | decide) (by first | exact eW_lt63 (hT2 _) | exact eW_lt63 (hQ2 _) | exact eW_lt63 (hL2 _) | decide) (fun cq_11 => ?_) (fun cq_11 => ?_)
    · refine lv_aload_n hx hb dIx_nearest_21 rfl (lv_at hl 1 rfl) ?_
      refine lv_iload_n hx hb dIx_nearest_22 rfl (lv_at hl 2 rfl) ?_
      refine hw_callv (va_runV (As := [.int kk]) (rest := []) ⟨hx, hb, hml, hown, hts⟩ (c_Ix_listB l D K X_4 H_5.size (a := a) (b0 := b0) (b1 := b1) (b2 := b2) (b3 := b3) (b4 := b4) (b5 := b5) (b6 := b6) (b7 := b7) (b8 := b8) (ni := its.length) (fs := fs) (qs := 0) (fi := fi) (its := its) (tl := tl) (kind := kk) ff_9 gi gt gk (by omega) (by omega) (by assumption)) (cwV 1 hts (hwGood (hw_4 mm_329 mm_330 mm_331 mm_188 (hwAll mm_328))) rfl rfl rfl (by decide +kernel) ⟨Nat.le_of_ble_eq_true rfl, Nat.le_of_ble_eq_true rfl⟩) (hw_preV hK hO hZ (⟨_, _, ff_9⟩) rfl) rfl rfl hl.1 rfl (lv_room (Nat.le_of_ble_eq_true rfl)) dIx_nearest_23 ⟨(show 0 + 0 ≤ 0 by omega), (show 0 + 0 ≤ 0 by omega)⟩) hZ hA (fun X_12 H_13 lc_14 hp hZ => ?_)
      obtain ⟨hF, hN_15⟩ := hp
      have hFr := hwF.tr hFr hF (fun _ h => h) (fun M h => by first | exact False.elim h | ((try dsimp only at h ⊢); omega))
      have gi := hF _ _ _ (by intro hNS; first | exact False.elim hNS | ((try dsimp only at hNS); omega)) gi
      have gt := itsAt.fr hF (fun M h1 h2 hNS => by first | exact False.elim hNS | ((try dsimp only at hNS); omega)) gt
      have gl := hF _ _ _ (by intro hNS; first | exact False.elim hNS | ((try dsimp only at hNS); omega)) gl
      have gs := seAt.fr hF (by intro hNS; first | exact False.elim hNS | ((try dsimp only at hNS); omega)) (by intro hNS; first | exact False.elim hNS | ((try dsimp only at hNS); omega)) gs
      have gh := hiAt.fr hF (by intro hNS; first | exact False.elim hNS | ((try dsimp only at hNS); omega)) (by intro hNS; first | exact False.elim hNS | ((try dsimp only at hNS); omega)) (by intro hNS; first | exact False.elim hNS | ((try dsimp only at hNS); omega)) (by intro hNS; first | exact False.elim hNS | ((try dsimp only at hNS); omega)) gh
      have ga := tmAt.fr hF (by intro hNS; first | exact False.elim hNS | ((try dsimp only at hNS); omega)) (by intro hNS; first | exact False.elim hNS | ((try dsimp only at hNS); omega)) ga
      have gf := tmAt.fr hF (by intro hNS; first | exact False.elim hNS | ((try dsimp only at hNS); omega)) (by intro hNS; first | exact False.elim hNS | ((try dsimp only at hNS); omega)) gf
      have gc := hF _ _ _ (by intro hNS; first | exact False.elim hNS | ((try dsimp only at hNS); omega)) gc
      have ff_9 := hF _ _ _ (by intro hNS; first | exact False.elim hNS | ((try dsimp only at hNS); omega)) ff_9
      have ff_10 := txAt.fr hF (by intro hNS; first | exact False.elim hNS | ((try dsimp only at hNS); omega)) (by intro hNS; first | exact False.elim hNS | ((try dsimp only at hNS); omega)) ff_10
      have ff_16 := hN_15
      have hL2 := fun j => okWs.at (seAt.oks ff_16) j
      have hLN := seAt.len ff_16
      refine lv_iconst (v := nI 3) hx hb dIx_nearest_26 (by decide) ?_
      refine lv_istore (lv' := [(4, .int (nI 3)), (2, .long (lN (eW (qw.getD 0 [])))), (0, .ref a), (1, .int kk)]) hx hb dIx_nearest_27 hl (by decide) rfl (fun ls hl => ?_)
      refine lv_iconst (v := (-1)) hx hb dIx_nearest_29 (by decide) ?_
      refine lv_istore (lv' := [(5, .int (-1)), (4, .int (nI 3)), (2, .long (lN (eW (qw.getD 0 [])))), (0, .ref a), (1, .int kk)]) hx hb dIx_nearest_30 hl (by decide) rfl (fun ls hl => ?_)
      refine lv_iconst (v := nI 0) hx hb dIx_nearest_32 (by decide) ?_
      refine lv_istore (lv' := [(6, .int (nI 0)), (5, .int (-1)), (4, .int (nI 3)), (2, .long (lN (eW (qw.getD 0 [])))), (0, .ref a), (1, .int kk)]) hx hb dIx_nearest_33 hl (by decide) rfl (fun ls hl => ?_)
      have loop35 : ∀ (fuel : Nat) (i : Nat) (bs : Nat) (pl : Int32) (fz : Nat → Int32) (tfz : List (List Nat)) (XL35 : hwW) (Hh : Heap) (lcs : List Loc) (ls : Array Slot), ([] : List (List Nat)).length - i < fuel → (i ≤ ([] : List (List Nat)).length) → (nrN (qw.getD 0 []) ([] : List (List Nat)) i = (bs, pl)) → (bs ≤ 3) → (hwF X XL35 (fun M => M < 1000)) → (hwH XL35 a 0 (.inr (5, [.ref b0, .int (nI its.length), .int (nI fs), .ref b1, .ref b2, .int (nI 0), .ref b3, .ref b4, .ref b5, .ref b6, .ref b7, .ref b8]))) → (hwH XL35 b0 1 (.inl (K 4, 30, .inr (.inr (.inr (.inr fi)))))) → (itsAt K XL35 fi its) → (hwH XL35 b1 2 (.inl (K 0, 4, .inl fl))) → (txAt K XL35 b2 5 ([]) 0) → (seAt K XL35 b3 6 40 ss) → (hiAt K XL35 b4 hs) → (tmAt K XL35 b5 7 50 ta) → (tmAt K XL35 b6 8 750 tfz) → (seAt K XL35 b7 9 750 ([] : List (List Nat))) → (hwH XL35 b8 3 (.inl (K 0, 13, .inl fz))) → hwZ D vwCl A s.heap XL35 Hh lcs → lv_has ls 8 [(6, .int (nI i)), (4, .int (nI bs)), (5, .int pl), (0, .ref a), (1, .int kk), (2, .long (lN (eW (qw.getD 0 []))))] → W p l e ({ frames := 7, cells := 0, slots := 0, locals := 160 } : Room) s m args below meth c Hh lcs 0 0 Q (F0 m 35 ls []) := by
        intro fuel; induction fuel with
        | zero => intro i bs pl fz tfz XL35 Hh lcs ls hfu; exact absurd hfu (Nat.not_lt_zero _)
        | succ fuel ih35 =>
          intro i bs pl fz tfz XL35 Hh lcs ls hfu35 hi hbs hb3 hFr gx gi gt gl gq gs gh ga gf gk gc hZ hl
          refine lv_iload hx hb dIx_nearest_35 (lv_at hl 0 rfl) ?_
          refine lv_aload_n hx hb dIx_nearest_37 rfl (lv_at hl 3 rfl) ?_
          refine hw_get hx hb hts (hwInn inIx) hown hK hZ gx rfl 10 (by decide) (hts (.fieldLink RIx 52 RIx "listed" "LWordIndex2$WordSet;") (hwMem mm_264)) (fun _ h => h) rfl dIx_nearest_38 ?_
          refine hw_calli (va_runV (As := []) (rest := [.int (nI i)]) ⟨hx, hb, hml, hown, hts⟩ (c_Se_size l D K XL35 Hh.size (a := b7) (k := 9) (N := 750) (ts := ([] : List (List Nat))) gk) (cwV 0 hts (hwGood (hw_4 mm_337 mm_338 mm_339 mm_63 (hwAll mm_336))) rfl rfl rfl (by decide +kernel) ⟨Nat.le_of_ble_eq_true rfl, Nat.le_of_ble_eq_true rfl⟩) (hw_preV hK hO hZ (seAt.ob gk) rfl) rfl rfl hl.1 rfl (lv_room (Nat.le_of_ble_eq_true rfl)) dIx_nearest_41 ⟨(show 0 + 0 ≤ 0 by omega), (show 0 + 0 ≤ 0 by omega)⟩) hZ hA (fun r X_17 H_18 lc_19 hp hZ => ?_)
          obtain ⟨hr, hy⟩ := hp
          subst hy
          refine hw_topi hr ?_
          refine hw_ic_ge (a := i) (b := ([] : List (List Nat)).length) (tgt := 87) hx hb dIx_nearest_44 (by decide) (by omega) (by omega) (fun cq_20 => ?_) (fun cq_20 => ?_)
          · refine lv_iload hx hb dIx_nearest_87 (lv_at hl 2 rfl) ?_
            exact hret hZ ⟨by rw [if_neg (fun h => cq_11 ((eW_zero (hQ2 _)).mpr h)), askI_b (kN_bad hk)]; (try dsimp only); exact (nrN_end hbs (by omega)).symm, hFr, ⟨_, _, _, _, _, _, _, _, _, _, _, _, _, _, _, gx, gi, gt, gl, hfl, gq, gs, gh, ga, gf, gk, gc⟩⟩ dIx_nearest_89
          · refine lv_lload_n hx hb dIx_nearest_47 rfl (lv_at hl 5 rfl) ?_
            refine lv_aload_n hx hb dIx_nearest_48 rfl (lv_at hl 3 rfl) ?_
            refine hw_get hx hb hts (hwInn inIx) hown hK hZ gx rfl 10 (by decide) (hts (.fieldLink RIx 52 RIx "listed" "LWordIndex2$WordSet;") (hwMem mm_264)) (fun _ h => h) rfl dIx_nearest_49 ?_
            refine lv_iload hx hb dIx_nearest_52 (lv_at hl 0 rfl) ?_
            refine hw_calll (va_runV (As := [.int (nI i)]) (rest := [.long (lN (eW (qw.getD 0 [])))]) ⟨hx, hb, hml, hown, hts⟩ (c_Se_at l D K XL35 H_18.size (a := b7) (k := 9) (N := 750) (ts := ([] : List (List Nat))) (j := i) gk (by omega)) (cwV 1 hts (hwGood (hw_4 mm_332 mm_61 mm_62 mm_63 (hwAll mm_59))) rfl rfl rfl (by decide +kernel) ⟨Nat.le_of_ble_eq_true rfl, Nat.le_of_ble_eq_true rfl⟩) (hw_preV hK hO hZ (seAt.ob gk) rfl) rfl rfl hl.1 rfl (lv_room (Nat.le_of_ble_eq_true rfl)) dIx_nearest_54 ⟨(show 0 + 0 ≤ 0 by omega), (show 0 + 0 ≤ 0 by omega)⟩) hZ hA (fun r X_21 H_22 lc_23 hp hZ => ?_)
            obtain ⟨hr, hy⟩ := hp
            subst hy
            refine hw_topl hr ?_
            refine lv_aload_n hx hb dIx_nearest_57 rfl (lv_at hl 3 rfl) ?_
            refine hw_get hx hb hts (hwInn inIx) hown hK hZ gx rfl 11 (by decide) (hts (.fieldLink RIx 55 RIx "costs" "[I") (hwMem mm_340)) (fun _ h => h) rfl dIx_nearest_58 ?_
            refine hw_calli (va_runS (As := [.long (lN (eW (qw.getD 0 []))), .long (lN (eW (([] : List (List Nat)).getD i []))), .ref b8]) (rest := []) ⟨hx, hb, hml, hown, hts⟩ (c_W_dist l D K XL35 H_22.size (f0 := (qw.getD 0 [])) (t := (([] : List (List Nat)).getD i [])) (a := b8) (L := 3) (f := fz) gc (hQ2 0) (hL2 i)) (va_cwS 3 hts (hwGood (hw_3 mm_343 mm_342 mm_3 (hwAll mm_341))) rfl rfl rfl (by decide +kernel) ⟨Nat.le_of_ble_eq_true rfl, Nat.le_of_ble_eq_true rfl⟩) (hw_preS hK hO hZ) rfl rfl hl.1 rfl (lv_room (Nat.le_of_ble_eq_true rfl)) dIx_nearest_61 ⟨(show 0 + 0 ≤ 0 by omega), (show 0 + 0 ≤ 0 by omega)⟩) hZ hA (fun r X_24 H_25 lc_26 hp hZ => ?_)
            obtain ⟨fz_27, hr, hF, hN_28⟩ := hp
            have hFr := hwF.tr hFr hF (fun _ h => h) (fun M h => by first | exact False.elim h | ((try dsimp only at h ⊢); omega))
            have gx := hF _ _ _ (by intro hNS; first | exact False.elim hNS | ((try dsimp only at hNS); omega)) gx
            have gi := hF _ _ _ (by intro hNS; first | exact False.elim hNS | ((try dsimp only at hNS); omega)) gi
            have gt := itsAt.fr hF (fun M h1 h2 hNS => by first | exact False.elim hNS | ((try dsimp only at hNS); omega)) gt
            have gl := hF _ _ _ (by intro hNS; first | exact False.elim hNS | ((try dsimp only at hNS); omega)) gl
            have gq := txAt.fr hF (by intro hNS; first | exact False.elim hNS | ((try dsimp only at hNS); omega)) (by intro hNS; first | exact False.elim hNS | ((try dsimp only at hNS); omega)) gq
            have gs := seAt.fr hF (by intro hNS; first | exact False.elim hNS | ((try dsimp only at hNS); omega)) (by intro hNS; first | exact False.elim hNS | ((try dsimp only at hNS); omega)) gs
            have gh := hiAt.fr hF (by intro hNS; first | exact False.elim hNS | ((try dsimp only at hNS); omega)) (by intro hNS; first | exact False.elim hNS | ((try dsimp only at hNS); omega)) (by intro hNS; first | exact False.elim hNS | ((try dsimp only at hNS); omega)) (by intro hNS; first | exact False.elim hNS | ((try dsimp only at hNS); omega)) gh
            have ga := tmAt.fr hF (by intro hNS; first | exact False.elim hNS | ((try dsimp only at hNS); omega)) (by intro hNS; first | exact False.elim hNS | ((try dsimp only at hNS); omega)) ga
            have gf := tmAt.fr hF (by intro hNS; first | exact False.elim hNS | ((try dsimp only at hNS); omega)) (by intro hNS; first | exact False.elim hNS | ((try dsimp only at hNS); omega)) gf
            have gk := seAt.fr hF (by intro hNS; first | exact False.elim hNS | ((try dsimp only at hNS); omega)) (by intro hNS; first | exact False.elim hNS | ((try dsimp only at hNS); omega)) gk
            have ff_29 := hN_28
            refine hw_topi hr ?_
            refine lv_istore (lv' := [(7, .int (nI (distL (qw.getD 0 []) (([] : List (List Nat)).getD i [])))), (6, .int (nI i)), (4, .int (nI bs)), (5, .int pl), (0, .ref a), (1, .int kk), (2, .long (lN (eW (qw.getD 0 []))))]) hx hb dIx_nearest_64 hl (by decide) rfl (fun ls hl => ?_)
            have hdl := distL_le hQ0 (hL2 i).1
            refine lv_iload hx hb dIx_nearest_66 (lv_at hl 0 rfl) ?_
            refine lv_iload hx hb dIx_nearest_68 (lv_at hl 2 rfl) ?_
            refine hw_ic_ge (a := distL (qw.getD 0 []) (([] : List (List Nat)).getD i [])) (b := bs) (tgt := 81) hx hb dIx_nearest_70 (by decide) (by omega) (by omega) (fun cq_30 => ?_) (fun cq_30 => ?_)
            · refine lv_iinc (v := nI (i + 1)) (lv' := [(6, .int (nI (i + 1))), (7, .int (nI (distL (qw.getD 0 []) (([] : List (List Nat)).getD i [])))), (4, .int (nI bs)), (5, .int pl), (0, .ref a), (1, .int kk), (2, .long (lN (eW (qw.getD 0 []))))]) hx hb dIx_nearest_81 hl (k := 1) rfl (nI_add _ 1) (by decide) rfl (fun ls hl => ?_)
              refine lv_goto (tgt := 35) hx hb dIx_nearest_84 (by decide) ?_
              exact ih35 (i + 1) bs pl fz_27 tfz _ _ _ _ (by omega) (by omega) (nrN_ge hbs cq_30) (by omega) hFr gx gi gt gl gq gs gh ga gf gk ff_29 hZ (lv_sub hl [0, 2, 3, 4, 5, 6] rfl)
            · refine lv_iload hx hb dIx_nearest_73 (lv_at hl 0 rfl) ?_
              refine lv_istore (lv' := [(4, .int (nI (distL (qw.getD 0 []) (([] : List (List Nat)).getD i [])))), (7, .int (nI (distL (qw.getD 0 []) (([] : List (List Nat)).getD i [])))), (6, .int (nI i)), (5, .int pl), (0, .ref a), (1, .int kk), (2, .long (lN (eW (qw.getD 0 []))))]) hx hb dIx_nearest_75 hl (by decide) rfl (fun ls hl => ?_)
              refine lv_iload hx hb dIx_nearest_77 (lv_at hl 2 rfl) ?_
              refine lv_istore (lv' := [(5, .int (nI i)), (4, .int (nI (distL (qw.getD 0 []) (([] : List (List Nat)).getD i [])))), (7, .int (nI (distL (qw.getD 0 []) (([] : List (List Nat)).getD i [])))), (6, .int (nI i)), (0, .ref a), (1, .int kk), (2, .long (lN (eW (qw.getD 0 []))))]) hx hb dIx_nearest_79 hl (by decide) rfl (fun ls hl => ?_)
              refine lv_iinc (v := nI (i + 1)) (lv' := [(6, .int (nI (i + 1))), (5, .int (nI i)), (4, .int (nI (distL (qw.getD 0 []) (([] : List (List Nat)).getD i [])))), (7, .int (nI (distL (qw.getD 0 []) (([] : List (List Nat)).getD i [])))), (0, .ref a), (1, .int kk), (2, .long (lN (eW (qw.getD 0 []))))]) hx hb dIx_nearest_81 hl (k := 3) rfl (nI_add _ 1) (by decide) rfl (fun ls hl => ?_)
              refine lv_goto (tgt := 35) hx hb dIx_nearest_84 (by decide) ?_
              exact ih35 (i + 1) (distL (qw.getD 0 []) (([] : List (List Nat)).getD i [])) (nI i) fz_27 tfz _ _ _ _ (by omega) (by omega) (nrN_lt hbs cq_30) (by omega) hFr gx gi gt gl gq gs gh ga gf gk ff_29 hZ (lv_sub hl [0, 2, 1, 4, 5, 6] rfl)
      exact loop35 (([] : List (List Nat)).length - 0 + 1) 0 3 (-1) fc tf _ _ _ _ (by omega) (by omega) rfl (by omega) hFr ff_9 gi gt gl ff_10 gs gh ga gf ff_16 gc hZ (lv_sub hl [0, 2, 1, 4, 5, 3] rfl)
    · refine lv_iconst (v := (-1)) hx hb dIx_nearest_19 (by decide) ?_
      exact hret hZ ⟨by rw [if_pos ((eW_zero (hQ2 _)).mp cq_11)], hFr, ⟨_, _, _, _, _, _, _, _, _, _, _, _, _, _, _, ff_9, gi, gt, gl, hfl, ff_10, gs, gh, ga, gf, gk, gc⟩⟩ dIx_nearest_20
  · refine lv_aload_n hx hb dIx_nearest_0 rfl (lv_at hl 0 rfl) ?_
    refine hw_get hx hb hts (hwInn inIx) hown hK hZ gx rfl 4 (by decide) (hts (.fieldLink RIx 22 RIx "question" "LWordIndex2$Text;") (hwMem mm_194)) (fun _ h => h) rfl dIx_nearest_1 ?_
    refine lv_iconst (v := nI 0) hx hb dIx_nearest_4 (by decide) ?_
    refine hw_calll (va_runV (As := [.int (nI 0)]) (rest := []) ⟨hx, hb, hml, hown, hts⟩ (c_Tx_at l D K X s.heap.size (a := b2) (k := 5) (ws := qw) (o := qo) (j := 0) gq (by omega)) (cwV 1 hts (hwGood (hw_4 mm_311 mm_76 mm_77 mm_45 (hwAll mm_74))) rfl rfl rfl (by decide +kernel) ⟨Nat.le_of_ble_eq_true rfl, Nat.le_of_ble_eq_true rfl⟩) (hw_preV hK hO hZ (txAt.ob gq) rfl) rfl rfl hl.1 rfl (lv_room (Nat.le_of_ble_eq_true rfl)) dIx_nearest_5 ⟨(show 0 + 0 ≤ 0 by omega), (show 0 + 0 ≤ 0 by omega)⟩) hZ hA (fun r X_31 H_32 lc_33 hp hZ => ?_)
    obtain ⟨hr, hy⟩ := hp
    subst hy
    refine hw_topl hr ?_
    refine lv_lstore_n (lv' := [(2, .long (lN (eW (qw.getD 0 [])))), (0, .ref a), (1, .int (nI j))]) hx hb dIx_nearest_8 rfl hl (by decide) rfl (fun ls hl => ?_)
    refine lv_aload_n hx hb dIx_nearest_9 rfl (lv_at hl 1 rfl) ?_
    refine hw_callv (va_runV (As := []) (rest := []) ⟨hx, hb, hml, hown, hts⟩ (c_Ix_clearQ l D K X H_32.size (a := a) (b0 := b0) (b1 := b1) (b2 := b2) (b3 := b3) (b4 := b4) (b5 := b5) (b6 := b6) (b7 := b7) (b8 := b8) (ni := its.length) (fs := fs) (qs := qs) (qw := qw) (qo := qo) gx gq) (cwV 0 hts (hwGood (hw_4 mm_260 mm_261 mm_262 mm_188 (hwAll mm_259))) rfl rfl rfl (by decide +kernel) ⟨Nat.le_of_ble_eq_true rfl, Nat.le_of_ble_eq_true rfl⟩) (hw_preV hK hO hZ (⟨_, _, gx⟩) rfl) rfl rfl hl.1 rfl (lv_room (Nat.le_of_ble_eq_true rfl)) dIx_nearest_10 ⟨(show 0 + 0 ≤ 0 by omega), (show 0 + 0 ≤ 0 by omega)⟩) hZ hA (fun X_34 H_35 lc_36 hp hZ => ?_)
    obtain ⟨hF, hN_37, hN_38⟩ := hp
    have hFr := hwF.tr hFr hF (fun _ h => h) (fun M h => by first | exact False.elim h | ((try dsimp only at h ⊢); omega))
    have gi := hF _ _ _ (by intro hNS; first | exact False.elim hNS | ((try dsimp only at hNS); omega)) gi
    have gt := itsAt.fr hF (fun M h1 h2 hNS => by first | exact False.elim hNS | ((try dsimp only at hNS); omega)) gt
    have gl := hF _ _ _ (by intro hNS; first | exact False.elim hNS | ((try dsimp only at hNS); omega)) gl
    have gs := seAt.fr hF (by intro hNS; first | exact False.elim hNS | ((try dsimp only at hNS); omega)) (by intro hNS; first | exact False.elim hNS | ((try dsimp only at hNS); omega)) gs
    have gh := hiAt.fr hF (by intro hNS; first | exact False.elim hNS | ((try dsimp only at hNS); omega)) (by intro hNS; first | exact False.elim hNS | ((try dsimp only at hNS); omega)) (by intro hNS; first | exact False.elim hNS | ((try dsimp only at hNS); omega)) (by intro hNS; first | exact False.elim hNS | ((try dsimp only at hNS); omega)) gh
    have ga := tmAt.fr hF (by intro hNS; first | exact False.elim hNS | ((try dsimp only at hNS); omega)) (by intro hNS; first | exact False.elim hNS | ((try dsimp only at hNS); omega)) ga
    have gf := tmAt.fr hF (by intro hNS; first | exact False.elim hNS | ((try dsimp only at hNS); omega)) (by intro hNS; first | exact False.elim hNS | ((try dsimp only at hNS); omega)) gf
    have gk := seAt.fr hF (by intro hNS; first | exact False.elim hNS | ((try dsimp only at hNS); omega)) (by intro hNS; first | exact False.elim hNS | ((try dsimp only at hNS); omega)) gk
    have gc := hF _ _ _ (by intro hNS; first | exact False.elim hNS | ((try dsimp only at hNS); omega)) gc
    have ff_39 := hN_37
    have ff_40 := hN_38
    refine lv_lload_n hx hb dIx_nearest_13 rfl (lv_at hl 0 rfl) ?_
    refine lv_lconst (v := lN 0) hx hb dIx_nearest_14 rfl ?_
    refine hw_lc_ne (a := eW (qw.getD 0 [])) (b := 0) (tgt := 21) hx hb dIx_nearest_15 dIx_nearest_16 (by decide) (by first | exact eW_lt63 (hT2 _) | exact eW_lt63 (hQ2 _) | exact eW_lt63 (hL2 _) | decide) (by first | exact eW_lt63 (hT2 _) | exact eW_lt63 (hQ2 _) | exact eW_lt63 (hL2 _) | decide) (fun cq_41 => ?_) (fun cq_41 => ?_)
    · refine lv_aload_n hx hb dIx_nearest_21 rfl (lv_at hl 1 rfl) ?_
      refine lv_iload_n hx hb dIx_nearest_22 rfl (lv_at hl 2 rfl) ?_
      refine hw_callv (va_runV (As := [.int (nI j)]) (rest := []) ⟨hx, hb, hml, hown, hts⟩ (c_Ix_list l D K X_34 H_35.size (a := a) (b0 := b0) (b1 := b1) (b2 := b2) (b3 := b3) (b4 := b4) (b5 := b5) (b6 := b6) (b7 := b7) (b8 := b8) (ni := its.length) (fs := fs) (qs := 0) (fi := fi) (fl := fl) (its := its) (lg := lg) (tf := tf) (ss := ss) (tl := tl) (j := j) ff_39 gi gt gl gf gs gk (by omega) (by omega) (by omega) (by assumption) (by assumption) (by assumption) (by assumption)) (cwV 1 hts (hwGood (hw_4 mm_329 mm_330 mm_331 mm_188 (hwAll mm_328))) rfl rfl rfl (by decide +kernel) ⟨Nat.le_of_ble_eq_true rfl, Nat.le_of_ble_eq_true rfl⟩) (hw_preV hK hO hZ (⟨_, _, ff_39⟩) rfl) rfl rfl hl.1 rfl (lv_room (Nat.le_of_ble_eq_true rfl)) dIx_nearest_23 ⟨(show 0 + 0 ≤ 0 by omega), (show 0 + 0 ≤ 0 by omega)⟩) hZ hA (fun X_42 H_43 lc_44 hp hZ => ?_)
      obtain ⟨tz_45, hF, hN_46, hN_47⟩ := hp
      have hFr := hwF.tr hFr hF (fun _ h => h) (fun M h => by first | exact False.elim h | ((try dsimp only at h ⊢); omega))
      have gi := hF _ _ _ (by intro hNS; first | exact False.elim hNS | ((try dsimp only at hNS); omega)) gi
      have gt := itsAt.fr hF (fun M h1 h2 hNS => by first | exact False.elim hNS | ((try dsimp only at hNS); omega)) gt
      have gl := hF _ _ _ (by intro hNS; first | exact False.elim hNS | ((try dsimp only at hNS); omega)) gl
      have gs := seAt.fr hF (by intro hNS; first | exact False.elim hNS | ((try dsimp only at hNS); omega)) (by intro hNS; first | exact False.elim hNS | ((try dsimp only at hNS); omega)) gs
      have gh := hiAt.fr hF (by intro hNS; first | exact False.elim hNS | ((try dsimp only at hNS); omega)) (by intro hNS; first | exact False.elim hNS | ((try dsimp only at hNS); omega)) (by intro hNS; first | exact False.elim hNS | ((try dsimp only at hNS); omega)) (by intro hNS; first | exact False.elim hNS | ((try dsimp only at hNS); omega)) gh
      have ga := tmAt.fr hF (by intro hNS; first | exact False.elim hNS | ((try dsimp only at hNS); omega)) (by intro hNS; first | exact False.elim hNS | ((try dsimp only at hNS); omega)) ga
      have gc := hF _ _ _ (by intro hNS; first | exact False.elim hNS | ((try dsimp only at hNS); omega)) gc
      have ff_39 := hF _ _ _ (by intro hNS; first | exact False.elim hNS | ((try dsimp only at hNS); omega)) ff_39
      have ff_40 := txAt.fr hF (by intro hNS; first | exact False.elim hNS | ((try dsimp only at hNS); omega)) (by intro hNS; first | exact False.elim hNS | ((try dsimp only at hNS); omega)) ff_40
      have ff_48 := hN_46
      have ff_49 := hN_47
      have hL2 := fun j => okWs.at (seAt.oks ff_49) j
      have hLN := seAt.len ff_49
      refine lv_iconst (v := nI 3) hx hb dIx_nearest_26 (by decide) ?_
      refine lv_istore (lv' := [(4, .int (nI 3)), (2, .long (lN (eW (qw.getD 0 [])))), (0, .ref a), (1, .int (nI j))]) hx hb dIx_nearest_27 hl (by decide) rfl (fun ls hl => ?_)
      refine lv_iconst (v := (-1)) hx hb dIx_nearest_29 (by decide) ?_
      refine lv_istore (lv' := [(5, .int (-1)), (4, .int (nI 3)), (2, .long (lN (eW (qw.getD 0 [])))), (0, .ref a), (1, .int (nI j))]) hx hb dIx_nearest_30 hl (by decide) rfl (fun ls hl => ?_)
      refine lv_iconst (v := nI 0) hx hb dIx_nearest_32 (by decide) ?_
      refine lv_istore (lv' := [(6, .int (nI 0)), (5, .int (-1)), (4, .int (nI 3)), (2, .long (lN (eW (qw.getD 0 [])))), (0, .ref a), (1, .int (nI j))]) hx hb dIx_nearest_33 hl (by decide) rfl (fun ls hl => ?_)
      have loop35 : ∀ (fuel : Nat) (i : Nat) (bs : Nat) (pl : Int32) (fz : Nat → Int32) (tfz : List (List Nat)) (XL35 : hwW) (Hh : Heap) (lcs : List Loc) (ls : Array Slot), (liN (Tf its lg ss j) its.length).length - i < fuel → (i ≤ (liN (Tf its lg ss j) its.length).length) → (nrN (qw.getD 0 []) (liN (Tf its lg ss j) its.length) i = (bs, pl)) → (bs ≤ 3) → (hwF X XL35 (fun M => M < 1000)) → (hwH XL35 a 0 (.inr (5, [.ref b0, .int (nI its.length), .int (nI fs), .ref b1, .ref b2, .int (nI 0), .ref b3, .ref b4, .ref b5, .ref b6, .ref b7, .ref b8]))) → (hwH XL35 b0 1 (.inl (K 4, 30, .inr (.inr (.inr (.inr fi)))))) → (itsAt K XL35 fi its) → (hwH XL35 b1 2 (.inl (K 0, 4, .inl fl))) → (txAt K XL35 b2 5 ([]) 0) → (seAt K XL35 b3 6 40 ss) → (hiAt K XL35 b4 hs) → (tmAt K XL35 b5 7 50 ta) → (tmAt K XL35 b6 8 750 tfz) → (seAt K XL35 b7 9 750 (liN (Tf its lg ss j) its.length)) → (hwH XL35 b8 3 (.inl (K 0, 13, .inl fz))) → hwZ D vwCl A s.heap XL35 Hh lcs → lv_has ls 8 [(6, .int (nI i)), (4, .int (nI bs)), (5, .int pl), (0, .ref a), (1, .int (nI j)), (2, .long (lN (eW (qw.getD 0 []))))] → W p l e ({ frames := 7, cells := 0, slots := 0, locals := 160 } : Room) s m args below meth c Hh lcs 0 0 Q (F0 m 35 ls []) := by
        intro fuel; induction fuel with
        | zero => intro i bs pl fz tfz XL35 Hh lcs ls hfu; exact absurd hfu (Nat.not_lt_zero _)
        | succ fuel ih35 =>
          intro i bs pl fz tfz XL35 Hh lcs ls hfu35 hi hbs hb3 hFr gx gi gt gl gq gs gh ga gf gk gc hZ hl
          refine lv_iload hx hb dIx_nearest_35 (lv_at hl 0 rfl) ?_
          refine lv_aload_n hx hb dIx_nearest_37 rfl (lv_at hl 3 rfl) ?_
          refine hw_get hx hb hts (hwInn inIx) hown hK hZ gx rfl 10 (by decide) (hts (.fieldLink RIx 52 RIx "listed" "LWordIndex2$WordSet;") (hwMem mm_264)) (fun _ h => h) rfl dIx_nearest_38 ?_
          refine hw_calli (va_runV (As := []) (rest := [.int (nI i)]) ⟨hx, hb, hml, hown, hts⟩ (c_Se_size l D K XL35 Hh.size (a := b7) (k := 9) (N := 750) (ts := liN (Tf its lg ss j) its.length) gk) (cwV 0 hts (hwGood (hw_4 mm_337 mm_338 mm_339 mm_63 (hwAll mm_336))) rfl rfl rfl (by decide +kernel) ⟨Nat.le_of_ble_eq_true rfl, Nat.le_of_ble_eq_true rfl⟩) (hw_preV hK hO hZ (seAt.ob gk) rfl) rfl rfl hl.1 rfl (lv_room (Nat.le_of_ble_eq_true rfl)) dIx_nearest_41 ⟨(show 0 + 0 ≤ 0 by omega), (show 0 + 0 ≤ 0 by omega)⟩) hZ hA (fun r X_50 H_51 lc_52 hp hZ => ?_)
          obtain ⟨hr, hy⟩ := hp
          subst hy
          refine hw_topi hr ?_
          refine hw_ic_ge (a := i) (b := (liN (Tf its lg ss j) its.length).length) (tgt := 87) hx hb dIx_nearest_44 (by decide) (by omega) (by omega) (fun cq_53 => ?_) (fun cq_53 => ?_)
          · refine lv_iload hx hb dIx_nearest_87 (lv_at hl 2 rfl) ?_
            exact hret hZ ⟨by rw [if_neg (fun h => cq_41 ((eW_zero (hQ2 _)).mpr h)), askI_g (kN_nI hj)]; (try dsimp only); rw [← nrN_end hbs (by omega)], hFr, ⟨_, _, _, _, _, _, _, _, _, _, _, _, _, _, _, gx, gi, gt, gl, hfl, gq, gs, gh, ga, gf, gk, gc⟩⟩ dIx_nearest_89
          · refine lv_lload_n hx hb dIx_nearest_47 rfl (lv_at hl 5 rfl) ?_
            refine lv_aload_n hx hb dIx_nearest_48 rfl (lv_at hl 3 rfl) ?_
            refine hw_get hx hb hts (hwInn inIx) hown hK hZ gx rfl 10 (by decide) (hts (.fieldLink RIx 52 RIx "listed" "LWordIndex2$WordSet;") (hwMem mm_264)) (fun _ h => h) rfl dIx_nearest_49 ?_
            refine lv_iload hx hb dIx_nearest_52 (lv_at hl 0 rfl) ?_
            refine hw_calll (va_runV (As := [.int (nI i)]) (rest := [.long (lN (eW (qw.getD 0 [])))]) ⟨hx, hb, hml, hown, hts⟩ (c_Se_at l D K XL35 H_51.size (a := b7) (k := 9) (N := 750) (ts := liN (Tf its lg ss j) its.length) (j := i) gk (by omega)) (cwV 1 hts (hwGood (hw_4 mm_332 mm_61 mm_62 mm_63 (hwAll mm_59))) rfl rfl rfl (by decide +kernel) ⟨Nat.le_of_ble_eq_true rfl, Nat.le_of_ble_eq_true rfl⟩) (hw_preV hK hO hZ (seAt.ob gk) rfl) rfl rfl hl.1 rfl (lv_room (Nat.le_of_ble_eq_true rfl)) dIx_nearest_54 ⟨(show 0 + 0 ≤ 0 by omega), (show 0 + 0 ≤ 0 by omega)⟩) hZ hA (fun r X_54 H_55 lc_56 hp hZ => ?_)
            obtain ⟨hr, hy⟩ := hp
            subst hy
            refine hw_topl hr ?_
            refine lv_aload_n hx hb dIx_nearest_57 rfl (lv_at hl 3 rfl) ?_
            refine hw_get hx hb hts (hwInn inIx) hown hK hZ gx rfl 11 (by decide) (hts (.fieldLink RIx 55 RIx "costs" "[I") (hwMem mm_340)) (fun _ h => h) rfl dIx_nearest_58 ?_
            refine hw_calli (va_runS (As := [.long (lN (eW (qw.getD 0 []))), .long (lN (eW ((liN (Tf its lg ss j) its.length).getD i []))), .ref b8]) (rest := []) ⟨hx, hb, hml, hown, hts⟩ (c_W_dist l D K XL35 H_55.size (f0 := (qw.getD 0 [])) (t := ((liN (Tf its lg ss j) its.length).getD i [])) (a := b8) (L := 3) (f := fz) gc (hQ2 0) (hL2 i)) (va_cwS 3 hts (hwGood (hw_3 mm_343 mm_342 mm_3 (hwAll mm_341))) rfl rfl rfl (by decide +kernel) ⟨Nat.le_of_ble_eq_true rfl, Nat.le_of_ble_eq_true rfl⟩) (hw_preS hK hO hZ) rfl rfl hl.1 rfl (lv_room (Nat.le_of_ble_eq_true rfl)) dIx_nearest_61 ⟨(show 0 + 0 ≤ 0 by omega), (show 0 + 0 ≤ 0 by omega)⟩) hZ hA (fun r X_57 H_58 lc_59 hp hZ => ?_)
            obtain ⟨fz_60, hr, hF, hN_61⟩ := hp
            have hFr := hwF.tr hFr hF (fun _ h => h) (fun M h => by first | exact False.elim h | ((try dsimp only at h ⊢); omega))
            have gx := hF _ _ _ (by intro hNS; first | exact False.elim hNS | ((try dsimp only at hNS); omega)) gx
            have gi := hF _ _ _ (by intro hNS; first | exact False.elim hNS | ((try dsimp only at hNS); omega)) gi
            have gt := itsAt.fr hF (fun M h1 h2 hNS => by first | exact False.elim hNS | ((try dsimp only at hNS); omega)) gt
            have gl := hF _ _ _ (by intro hNS; first | exact False.elim hNS | ((try dsimp only at hNS); omega)) gl
            have gq := txAt.fr hF (by intro hNS; first | exact False.elim hNS | ((try dsimp only at hNS); omega)) (by intro hNS; first | exact False.elim hNS | ((try dsimp only at hNS); omega)) gq
            have gs := seAt.fr hF (by intro hNS; first | exact False.elim hNS | ((try dsimp only at hNS); omega)) (by intro hNS; first | exact False.elim hNS | ((try dsimp only at hNS); omega)) gs
            have gh := hiAt.fr hF (by intro hNS; first | exact False.elim hNS | ((try dsimp only at hNS); omega)) (by intro hNS; first | exact False.elim hNS | ((try dsimp only at hNS); omega)) (by intro hNS; first | exact False.elim hNS | ((try dsimp only at hNS); omega)) (by intro hNS; first | exact False.elim hNS | ((try dsimp only at hNS); omega)) gh
            have ga := tmAt.fr hF (by intro hNS; first | exact False.elim hNS | ((try dsimp only at hNS); omega)) (by intro hNS; first | exact False.elim hNS | ((try dsimp only at hNS); omega)) ga
            have gf := tmAt.fr hF (by intro hNS; first | exact False.elim hNS | ((try dsimp only at hNS); omega)) (by intro hNS; first | exact False.elim hNS | ((try dsimp only at hNS); omega)) gf
            have gk := seAt.fr hF (by intro hNS; first | exact False.elim hNS | ((try dsimp only at hNS); omega)) (by intro hNS; first | exact False.elim hNS | ((try dsimp only at hNS); omega)) gk
            have ff_62 := hN_61
            refine hw_topi hr ?_
            refine lv_istore (lv' := [(7, .int (nI (distL (qw.getD 0 []) ((liN (Tf its lg ss j) its.length).getD i [])))), (6, .int (nI i)), (4, .int (nI bs)), (5, .int pl), (0, .ref a), (1, .int (nI j)), (2, .long (lN (eW (qw.getD 0 []))))]) hx hb dIx_nearest_64 hl (by decide) rfl (fun ls hl => ?_)
            have hdl := distL_le hQ0 (hL2 i).1
            refine lv_iload hx hb dIx_nearest_66 (lv_at hl 0 rfl) ?_
            refine lv_iload hx hb dIx_nearest_68 (lv_at hl 2 rfl) ?_
            refine hw_ic_ge (a := distL (qw.getD 0 []) ((liN (Tf its lg ss j) its.length).getD i [])) (b := bs) (tgt := 81) hx hb dIx_nearest_70 (by decide) (by omega) (by omega) (fun cq_63 => ?_) (fun cq_63 => ?_)
            · refine lv_iinc (v := nI (i + 1)) (lv' := [(6, .int (nI (i + 1))), (7, .int (nI (distL (qw.getD 0 []) ((liN (Tf its lg ss j) its.length).getD i [])))), (4, .int (nI bs)), (5, .int pl), (0, .ref a), (1, .int (nI j)), (2, .long (lN (eW (qw.getD 0 []))))]) hx hb dIx_nearest_81 hl (k := 1) rfl (nI_add _ 1) (by decide) rfl (fun ls hl => ?_)
              refine lv_goto (tgt := 35) hx hb dIx_nearest_84 (by decide) ?_
              exact ih35 (i + 1) bs pl fz_60 tfz _ _ _ _ (by omega) (by omega) (nrN_ge hbs cq_63) (by omega) hFr gx gi gt gl gq gs gh ga gf gk ff_62 hZ (lv_sub hl [0, 2, 3, 4, 5, 6] rfl)
            · refine lv_iload hx hb dIx_nearest_73 (lv_at hl 0 rfl) ?_
              refine lv_istore (lv' := [(4, .int (nI (distL (qw.getD 0 []) ((liN (Tf its lg ss j) its.length).getD i [])))), (7, .int (nI (distL (qw.getD 0 []) ((liN (Tf its lg ss j) its.length).getD i [])))), (6, .int (nI i)), (5, .int pl), (0, .ref a), (1, .int (nI j)), (2, .long (lN (eW (qw.getD 0 []))))]) hx hb dIx_nearest_75 hl (by decide) rfl (fun ls hl => ?_)
              refine lv_iload hx hb dIx_nearest_77 (lv_at hl 2 rfl) ?_
              refine lv_istore (lv' := [(5, .int (nI i)), (4, .int (nI (distL (qw.getD 0 []) ((liN (Tf its lg ss j) its.length).getD i [])))), (7, .int (nI (distL (qw.getD 0 []) ((liN (Tf its lg ss j) its.length).getD i [])))), (6, .int (nI i)), (0, .ref a), (1, .int (nI j)), (2, .long (lN (eW (qw.getD 0 []))))]) hx hb dIx_nearest_79 hl (by decide) rfl (fun ls hl => ?_)
              refine lv_iinc (v := nI (i + 1)) (lv' := [(6, .int (nI (i + 1))), (5, .int (nI i)), (4, .int (nI (distL (qw.getD 0 []) ((liN (Tf its lg ss j) its.length).getD i [])))), (7, .int (nI (distL (qw.getD 0 []) ((liN (Tf its lg ss j) its.length).getD i [])))), (0, .ref a), (1, .int (nI j)), (2, .long (lN (eW (qw.getD 0 []))))]) hx hb dIx_nearest_81 hl (k := 3) rfl (nI_add _ 1) (by decide) rfl (fun ls hl => ?_)
              refine lv_goto (tgt := 35) hx hb dIx_nearest_84 (by decide) ?_
              exact ih35 (i + 1) (distL (qw.getD 0 []) ((liN (Tf its lg ss j) its.length).getD i [])) (nI i) fz_60 tfz _ _ _ _ (by omega) (by omega) (nrN_lt hbs cq_63) (by omega) hFr gx gi gt gl gq gs gh ga gf gk ff_62 hZ (lv_sub hl [0, 2, 1, 4, 5, 6] rfl)
      exact loop35 ((liN (Tf its lg ss j) its.length).length - 0 + 1) 0 3 (-1) fc tz_45 _ _ _ _ (by omega) (by omega) rfl (by omega) hFr ff_39 gi gt gl ff_40 gs gh ga ff_48 ff_49 gc hZ (lv_sub hl [0, 2, 1, 4, 5, 3] rfl)
    · refine lv_iconst (v := (-1)) hx hb dIx_nearest_19 (by decide) ?_
      exact hret hZ ⟨by rw [if_pos ((eW_zero (hQ2 _)).mp cq_41)], hFr, ⟨_, _, _, _, _, _, _, _, _, _, _, _, _, _, _, ff_39, gi, gt, gl, hfl, ff_40, gs, gh, ga, gf, gk, gc⟩⟩ dIx_nearest_20
set_option maxHeartbeats 4000000 in
set_option maxRecDepth 100000 in
theorem p_stop (l : Launch) (D : va_G) (K : Nat → ClassId) (X : hwW) (sz : Nat) (a : Nat) (its : hwIt) (fs : Nat) (lg : Nat → Nat) (qw : List (List Nat)) (qo : Nat) (qs : Nat) (ss : List (List Nat)) (hs : List (Nat × Nat × Nat)) (f0_ : ixAt K X a its fs lg qw qo qs ss hs) (ok : okS its fs lg qw qo qs ss) : Met l yIx_stop (.code yIx_stop cIx_stop 2 (some .int) :: hwG) ({ frames := 3, cells := 0, slots := 0, locals := 70 } : Room) (hwPc D vwCl (hwT K) [.ref a] X sz) (hwQi D vwCl X sz (fun r Y => r = nI (stpP ss qw).length ∧ hwF X Y (fun M => M < 1000) ∧ ixAt K Y a its fs lg [] 0 0 (stpP ss qw) hs)) 0 0 (va_A X.1 sz) := by
  refine hwMeti (cc := cIx_stop) (maxL := 2) (by decide) rfl (Nat.le_of_ble_eq_true rfl) (fun p e s m args below meth c ls A Q hx hb hml hown hts hname hret hK hO hZ hA hl => ?_)
  have hl : lv_has ls 2 [(0, .ref a)] := hl
  have hFr : hwF X X (fun M => M < 1000) := hwF.rf
  obtain ⟨hni3, hTG, hfs, hlg, hsss, hqG, hq2, hqs⟩ := ok
  have hok := okIt_of hTG hfs
  have hq50 : qw.length ≤ 50 := by split at hq2 <;> omega
  have hne := hqG.1
  obtain ⟨b0, b1, b2, b3, b4, b5, b6, b7, b8, fi, fl, ta, tf, tl, fc, gx, gi, gt, gl, hfl, gq, gs, gh, ga, gf, gk, gc⟩ := f0_
  have hQ2 := fun j => okWs.at (txAt.oks gq) j
  have hQ0 := (hQ2 0).1
  refine lv_iconst (v := nI 0) hx hb dIx_stop_0 (by decide) ?_
  refine lv_istore_n (lv' := [(1, .int (nI 0)), (0, .ref a)]) hx hb dIx_stop_1 rfl hl (by decide) rfl (fun ls hl => ?_)
  have loop2 : ∀ (fuel : Nat) (i : Nat) (sz0 : List (List Nat)) (XL2 : hwW) (Hh : Heap) (lcs : List Loc) (ls : Array Slot), qw.length - i < fuel → (i ≤ qw.length) → (sz0 = stpP ss (qw.take i)) → (hwF X XL2 (fun M => M < 1000)) → (hwH XL2 a 0 (.inr (5, [.ref b0, .int (nI its.length), .int (nI fs), .ref b1, .ref b2, .int (nI qs), .ref b3, .ref b4, .ref b5, .ref b6, .ref b7, .ref b8]))) → (hwH XL2 b0 1 (.inl (K 4, 30, .inr (.inr (.inr (.inr fi)))))) → (itsAt K XL2 fi its) → (hwH XL2 b1 2 (.inl (K 0, 4, .inl fl))) → (txAt K XL2 b2 5 qw qo) → (seAt K XL2 b3 6 40 sz0) → (hiAt K XL2 b4 hs) → (tmAt K XL2 b5 7 50 ta) → (tmAt K XL2 b6 8 750 tf) → (seAt K XL2 b7 9 750 tl) → (hwH XL2 b8 3 (.inl (K 0, 13, .inl fc))) → hwZ D vwCl A s.heap XL2 Hh lcs → lv_has ls 2 [(1, .int (nI i)), (0, .ref a)] → W p l e ({ frames := 3, cells := 0, slots := 0, locals := 70 } : Room) s m args below meth c Hh lcs 0 0 Q (F0 m 2 ls []) := by
    intro fuel; induction fuel with
    | zero => intro i sz0 XL2 Hh lcs ls hfu; exact absurd hfu (Nat.not_lt_zero _)
    | succ fuel ih2 =>
      intro i sz0 XL2 Hh lcs ls hfu2 hi hsz hFr gx gi gt gl gq gs gh ga gf gk gc hZ hl
      have hso : sz0.Pairwise (· < ·) := hsz ▸ sorted_stpP hsss
      refine lv_iload_n hx hb dIx_stop_2 rfl (lv_at hl 0 rfl) ?_
      refine lv_aload_n hx hb dIx_stop_3 rfl (lv_at hl 1 rfl) ?_
      refine hw_get hx hb hts (hwInn inIx) hown hK hZ gx rfl 4 (by decide) (hts (.fieldLink RIx 22 RIx "question" "LWordIndex2$Text;") (hwMem mm_194)) (fun _ h => h) rfl dIx_stop_4 ?_
      refine hw_calli (va_runV (As := []) (rest := [.int (nI i)]) ⟨hx, hb, hml, hown, hts⟩ (c_Tx_size l D K XL2 Hh.size (a := b2) (k := 5) (ws := qw) (o := qo) gq) (cwV 0 hts (hwGood (hw_4 mm_344 mm_71 mm_72 mm_45 (hwAll mm_69))) rfl rfl rfl (by decide +kernel) ⟨Nat.le_of_ble_eq_true rfl, Nat.le_of_ble_eq_true rfl⟩) (hw_preV hK hO hZ (txAt.ob gq) rfl) rfl rfl hl.1 rfl (lv_room (Nat.le_of_ble_eq_true rfl)) dIx_stop_7 ⟨(show 0 + 0 ≤ 0 by omega), (show 0 + 0 ≤ 0 by omega)⟩) hZ hA (fun r X_1 H_2 lc_3 hp hZ => ?_)
      obtain ⟨hr, hy⟩ := hp
      subst hy
      refine hw_topi hr ?_
      refine hw_ic_ge (a := i) (b := qw.length) (tgt := 34) hx hb dIx_stop_10 (by decide) (by omega) (by omega) (fun cq_4 => ?_) (fun cq_4 => ?_)
      · rw [List.take_of_length_le (by omega)] at hsz
        refine lv_aload_n hx hb dIx_stop_34 rfl (lv_at hl 1 rfl) ?_
        refine hw_callv (va_runV (As := []) (rest := []) ⟨hx, hb, hml, hown, hts⟩ (c_Ix_clearQ l D K XL2 H_2.size (a := a) (b0 := b0) (b1 := b1) (b2 := b2) (b3 := b3) (b4 := b4) (b5 := b5) (b6 := b6) (b7 := b7) (b8 := b8) (ni := its.length) (fs := fs) (qs := qs) (qw := qw) (qo := qo) gx gq) (cwV 0 hts (hwGood (hw_4 mm_260 mm_261 mm_262 mm_188 (hwAll mm_259))) rfl rfl rfl (by decide +kernel) ⟨Nat.le_of_ble_eq_true rfl, Nat.le_of_ble_eq_true rfl⟩) (hw_preV hK hO hZ (⟨_, _, gx⟩) rfl) rfl rfl hl.1 rfl (lv_room (Nat.le_of_ble_eq_true rfl)) dIx_stop_35 ⟨(show 0 + 0 ≤ 0 by omega), (show 0 + 0 ≤ 0 by omega)⟩) hZ hA (fun X_5 H_6 lc_7 hp hZ => ?_)
        obtain ⟨hF, hN_8, hN_9⟩ := hp
        have hFr := hwF.tr hFr hF (fun _ h => h) (fun M h => by first | exact False.elim h | ((try dsimp only at h ⊢); omega))
        have gi := hF _ _ _ (by intro hNS; first | exact False.elim hNS | ((try dsimp only at hNS); omega)) gi
        have gt := itsAt.fr hF (fun M h1 h2 hNS => by first | exact False.elim hNS | ((try dsimp only at hNS); omega)) gt
        have gl := hF _ _ _ (by intro hNS; first | exact False.elim hNS | ((try dsimp only at hNS); omega)) gl
        have gs := seAt.fr hF (by intro hNS; first | exact False.elim hNS | ((try dsimp only at hNS); omega)) (by intro hNS; first | exact False.elim hNS | ((try dsimp only at hNS); omega)) gs
        have gh := hiAt.fr hF (by intro hNS; first | exact False.elim hNS | ((try dsimp only at hNS); omega)) (by intro hNS; first | exact False.elim hNS | ((try dsimp only at hNS); omega)) (by intro hNS; first | exact False.elim hNS | ((try dsimp only at hNS); omega)) (by intro hNS; first | exact False.elim hNS | ((try dsimp only at hNS); omega)) gh
        have ga := tmAt.fr hF (by intro hNS; first | exact False.elim hNS | ((try dsimp only at hNS); omega)) (by intro hNS; first | exact False.elim hNS | ((try dsimp only at hNS); omega)) ga
        have gf := tmAt.fr hF (by intro hNS; first | exact False.elim hNS | ((try dsimp only at hNS); omega)) (by intro hNS; first | exact False.elim hNS | ((try dsimp only at hNS); omega)) gf
        have gk := seAt.fr hF (by intro hNS; first | exact False.elim hNS | ((try dsimp only at hNS); omega)) (by intro hNS; first | exact False.elim hNS | ((try dsimp only at hNS); omega)) gk
        have gc := hF _ _ _ (by intro hNS; first | exact False.elim hNS | ((try dsimp only at hNS); omega)) gc
        have ff_10 := hN_8
        have ff_11 := hN_9
        refine lv_aload_n hx hb dIx_stop_38 rfl (lv_at hl 1 rfl) ?_
        refine hw_get hx hb hts (hwInn inIx) hown hK hZ ff_10 rfl 6 (by decide) (hts (.fieldLink RIx 31 RIx "stops" "LWordIndex2$WordSet;") (hwMem mm_209)) (fun _ h => h) rfl dIx_stop_39 ?_
        refine hw_calli (va_runV (As := []) (rest := []) ⟨hx, hb, hml, hown, hts⟩ (c_Se_size l D K X_5 H_6.size (a := b3) (k := 6) (N := 40) (ts := sz0) gs) (cwV 0 hts (hwGood (hw_4 mm_337 mm_338 mm_339 mm_63 (hwAll mm_336))) rfl rfl rfl (by decide +kernel) ⟨Nat.le_of_ble_eq_true rfl, Nat.le_of_ble_eq_true rfl⟩) (hw_preV hK hO hZ (seAt.ob gs) rfl) rfl rfl hl.1 rfl (lv_room (Nat.le_of_ble_eq_true rfl)) dIx_stop_42 ⟨(show 0 + 0 ≤ 0 by omega), (show 0 + 0 ≤ 0 by omega)⟩) hZ hA (fun r X_12 H_13 lc_14 hp hZ => ?_)
        obtain ⟨hr, hy⟩ := hp
        subst hy
        refine hw_topi hr ?_
        exact hret hZ (by rw [← hsz]; exact ⟨rfl, hFr, ⟨_, _, _, _, _, _, _, _, _, _, _, _, _, _, _, ff_10, gi, gt, gl, hfl, ff_11, gs, gh, ga, gf, gk, gc⟩⟩) dIx_stop_45
      · refine lv_aload_n hx hb dIx_stop_13 rfl (lv_at hl 1 rfl) ?_
        refine hw_get hx hb hts (hwInn inIx) hown hK hZ gx rfl 6 (by decide) (hts (.fieldLink RIx 31 RIx "stops" "LWordIndex2$WordSet;") (hwMem mm_209)) (fun _ h => h) rfl dIx_stop_14 ?_
        refine lv_aload_n hx hb dIx_stop_17 rfl (lv_at hl 1 rfl) ?_
        refine hw_get hx hb hts (hwInn inIx) hown hK hZ gx rfl 4 (by decide) (hts (.fieldLink RIx 22 RIx "question" "LWordIndex2$Text;") (hwMem mm_194)) (fun _ h => h) rfl dIx_stop_18 ?_
        refine lv_iload_n hx hb dIx_stop_21 rfl (lv_at hl 0 rfl) ?_
        refine hw_calll (va_runV (As := [.int (nI i)]) (rest := [.ref b3]) ⟨hx, hb, hml, hown, hts⟩ (c_Tx_at l D K XL2 H_2.size (a := b2) (k := 5) (ws := qw) (o := qo) (j := i) gq (by omega)) (cwV 1 hts (hwGood (hw_4 mm_311 mm_76 mm_77 mm_45 (hwAll mm_74))) rfl rfl rfl (by decide +kernel) ⟨Nat.le_of_ble_eq_true rfl, Nat.le_of_ble_eq_true rfl⟩) (hw_preV hK hO hZ (txAt.ob gq) rfl) rfl rfl hl.1 rfl (lv_room (Nat.le_of_ble_eq_true rfl)) dIx_stop_22 ⟨(show 0 + 0 ≤ 0 by omega), (show 0 + 0 ≤ 0 by omega)⟩) hZ hA (fun r X_15 H_16 lc_17 hp hZ => ?_)
        obtain ⟨hr, hy⟩ := hp
        subst hy
        refine hw_topl hr ?_
        refine hw_callv (va_runV (As := [.long (lN (eW (qw.getD i [])))]) (rest := []) ⟨hx, hb, hml, hown, hts⟩ (c_Se_add l D K XL2 H_16.size (a := b3) (k := 6) (N := 40) (ts := sz0) (w := (qw.getD i [])) gs hso (hQ2 i) (ne_getD hne (by omega))) (cwV 1 hts (hwGood (hw_4 mm_266 mm_267 mm_268 mm_63 (hwAll mm_265))) rfl rfl rfl (by decide +kernel) ⟨Nat.le_of_ble_eq_true rfl, Nat.le_of_ble_eq_true rfl⟩) (hw_preV hK hO hZ (seAt.ob gs) rfl) rfl rfl hl.1 rfl (lv_room (Nat.le_of_ble_eq_true rfl)) dIx_stop_25 ⟨(show 0 + 0 ≤ 0 by omega), (show 0 + 0 ≤ 0 by omega)⟩) hZ hA (fun X_18 H_19 lc_20 hp hZ => ?_)
        obtain ⟨hF, hN_21⟩ := hp
        have hFr := hwF.tr hFr hF (fun _ h => h) (fun M h => by first | exact False.elim h | ((try dsimp only at h ⊢); omega))
        have gx := hF _ _ _ (by intro hNS; first | exact False.elim hNS | ((try dsimp only at hNS); omega)) gx
        have gi := hF _ _ _ (by intro hNS; first | exact False.elim hNS | ((try dsimp only at hNS); omega)) gi
        have gt := itsAt.fr hF (fun M h1 h2 hNS => by first | exact False.elim hNS | ((try dsimp only at hNS); omega)) gt
        have gl := hF _ _ _ (by intro hNS; first | exact False.elim hNS | ((try dsimp only at hNS); omega)) gl
        have gq := txAt.fr hF (by intro hNS; first | exact False.elim hNS | ((try dsimp only at hNS); omega)) (by intro hNS; first | exact False.elim hNS | ((try dsimp only at hNS); omega)) gq
        have gh := hiAt.fr hF (by intro hNS; first | exact False.elim hNS | ((try dsimp only at hNS); omega)) (by intro hNS; first | exact False.elim hNS | ((try dsimp only at hNS); omega)) (by intro hNS; first | exact False.elim hNS | ((try dsimp only at hNS); omega)) (by intro hNS; first | exact False.elim hNS | ((try dsimp only at hNS); omega)) gh
        have ga := tmAt.fr hF (by intro hNS; first | exact False.elim hNS | ((try dsimp only at hNS); omega)) (by intro hNS; first | exact False.elim hNS | ((try dsimp only at hNS); omega)) ga
        have gf := tmAt.fr hF (by intro hNS; first | exact False.elim hNS | ((try dsimp only at hNS); omega)) (by intro hNS; first | exact False.elim hNS | ((try dsimp only at hNS); omega)) gf
        have gk := seAt.fr hF (by intro hNS; first | exact False.elim hNS | ((try dsimp only at hNS); omega)) (by intro hNS; first | exact False.elim hNS | ((try dsimp only at hNS); omega)) gk
        have gc := hF _ _ _ (by intro hNS; first | exact False.elim hNS | ((try dsimp only at hNS); omega)) gc
        have ff_22 := hN_21
        refine lv_iinc (v := nI (i + 1)) (lv' := [(1, .int (nI (i + 1))), (0, .ref a)]) hx hb dIx_stop_28 hl (k := 0) rfl (nI_add _ 1) (by decide) rfl (fun ls hl => ?_)
        refine lv_goto (tgt := 2) hx hb dIx_stop_31 (by decide) ?_
        exact ih2 (i + 1) (insS 40 sz0 (qw.getD i [])) _ _ _ _ (by omega) (by omega) (by rw [stpP_take (by omega), ← hsz]) hFr gx gi gt gl gq ff_22 gh ga gf gk gc hZ (lv_sub hl [0, 1] rfl)
  exact loop2 (qw.length - 0 + 1) 0 ss _ _ _ _ (by omega) (by omega) (by rw [List.take_zero]; rfl) hFr gx gi gt gl gq gs gh ga gf gk gc hZ (lv_sub hl [0, 1] rfl)
set_option maxHeartbeats 4000000 in
set_option maxRecDepth 100000 in
theorem p_language (l : Launch) (D : va_G) (K : Nat → ClassId) (X : hwW) (sz : Nat) (a : Nat) (its : hwIt) (fs : Nat) (lg : Nat → Nat) (qw : List (List Nat)) (qo : Nat) (qs : Nat) (ss : List (List Nat)) (hs : List (Nat × Nat × Nat)) (kk : Int32) (ll : Int32) (f0_ : ixAt K X a its fs lg qw qo qs ss hs) (ok : okS its fs lg qw qo qs ss) : Met l yIx_language (.code yIx_language cIx_language 4 (some .int) :: hwG) ({ frames := 1, cells := 0, slots := 0, locals := 20 } : Room) (hwPc D vwCl (hwT K) [.ref a, .int kk, .int ll] X sz) (hwQi D vwCl X sz (fun r Y => r = (lanP lg kk ll).2 ∧ hwF X Y (fun M => M < 1000) ∧ ixAt K Y a its fs (lanP lg kk ll).1 qw qo qs ss hs)) 0 0 (va_A X.1 sz) := by
  refine hwMeti (cc := cIx_language) (maxL := 4) (by decide) rfl (Nat.le_of_ble_eq_true rfl) (fun p e s m args below meth c ls A Q hx hb hml hown hts hname hret hK hO hZ hA hl => ?_)
  have hl : lv_has ls 4 [(0, .ref a), (1, .int kk), (2, .int ll)] := hl
  have hFr : hwF X X (fun M => M < 1000) := hwF.rf
  obtain ⟨hni3, hTG, hfs, hlg, hsss, hqG, hq2, hqs⟩ := ok
  have hok := okIt_of hTG hfs
  have hq50 : qw.length ≤ 50 := by split at hq2 <;> omega
  have hne := hqG.1
  obtain ⟨b0, b1, b2, b3, b4, b5, b6, b7, b8, fi, fl, ta, tf, tl, fc, gx, gi, gt, gl, hfl, gq, gs, gh, ga, gf, gk, gc⟩ := f0_
  have hQ2 := fun j => okWs.at (txAt.oks gq) j
  have hQ0 := (hQ2 0).1
  rcases kN_cases kk with hk | ⟨j, hj, rfl⟩
  · rcases l3_cases ll with hl0 | hl0 | ⟨x, hx3, rfl⟩
    · refine lv_iload_n hx hb dIx_language_0 rfl (lv_at hl 1 rfl) ?_
      refine hw_calli (va_runS (As := [.int kk]) (rest := []) ⟨hx, hb, hml, hown, hts⟩ (c_Ix_isKindB l D K X s.heap.size (kind := kk) (by assumption)) (va_cwS 1 hts (hwGood (hw_3 mm_206 mm_205 mm_188 (hwAll mm_204))) rfl rfl rfl (by decide +kernel) ⟨Nat.le_of_ble_eq_true rfl, Nat.le_of_ble_eq_true rfl⟩) (hw_preS hK hO hZ) rfl rfl hl.1 rfl (lv_room (Nat.le_of_ble_eq_true rfl)) dIx_language_1 ⟨(show 0 + 0 ≤ 0 by omega), (show 0 + 0 ≤ 0 by omega)⟩) hZ hA (fun r X_1 H_2 lc_3 hp hZ => ?_)
      obtain ⟨hr, hy⟩ := hp
      subst hy
      refine hw_topi hr ?_
      refine hw_bz_eqT (tgt := 16) hx hb dIx_language_4 (by decide) rfl ?_
      refine lv_iconst (v := (-1)) hx hb dIx_language_16 (by decide) ?_
      exact hret hZ (by rw [lanP_b (kN_bad hk)]; exact ⟨rfl, hFr, ⟨_, _, _, _, _, _, _, _, _, _, _, _, _, _, _, gx, gi, gt, gl, hfl, gq, gs, gh, ga, gf, gk, gc⟩⟩) dIx_language_17
    · refine lv_iload_n hx hb dIx_language_0 rfl (lv_at hl 1 rfl) ?_
      refine hw_calli (va_runS (As := [.int kk]) (rest := []) ⟨hx, hb, hml, hown, hts⟩ (c_Ix_isKindB l D K X s.heap.size (kind := kk) (by assumption)) (va_cwS 1 hts (hwGood (hw_3 mm_206 mm_205 mm_188 (hwAll mm_204))) rfl rfl rfl (by decide +kernel) ⟨Nat.le_of_ble_eq_true rfl, Nat.le_of_ble_eq_true rfl⟩) (hw_preS hK hO hZ) rfl rfl hl.1 rfl (lv_room (Nat.le_of_ble_eq_true rfl)) dIx_language_1 ⟨(show 0 + 0 ≤ 0 by omega), (show 0 + 0 ≤ 0 by omega)⟩) hZ hA (fun r X_5 H_6 lc_7 hp hZ => ?_)
      obtain ⟨hr, hy⟩ := hp
      subst hy
      refine hw_topi hr ?_
      refine hw_bz_eqT (tgt := 16) hx hb dIx_language_4 (by decide) rfl ?_
      refine lv_iconst (v := (-1)) hx hb dIx_language_16 (by decide) ?_
      exact hret hZ (by rw [lanP_b (kN_bad hk)]; exact ⟨rfl, hFr, ⟨_, _, _, _, _, _, _, _, _, _, _, _, _, _, _, gx, gi, gt, gl, hfl, gq, gs, gh, ga, gf, gk, gc⟩⟩) dIx_language_17
    · refine lv_iload_n hx hb dIx_language_0 rfl (lv_at hl 1 rfl) ?_
      refine hw_calli (va_runS (As := [.int kk]) (rest := []) ⟨hx, hb, hml, hown, hts⟩ (c_Ix_isKindB l D K X s.heap.size (kind := kk) (by assumption)) (va_cwS 1 hts (hwGood (hw_3 mm_206 mm_205 mm_188 (hwAll mm_204))) rfl rfl rfl (by decide +kernel) ⟨Nat.le_of_ble_eq_true rfl, Nat.le_of_ble_eq_true rfl⟩) (hw_preS hK hO hZ) rfl rfl hl.1 rfl (lv_room (Nat.le_of_ble_eq_true rfl)) dIx_language_1 ⟨(show 0 + 0 ≤ 0 by omega), (show 0 + 0 ≤ 0 by omega)⟩) hZ hA (fun r X_9 H_10 lc_11 hp hZ => ?_)
      obtain ⟨hr, hy⟩ := hp
      subst hy
      refine hw_topi hr ?_
      refine hw_bz_eqT (tgt := 16) hx hb dIx_language_4 (by decide) rfl ?_
      refine lv_iconst (v := (-1)) hx hb dIx_language_16 (by decide) ?_
      exact hret hZ (by rw [lanP_b (kN_bad hk)]; exact ⟨rfl, hFr, ⟨_, _, _, _, _, _, _, _, _, _, _, _, _, _, _, gx, gi, gt, gl, hfl, gq, gs, gh, ga, gf, gk, gc⟩⟩) dIx_language_17
  · rcases l3_cases ll with hl0 | hl0 | ⟨x, hx3, rfl⟩
    · refine lv_iload_n hx hb dIx_language_0 rfl (lv_at hl 1 rfl) ?_
      refine hw_calli (va_runS (As := [.int (nI j)]) (rest := []) ⟨hx, hb, hml, hown, hts⟩ (c_Ix_isKind l D K X s.heap.size (j := j) (by omega)) (va_cwS 1 hts (hwGood (hw_3 mm_206 mm_205 mm_188 (hwAll mm_204))) rfl rfl rfl (by decide +kernel) ⟨Nat.le_of_ble_eq_true rfl, Nat.le_of_ble_eq_true rfl⟩) (hw_preS hK hO hZ) rfl rfl hl.1 rfl (lv_room (Nat.le_of_ble_eq_true rfl)) dIx_language_1 ⟨(show 0 + 0 ≤ 0 by omega), (show 0 + 0 ≤ 0 by omega)⟩) hZ hA (fun r X_13 H_14 lc_15 hp hZ => ?_)
      obtain ⟨hr, hy⟩ := hp
      subst hy
      refine hw_topi hr ?_
      refine hw_bz_eqF (tgt := 16) hx hb dIx_language_4 (by decide) rfl ?_
      refine lv_iload_n hx hb dIx_language_7 rfl (lv_at hl 2 rfl) ?_
      refine lv_if_lt (tgt := 16) hx hb dIx_language_8 (by decide) (fun cq_17 => ?_) (fun cq_17 => absurd hl0 cq_17)
      refine lv_iconst (v := (-1)) hx hb dIx_language_16 (by decide) ?_
      exact hret hZ (by rw [lanP_l (kN_nI hj) (Or.inl hl0)]; exact ⟨rfl, hFr, ⟨_, _, _, _, _, _, _, _, _, _, _, _, _, _, _, gx, gi, gt, gl, hfl, gq, gs, gh, ga, gf, gk, gc⟩⟩) dIx_language_17
    · refine lv_iload_n hx hb dIx_language_0 rfl (lv_at hl 1 rfl) ?_
      refine hw_calli (va_runS (As := [.int (nI j)]) (rest := []) ⟨hx, hb, hml, hown, hts⟩ (c_Ix_isKind l D K X s.heap.size (j := j) (by omega)) (va_cwS 1 hts (hwGood (hw_3 mm_206 mm_205 mm_188 (hwAll mm_204))) rfl rfl rfl (by decide +kernel) ⟨Nat.le_of_ble_eq_true rfl, Nat.le_of_ble_eq_true rfl⟩) (hw_preS hK hO hZ) rfl rfl hl.1 rfl (lv_room (Nat.le_of_ble_eq_true rfl)) dIx_language_1 ⟨(show 0 + 0 ≤ 0 by omega), (show 0 + 0 ≤ 0 by omega)⟩) hZ hA (fun r X_18 H_19 lc_20 hp hZ => ?_)
      obtain ⟨hr, hy⟩ := hp
      subst hy
      refine hw_topi hr ?_
      refine hw_bz_eqF (tgt := 16) hx hb dIx_language_4 (by decide) rfl ?_
      refine lv_iload_n hx hb dIx_language_7 rfl (lv_at hl 2 rfl) ?_
      refine lv_if_lt (tgt := 16) hx hb dIx_language_8 (by decide) (fun cq_22 => absurd cq_22 (hw_nn4 (n := 3) (by decide) hl0)) (fun cq_22 => ?_)
      refine lv_iload_n hx hb dIx_language_11 rfl (lv_at hl 2 rfl) ?_
      refine lv_iconst (v := nI 3) hx hb dIx_language_12 (by decide) ?_
      refine lv_icmp_lt (tgt := 18) hx hb dIx_language_13 (by decide) (fun cq_23 => absurd cq_23 (hw_nlt hl0)) (fun cq_23 => ?_)
      refine lv_iconst (v := (-1)) hx hb dIx_language_16 (by decide) ?_
      exact hret hZ (by rw [lanP_l (kN_nI hj) (Or.inr hl0)]; exact ⟨rfl, hFr, ⟨_, _, _, _, _, _, _, _, _, _, _, _, _, _, _, gx, gi, gt, gl, hfl, gq, gs, gh, ga, gf, gk, gc⟩⟩) dIx_language_17
    · refine lv_iload_n hx hb dIx_language_0 rfl (lv_at hl 1 rfl) ?_
      refine hw_calli (va_runS (As := [.int (nI j)]) (rest := []) ⟨hx, hb, hml, hown, hts⟩ (c_Ix_isKind l D K X s.heap.size (j := j) (by omega)) (va_cwS 1 hts (hwGood (hw_3 mm_206 mm_205 mm_188 (hwAll mm_204))) rfl rfl rfl (by decide +kernel) ⟨Nat.le_of_ble_eq_true rfl, Nat.le_of_ble_eq_true rfl⟩) (hw_preS hK hO hZ) rfl rfl hl.1 rfl (lv_room (Nat.le_of_ble_eq_true rfl)) dIx_language_1 ⟨(show 0 + 0 ≤ 0 by omega), (show 0 + 0 ≤ 0 by omega)⟩) hZ hA (fun r X_24 H_25 lc_26 hp hZ => ?_)
      obtain ⟨hr, hy⟩ := hp
      subst hy
      refine hw_topi hr ?_
      refine hw_bz_eqF (tgt := 16) hx hb dIx_language_4 (by decide) rfl ?_
      refine lv_iload_n hx hb dIx_language_7 rfl (lv_at hl 2 rfl) ?_
      refine hw_if_lt (a := x) (tgt := 16) hx hb dIx_language_8 (by decide) (by omega) (fun cq_28 => by exfalso; omega) (fun cq_28 => ?_)
      refine lv_iload_n hx hb dIx_language_11 rfl (lv_at hl 2 rfl) ?_
      refine lv_iconst (v := nI 3) hx hb dIx_language_12 (by decide) ?_
      refine hw_ic_lt (a := x) (b := 3) (tgt := 18) hx hb dIx_language_13 (by decide) (by omega) (by omega) (fun cq_29 => ?_) (fun cq_29 => by exfalso; omega)
      refine lv_aload_n hx hb dIx_language_18 rfl (lv_at hl 0 rfl) ?_
      refine hw_get hx hb hts (hwInn inIx) hown hK hZ gx rfl 3 (by decide) (hts (.fieldLink RIx 15 RIx "languages" "[I") (hwMem mm_208)) (fun _ h => h) rfl dIx_language_19 ?_
      refine lv_iload_n hx hb dIx_language_22 rfl (lv_at hl 1 rfl) ?_
      refine hw_iald hx hb hK hZ 0 gl rfl (j := j) (by omega) (by omega) dIx_language_23 ?_
      refine hw_topi (hfl j hj) ?_
      refine lv_istore_n (lv' := [(3, .int (nI (lg j))), (0, .ref a), (1, .int (nI j)), (2, .int (nI x))]) hx hb dIx_language_24 rfl hl (by decide) rfl (fun ls hl => ?_)
      refine lv_aload_n hx hb dIx_language_25 rfl (lv_at hl 1 rfl) ?_
      refine hw_get hx hb hts (hwInn inIx) hown hK hZ gx rfl 3 (by decide) (hts (.fieldLink RIx 15 RIx "languages" "[I") (hwMem mm_208)) (fun _ h => h) rfl dIx_language_26 ?_
      refine lv_iload_n hx hb dIx_language_29 rfl (lv_at hl 2 rfl) ?_
      refine lv_iload_n hx hb dIx_language_30 rfl (lv_at hl 3 rfl) ?_
      refine hw_iast hx hb hK hZ 0 gl rfl (j := j) (by omega) (by omega) dIx_language_31 (fun X_30 H_31 lc_32 hZ hF hNw => ?_)
      have hFr := hwF.tr hFr hF (fun _ h => h) (fun M h => by first | exact False.elim h | ((try dsimp only at h ⊢); omega))
      have gx := hF _ _ _ (by intro hNS; first | exact False.elim hNS | ((try dsimp only at hNS); omega)) gx
      have gi := hF _ _ _ (by intro hNS; first | exact False.elim hNS | ((try dsimp only at hNS); omega)) gi
      have gt := itsAt.fr hF (fun M h1 h2 hNS => by first | exact False.elim hNS | ((try dsimp only at hNS); omega)) gt
      have gl := hNw
      have gq := txAt.fr hF (by intro hNS; first | exact False.elim hNS | ((try dsimp only at hNS); omega)) (by intro hNS; first | exact False.elim hNS | ((try dsimp only at hNS); omega)) gq
      have gs := seAt.fr hF (by intro hNS; first | exact False.elim hNS | ((try dsimp only at hNS); omega)) (by intro hNS; first | exact False.elim hNS | ((try dsimp only at hNS); omega)) gs
      have gh := hiAt.fr hF (by intro hNS; first | exact False.elim hNS | ((try dsimp only at hNS); omega)) (by intro hNS; first | exact False.elim hNS | ((try dsimp only at hNS); omega)) (by intro hNS; first | exact False.elim hNS | ((try dsimp only at hNS); omega)) (by intro hNS; first | exact False.elim hNS | ((try dsimp only at hNS); omega)) gh
      have ga := tmAt.fr hF (by intro hNS; first | exact False.elim hNS | ((try dsimp only at hNS); omega)) (by intro hNS; first | exact False.elim hNS | ((try dsimp only at hNS); omega)) ga
      have gf := tmAt.fr hF (by intro hNS; first | exact False.elim hNS | ((try dsimp only at hNS); omega)) (by intro hNS; first | exact False.elim hNS | ((try dsimp only at hNS); omega)) gf
      have gk := seAt.fr hF (by intro hNS; first | exact False.elim hNS | ((try dsimp only at hNS); omega)) (by intro hNS; first | exact False.elim hNS | ((try dsimp only at hNS); omega)) gk
      have gc := hF _ _ _ (by intro hNS; first | exact False.elim hNS | ((try dsimp only at hNS); omega)) gc
      refine lv_iload_n hx hb dIx_language_32 rfl (lv_at hl 0 rfl) ?_
      exact hret hZ (by rw [lanP_g (kN_nI hj) hx3]; exact ⟨rfl, hFr, ⟨_, _, _, _, _, _, _, _, _, _, _, _, _, _, _, gx, gi, gt, gl, (lan_fl hfl), gq, gs, gh, ga, gf, gk, gc⟩⟩) dIx_language_33
set_option maxHeartbeats 4000000 in
set_option maxRecDepth 100000 in
theorem p_init (l : Launch) (D : va_G) (K : Nat → ClassId) (X : hwW) (sz : Nat) (a : Nat) (f0_ : hwH X a 0 (.inr (5, [.null, .int (nI 0), .int (nI 0), .null, .null, .int (nI 0), .null, .null, .null, .null, .null, .null]))) : Met l yIx_init (.code yIx_init cIx_init 1 none :: hwG) ({ frames := 2, cells := 17, slots := 1746, locals := 43 } : Room) (hwPc D vwCl (hwT K) [.ref a] X sz) (hwQv D vwCl X sz (fun Y => hwF X Y (fun M => M < 1000) ∧ ixAt K Y a [] 0 (fun _ => 0) [] 0 0 [] [])) 17 1746 (va_A X.1 sz) := by
  refine hwMetv (cc := cIx_init) (maxL := 1) (by decide) rfl (Nat.le_of_ble_eq_true rfl) (fun p e s m args below meth c ls A Q hx hb hml hown hts hname hret hK hO hZ hA hl => ?_)
  have hl : lv_has ls 1 [(0, .ref a)] := hl
  have hFr : hwF X X (fun M => M < 1000) := hwF.rf
  refine lv_aload_n hx hb dIx_init_0 rfl (lv_at hl 0 rfl) ?_
  refine W.objInit hx hb hown (hts (.methodLink RIx 1 objectInit) (hwMem mm_345)) (hts (.instanceMethod objectInit) (hwMem mm_31)) (hts (.code objectInit ⟨#[0xb1]⟩ 1 none) (hwMem mm_32)) rfl (by rw [hml]; exact hl.1) rfl dIx_init_1 (Nat.le_of_ble_eq_true rfl) (Nat.le_of_ble_eq_true rfl) ?_
  refine W.eq (g2 := F0 m 4 ls []) rfl ?_
  refine lv_aload_n hx hb dIx_init_4 rfl (lv_at hl 0 rfl) ?_
  refine lv_bipush (v := nI 30) hx hb dIx_init_5 (by decide) ?_
  refine hw_newq (N := 30) hx hb hown (hts (.classLink RIx 9 RItem) (hwMem mm_278)) hO hK hZ hA 4 rfl (by omega) (by omega) (show 0 + 1 ≤ 17 by omega) (show 0 + 30 ≤ 1746 by omega) dIx_init_7 1 (fun qq_1 X_2 H_3 hZ hF hNw => ?_)
  have hFr := hwF.tr hFr hF (fun _ h => h) (fun M h => by first | exact False.elim h | ((try dsimp only at h ⊢); omega))
  have f0_ := hF _ _ _ (by intro hNS; first | exact False.elim hNS | ((try dsimp only at hNS); omega)) f0_
  have ff_5 := hNw
  refine hw_putF (ty := (.array (.object "WordIndex2$Item"))) (fs' := [.ref qq_1, .int (nI 0), .int (nI 0), .null, .null, .int (nI 0), .null, .null, .null, .null, .null, .null]) hx hb hts (hwInn inIx) tyIx tyIx_ok nmIx hown hK hZ f0_ rfl 0 (by decide) (hts (.fieldLink RIx 11 RIx "items" "[LWordIndex2$Item;") (hwMem mm_183)) (fun _ h => h) rfl hname rfl (by decide +kernel) rfl rfl (Nat.le_of_ble_eq_true rfl) rfl dIx_init_10 (fun X_6 H_7 lc_8 hZ hF hNw => ?_)
  have hFr := hwF.tr hFr hF (fun _ h => h) (fun M h => by first | exact False.elim h | ((try dsimp only at h ⊢); omega))
  have f0_ := hNw
  have ff_5 := hF _ _ _ (by intro hNS; first | exact False.elim hNS | ((try dsimp only at hNS); omega)) ff_5
  refine lv_aload_n hx hb dIx_init_13 rfl (lv_at hl 0 rfl) ?_
  refine lv_iconst (v := nI 4) hx hb dIx_init_14 (by decide) ?_
  refine hw_newa (atype := .int) (ty := .int) (a0 := (4, .inl (fun _ => 0))) (N := 4) hx hb (hts (.arrayClass .int) (hwMem mm_170)) rfl hK hZ hA 0 rfl (fun _ _ => rfl) (fun _ => rfl) (by omega) (by show _ * _ ≤ _; first | decide | (simp only [componentBytes]; omega)) (show 1 + 1 ≤ 17 by omega) (show (0 + 30) + 4 ≤ 1746 by omega) dIx_init_15 2 (fun qq_9 X_10 H_11 hZ hF hNw => ?_)
  have hFr := hwF.tr hFr hF (fun _ h => h) (fun M h => by first | exact False.elim h | ((try dsimp only at h ⊢); omega))
  have f0_ := hF _ _ _ (by intro hNS; first | exact False.elim hNS | ((try dsimp only at hNS); omega)) f0_
  have ff_5 := hF _ _ _ (by intro hNS; first | exact False.elim hNS | ((try dsimp only at hNS); omega)) ff_5
  have ff_13 := hNw
  refine hw_putF (ty := (.array .int)) (fs' := [.ref qq_1, .int (nI 0), .int (nI 0), .ref qq_9, .null, .int (nI 0), .null, .null, .null, .null, .null, .null]) hx hb hts (hwInn inIx) tyIx tyIx_ok nmIx hown hK hZ f0_ rfl 3 (by decide) (hts (.fieldLink RIx 15 RIx "languages" "[I") (hwMem mm_208)) (fun _ h => h) rfl hname rfl (by decide +kernel) rfl rfl (Nat.le_of_ble_eq_true rfl) rfl dIx_init_17 (fun X_14 H_15 lc_16 hZ hF hNw => ?_)
  have hFr := hwF.tr hFr hF (fun _ h => h) (fun M h => by first | exact False.elim h | ((try dsimp only at h ⊢); omega))
  have f0_ := hNw
  have ff_5 := hF _ _ _ (by intro hNS; first | exact False.elim hNS | ((try dsimp only at hNS); omega)) ff_5
  have ff_13 := hF _ _ _ (by intro hNS; first | exact False.elim hNS | ((try dsimp only at hNS); omega)) ff_13
  refine lv_aload_n hx hb dIx_init_20 rfl (lv_at hl 0 rfl) ?_
  refine hw_new (ci := 3) (fs := [.null, .int (nI 0), .int (nI 0)]) hx hb hts (hwInn inText) tyText tyText_ok hown (hts (.classLink RIx 19 RText) (hwMem mm_346)) (hts (.instantiable RText 3) (hwMem mm_179)) (hts (.initialized RText) (hwMem mm_45)) hK hZ hA rfl (fun j hj => by rcases (show j = 0 ∨ j = 1 ∨ j = 2 by omega) with rfl | rfl | rfl <;> rfl) (show 2 + 1 ≤ 17 by omega) (show (0 + 30 + 4) + 3 ≤ 1746 by omega) dIx_init_21 (2 * 5) (fun qq_17 X_18 H_19 hZ hF hNw => ?_)
  have hFr := hwF.tr hFr hF (fun _ h => h) (fun M h => by first | exact False.elim h | ((try dsimp only at h ⊢); omega))
  have f0_ := hF _ _ _ (by intro hNS; first | exact False.elim hNS | ((try dsimp only at hNS); omega)) f0_
  have ff_5 := hF _ _ _ (by intro hNS; first | exact False.elim hNS | ((try dsimp only at hNS); omega)) ff_5
  have ff_13 := hF _ _ _ (by intro hNS; first | exact False.elim hNS | ((try dsimp only at hNS); omega)) ff_13
  have ff_21 := hNw
  refine lv_dup hx hb dIx_init_24 rfl ?_
  refine hw_callv (va_runIN (As := []) (rest := [.ref qq_17, .ref a]) ⟨hx, hb, hml, hown, hts⟩ (c_Tx_init l D K X_18 H_19.size (a := qq_17) (k := 5) ff_21) ⟨va_cnB 0 hts (hwGood (hwAll mm_180)) rfl rfl rfl (hO.2 _ (List.mem_of_getElem? (i := 0) rfl)) (hts (.initialized RText) (hwMem mm_45)) (by decide +kernel) ⟨Nat.le_of_ble_eq_true rfl, Nat.le_of_ble_eq_true rfl⟩, rfl, hts _ (hwMem mm_181)⟩ (hw_preS hK hO hZ) rfl rfl hl.1 rfl (lv_room (Nat.le_of_ble_eq_true rfl)) dIx_init_25 ⟨(show 3 + 1 ≤ 17 by omega), (show (0 + 30 + 4 + 3) + 4 ≤ 1746 by omega)⟩) hZ hA (fun X_22 H_23 lc_24 hp hZ => ?_)
  obtain ⟨hF, hN_25⟩ := hp
  have hFr := hwF.tr hFr hF (fun _ h => h) (fun M h => by first | exact False.elim h | ((try dsimp only at h ⊢); omega))
  have f0_ := hF _ _ _ (by intro hNS; first | exact False.elim hNS | ((try dsimp only at hNS); omega)) f0_
  have ff_5 := hF _ _ _ (by intro hNS; first | exact False.elim hNS | ((try dsimp only at hNS); omega)) ff_5
  have ff_13 := hF _ _ _ (by intro hNS; first | exact False.elim hNS | ((try dsimp only at hNS); omega)) ff_13
  have ff_26 := hN_25
  refine hw_putF (ty := (.object "WordIndex2$Text")) (fs' := [.ref qq_1, .int (nI 0), .int (nI 0), .ref qq_9, .ref qq_17, .int (nI 0), .null, .null, .null, .null, .null, .null]) hx hb hts (hwInn inIx) tyIx tyIx_ok nmIx hown hK hZ f0_ rfl 4 (by decide) (hts (.fieldLink RIx 22 RIx "question" "LWordIndex2$Text;") (hwMem mm_194)) (fun _ h => h) rfl hname rfl (by decide +kernel) rfl rfl (Nat.le_of_ble_eq_true rfl) rfl dIx_init_28 (fun X_27 H_28 lc_29 hZ hF hNw => ?_)
  have hFr := hwF.tr hFr hF (fun _ h => h) (fun M h => by first | exact False.elim h | ((try dsimp only at h ⊢); omega))
  have f0_ := hNw
  have ff_5 := hF _ _ _ (by intro hNS; first | exact False.elim hNS | ((try dsimp only at hNS); omega)) ff_5
  have ff_13 := hF _ _ _ (by intro hNS; first | exact False.elim hNS | ((try dsimp only at hNS); omega)) ff_13
  have ff_26 := txAt.fr hF (by intro hNS; first | exact False.elim hNS | ((try dsimp only at hNS); omega)) (by intro hNS; first | exact False.elim hNS | ((try dsimp only at hNS); omega)) ff_26
  refine lv_aload_n hx hb dIx_init_31 rfl (lv_at hl 0 rfl) ?_
  refine hw_new (ci := 4) (fs := [.null, .int (nI 0)]) hx hb hts (hwInn inWordSet) tyWordSet tyWordSet_ok hown (hts (.classLink RIx 26 RWordSet) (hwMem mm_347)) (hts (.instantiable RWordSet 2) (hwMem mm_348)) (hts (.initialized RWordSet) (hwMem mm_63)) hK hZ hA rfl (fun j hj => by rcases (show j = 0 ∨ j = 1 by omega) with rfl | rfl <;> rfl) (show 4 + 1 ≤ 17 by omega) (show (0 + 30 + 4 + 3 + 4) + 2 ≤ 1746 by omega) dIx_init_32 (2 * 6) (fun qq_30 X_31 H_32 hZ hF hNw => ?_)
  have hFr := hwF.tr hFr hF (fun _ h => h) (fun M h => by first | exact False.elim h | ((try dsimp only at h ⊢); omega))
  have f0_ := hF _ _ _ (by intro hNS; first | exact False.elim hNS | ((try dsimp only at hNS); omega)) f0_
  have ff_5 := hF _ _ _ (by intro hNS; first | exact False.elim hNS | ((try dsimp only at hNS); omega)) ff_5
  have ff_13 := hF _ _ _ (by intro hNS; first | exact False.elim hNS | ((try dsimp only at hNS); omega)) ff_13
  have ff_26 := txAt.fr hF (by intro hNS; first | exact False.elim hNS | ((try dsimp only at hNS); omega)) (by intro hNS; first | exact False.elim hNS | ((try dsimp only at hNS); omega)) ff_26
  have ff_34 := hNw
  refine lv_dup hx hb dIx_init_35 rfl ?_
  refine lv_bipush (v := nI 40) hx hb dIx_init_36 (by decide) ?_
  refine hw_callv (va_runI (As := [.int (nI 40)]) (rest := [.ref qq_30, .ref a]) ⟨hx, hb, hml, hown, hts⟩ (c_Se_init l D K X_31 H_32.size (a := qq_30) (k := 6) (N := 40) ff_34 (by omega)) (cwI 1 hts (hwGood (hwAll mm_349)) rfl rfl rfl (hts (.initialized RWordSet) (hwMem mm_63)) (hts (.methodLink RIx 28 yWordSet_init) (hwMem mm_350)) (hts (.instanceMethod yWordSet_init) (hwMem mm_351)) rfl (by decide +kernel) ⟨Nat.le_of_ble_eq_true rfl, Nat.le_of_ble_eq_true rfl⟩) (hw_preS hK hO hZ) rfl rfl hl.1 rfl (lv_room (Nat.le_of_ble_eq_true rfl)) dIx_init_38 ⟨(show 5 + 1 ≤ 17 by omega), (show (0 + 30 + 4 + 3 + 4 + 2) + 40 ≤ 1746 by omega)⟩) hZ hA (fun X_35 H_36 lc_37 hp hZ => ?_)
  obtain ⟨hF, hN_38⟩ := hp
  have hFr := hwF.tr hFr hF (fun _ h => h) (fun M h => by first | exact False.elim h | ((try dsimp only at h ⊢); omega))
  have f0_ := hF _ _ _ (by intro hNS; first | exact False.elim hNS | ((try dsimp only at hNS); omega)) f0_
  have ff_5 := hF _ _ _ (by intro hNS; first | exact False.elim hNS | ((try dsimp only at hNS); omega)) ff_5
  have ff_13 := hF _ _ _ (by intro hNS; first | exact False.elim hNS | ((try dsimp only at hNS); omega)) ff_13
  have ff_26 := txAt.fr hF (by intro hNS; first | exact False.elim hNS | ((try dsimp only at hNS); omega)) (by intro hNS; first | exact False.elim hNS | ((try dsimp only at hNS); omega)) ff_26
  have ff_39 := hN_38
  refine hw_putF (ty := (.object "WordIndex2$WordSet")) (fs' := [.ref qq_1, .int (nI 0), .int (nI 0), .ref qq_9, .ref qq_17, .int (nI 0), .ref qq_30, .null, .null, .null, .null, .null]) hx hb hts (hwInn inIx) tyIx tyIx_ok nmIx hown hK hZ f0_ rfl 6 (by decide) (hts (.fieldLink RIx 31 RIx "stops" "LWordIndex2$WordSet;") (hwMem mm_209)) (fun _ h => h) rfl hname rfl (by decide +kernel) rfl rfl (Nat.le_of_ble_eq_true rfl) rfl dIx_init_41 (fun X_40 H_41 lc_42 hZ hF hNw => ?_)
  have hFr := hwF.tr hFr hF (fun _ h => h) (fun M h => by first | exact False.elim h | ((try dsimp only at h ⊢); omega))
  have f0_ := hNw
  have ff_5 := hF _ _ _ (by intro hNS; first | exact False.elim hNS | ((try dsimp only at hNS); omega)) ff_5
  have ff_13 := hF _ _ _ (by intro hNS; first | exact False.elim hNS | ((try dsimp only at hNS); omega)) ff_13
  have ff_26 := txAt.fr hF (by intro hNS; first | exact False.elim hNS | ((try dsimp only at hNS); omega)) (by intro hNS; first | exact False.elim hNS | ((try dsimp only at hNS); omega)) ff_26
  have ff_39 := seAt.fr hF (by intro hNS; first | exact False.elim hNS | ((try dsimp only at hNS); omega)) (by intro hNS; first | exact False.elim hNS | ((try dsimp only at hNS); omega)) ff_39
  refine lv_aload_n hx hb dIx_init_44 rfl (lv_at hl 0 rfl) ?_
  refine hw_new (ci := 0) (fs := [.null, .null, .null, .int (nI 0)]) hx hb hts (hwInn inHits) tyHits tyHits_ok hown (hts (.classLink RIx 35 RHits) (hwMem mm_352)) (hts (.instantiable RHits 4) (hwMem mm_353)) (hts (.initialized RHits) (hwMem mm_95)) hK hZ hA rfl (fun j hj => by rcases (show j = 0 ∨ j = 1 ∨ j = 2 ∨ j = 3 by omega) with rfl | rfl | rfl | rfl <;> rfl) (show 6 + 1 ≤ 17 by omega) (show (0 + 30 + 4 + 3 + 4 + 2 + 40) + 4 ≤ 1746 by omega) dIx_init_45 60 (fun qq_43 X_44 H_45 hZ hF hNw => ?_)
  have hFr := hwF.tr hFr hF (fun _ h => h) (fun M h => by first | exact False.elim h | ((try dsimp only at h ⊢); omega))
  have f0_ := hF _ _ _ (by intro hNS; first | exact False.elim hNS | ((try dsimp only at hNS); omega)) f0_
  have ff_5 := hF _ _ _ (by intro hNS; first | exact False.elim hNS | ((try dsimp only at hNS); omega)) ff_5
  have ff_13 := hF _ _ _ (by intro hNS; first | exact False.elim hNS | ((try dsimp only at hNS); omega)) ff_13
  have ff_26 := txAt.fr hF (by intro hNS; first | exact False.elim hNS | ((try dsimp only at hNS); omega)) (by intro hNS; first | exact False.elim hNS | ((try dsimp only at hNS); omega)) ff_26
  have ff_39 := seAt.fr hF (by intro hNS; first | exact False.elim hNS | ((try dsimp only at hNS); omega)) (by intro hNS; first | exact False.elim hNS | ((try dsimp only at hNS); omega)) ff_39
  have ff_47 := hNw
  refine lv_dup hx hb dIx_init_48 rfl ?_
  refine hw_callv (va_runIN (As := []) (rest := [.ref qq_43, .ref a]) ⟨hx, hb, hml, hown, hts⟩ (c_Hi_init l D K X_44 H_45.size (a := qq_43) ff_47) ⟨va_cnB 0 hts (hwGood (hwAll mm_354)) rfl rfl rfl (hO.2 _ (List.mem_of_getElem? (i := 1) rfl)) (hts (.initialized RHits) (hwMem mm_95)) (by decide +kernel) ⟨Nat.le_of_ble_eq_true rfl, Nat.le_of_ble_eq_true rfl⟩, rfl, hts _ (hwMem mm_355)⟩ (hw_preS hK hO hZ) rfl rfl hl.1 rfl (lv_room (Nat.le_of_ble_eq_true rfl)) dIx_init_49 ⟨(show 7 + 3 ≤ 17 by omega), (show (0 + 30 + 4 + 3 + 4 + 2 + 40 + 4) + 90 ≤ 1746 by omega)⟩) hZ hA (fun X_48 H_49 lc_50 hp hZ => ?_)
  obtain ⟨hF, hN_51⟩ := hp
  have hFr := hwF.tr hFr hF (fun _ h => h) (fun M h => by first | exact False.elim h | ((try dsimp only at h ⊢); omega))
  have f0_ := hF _ _ _ (by intro hNS; first | exact False.elim hNS | ((try dsimp only at hNS); omega)) f0_
  have ff_5 := hF _ _ _ (by intro hNS; first | exact False.elim hNS | ((try dsimp only at hNS); omega)) ff_5
  have ff_13 := hF _ _ _ (by intro hNS; first | exact False.elim hNS | ((try dsimp only at hNS); omega)) ff_13
  have ff_26 := txAt.fr hF (by intro hNS; first | exact False.elim hNS | ((try dsimp only at hNS); omega)) (by intro hNS; first | exact False.elim hNS | ((try dsimp only at hNS); omega)) ff_26
  have ff_39 := seAt.fr hF (by intro hNS; first | exact False.elim hNS | ((try dsimp only at hNS); omega)) (by intro hNS; first | exact False.elim hNS | ((try dsimp only at hNS); omega)) ff_39
  have ff_52 := hN_51
  refine hw_putF (ty := (.object "WordIndex2$Hits")) (fs' := [.ref qq_1, .int (nI 0), .int (nI 0), .ref qq_9, .ref qq_17, .int (nI 0), .ref qq_30, .ref qq_43, .null, .null, .null, .null]) hx hb hts (hwInn inIx) tyIx tyIx_ok nmIx hown hK hZ f0_ rfl 7 (by decide) (hts (.fieldLink RIx 38 RIx "hits" "LWordIndex2$Hits;") (hwMem mm_214)) (fun _ h => h) rfl hname rfl (by decide +kernel) rfl rfl (Nat.le_of_ble_eq_true rfl) rfl dIx_init_52 (fun X_53 H_54 lc_55 hZ hF hNw => ?_)
  have hFr := hwF.tr hFr hF (fun _ h => h) (fun M h => by first | exact False.elim h | ((try dsimp only at h ⊢); omega))
  have f0_ := hNw
  have ff_5 := hF _ _ _ (by intro hNS; first | exact False.elim hNS | ((try dsimp only at hNS); omega)) ff_5
  have ff_13 := hF _ _ _ (by intro hNS; first | exact False.elim hNS | ((try dsimp only at hNS); omega)) ff_13
  have ff_26 := txAt.fr hF (by intro hNS; first | exact False.elim hNS | ((try dsimp only at hNS); omega)) (by intro hNS; first | exact False.elim hNS | ((try dsimp only at hNS); omega)) ff_26
  have ff_39 := seAt.fr hF (by intro hNS; first | exact False.elim hNS | ((try dsimp only at hNS); omega)) (by intro hNS; first | exact False.elim hNS | ((try dsimp only at hNS); omega)) ff_39
  have ff_52 := hiAt.fr hF (by intro hNS; first | exact False.elim hNS | ((try dsimp only at hNS); omega)) (by intro hNS; first | exact False.elim hNS | ((try dsimp only at hNS); omega)) (by intro hNS; first | exact False.elim hNS | ((try dsimp only at hNS); omega)) (by intro hNS; first | exact False.elim hNS | ((try dsimp only at hNS); omega)) ff_52
  refine lv_aload_n hx hb dIx_init_55 rfl (lv_at hl 0 rfl) ?_
  refine hw_new (ci := 2) (fs := [.null, .int (nI 0)]) hx hb hts (hwInn inTerms) tyTerms tyTerms_ok hown (hts (.classLink RIx 42 RTerms) (hwMem mm_356)) (hts (.instantiable RTerms 2) (hwMem mm_357)) (hts (.initialized RTerms) (hwMem mm_89)) hK hZ hA rfl (fun j hj => by rcases (show j = 0 ∨ j = 1 by omega) with rfl | rfl <;> rfl) (show 10 + 1 ≤ 17 by omega) (show (0 + 30 + 4 + 3 + 4 + 2 + 40 + 4 + 90) + 2 ≤ 1746 by omega) dIx_init_56 (2 * 7) (fun qq_56 X_57 H_58 hZ hF hNw => ?_)
  have hFr := hwF.tr hFr hF (fun _ h => h) (fun M h => by first | exact False.elim h | ((try dsimp only at h ⊢); omega))
  have f0_ := hF _ _ _ (by intro hNS; first | exact False.elim hNS | ((try dsimp only at hNS); omega)) f0_
  have ff_5 := hF _ _ _ (by intro hNS; first | exact False.elim hNS | ((try dsimp only at hNS); omega)) ff_5
  have ff_13 := hF _ _ _ (by intro hNS; first | exact False.elim hNS | ((try dsimp only at hNS); omega)) ff_13
  have ff_26 := txAt.fr hF (by intro hNS; first | exact False.elim hNS | ((try dsimp only at hNS); omega)) (by intro hNS; first | exact False.elim hNS | ((try dsimp only at hNS); omega)) ff_26
  have ff_39 := seAt.fr hF (by intro hNS; first | exact False.elim hNS | ((try dsimp only at hNS); omega)) (by intro hNS; first | exact False.elim hNS | ((try dsimp only at hNS); omega)) ff_39
  have ff_52 := hiAt.fr hF (by intro hNS; first | exact False.elim hNS | ((try dsimp only at hNS); omega)) (by intro hNS; first | exact False.elim hNS | ((try dsimp only at hNS); omega)) (by intro hNS; first | exact False.elim hNS | ((try dsimp only at hNS); omega)) (by intro hNS; first | exact False.elim hNS | ((try dsimp only at hNS); omega)) ff_52
  have ff_60 := hNw
  refine lv_dup hx hb dIx_init_59 rfl ?_
  refine lv_bipush (v := nI 50) hx hb dIx_init_60 (by decide) ?_
  refine hw_callv (va_runI (As := [.int (nI 50)]) (rest := [.ref qq_56, .ref a]) ⟨hx, hb, hml, hown, hts⟩ (c_Tm_init l D K X_57 H_58.size (a := qq_56) (k := 7) (N := 50) ff_60 (by omega)) (cwI 1 hts (hwGood (hwAll mm_358)) rfl rfl rfl (hts (.initialized RTerms) (hwMem mm_89)) (hts (.methodLink RIx 44 yTerms_init) (hwMem mm_359)) (hts (.instanceMethod yTerms_init) (hwMem mm_360)) rfl (by decide +kernel) ⟨Nat.le_of_ble_eq_true rfl, Nat.le_of_ble_eq_true rfl⟩) (hw_preS hK hO hZ) rfl rfl hl.1 rfl (lv_room (Nat.le_of_ble_eq_true rfl)) dIx_init_62 ⟨(show 11 + 1 ≤ 17 by omega), (show (0 + 30 + 4 + 3 + 4 + 2 + 40 + 4 + 90 + 2) + 50 ≤ 1746 by omega)⟩) hZ hA (fun X_61 H_62 lc_63 hp hZ => ?_)
  obtain ⟨hF, hN_64⟩ := hp
  have hFr := hwF.tr hFr hF (fun _ h => h) (fun M h => by first | exact False.elim h | ((try dsimp only at h ⊢); omega))
  have f0_ := hF _ _ _ (by intro hNS; first | exact False.elim hNS | ((try dsimp only at hNS); omega)) f0_
  have ff_5 := hF _ _ _ (by intro hNS; first | exact False.elim hNS | ((try dsimp only at hNS); omega)) ff_5
  have ff_13 := hF _ _ _ (by intro hNS; first | exact False.elim hNS | ((try dsimp only at hNS); omega)) ff_13
  have ff_26 := txAt.fr hF (by intro hNS; first | exact False.elim hNS | ((try dsimp only at hNS); omega)) (by intro hNS; first | exact False.elim hNS | ((try dsimp only at hNS); omega)) ff_26
  have ff_39 := seAt.fr hF (by intro hNS; first | exact False.elim hNS | ((try dsimp only at hNS); omega)) (by intro hNS; first | exact False.elim hNS | ((try dsimp only at hNS); omega)) ff_39
  have ff_52 := hiAt.fr hF (by intro hNS; first | exact False.elim hNS | ((try dsimp only at hNS); omega)) (by intro hNS; first | exact False.elim hNS | ((try dsimp only at hNS); omega)) (by intro hNS; first | exact False.elim hNS | ((try dsimp only at hNS); omega)) (by intro hNS; first | exact False.elim hNS | ((try dsimp only at hNS); omega)) ff_52
  have ff_65 := hN_64
  refine hw_putF (ty := (.object "WordIndex2$Terms")) (fs' := [.ref qq_1, .int (nI 0), .int (nI 0), .ref qq_9, .ref qq_17, .int (nI 0), .ref qq_30, .ref qq_43, .ref qq_56, .null, .null, .null]) hx hb hts (hwInn inIx) tyIx tyIx_ok nmIx hown hK hZ f0_ rfl 8 (by decide) (hts (.fieldLink RIx 45 RIx "asked" "LWordIndex2$Terms;") (hwMem mm_254)) (fun _ h => h) rfl hname rfl (by decide +kernel) rfl rfl (Nat.le_of_ble_eq_true rfl) rfl dIx_init_65 (fun X_66 H_67 lc_68 hZ hF hNw => ?_)
  have hFr := hwF.tr hFr hF (fun _ h => h) (fun M h => by first | exact False.elim h | ((try dsimp only at h ⊢); omega))
  have f0_ := hNw
  have ff_5 := hF _ _ _ (by intro hNS; first | exact False.elim hNS | ((try dsimp only at hNS); omega)) ff_5
  have ff_13 := hF _ _ _ (by intro hNS; first | exact False.elim hNS | ((try dsimp only at hNS); omega)) ff_13
  have ff_26 := txAt.fr hF (by intro hNS; first | exact False.elim hNS | ((try dsimp only at hNS); omega)) (by intro hNS; first | exact False.elim hNS | ((try dsimp only at hNS); omega)) ff_26
  have ff_39 := seAt.fr hF (by intro hNS; first | exact False.elim hNS | ((try dsimp only at hNS); omega)) (by intro hNS; first | exact False.elim hNS | ((try dsimp only at hNS); omega)) ff_39
  have ff_52 := hiAt.fr hF (by intro hNS; first | exact False.elim hNS | ((try dsimp only at hNS); omega)) (by intro hNS; first | exact False.elim hNS | ((try dsimp only at hNS); omega)) (by intro hNS; first | exact False.elim hNS | ((try dsimp only at hNS); omega)) (by intro hNS; first | exact False.elim hNS | ((try dsimp only at hNS); omega)) ff_52
  have ff_65 := tmAt.fr hF (by intro hNS; first | exact False.elim hNS | ((try dsimp only at hNS); omega)) (by intro hNS; first | exact False.elim hNS | ((try dsimp only at hNS); omega)) ff_65
  refine lv_aload_n hx hb dIx_init_68 rfl (lv_at hl 0 rfl) ?_
  refine hw_new (ci := 2) (fs := [.null, .int (nI 0)]) hx hb hts (hwInn inTerms) tyTerms tyTerms_ok hown (hts (.classLink RIx 42 RTerms) (hwMem mm_356)) (hts (.instantiable RTerms 2) (hwMem mm_357)) (hts (.initialized RTerms) (hwMem mm_89)) hK hZ hA rfl (fun j hj => by rcases (show j = 0 ∨ j = 1 by omega) with rfl | rfl <;> rfl) (show 12 + 1 ≤ 17 by omega) (show (0 + 30 + 4 + 3 + 4 + 2 + 40 + 4 + 90 + 2 + 50) + 2 ≤ 1746 by omega) dIx_init_69 (2 * 8) (fun qq_69 X_70 H_71 hZ hF hNw => ?_)
  have hFr := hwF.tr hFr hF (fun _ h => h) (fun M h => by first | exact False.elim h | ((try dsimp only at h ⊢); omega))
  have f0_ := hF _ _ _ (by intro hNS; first | exact False.elim hNS | ((try dsimp only at hNS); omega)) f0_
  have ff_5 := hF _ _ _ (by intro hNS; first | exact False.elim hNS | ((try dsimp only at hNS); omega)) ff_5
  have ff_13 := hF _ _ _ (by intro hNS; first | exact False.elim hNS | ((try dsimp only at hNS); omega)) ff_13
  have ff_26 := txAt.fr hF (by intro hNS; first | exact False.elim hNS | ((try dsimp only at hNS); omega)) (by intro hNS; first | exact False.elim hNS | ((try dsimp only at hNS); omega)) ff_26
  have ff_39 := seAt.fr hF (by intro hNS; first | exact False.elim hNS | ((try dsimp only at hNS); omega)) (by intro hNS; first | exact False.elim hNS | ((try dsimp only at hNS); omega)) ff_39
  have ff_52 := hiAt.fr hF (by intro hNS; first | exact False.elim hNS | ((try dsimp only at hNS); omega)) (by intro hNS; first | exact False.elim hNS | ((try dsimp only at hNS); omega)) (by intro hNS; first | exact False.elim hNS | ((try dsimp only at hNS); omega)) (by intro hNS; first | exact False.elim hNS | ((try dsimp only at hNS); omega)) ff_52
  have ff_65 := tmAt.fr hF (by intro hNS; first | exact False.elim hNS | ((try dsimp only at hNS); omega)) (by intro hNS; first | exact False.elim hNS | ((try dsimp only at hNS); omega)) ff_65
  have ff_73 := hNw
  refine lv_dup hx hb dIx_init_72 rfl ?_
  refine lv_sipush (v := nI 750) hx hb dIx_init_73 (by decide) ?_
  refine hw_callv (va_runI (As := [.int (nI 750)]) (rest := [.ref qq_69, .ref a]) ⟨hx, hb, hml, hown, hts⟩ (c_Tm_init l D K X_70 H_71.size (a := qq_69) (k := 8) (N := 750) ff_73 (by omega)) (cwI 1 hts (hwGood (hwAll mm_358)) rfl rfl rfl (hts (.initialized RTerms) (hwMem mm_89)) (hts (.methodLink RIx 44 yTerms_init) (hwMem mm_359)) (hts (.instanceMethod yTerms_init) (hwMem mm_360)) rfl (by decide +kernel) ⟨Nat.le_of_ble_eq_true rfl, Nat.le_of_ble_eq_true rfl⟩) (hw_preS hK hO hZ) rfl rfl hl.1 rfl (lv_room (Nat.le_of_ble_eq_true rfl)) dIx_init_76 ⟨(show 13 + 1 ≤ 17 by omega), (show (0 + 30 + 4 + 3 + 4 + 2 + 40 + 4 + 90 + 2 + 50 + 2) + 750 ≤ 1746 by omega)⟩) hZ hA (fun X_74 H_75 lc_76 hp hZ => ?_)
  obtain ⟨hF, hN_77⟩ := hp
  have hFr := hwF.tr hFr hF (fun _ h => h) (fun M h => by first | exact False.elim h | ((try dsimp only at h ⊢); omega))
  have f0_ := hF _ _ _ (by intro hNS; first | exact False.elim hNS | ((try dsimp only at hNS); omega)) f0_
  have ff_5 := hF _ _ _ (by intro hNS; first | exact False.elim hNS | ((try dsimp only at hNS); omega)) ff_5
  have ff_13 := hF _ _ _ (by intro hNS; first | exact False.elim hNS | ((try dsimp only at hNS); omega)) ff_13
  have ff_26 := txAt.fr hF (by intro hNS; first | exact False.elim hNS | ((try dsimp only at hNS); omega)) (by intro hNS; first | exact False.elim hNS | ((try dsimp only at hNS); omega)) ff_26
  have ff_39 := seAt.fr hF (by intro hNS; first | exact False.elim hNS | ((try dsimp only at hNS); omega)) (by intro hNS; first | exact False.elim hNS | ((try dsimp only at hNS); omega)) ff_39
  have ff_52 := hiAt.fr hF (by intro hNS; first | exact False.elim hNS | ((try dsimp only at hNS); omega)) (by intro hNS; first | exact False.elim hNS | ((try dsimp only at hNS); omega)) (by intro hNS; first | exact False.elim hNS | ((try dsimp only at hNS); omega)) (by intro hNS; first | exact False.elim hNS | ((try dsimp only at hNS); omega)) ff_52
  have ff_65 := tmAt.fr hF (by intro hNS; first | exact False.elim hNS | ((try dsimp only at hNS); omega)) (by intro hNS; first | exact False.elim hNS | ((try dsimp only at hNS); omega)) ff_65
  have ff_78 := hN_77
  refine hw_putF (ty := (.object "WordIndex2$Terms")) (fs' := [.ref qq_1, .int (nI 0), .int (nI 0), .ref qq_9, .ref qq_17, .int (nI 0), .ref qq_30, .ref qq_43, .ref qq_56, .ref qq_69, .null, .null]) hx hb hts (hwInn inIx) tyIx tyIx_ok nmIx hown hK hZ f0_ rfl 9 (by decide) (hts (.fieldLink RIx 49 RIx "fieldTerms" "LWordIndex2$Terms;") (hwMem mm_207)) (fun _ h => h) rfl hname rfl (by decide +kernel) rfl rfl (Nat.le_of_ble_eq_true rfl) rfl dIx_init_79 (fun X_79 H_80 lc_81 hZ hF hNw => ?_)
  have hFr := hwF.tr hFr hF (fun _ h => h) (fun M h => by first | exact False.elim h | ((try dsimp only at h ⊢); omega))
  have f0_ := hNw
  have ff_5 := hF _ _ _ (by intro hNS; first | exact False.elim hNS | ((try dsimp only at hNS); omega)) ff_5
  have ff_13 := hF _ _ _ (by intro hNS; first | exact False.elim hNS | ((try dsimp only at hNS); omega)) ff_13
  have ff_26 := txAt.fr hF (by intro hNS; first | exact False.elim hNS | ((try dsimp only at hNS); omega)) (by intro hNS; first | exact False.elim hNS | ((try dsimp only at hNS); omega)) ff_26
  have ff_39 := seAt.fr hF (by intro hNS; first | exact False.elim hNS | ((try dsimp only at hNS); omega)) (by intro hNS; first | exact False.elim hNS | ((try dsimp only at hNS); omega)) ff_39
  have ff_52 := hiAt.fr hF (by intro hNS; first | exact False.elim hNS | ((try dsimp only at hNS); omega)) (by intro hNS; first | exact False.elim hNS | ((try dsimp only at hNS); omega)) (by intro hNS; first | exact False.elim hNS | ((try dsimp only at hNS); omega)) (by intro hNS; first | exact False.elim hNS | ((try dsimp only at hNS); omega)) ff_52
  have ff_65 := tmAt.fr hF (by intro hNS; first | exact False.elim hNS | ((try dsimp only at hNS); omega)) (by intro hNS; first | exact False.elim hNS | ((try dsimp only at hNS); omega)) ff_65
  have ff_78 := tmAt.fr hF (by intro hNS; first | exact False.elim hNS | ((try dsimp only at hNS); omega)) (by intro hNS; first | exact False.elim hNS | ((try dsimp only at hNS); omega)) ff_78
  refine lv_aload_n hx hb dIx_init_82 rfl (lv_at hl 0 rfl) ?_
  refine hw_new (ci := 4) (fs := [.null, .int (nI 0)]) hx hb hts (hwInn inWordSet) tyWordSet tyWordSet_ok hown (hts (.classLink RIx 26 RWordSet) (hwMem mm_347)) (hts (.instantiable RWordSet 2) (hwMem mm_348)) (hts (.initialized RWordSet) (hwMem mm_63)) hK hZ hA rfl (fun j hj => by rcases (show j = 0 ∨ j = 1 by omega) with rfl | rfl <;> rfl) (show 14 + 1 ≤ 17 by omega) (show (0 + 30 + 4 + 3 + 4 + 2 + 40 + 4 + 90 + 2 + 50 + 2 + 750) + 2 ≤ 1746 by omega) dIx_init_83 (2 * 9) (fun qq_82 X_83 H_84 hZ hF hNw => ?_)
  have hFr := hwF.tr hFr hF (fun _ h => h) (fun M h => by first | exact False.elim h | ((try dsimp only at h ⊢); omega))
  have f0_ := hF _ _ _ (by intro hNS; first | exact False.elim hNS | ((try dsimp only at hNS); omega)) f0_
  have ff_5 := hF _ _ _ (by intro hNS; first | exact False.elim hNS | ((try dsimp only at hNS); omega)) ff_5
  have ff_13 := hF _ _ _ (by intro hNS; first | exact False.elim hNS | ((try dsimp only at hNS); omega)) ff_13
  have ff_26 := txAt.fr hF (by intro hNS; first | exact False.elim hNS | ((try dsimp only at hNS); omega)) (by intro hNS; first | exact False.elim hNS | ((try dsimp only at hNS); omega)) ff_26
  have ff_39 := seAt.fr hF (by intro hNS; first | exact False.elim hNS | ((try dsimp only at hNS); omega)) (by intro hNS; first | exact False.elim hNS | ((try dsimp only at hNS); omega)) ff_39
  have ff_52 := hiAt.fr hF (by intro hNS; first | exact False.elim hNS | ((try dsimp only at hNS); omega)) (by intro hNS; first | exact False.elim hNS | ((try dsimp only at hNS); omega)) (by intro hNS; first | exact False.elim hNS | ((try dsimp only at hNS); omega)) (by intro hNS; first | exact False.elim hNS | ((try dsimp only at hNS); omega)) ff_52
  have ff_65 := tmAt.fr hF (by intro hNS; first | exact False.elim hNS | ((try dsimp only at hNS); omega)) (by intro hNS; first | exact False.elim hNS | ((try dsimp only at hNS); omega)) ff_65
  have ff_78 := tmAt.fr hF (by intro hNS; first | exact False.elim hNS | ((try dsimp only at hNS); omega)) (by intro hNS; first | exact False.elim hNS | ((try dsimp only at hNS); omega)) ff_78
  have ff_86 := hNw
  refine lv_dup hx hb dIx_init_86 rfl ?_
  refine lv_sipush (v := nI 750) hx hb dIx_init_87 (by decide) ?_
  refine hw_callv (va_runI (As := [.int (nI 750)]) (rest := [.ref qq_82, .ref a]) ⟨hx, hb, hml, hown, hts⟩ (c_Se_init l D K X_83 H_84.size (a := qq_82) (k := 9) (N := 750) ff_86 (by omega)) (cwI 1 hts (hwGood (hwAll mm_349)) rfl rfl rfl (hts (.initialized RWordSet) (hwMem mm_63)) (hts (.methodLink RIx 28 yWordSet_init) (hwMem mm_350)) (hts (.instanceMethod yWordSet_init) (hwMem mm_351)) rfl (by decide +kernel) ⟨Nat.le_of_ble_eq_true rfl, Nat.le_of_ble_eq_true rfl⟩) (hw_preS hK hO hZ) rfl rfl hl.1 rfl (lv_room (Nat.le_of_ble_eq_true rfl)) dIx_init_90 ⟨(show 15 + 1 ≤ 17 by omega), (show (0 + 30 + 4 + 3 + 4 + 2 + 40 + 4 + 90 + 2 + 50 + 2 + 750 + 2) + 750 ≤ 1746 by omega)⟩) hZ hA (fun X_87 H_88 lc_89 hp hZ => ?_)
  obtain ⟨hF, hN_90⟩ := hp
  have hFr := hwF.tr hFr hF (fun _ h => h) (fun M h => by first | exact False.elim h | ((try dsimp only at h ⊢); omega))
  have f0_ := hF _ _ _ (by intro hNS; first | exact False.elim hNS | ((try dsimp only at hNS); omega)) f0_
  have ff_5 := hF _ _ _ (by intro hNS; first | exact False.elim hNS | ((try dsimp only at hNS); omega)) ff_5
  have ff_13 := hF _ _ _ (by intro hNS; first | exact False.elim hNS | ((try dsimp only at hNS); omega)) ff_13
  have ff_26 := txAt.fr hF (by intro hNS; first | exact False.elim hNS | ((try dsimp only at hNS); omega)) (by intro hNS; first | exact False.elim hNS | ((try dsimp only at hNS); omega)) ff_26
  have ff_39 := seAt.fr hF (by intro hNS; first | exact False.elim hNS | ((try dsimp only at hNS); omega)) (by intro hNS; first | exact False.elim hNS | ((try dsimp only at hNS); omega)) ff_39
  have ff_52 := hiAt.fr hF (by intro hNS; first | exact False.elim hNS | ((try dsimp only at hNS); omega)) (by intro hNS; first | exact False.elim hNS | ((try dsimp only at hNS); omega)) (by intro hNS; first | exact False.elim hNS | ((try dsimp only at hNS); omega)) (by intro hNS; first | exact False.elim hNS | ((try dsimp only at hNS); omega)) ff_52
  have ff_65 := tmAt.fr hF (by intro hNS; first | exact False.elim hNS | ((try dsimp only at hNS); omega)) (by intro hNS; first | exact False.elim hNS | ((try dsimp only at hNS); omega)) ff_65
  have ff_78 := tmAt.fr hF (by intro hNS; first | exact False.elim hNS | ((try dsimp only at hNS); omega)) (by intro hNS; first | exact False.elim hNS | ((try dsimp only at hNS); omega)) ff_78
  have ff_91 := hN_90
  refine hw_putF (ty := (.object "WordIndex2$WordSet")) (fs' := [.ref qq_1, .int (nI 0), .int (nI 0), .ref qq_9, .ref qq_17, .int (nI 0), .ref qq_30, .ref qq_43, .ref qq_56, .ref qq_69, .ref qq_82, .null]) hx hb hts (hwInn inIx) tyIx tyIx_ok nmIx hown hK hZ f0_ rfl 10 (by decide) (hts (.fieldLink RIx 52 RIx "listed" "LWordIndex2$WordSet;") (hwMem mm_264)) (fun _ h => h) rfl hname rfl (by decide +kernel) rfl rfl (Nat.le_of_ble_eq_true rfl) rfl dIx_init_93 (fun X_92 H_93 lc_94 hZ hF hNw => ?_)
  have hFr := hwF.tr hFr hF (fun _ h => h) (fun M h => by first | exact False.elim h | ((try dsimp only at h ⊢); omega))
  have f0_ := hNw
  have ff_5 := hF _ _ _ (by intro hNS; first | exact False.elim hNS | ((try dsimp only at hNS); omega)) ff_5
  have ff_13 := hF _ _ _ (by intro hNS; first | exact False.elim hNS | ((try dsimp only at hNS); omega)) ff_13
  have ff_26 := txAt.fr hF (by intro hNS; first | exact False.elim hNS | ((try dsimp only at hNS); omega)) (by intro hNS; first | exact False.elim hNS | ((try dsimp only at hNS); omega)) ff_26
  have ff_39 := seAt.fr hF (by intro hNS; first | exact False.elim hNS | ((try dsimp only at hNS); omega)) (by intro hNS; first | exact False.elim hNS | ((try dsimp only at hNS); omega)) ff_39
  have ff_52 := hiAt.fr hF (by intro hNS; first | exact False.elim hNS | ((try dsimp only at hNS); omega)) (by intro hNS; first | exact False.elim hNS | ((try dsimp only at hNS); omega)) (by intro hNS; first | exact False.elim hNS | ((try dsimp only at hNS); omega)) (by intro hNS; first | exact False.elim hNS | ((try dsimp only at hNS); omega)) ff_52
  have ff_65 := tmAt.fr hF (by intro hNS; first | exact False.elim hNS | ((try dsimp only at hNS); omega)) (by intro hNS; first | exact False.elim hNS | ((try dsimp only at hNS); omega)) ff_65
  have ff_78 := tmAt.fr hF (by intro hNS; first | exact False.elim hNS | ((try dsimp only at hNS); omega)) (by intro hNS; first | exact False.elim hNS | ((try dsimp only at hNS); omega)) ff_78
  have ff_91 := seAt.fr hF (by intro hNS; first | exact False.elim hNS | ((try dsimp only at hNS); omega)) (by intro hNS; first | exact False.elim hNS | ((try dsimp only at hNS); omega)) ff_91
  refine lv_aload_n hx hb dIx_init_96 rfl (lv_at hl 0 rfl) ?_
  refine lv_bipush (v := nI 13) hx hb dIx_init_97 (by decide) ?_
  refine hw_newa (atype := .int) (ty := .int) (a0 := (13, .inl (fun _ => 0))) (N := 13) hx hb (hts (.arrayClass .int) (hwMem mm_170)) rfl hK hZ hA 0 rfl (fun _ _ => rfl) (fun _ => rfl) (by omega) (by show _ * _ ≤ _; first | decide | (simp only [componentBytes]; omega)) (show 16 + 1 ≤ 17 by omega) (show (0 + 30 + 4 + 3 + 4 + 2 + 40 + 4 + 90 + 2 + 50 + 2 + 750 + 2 + 750) + 13 ≤ 1746 by omega) dIx_init_99 3 (fun qq_95 X_96 H_97 hZ hF hNw => ?_)
  have hFr := hwF.tr hFr hF (fun _ h => h) (fun M h => by first | exact False.elim h | ((try dsimp only at h ⊢); omega))
  have f0_ := hF _ _ _ (by intro hNS; first | exact False.elim hNS | ((try dsimp only at hNS); omega)) f0_
  have ff_5 := hF _ _ _ (by intro hNS; first | exact False.elim hNS | ((try dsimp only at hNS); omega)) ff_5
  have ff_13 := hF _ _ _ (by intro hNS; first | exact False.elim hNS | ((try dsimp only at hNS); omega)) ff_13
  have ff_26 := txAt.fr hF (by intro hNS; first | exact False.elim hNS | ((try dsimp only at hNS); omega)) (by intro hNS; first | exact False.elim hNS | ((try dsimp only at hNS); omega)) ff_26
  have ff_39 := seAt.fr hF (by intro hNS; first | exact False.elim hNS | ((try dsimp only at hNS); omega)) (by intro hNS; first | exact False.elim hNS | ((try dsimp only at hNS); omega)) ff_39
  have ff_52 := hiAt.fr hF (by intro hNS; first | exact False.elim hNS | ((try dsimp only at hNS); omega)) (by intro hNS; first | exact False.elim hNS | ((try dsimp only at hNS); omega)) (by intro hNS; first | exact False.elim hNS | ((try dsimp only at hNS); omega)) (by intro hNS; first | exact False.elim hNS | ((try dsimp only at hNS); omega)) ff_52
  have ff_65 := tmAt.fr hF (by intro hNS; first | exact False.elim hNS | ((try dsimp only at hNS); omega)) (by intro hNS; first | exact False.elim hNS | ((try dsimp only at hNS); omega)) ff_65
  have ff_78 := tmAt.fr hF (by intro hNS; first | exact False.elim hNS | ((try dsimp only at hNS); omega)) (by intro hNS; first | exact False.elim hNS | ((try dsimp only at hNS); omega)) ff_78
  have ff_91 := seAt.fr hF (by intro hNS; first | exact False.elim hNS | ((try dsimp only at hNS); omega)) (by intro hNS; first | exact False.elim hNS | ((try dsimp only at hNS); omega)) ff_91
  have ff_99 := hNw
  refine hw_putF (ty := (.array .int)) (fs' := [.ref qq_1, .int (nI 0), .int (nI 0), .ref qq_9, .ref qq_17, .int (nI 0), .ref qq_30, .ref qq_43, .ref qq_56, .ref qq_69, .ref qq_82, .ref qq_95]) hx hb hts (hwInn inIx) tyIx tyIx_ok nmIx hown hK hZ f0_ rfl 11 (by decide) (hts (.fieldLink RIx 55 RIx "costs" "[I") (hwMem mm_340)) (fun _ h => h) rfl hname rfl (by decide +kernel) rfl rfl (Nat.le_of_ble_eq_true rfl) rfl dIx_init_101 (fun X_100 H_101 lc_102 hZ hF hNw => ?_)
  have hFr := hwF.tr hFr hF (fun _ h => h) (fun M h => by first | exact False.elim h | ((try dsimp only at h ⊢); omega))
  have f0_ := hNw
  have ff_5 := hF _ _ _ (by intro hNS; first | exact False.elim hNS | ((try dsimp only at hNS); omega)) ff_5
  have ff_13 := hF _ _ _ (by intro hNS; first | exact False.elim hNS | ((try dsimp only at hNS); omega)) ff_13
  have ff_26 := txAt.fr hF (by intro hNS; first | exact False.elim hNS | ((try dsimp only at hNS); omega)) (by intro hNS; first | exact False.elim hNS | ((try dsimp only at hNS); omega)) ff_26
  have ff_39 := seAt.fr hF (by intro hNS; first | exact False.elim hNS | ((try dsimp only at hNS); omega)) (by intro hNS; first | exact False.elim hNS | ((try dsimp only at hNS); omega)) ff_39
  have ff_52 := hiAt.fr hF (by intro hNS; first | exact False.elim hNS | ((try dsimp only at hNS); omega)) (by intro hNS; first | exact False.elim hNS | ((try dsimp only at hNS); omega)) (by intro hNS; first | exact False.elim hNS | ((try dsimp only at hNS); omega)) (by intro hNS; first | exact False.elim hNS | ((try dsimp only at hNS); omega)) ff_52
  have ff_65 := tmAt.fr hF (by intro hNS; first | exact False.elim hNS | ((try dsimp only at hNS); omega)) (by intro hNS; first | exact False.elim hNS | ((try dsimp only at hNS); omega)) ff_65
  have ff_78 := tmAt.fr hF (by intro hNS; first | exact False.elim hNS | ((try dsimp only at hNS); omega)) (by intro hNS; first | exact False.elim hNS | ((try dsimp only at hNS); omega)) ff_78
  have ff_91 := seAt.fr hF (by intro hNS; first | exact False.elim hNS | ((try dsimp only at hNS); omega)) (by intro hNS; first | exact False.elim hNS | ((try dsimp only at hNS); omega)) ff_91
  have ff_99 := hF _ _ _ (by intro hNS; first | exact False.elim hNS | ((try dsimp only at hNS); omega)) ff_99
  refine W.widen (k := 17) (n := 1746) (by omega) (by omega) ?_
  exact hret hZ ⟨hFr, _, _, _, _, _, _, _, _, _, fun _ => none, fun _ => 0, [], [], [], fun _ => 0, f0_, ff_5, (fun i hi => absurd hi (Nat.not_lt_zero _)), ff_13, (fun _ _ => rfl), ff_26, ff_39, ff_52, ff_65, ff_78, ff_91, ff_99⟩ dIx_init_104
