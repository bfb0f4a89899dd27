theorem dIx_ask_0 : decode cIx_ask 0 = .ok (.aload_n 0, 1) := by decide +kernel
theorem dIx_ask_1 : decode cIx_ask 1 = .ok (.iload_n 1, 1) := by decide +kernel
theorem dIx_ask_2 : decode cIx_ask 2 = .ok (.invokevirtual 84, 3) := by decide +kernel
theorem dIx_ask_5 : decode cIx_ask 5 = .ok (.aload_n 0, 1) := by decide +kernel
theorem dIx_ask_6 : decode cIx_ask 6 = .ok (.iload_n 1, 1) := by decide +kernel
theorem dIx_ask_7 : decode cIx_ask 7 = .ok (.new 87, 3) := by decide +kernel
theorem dIx_ask_10 : decode cIx_ask 10 = .ok (.dup, 1) := by decide +kernel
theorem dIx_ask_11 : decode cIx_ask 11 = .ok (.aload_n 0, 1) := by decide +kernel
theorem dIx_ask_12 : decode cIx_ask 12 = .ok (.getfield 45, 3) := by decide +kernel
theorem dIx_ask_15 : decode cIx_ask 15 = .ok (.invokespecial 89, 3) := by decide +kernel
theorem dIx_ask_18 : decode cIx_ask 18 = .ok (.invokevirtual 92, 3) := by decide +kernel
theorem dIx_ask_21 : decode cIx_ask 21 = .ok (.ireturn, 1) := by decide +kernel
theorem dIx_phrase_0 : decode cIx_phrase 0 = .ok (.aload_n 0, 1) := by decide +kernel
theorem dIx_phrase_1 : decode cIx_phrase 1 = .ok (.iload_n 1, 1) := by decide +kernel
theorem dIx_phrase_2 : decode cIx_phrase 2 = .ok (.invokevirtual 84, 3) := by decide +kernel
theorem dIx_phrase_5 : decode cIx_phrase 5 = .ok (.aload_n 0, 1) := by decide +kernel
theorem dIx_phrase_6 : decode cIx_phrase 6 = .ok (.iload_n 1, 1) := by decide +kernel
theorem dIx_phrase_7 : decode cIx_phrase 7 = .ok (.new 96, 3) := by decide +kernel
theorem dIx_phrase_10 : decode cIx_phrase 10 = .ok (.dup, 1) := by decide +kernel
theorem dIx_phrase_11 : decode cIx_phrase 11 = .ok (.aload_n 0, 1) := by decide +kernel
theorem dIx_phrase_12 : decode cIx_phrase 12 = .ok (.getfield 45, 3) := by decide +kernel
theorem dIx_phrase_15 : decode cIx_phrase 15 = .ok (.invokespecial 98, 3) := by decide +kernel
theorem dIx_phrase_18 : decode cIx_phrase 18 = .ok (.invokevirtual 92, 3) := by decide +kernel
theorem dIx_phrase_21 : decode cIx_phrase 21 = .ok (.ireturn, 1) := by decide +kernel
theorem dIx_near_0 : decode cIx_near 0 = .ok (.aload_n 0, 1) := by decide +kernel
theorem dIx_near_1 : decode cIx_near 1 = .ok (.iload_n 1, 1) := by decide +kernel
theorem dIx_near_2 : decode cIx_near 2 = .ok (.invokevirtual 84, 3) := by decide +kernel
theorem dIx_near_5 : decode cIx_near 5 = .ok (.aload_n 0, 1) := by decide +kernel
theorem dIx_near_6 : decode cIx_near 6 = .ok (.getfield 45, 3) := by decide +kernel
theorem dIx_near_9 : decode cIx_near 9 = .ok (.iconst 0, 1) := by decide +kernel
theorem dIx_near_10 : decode cIx_near 10 = .ok (.invokevirtual 99, 3) := by decide +kernel
theorem dIx_near_13 : decode cIx_near 13 = .ok (.lstore_n 3, 1) := by decide +kernel
theorem dIx_near_14 : decode cIx_near 14 = .ok (.aload_n 0, 1) := by decide +kernel
theorem dIx_near_15 : decode cIx_near 15 = .ok (.getfield 45, 3) := by decide +kernel
theorem dIx_near_18 : decode cIx_near 18 = .ok (.iconst 1, 1) := by decide +kernel
theorem dIx_near_19 : decode cIx_near 19 = .ok (.invokevirtual 99, 3) := by decide +kernel
theorem dIx_near_22 : decode cIx_near 22 = .ok (.lstore 5, 2) := by decide +kernel
theorem dIx_near_24 : decode cIx_near 24 = .ok (.lload_n 3, 1) := by decide +kernel
theorem dIx_near_25 : decode cIx_near 25 = .ok (.lconst 0, 1) := by decide +kernel
theorem dIx_near_26 : decode cIx_near 26 = .ok (.lcmp, 1) := by decide +kernel
theorem dIx_near_27 : decode cIx_near 27 = .ok (.ifCond .eq 15, 3) := by decide +kernel
theorem dIx_near_30 : decode cIx_near 30 = .ok (.lload 5, 2) := by decide +kernel
theorem dIx_near_32 : decode cIx_near 32 = .ok (.lconst 0, 1) := by decide +kernel
theorem dIx_near_33 : decode cIx_near 33 = .ok (.lcmp, 1) := by decide +kernel
theorem dIx_near_34 : decode cIx_near 34 = .ok (.ifCond .eq 8, 3) := by decide +kernel
theorem dIx_near_37 : decode cIx_near 37 = .ok (.iload_n 2, 1) := by decide +kernel
theorem dIx_near_38 : decode cIx_near 38 = .ok (.iconst 1, 1) := by decide +kernel
theorem dIx_near_39 : decode cIx_near 39 = .ok (.if_icmp .ge 5, 3) := by decide +kernel
theorem dIx_near_42 : decode cIx_near 42 = .ok (.iconst 0, 1) := by decide +kernel
theorem dIx_near_43 : decode cIx_near 43 = .ok (.ireturn, 1) := by decide +kernel
theorem dIx_near_44 : decode cIx_near 44 = .ok (.aload_n 0, 1) := by decide +kernel
theorem dIx_near_45 : decode cIx_near 45 = .ok (.iload_n 1, 1) := by decide +kernel
theorem dIx_near_46 : decode cIx_near 46 = .ok (.new 103, 3) := by decide +kernel
theorem dIx_near_49 : decode cIx_near 49 = .ok (.dup, 1) := by decide +kernel
theorem dIx_near_50 : decode cIx_near 50 = .ok (.lload_n 3, 1) := by decide +kernel
theorem dIx_near_51 : decode cIx_near 51 = .ok (.lload 5, 2) := by decide +kernel
theorem dIx_near_53 : decode cIx_near 53 = .ok (.iload_n 2, 1) := by decide +kernel
theorem dIx_near_54 : decode cIx_near 54 = .ok (.invokespecial 105, 3) := by decide +kernel
theorem dIx_near_57 : decode cIx_near 57 = .ok (.invokevirtual 92, 3) := by decide +kernel
theorem dIx_near_60 : decode cIx_near 60 = .ok (.ireturn, 1) := by decide +kernel
theorem dIx_wild_0 : decode cIx_wild 0 = .ok (.aload_n 0, 1) := by decide +kernel
theorem dIx_wild_1 : decode cIx_wild 1 = .ok (.getfield 22, 3) := by decide +kernel
theorem dIx_wild_4 : decode cIx_wild 4 = .ok (.iconst 0, 1) := by decide +kernel
theorem dIx_wild_5 : decode cIx_wild 5 = .ok (.invokevirtual 108, 3) := by decide +kernel
theorem dIx_wild_8 : decode cIx_wild 8 = .ok (.lstore_n 3, 1) := by decide +kernel
theorem dIx_wild_9 : decode cIx_wild 9 = .ok (.aload_n 0, 1) := by decide +kernel
theorem dIx_wild_10 : decode cIx_wild 10 = .ok (.iload_n 1, 1) := by decide +kernel
theorem dIx_wild_11 : decode cIx_wild 11 = .ok (.invokevirtual 84, 3) := by decide +kernel
theorem dIx_wild_14 : decode cIx_wild 14 = .ok (.lload_n 3, 1) := by decide +kernel
theorem dIx_wild_15 : decode cIx_wild 15 = .ok (.lconst 0, 1) := by decide +kernel
theorem dIx_wild_16 : decode cIx_wild 16 = .ok (.lcmp, 1) := by decide +kernel
theorem dIx_wild_17 : decode cIx_wild 17 = .ok (.ifCond .eq 15, 3) := by decide +kernel
theorem dIx_wild_20 : decode cIx_wild 20 = .ok (.iload_n 2, 1) := by decide +kernel
theorem dIx_wild_21 : decode cIx_wild 21 = .ok (.ifCond .eq 13, 3) := by decide +kernel
theorem dIx_wild_24 : decode cIx_wild 24 = .ok (.lload_n 3, 1) := by decide +kernel
theorem dIx_wild_25 : decode cIx_wild 25 = .ok (.invokestatic 111, 3) := by decide +kernel
theorem dIx_wild_28 : decode cIx_wild 28 = .ok (.iconst 3, 1) := by decide +kernel
theorem dIx_wild_29 : decode cIx_wild 29 = .ok (.if_icmp .ge 5, 3) := by decide +kernel
theorem dIx_wild_32 : decode cIx_wild 32 = .ok (.iconst 0, 1) := by decide +kernel
theorem dIx_wild_33 : decode cIx_wild 33 = .ok (.ireturn, 1) := by decide +kernel
theorem dIx_wild_34 : decode cIx_wild 34 = .ok (.aload_n 0, 1) := by decide +kernel
theorem dIx_wild_35 : decode cIx_wild 35 = .ok (.iload_n 1, 1) := by decide +kernel
theorem dIx_wild_36 : decode cIx_wild 36 = .ok (.new 117, 3) := by decide +kernel
theorem dIx_wild_39 : decode cIx_wild 39 = .ok (.dup, 1) := by decide +kernel
theorem dIx_wild_40 : decode cIx_wild 40 = .ok (.lload_n 3, 1) := by decide +kernel
theorem dIx_wild_41 : decode cIx_wild 41 = .ok (.iload_n 2, 1) := by decide +kernel
theorem dIx_wild_42 : decode cIx_wild 42 = .ok (.invokespecial 119, 3) := by decide +kernel
theorem dIx_wild_45 : decode cIx_wild 45 = .ok (.invokevirtual 92, 3) := by decide +kernel
theorem dIx_wild_48 : decode cIx_wild 48 = .ok (.ireturn, 1) := by decide +kernel
theorem dIx_hit_0 : decode cIx_hit 0 = .ok (.iload_n 2, 1) := by decide +kernel
theorem dIx_hit_1 : decode cIx_hit 1 = .ok (.ifCond .ne 12, 3) := by decide +kernel
theorem dIx_hit_4 : decode cIx_hit 4 = .ok (.aload_n 0, 1) := by decide +kernel
theorem dIx_hit_5 : decode cIx_hit 5 = .ok (.getfield 38, 3) := by decide +kernel
theorem dIx_hit_8 : decode cIx_hit 8 = .ok (.iload_n 1, 1) := by decide +kernel
theorem dIx_hit_9 : decode cIx_hit 9 = .ok (.invokevirtual 122, 3) := by decide +kernel
theorem dIx_hit_12 : decode cIx_hit 12 = .ok (.ireturn, 1) := by decide +kernel
theorem dIx_hit_13 : decode cIx_hit 13 = .ok (.iload_n 2, 1) := by decide +kernel
theorem dIx_hit_14 : decode cIx_hit 14 = .ok (.iconst 1, 1) := by decide +kernel
theorem dIx_hit_15 : decode cIx_hit 15 = .ok (.if_icmp .ne 14, 3) := by decide +kernel
theorem dIx_hit_18 : decode cIx_hit 18 = .ok (.aload_n 0, 1) := by decide +kernel
theorem dIx_hit_19 : decode cIx_hit 19 = .ok (.getfield 38, 3) := by decide +kernel
theorem dIx_hit_22 : decode cIx_hit 22 = .ok (.iload_n 1, 1) := by decide +kernel
theorem dIx_hit_23 : decode cIx_hit 23 = .ok (.invokevirtual 126, 3) := by decide +kernel
theorem dIx_hit_26 : decode cIx_hit 26 = .ok (.goto 4, 3) := by decide +kernel
theorem dIx_hit_29 : decode cIx_hit 29 = .ok (.iconst 0, 1) := by decide +kernel
theorem dIx_hit_30 : decode cIx_hit 30 = .ok (.ireturn, 1) := by decide +kernel
theorem dIx_rank_0 : decode cIx_rank 0 = .ok (.aload_n 0, 1) := by decide +kernel
theorem dIx_rank_1 : decode cIx_rank 1 = .ok (.getfield 38, 3) := by decide +kernel
theorem dIx_rank_4 : decode cIx_rank 4 = .ok (.iload_n 1, 1) := by decide +kernel
theorem dIx_rank_5 : decode cIx_rank 5 = .ok (.invokevirtual 126, 3) := by decide +kernel
theorem dIx_rank_8 : decode cIx_rank 8 = .ok (.istore_n 3, 1) := by decide +kernel
theorem dIx_rank_9 : decode cIx_rank 9 = .ok (.aload_n 0, 1) := by decide +kernel
theorem dIx_rank_10 : decode cIx_rank 10 = .ok (.getfield 38, 3) := by decide +kernel
theorem dIx_rank_13 : decode cIx_rank 13 = .ok (.iload_n 1, 1) := by decide +kernel
theorem dIx_rank_14 : decode cIx_rank 14 = .ok (.invokevirtual 129, 3) := by decide +kernel
theorem dIx_rank_17 : decode cIx_rank 17 = .ok (.istore 4, 2) := by decide +kernel
theorem dIx_rank_19 : decode cIx_rank 19 = .ok (.iload_n 3, 1) := by decide +kernel
theorem dIx_rank_20 : decode cIx_rank 20 = .ok (.iload 4, 2) := by decide +kernel
theorem dIx_rank_22 : decode cIx_rank 22 = .ok (.invokestatic 132, 3) := by decide +kernel
theorem dIx_rank_25 : decode cIx_rank 25 = .ok (.istore 5, 2) := by decide +kernel
theorem dIx_rank_27 : decode cIx_rank 27 = .ok (.iload 5, 2) := by decide +kernel
theorem dIx_rank_29 : decode cIx_rank 29 = .ok (.iconst 1, 1) := by decide +kernel
theorem dIx_rank_30 : decode cIx_rank 30 = .ok (.if_icmp .ge 7, 3) := by decide +kernel
theorem dIx_rank_33 : decode cIx_rank 33 = .ok (.ldc2_w 136, 3) := by decide +kernel
theorem dIx_rank_36 : decode cIx_rank 36 = .ok (.lreturn, 1) := by decide +kernel
theorem dIx_rank_37 : decode cIx_rank 37 = .ok (.iload_n 2, 1) := by decide +kernel
theorem dIx_rank_38 : decode cIx_rank 38 = .ok (.ifCond .ne 7, 3) := by decide +kernel
theorem dIx_rank_41 : decode cIx_rank 41 = .ok (.iload_n 3, 1) := by decide +kernel
theorem dIx_rank_42 : decode cIx_rank 42 = .ok (.goto 5, 3) := by decide +kernel
theorem dIx_rank_45 : decode cIx_rank 45 = .ok (.iload 4, 2) := by decide +kernel
theorem dIx_rank_47 : decode cIx_rank 47 = .ok (.iload 5, 2) := by decide +kernel
theorem dIx_rank_49 : decode cIx_rank 49 = .ok (.idiv, 1) := by decide +kernel
theorem dIx_rank_50 : decode cIx_rank 50 = .ok (.i2l, 1) := by decide +kernel
theorem dIx_rank_51 : decode cIx_rank 51 = .ok (.lreturn, 1) := by decide +kernel
theorem dIx_term_0 : decode cIx_term 0 = .ok (.aload_n 0, 1) := by decide +kernel
theorem dIx_term_1 : decode cIx_term 1 = .ok (.iload_n 1, 1) := by decide +kernel
theorem dIx_term_2 : decode cIx_term 2 = .ok (.invokevirtual 138, 3) := by decide +kernel
theorem dIx_term_5 : decode cIx_term 5 = .ok (.aload_n 0, 1) := by decide +kernel
theorem dIx_term_6 : decode cIx_term 6 = .ok (.getfield 52, 3) := by decide +kernel
theorem dIx_term_9 : decode cIx_term 9 = .ok (.iload_n 2, 1) := by decide +kernel
theorem dIx_term_10 : decode cIx_term 10 = .ok (.invokevirtual 141, 3) := by decide +kernel
theorem dIx_term_13 : decode cIx_term 13 = .ok (.lstore 4, 2) := by decide +kernel
theorem dIx_term_15 : decode cIx_term 15 = .ok (.lload 4, 2) := by decide +kernel
theorem dIx_term_17 : decode cIx_term 17 = .ok (.lconst 0, 1) := by decide +kernel
theorem dIx_term_18 : decode cIx_term 18 = .ok (.lcmp, 1) := by decide +kernel
theorem dIx_term_19 : decode cIx_term 19 = .ok (.ifCond .eq 7, 3) := by decide +kernel
theorem dIx_term_22 : decode cIx_term 22 = .ok (.iload_n 3, 1) := by decide +kernel
theorem dIx_term_23 : decode cIx_term 23 = .ok (.ifCond .ge 5, 3) := by decide +kernel
theorem dIx_term_26 : decode cIx_term 26 = .ok (.iconst (-1), 1) := by decide +kernel
theorem dIx_term_27 : decode cIx_term 27 = .ok (.ireturn, 1) := by decide +kernel
theorem dIx_term_28 : decode cIx_term 28 = .ok (.lload 4, 2) := by decide +kernel
theorem dIx_term_30 : decode cIx_term 30 = .ok (.iload_n 3, 1) := by decide +kernel
theorem dIx_term_31 : decode cIx_term 31 = .ok (.invokestatic 142, 3) := by decide +kernel
theorem dIx_term_34 : decode cIx_term 34 = .ok (.ireturn, 1) := by decide +kernel
theorem mm_288 : (.code yIx_startSearch cIx_startSearch 2 none : Cond) ∈ hwG := hwIx 247 (by decide +kernel) (by decide +kernel)
theorem mm_289 : (.methodLink RIx 84 yIx_startSearch : Cond) ∈ hwG := hwIx 244 (by decide +kernel) (by decide +kernel)
theorem mm_290 : (.instanceMethod yIx_startSearch : Cond) ∈ hwG := hwIx 246 (by decide +kernel) (by decide +kernel)
theorem mm_291 : (.selects RIx yIx_startSearch yIx_startSearch : Cond) ∈ hwG := hwIx 3 (by decide +kernel) (by decide +kernel)
theorem mm_292 : (.classLink RIx 87 RAllSearch : Cond) ∈ hwG := hwIx 305 (by decide +kernel) (by decide +kernel)
theorem mm_293 : (.instantiable RAllSearch 1 : Cond) ∈ hwG := hwIx 306 (by decide +kernel) (by decide +kernel)
theorem mm_294 : (.code yAllSearch_init cAllSearch_init 2 none : Cond) ∈ hwG := hwIx 309 (by decide +kernel) (by decide +kernel)
theorem mm_295 : (.methodLink RIx 89 yAllSearch_init : Cond) ∈ hwG := hwIx 307 (by decide +kernel) (by decide +kernel)
theorem mm_296 : (.instanceMethod yAllSearch_init : Cond) ∈ hwG := hwIx 308 (by decide +kernel) (by decide +kernel)
theorem mm_297 : (.code yIx_gather cIx_gather 5 (some .int) : Cond) ∈ hwG := hwIx 321 (by decide +kernel) (by decide +kernel)
theorem mm_298 : (.methodLink RIx 92 yIx_gather : Cond) ∈ hwG := hwIx 318 (by decide +kernel) (by decide +kernel)
theorem mm_299 : (.instanceMethod yIx_gather : Cond) ∈ hwG := hwIx 320 (by decide +kernel) (by decide +kernel)
theorem mm_300 : (.selects RIx yIx_gather yIx_gather : Cond) ∈ hwG := hwIx 6 (by decide +kernel) (by decide +kernel)
theorem mm_301 : (.classLink RIx 96 RPhraseSearch : Cond) ∈ hwG := hwIx 433 (by decide +kernel) (by decide +kernel)
theorem mm_302 : (.instantiable RPhraseSearch 1 : Cond) ∈ hwG := hwIx 398 (by decide +kernel) (by decide +kernel)
theorem mm_303 : (.code yPhraseSearch_init cPhraseSearch_init 2 none : Cond) ∈ hwG := hwIx 436 (by decide +kernel) (by decide +kernel)
theorem mm_304 : (.methodLink RIx 98 yPhraseSearch_init : Cond) ∈ hwG := hwIx 434 (by decide +kernel) (by decide +kernel)
theorem mm_305 : (.instanceMethod yPhraseSearch_init : Cond) ∈ hwG := hwIx 435 (by decide +kernel) (by decide +kernel)
theorem mm_306 : (.classLink RIx 103 RNearSearch : Cond) ∈ hwG := hwIx 447 (by decide +kernel) (by decide +kernel)
theorem mm_307 : (.instantiable RNearSearch 3 : Cond) ∈ hwG := hwIx 386 (by decide +kernel) (by decide +kernel)
theorem mm_308 : (.code yNearSearch_init cNearSearch_init 6 none : Cond) ∈ hwG := hwIx 450 (by decide +kernel) (by decide +kernel)
theorem mm_309 : (.methodLink RIx 105 yNearSearch_init : Cond) ∈ hwG := hwIx 448 (by decide +kernel) (by decide +kernel)
theorem mm_310 : (.instanceMethod yNearSearch_init : Cond) ∈ hwG := hwIx 449 (by decide +kernel) (by decide +kernel)
theorem mm_311 : (.methodLink RIx 108 yText_wordAt : Cond) ∈ hwG := hwIx 466 (by decide +kernel) (by decide +kernel)
theorem mm_312 : (.classLink RIx 117 RWildSearch : Cond) ∈ hwG := hwIx 468 (by decide +kernel) (by decide +kernel)
theorem mm_313 : (.instantiable RWildSearch 2 : Cond) ∈ hwG := hwIx 469 (by decide +kernel) (by decide +kernel)
theorem mm_314 : (.code yWildSearch_init cWildSearch_init 4 none : Cond) ∈ hwG := hwIx 472 (by decide +kernel) (by decide +kernel)
theorem mm_315 : (.methodLink RIx 119 yWildSearch_init : Cond) ∈ hwG := hwIx 470 (by decide +kernel) (by decide +kernel)
theorem mm_316 : (.instanceMethod yWildSearch_init : Cond) ∈ hwG := hwIx 471 (by decide +kernel) (by decide +kernel)
theorem mm_317 : (.methodLink RIx 111 yWord_length : Cond) ∈ hwG := hwIx 467 (by decide +kernel) (by decide +kernel)
theorem mm_318 : (.methodLink RIx 126 yHits_countAt : Cond) ∈ hwG := hwIx 489 (by decide +kernel) (by decide +kernel)
theorem mm_319 : (.code yHits_numberAt cHits_numberAt 2 (some .int) : Cond) ∈ hwG := hwIx 488 (by decide +kernel) (by decide +kernel)
theorem mm_320 : (.methodLink RIx 122 yHits_numberAt : Cond) ∈ hwG := hwIx 485 (by decide +kernel) (by decide +kernel)
theorem mm_321 : (.instanceMethod yHits_numberAt : Cond) ∈ hwG := hwIx 486 (by decide +kernel) (by decide +kernel)
theorem mm_322 : (.selects RHits yHits_numberAt yHits_numberAt : Cond) ∈ hwG := hwIx 487 (by decide +kernel) (by decide +kernel)
theorem mm_323 : (.methodLink RIx 129 yHits_sizeAt : Cond) ∈ hwG := hwIx 494 (by decide +kernel) (by decide +kernel)
theorem mm_324 : (.code yIx_commonDivisor cIx_commonDivisor 3 (some .int) : Cond) ∈ hwG := hwIx 497 (by decide +kernel) (by decide +kernel)
theorem mm_325 : (.static yIx_commonDivisor : Cond) ∈ hwG := hwIx 496 (by decide +kernel) (by decide +kernel)
theorem mm_326 : (.methodLink RIx 132 yIx_commonDivisor : Cond) ∈ hwG := hwIx 495 (by decide +kernel) (by decide +kernel)
theorem mm_327 : (.constantLong RIx 136 (-1) : Cond) ∈ hwG := hwIx 499 (by decide +kernel) (by decide +kernel)
theorem mm_328 : (.code yIx_listTerms cIx_listTerms 3 none : Cond) ∈ hwG := hwIx 507 (by decide +kernel) (by decide +kernel)
theorem mm_329 : (.methodLink RIx 138 yIx_listTerms : Cond) ∈ hwG := hwIx 504 (by decide +kernel) (by decide +kernel)
theorem mm_330 : (.instanceMethod yIx_listTerms : Cond) ∈ hwG := hwIx 506 (by decide +kernel) (by decide +kernel)
theorem mm_331 : (.selects RIx yIx_listTerms yIx_listTerms : Cond) ∈ hwG := hwIx 12 (by decide +kernel) (by decide +kernel)
theorem mm_332 : (.methodLink RIx 141 yWordSet_at : Cond) ∈ hwG := hwIx 521 (by decide +kernel) (by decide +kernel)
theorem mm_333 : (.code yWord_signAt cWord_signAt 4 (some .int) : Cond) ∈ hwG := hwIx 524 (by decide +kernel) (by decide +kernel)
theorem mm_334 : (.static yWord_signAt : Cond) ∈ hwG := hwIx 523 (by decide +kernel) (by decide +kernel)
theorem mm_335 : (.methodLink RIx 142 yWord_signAt : Cond) ∈ hwG := hwIx 522 (by decide +kernel) (by decide +kernel)
set_option maxHeartbeats 4000000 in
set_option maxRecDepth 100000 in
theorem p_ask (l : Launch) (D : va_G) (K : Nat → ClassId) (X : hwW) (sz : Nat) (a : Nat) (its : hwIt) (fs : Nat) (lg : Nat → Nat) (qw : List (List Nat)) (qo : Nat) (qs : Nat) (ss : List (List Nat)) (hs : List (Nat × Nat × Nat)) (kk : Int32) (f0_ : ixAt K X a its fs lg qw qo qs ss hs) (ok : okS its fs lg qw qo qs ss) : Met l yIx_ask (.code yIx_ask cIx_ask 2 (some .int) :: hwG) ({ frames := 7, cells := 1, slots := 1, locals := 162 } : Room) (hwPc D vwCl (hwT K) [.ref a, .int kk] X sz) (hwQi D vwCl X sz (fun r Y => r = nI (askS (fun j => hsA (qw.map (trm (lg j) ss)) (Tf its lg ss j) its.length) kk).length ∧ hwF X Y (fun M => M < 1000) ∧ ixAt K Y a its fs lg [] 0 0 ss (askS (fun j => hsA (qw.map (trm (lg j) ss)) (Tf its lg ss j) its.length) kk))) 1 1 (va_A X.1 sz) := by
  refine hwMeti (cc := cIx_ask) (maxL := 2) (by decide) rfl (Nat.le_of_ble_eq_true rfl) (fun p e s m args below meth c ls A Q hx hb hml hown hts hname hret hK hO hZ hA hl => ?_)
  have hl : lv_has ls 2 [(0, .ref a), (1, .int kk)] := hl
  have hFr : hwF X X (fun M => M < 1000) := hwF.rf
  obtain ⟨hni3, hTG, hfs, hlg, hsss, hqG, hq2, hqs⟩ := ok
  have hok := okIt_of hTG hfs
  have hq50 : qw.length ≤ 50 := by split at hq2 <;> omega
  have hne := hqG.1
  obtain ⟨b0, b1, b2, b3, b4, b5, b6, b7, b8, fi, fl, ta, tf, tl, fc, gx, gi, gt, gl, hfl, gq, gs, gh, ga, gf, gk, gc⟩ := f0_
  have hQ2 := fun j => okWs.at (txAt.oks gq) j
  have hQ0 := (hQ2 0).1
  rcases kN_cases kk with hk | ⟨j, hj, rfl⟩
  · refine lv_aload_n hx hb dIx_ask_0 rfl (lv_at hl 0 rfl) ?_
    refine lv_iload_n hx hb dIx_ask_1 rfl (lv_at hl 1 rfl) ?_
    refine hw_callv (va_runV (As := [.int kk]) (rest := []) ⟨hx, hb, hml, hown, hts⟩ (c_Ix_startB l D K X s.heap.size (a := a) (b0 := b0) (b1 := b1) (b2 := b2) (b3 := b3) (b4 := b4) (b5 := b5) (b6 := b6) (b7 := b7) (b8 := b8) (ni := its.length) (fs := fs) (qs := qs) (hs := hs) (ta := ta) (qw := qw) (qo := qo) (kind := kk) gx gh ga gq (by assumption)) (cwV 1 hts (hwGood (hw_4 mm_289 mm_290 mm_291 mm_188 (hwAll mm_288))) rfl rfl rfl (by decide +kernel) ⟨Nat.le_of_ble_eq_true rfl, Nat.le_of_ble_eq_true rfl⟩) (hw_preV hK hO hZ (⟨_, _, gx⟩) rfl) rfl rfl hl.1 rfl (lv_room (Nat.le_of_ble_eq_true rfl)) dIx_ask_2 ⟨(show 0 + 0 ≤ 1 by omega), (show 0 + 0 ≤ 1 by omega)⟩) hZ hA (fun X_1 H_2 lc_3 hp hZ => ?_)
    obtain ⟨hF, hN_4, hN_5, hN_6, hN_7⟩ := hp
    have hFr := hwF.tr hFr hF (fun _ h => h) (fun M h => by first | exact False.elim h | ((try dsimp only at h ⊢); omega))
    have gi := hF _ _ _ (by intro hNS; first | exact False.elim hNS | ((try dsimp only at hNS); omega)) gi
    have gt := itsAt.fr hF (fun M h1 h2 hNS => by first | exact False.elim hNS | ((try dsimp only at hNS); omega)) gt
    have gl := hF _ _ _ (by intro hNS; first | exact False.elim hNS | ((try dsimp only at hNS); omega)) gl
    have gs := seAt.fr hF (by intro hNS; first | exact False.elim hNS | ((try dsimp only at hNS); omega)) (by intro hNS; first | exact False.elim hNS | ((try dsimp only at hNS); omega)) gs
    have gf := tmAt.fr hF (by intro hNS; first | exact False.elim hNS | ((try dsimp only at hNS); omega)) (by intro hNS; first | exact False.elim hNS | ((try dsimp only at hNS); omega)) gf
    have gk := seAt.fr hF (by intro hNS; first | exact False.elim hNS | ((try dsimp only at hNS); omega)) (by intro hNS; first | exact False.elim hNS | ((try dsimp only at hNS); omega)) gk
    have gc := hF _ _ _ (by intro hNS; first | exact False.elim hNS | ((try dsimp only at hNS); omega)) gc
    have ff_8 := hN_4
    have ff_9 := hN_5
    have ff_10 := hN_6
    have ff_11 := hN_7
    have hT2 := fun j => okWs.at (tmAt.oks ff_10) j
    have hz0 : eW (([] : List (List Nat)).getD 0 []) = 0 := rfl
    have hz1 : eW (([] : List (List Nat)).getD 1 []) = 0 := rfl
    refine lv_aload_n hx hb dIx_ask_5 rfl (lv_at hl 0 rfl) ?_
    refine lv_iload_n hx hb dIx_ask_6 rfl (lv_at hl 1 rfl) ?_
    refine hw_new (ci := 6) (fs := [.null]) hx hb hts (hwInn inAllSearch) tyAllSearch tyAllSearch_ok hown (hts (.classLink RIx 87 RAllSearch) (hwMem mm_292)) (hts (.instantiable RAllSearch 1) (hwMem mm_293)) (hts (.initialized RAllSearch) (hwMem mm_139)) hK hZ hA rfl (fun j hj => by obtain rfl : j = 0 := (by omega); rfl) (show 0 + 1 ≤ 1 by omega) (show 0 + 1 ≤ 1 by omega) dIx_ask_7 52 (fun qq_12 X_13 H_14 hZ hF hNw => ?_)
    have hFr := hwF.tr hFr hF (fun _ h => h) (fun M h => by first | exact False.elim h | ((try dsimp only at h ⊢); omega))
    have gi := hF _ _ _ (by intro hNS; first | exact False.elim hNS | ((try dsimp only at hNS); omega)) gi
    have gt := itsAt.fr hF (fun M h1 h2 hNS => by first | exact False.elim hNS | ((try dsimp only at hNS); omega)) gt
    have gl := hF _ _ _ (by intro hNS; first | exact False.elim hNS | ((try dsimp only at hNS); omega)) gl
    have gs := seAt.fr hF (by intro hNS; first | exact False.elim hNS | ((try dsimp only at hNS); omega)) (by intro hNS; first | exact False.elim hNS | ((try dsimp only at hNS); omega)) gs
    have gf := tmAt.fr hF (by intro hNS; first | exact False.elim hNS | ((try dsimp only at hNS); omega)) (by intro hNS; first | exact False.elim hNS | ((try dsimp only at hNS); omega)) gf
    have gk := seAt.fr hF (by intro hNS; first | exact False.elim hNS | ((try dsimp only at hNS); omega)) (by intro hNS; first | exact False.elim hNS | ((try dsimp only at hNS); omega)) gk
    have gc := hF _ _ _ (by intro hNS; first | exact False.elim hNS | ((try dsimp only at hNS); omega)) gc
    have ff_8 := hF _ _ _ (by intro hNS; first | exact False.elim hNS | ((try dsimp only at hNS); omega)) ff_8
    have ff_9 := hiAt.fr hF (by intro hNS; first | exact False.elim hNS | ((try dsimp only at hNS); omega)) (by intro hNS; first | exact False.elim hNS | ((try dsimp only at hNS); omega)) (by intro hNS; first | exact False.elim hNS | ((try dsimp only at hNS); omega)) (by intro hNS; first | exact False.elim hNS | ((try dsimp only at hNS); omega)) ff_9
    have ff_10 := tmAt.fr hF (by intro hNS; first | exact False.elim hNS | ((try dsimp only at hNS); omega)) (by intro hNS; first | exact False.elim hNS | ((try dsimp only at hNS); omega)) ff_10
    have ff_11 := txAt.fr hF (by intro hNS; first | exact False.elim hNS | ((try dsimp only at hNS); omega)) (by intro hNS; first | exact False.elim hNS | ((try dsimp only at hNS); omega)) ff_11
    have ff_16 := hNw
    refine lv_dup hx hb dIx_ask_10 rfl ?_
    refine lv_aload_n hx hb dIx_ask_11 rfl (lv_at hl 0 rfl) ?_
    refine hw_get hx hb hts (hwInn inIx) hown hK hZ ff_8 rfl 8 (by decide) (hts (.fieldLink RIx 45 RIx "asked" "LWordIndex2$Terms;") (hwMem mm_254)) (fun _ h => h) rfl dIx_ask_12 ?_
    refine hw_callv (va_runI (As := [.ref b5]) (rest := [.ref qq_12, .int kk, .ref a]) ⟨hx, hb, hml, hown, hts⟩ (c_AllSearch_init l D K X_13 H_14.size (o := qq_12) (L := 52) (a := b5) ff_16) (cwI 1 hts (hwGood (hwAll mm_294)) rfl rfl rfl (hts (.initialized RAllSearch) (hwMem mm_139)) (hts (.methodLink RIx 89 yAllSearch_init) (hwMem mm_295)) (hts (.instanceMethod yAllSearch_init) (hwMem mm_296)) rfl (by decide +kernel) ⟨Nat.le_of_ble_eq_true rfl, Nat.le_of_ble_eq_true rfl⟩) (hw_preS hK hO hZ) rfl rfl hl.1 rfl (lv_room (Nat.le_of_ble_eq_true rfl)) dIx_ask_15 ⟨(show 1 + 0 ≤ 1 by omega), (show (0 + 1) + 0 ≤ 1 by omega)⟩) hZ hA (fun X_17 H_18 lc_19 hp hZ => ?_)
    obtain ⟨hF, hN_20⟩ := hp
    have hFr := hwF.tr hFr hF (fun _ h => h) (fun M h => by first | exact False.elim h | ((try dsimp only at h ⊢); omega))
    have gi := hF _ _ _ (by intro hNS; first | exact False.elim hNS | ((try dsimp only at hNS); omega)) gi
    have gt := itsAt.fr hF (fun M h1 h2 hNS => by first | exact False.elim hNS | ((try dsimp only at hNS); omega)) gt
    have gl := hF _ _ _ (by intro hNS; first | exact False.elim hNS | ((try dsimp only at hNS); omega)) gl
    have gs := seAt.fr hF (by intro hNS; first | exact False.elim hNS | ((try dsimp only at hNS); omega)) (by intro hNS; first | exact False.elim hNS | ((try dsimp only at hNS); omega)) gs
    have gf := tmAt.fr hF (by intro hNS; first | exact False.elim hNS | ((try dsimp only at hNS); omega)) (by intro hNS; first | exact False.elim hNS | ((try dsimp only at hNS); omega)) gf
    have gk := seAt.fr hF (by intro hNS; first | exact False.elim hNS | ((try dsimp only at hNS); omega)) (by intro hNS; first | exact False.elim hNS | ((try dsimp only at hNS); omega)) gk
    have gc := hF _ _ _ (by intro hNS; first | exact False.elim hNS | ((try dsimp only at hNS); omega)) gc
    have ff_8 := hF _ _ _ (by intro hNS; first | exact False.elim hNS | ((try dsimp only at hNS); omega)) ff_8
    have ff_9 := hiAt.fr hF (by intro hNS; first | exact False.elim hNS | ((try dsimp only at hNS); omega)) (by intro hNS; first | exact False.elim hNS | ((try dsimp only at hNS); omega)) (by intro hNS; first | exact False.elim hNS | ((try dsimp only at hNS); omega)) (by intro hNS; first | exact False.elim hNS | ((try dsimp only at hNS); omega)) ff_9
    have ff_10 := tmAt.fr hF (by intro hNS; first | exact False.elim hNS | ((try dsimp only at hNS); omega)) (by intro hNS; first | exact False.elim hNS | ((try dsimp only at hNS); omega)) ff_10
    have ff_11 := txAt.fr hF (by intro hNS; first | exact False.elim hNS | ((try dsimp only at hNS); omega)) (by intro hNS; first | exact False.elim hNS | ((try dsimp only at hNS); omega)) ff_11
    have ff_21 := hN_20
    refine hw_calli (va_runV (As := [.int kk, .ref qq_12]) (rest := []) ⟨hx, hb, hml, hown, hts⟩ (c_Ix_gatherK l D K X_17 H_18.size (a := a) (b0 := b0) (b1 := b1) (b2 := b2) (b3 := b3) (b4 := b4) (b5 := b5) (b6 := b6) (b7 := b7) (b8 := b8) (ni := its.length) (fs := fs) (qs := 0) (fi := fi) (its := its) (hs0 := []) (so := qq_12) (kind := kk) ff_8 gi gt ff_9 (by omega) (by omega) (by assumption)) (cwV 2 hts (hwGood (hw_4 mm_298 mm_299 mm_300 mm_188 (hwAll mm_297))) rfl rfl rfl (by decide +kernel) ⟨Nat.le_of_ble_eq_true rfl, Nat.le_of_ble_eq_true rfl⟩) (hw_preV hK hO hZ (⟨_, _, ff_8⟩) rfl) rfl rfl hl.1 rfl (lv_room (Nat.le_of_ble_eq_true rfl)) dIx_ask_18 ⟨(show 1 + 0 ≤ 1 by omega), (show (0 + 1) + 0 ≤ 1 by omega)⟩) hZ hA (fun r X_22 H_23 lc_24 hp hZ => ?_)
    obtain ⟨hr, hy⟩ := hp
    subst hy
    refine hw_topi hr ?_
    refine W.widen (k := 1) (n := 1) (by omega) (by omega) ?_
    exact hret hZ (by rw [askS_b (kN_bad hk)]; exact ⟨rfl, hFr, ⟨_, _, _, _, _, _, _, _, _, _, _, _, _, _, _, ff_8, gi, gt, gl, hfl, ff_11, gs, ff_9, ff_10, gf, gk, gc⟩⟩) dIx_ask_21
  · refine lv_aload_n hx hb dIx_ask_0 rfl (lv_at hl 0 rfl) ?_
    refine lv_iload_n hx hb dIx_ask_1 rfl (lv_at hl 1 rfl) ?_
    refine hw_callv (va_runV (As := [.int (nI j)]) (rest := []) ⟨hx, hb, hml, hown, hts⟩ (c_Ix_start l D K X s.heap.size (a := a) (b0 := b0) (b1 := b1) (b2 := b2) (b3 := b3) (b4 := b4) (b5 := b5) (b6 := b6) (b7 := b7) (b8 := b8) (ni := its.length) (fs := fs) (qs := qs) (fl := fl) (lg := lg) (hs := hs) (ta := ta) (qw := qw) (qo := qo) (ss := ss) (j := j) gx gl gh ga gq gs (by omega) (by assumption) (by assumption) (by omega) (by assumption) (by assumption)) (cwV 1 hts (hwGood (hw_4 mm_289 mm_290 mm_291 mm_188 (hwAll mm_288))) rfl rfl rfl (by decide +kernel) ⟨Nat.le_of_ble_eq_true rfl, Nat.le_of_ble_eq_true rfl⟩) (hw_preV hK hO hZ (⟨_, _, gx⟩) rfl) rfl rfl hl.1 rfl (lv_room (Nat.le_of_ble_eq_true rfl)) dIx_ask_2 ⟨(show 0 + 0 ≤ 1 by omega), (show 0 + 0 ≤ 1 by omega)⟩) hZ hA (fun X_25 H_26 lc_27 hp hZ => ?_)
    obtain ⟨hF, hN_28, hN_29, hN_30, hN_31⟩ := hp
    have hFr := hwF.tr hFr hF (fun _ h => h) (fun M h => by first | exact False.elim h | ((try dsimp only at h ⊢); omega))
    have gi := hF _ _ _ (by intro hNS; first | exact False.elim hNS | ((try dsimp only at hNS); omega)) gi
    have gt := itsAt.fr hF (fun M h1 h2 hNS => by first | exact False.elim hNS | ((try dsimp only at hNS); omega)) gt
    have gl := hF _ _ _ (by intro hNS; first | exact False.elim hNS | ((try dsimp only at hNS); omega)) gl
    have gs := seAt.fr hF (by intro hNS; first | exact False.elim hNS | ((try dsimp only at hNS); omega)) (by intro hNS; first | exact False.elim hNS | ((try dsimp only at hNS); omega)) gs
    have gf := tmAt.fr hF (by intro hNS; first | exact False.elim hNS | ((try dsimp only at hNS); omega)) (by intro hNS; first | exact False.elim hNS | ((try dsimp only at hNS); omega)) gf
    have gk := seAt.fr hF (by intro hNS; first | exact False.elim hNS | ((try dsimp only at hNS); omega)) (by intro hNS; first | exact False.elim hNS | ((try dsimp only at hNS); omega)) gk
    have gc := hF _ _ _ (by intro hNS; first | exact False.elim hNS | ((try dsimp only at hNS); omega)) gc
    have ff_32 := hN_28
    have ff_33 := hN_29
    have ff_34 := hN_30
    have ff_35 := hN_31
    have hT2 := fun j => okWs.at (tmAt.oks ff_34) j
    refine lv_aload_n hx hb dIx_ask_5 rfl (lv_at hl 0 rfl) ?_
    refine lv_iload_n hx hb dIx_ask_6 rfl (lv_at hl 1 rfl) ?_
    refine hw_new (ci := 6) (fs := [.null]) hx hb hts (hwInn inAllSearch) tyAllSearch tyAllSearch_ok hown (hts (.classLink RIx 87 RAllSearch) (hwMem mm_292)) (hts (.instantiable RAllSearch 1) (hwMem mm_293)) (hts (.initialized RAllSearch) (hwMem mm_139)) hK hZ hA rfl (fun j hj => by obtain rfl : j = 0 := (by omega); rfl) (show 0 + 1 ≤ 1 by omega) (show 0 + 1 ≤ 1 by omega) dIx_ask_7 52 (fun qq_36 X_37 H_38 hZ hF hNw => ?_)
    have hFr := hwF.tr hFr hF (fun _ h => h) (fun M h => by first | exact False.elim h | ((try dsimp only at h ⊢); omega))
    have gi := hF _ _ _ (by intro hNS; first | exact False.elim hNS | ((try dsimp only at hNS); omega)) gi
    have gt := itsAt.fr hF (fun M h1 h2 hNS => by first | exact False.elim hNS | ((try dsimp only at hNS); omega)) gt
    have gl := hF _ _ _ (by intro hNS; first | exact False.elim hNS | ((try dsimp only at hNS); omega)) gl
    have gs := seAt.fr hF (by intro hNS; first | exact False.elim hNS | ((try dsimp only at hNS); omega)) (by intro hNS; first | exact False.elim hNS | ((try dsimp only at hNS); omega)) gs
    have gf := tmAt.fr hF (by intro hNS; first | exact False.elim hNS | ((try dsimp only at hNS); omega)) (by intro hNS; first | exact False.elim hNS | ((try dsimp only at hNS); omega)) gf
    have gk := seAt.fr hF (by intro hNS; first | exact False.elim hNS | ((try dsimp only at hNS); omega)) (by intro hNS; first | exact False.elim hNS | ((try dsimp only at hNS); omega)) gk
    have gc := hF _ _ _ (by intro hNS; first | exact False.elim hNS | ((try dsimp only at hNS); omega)) gc
    have ff_32 := hF _ _ _ (by intro hNS; first | exact False.elim hNS | ((try dsimp only at hNS); omega)) ff_32
    have ff_33 := hiAt.fr hF (by intro hNS; first | exact False.elim hNS | ((try dsimp only at hNS); omega)) (by intro hNS; first | exact False.elim hNS | ((try dsimp only at hNS); omega)) (by intro hNS; first | exact False.elim hNS | ((try dsimp only at hNS); omega)) (by intro hNS; first | exact False.elim hNS | ((try dsimp only at hNS); omega)) ff_33
    have ff_34 := tmAt.fr hF (by intro hNS; first | exact False.elim hNS | ((try dsimp only at hNS); omega)) (by intro hNS; first | exact False.elim hNS | ((try dsimp only at hNS); omega)) ff_34
    have ff_35 := txAt.fr hF (by intro hNS; first | exact False.elim hNS | ((try dsimp only at hNS); omega)) (by intro hNS; first | exact False.elim hNS | ((try dsimp only at hNS); omega)) ff_35
    have ff_40 := hNw
    refine lv_dup hx hb dIx_ask_10 rfl ?_
    refine lv_aload_n hx hb dIx_ask_11 rfl (lv_at hl 0 rfl) ?_
    refine hw_get hx hb hts (hwInn inIx) hown hK hZ ff_32 rfl 8 (by decide) (hts (.fieldLink RIx 45 RIx "asked" "LWordIndex2$Terms;") (hwMem mm_254)) (fun _ h => h) rfl dIx_ask_12 ?_
    refine hw_callv (va_runI (As := [.ref b5]) (rest := [.ref qq_36, .int (nI j), .ref a]) ⟨hx, hb, hml, hown, hts⟩ (c_AllSearch_init l D K X_37 H_38.size (o := qq_36) (L := 52) (a := b5) ff_40) (cwI 1 hts (hwGood (hwAll mm_294)) rfl rfl rfl (hts (.initialized RAllSearch) (hwMem mm_139)) (hts (.methodLink RIx 89 yAllSearch_init) (hwMem mm_295)) (hts (.instanceMethod yAllSearch_init) (hwMem mm_296)) rfl (by decide +kernel) ⟨Nat.le_of_ble_eq_true rfl, Nat.le_of_ble_eq_true rfl⟩) (hw_preS hK hO hZ) rfl rfl hl.1 rfl (lv_room (Nat.le_of_ble_eq_true rfl)) dIx_ask_15 ⟨(show 1 + 0 ≤ 1 by omega), (show (0 + 1) + 0 ≤ 1 by omega)⟩) hZ hA (fun X_41 H_42 lc_43 hp hZ => ?_)
    obtain ⟨hF, hN_44⟩ := hp
    have hFr := hwF.tr hFr hF (fun _ h => h) (fun M h => by first | exact False.elim h | ((try dsimp only at h ⊢); omega))
    have gi := hF _ _ _ (by intro hNS; first | exact False.elim hNS | ((try dsimp only at hNS); omega)) gi
    have gt := itsAt.fr hF (fun M h1 h2 hNS => by first | exact False.elim hNS | ((try dsimp only at hNS); omega)) gt
    have gl := hF _ _ _ (by intro hNS; first | exact False.elim hNS | ((try dsimp only at hNS); omega)) gl
    have gs := seAt.fr hF (by intro hNS; first | exact False.elim hNS | ((try dsimp only at hNS); omega)) (by intro hNS; first | exact False.elim hNS | ((try dsimp only at hNS); omega)) gs
    have gf := tmAt.fr hF (by intro hNS; first | exact False.elim hNS | ((try dsimp only at hNS); omega)) (by intro hNS; first | exact False.elim hNS | ((try dsimp only at hNS); omega)) gf
    have gk := seAt.fr hF (by intro hNS; first | exact False.elim hNS | ((try dsimp only at hNS); omega)) (by intro hNS; first | exact False.elim hNS | ((try dsimp only at hNS); omega)) gk
    have gc := hF _ _ _ (by intro hNS; first | exact False.elim hNS | ((try dsimp only at hNS); omega)) gc
    have ff_32 := hF _ _ _ (by intro hNS; first | exact False.elim hNS | ((try dsimp only at hNS); omega)) ff_32
    have ff_33 := hiAt.fr hF (by intro hNS; first | exact False.elim hNS | ((try dsimp only at hNS); omega)) (by intro hNS; first | exact False.elim hNS | ((try dsimp only at hNS); omega)) (by intro hNS; first | exact False.elim hNS | ((try dsimp only at hNS); omega)) (by intro hNS; first | exact False.elim hNS | ((try dsimp only at hNS); omega)) ff_33
    have ff_34 := tmAt.fr hF (by intro hNS; first | exact False.elim hNS | ((try dsimp only at hNS); omega)) (by intro hNS; first | exact False.elim hNS | ((try dsimp only at hNS); omega)) ff_34
    have ff_35 := txAt.fr hF (by intro hNS; first | exact False.elim hNS | ((try dsimp only at hNS); omega)) (by intro hNS; first | exact False.elim hNS | ((try dsimp only at hNS); omega)) ff_35
    have ff_45 := hN_44
    refine hw_calli (va_runV (As := [.int (nI j), .ref qq_36]) (rest := []) ⟨hx, hb, hml, hown, hts⟩ (c_Ix_gatherAll l D K X_41 H_42.size (a := a) (b0 := b0) (b1 := b1) (b2 := b2) (b3 := b3) (b4 := b4) (b5 := b5) (b6 := b6) (b7 := b7) (b8 := b8) (ni := its.length) (fs := fs) (qs := 0) (fi := fi) (fl := fl) (its := its) (lg := lg) (tf := tf) (ss := ss) (hs0 := []) (so := qq_36) (Lo := 52) (ta := qw.map (trm (lg j) ss)) (j := j) ff_32 gi gt gl gf gs ff_33 ff_45 ff_34 (by omega) (by omega) (by omega) (by assumption) (by assumption) (by assumption) (by assumption) rfl rfl) (cwV 2 hts (hwGood (hw_4 mm_298 mm_299 mm_300 mm_188 (hwAll mm_297))) rfl rfl rfl (by decide +kernel) ⟨Nat.le_of_ble_eq_true rfl, Nat.le_of_ble_eq_true rfl⟩) (hw_preV hK hO hZ (⟨_, _, ff_32⟩) rfl) rfl rfl hl.1 rfl (lv_room (Nat.le_of_ble_eq_true rfl)) dIx_ask_18 ⟨(show 1 + 0 ≤ 1 by omega), (show (0 + 1) + 0 ≤ 1 by omega)⟩) hZ hA (fun r X_46 H_47 lc_48 hp hZ => ?_)
    obtain ⟨tz_49, hr, hF, hN_50, hN_51⟩ := hp
    have hFr := hwF.tr hFr hF (fun _ h => h) (fun M h => by first | exact False.elim h | ((try dsimp only at h ⊢); omega))
    have gi := hF _ _ _ (by intro hNS; first | exact False.elim hNS | ((try dsimp only at hNS); omega)) gi
    have gt := itsAt.fr hF (fun M h1 h2 hNS => by first | exact False.elim hNS | ((try dsimp only at hNS); omega)) gt
    have gl := hF _ _ _ (by intro hNS; first | exact False.elim hNS | ((try dsimp only at hNS); omega)) gl
    have gs := seAt.fr hF (by intro hNS; first | exact False.elim hNS | ((try dsimp only at hNS); omega)) (by intro hNS; first | exact False.elim hNS | ((try dsimp only at hNS); omega)) gs
    have gk := seAt.fr hF (by intro hNS; first | exact False.elim hNS | ((try dsimp only at hNS); omega)) (by intro hNS; first | exact False.elim hNS | ((try dsimp only at hNS); omega)) gk
    have gc := hF _ _ _ (by intro hNS; first | exact False.elim hNS | ((try dsimp only at hNS); omega)) gc
    have ff_32 := hF _ _ _ (by intro hNS; first | exact False.elim hNS | ((try dsimp only at hNS); omega)) ff_32
    have ff_34 := tmAt.fr hF (by intro hNS; first | exact False.elim hNS | ((try dsimp only at hNS); omega)) (by intro hNS; first | exact False.elim hNS | ((try dsimp only at hNS); omega)) ff_34
    have ff_35 := txAt.fr hF (by intro hNS; first | exact False.elim hNS | ((try dsimp only at hNS); omega)) (by intro hNS; first | exact False.elim hNS | ((try dsimp only at hNS); omega)) ff_35
    have ff_45 := hF _ _ _ (by intro hNS; first | exact False.elim hNS | ((try dsimp only at hNS); omega)) ff_45
    have ff_52 := hN_50
    have ff_53 := hN_51
    refine hw_topi hr ?_
    refine W.widen (k := 1) (n := 1) (by omega) (by omega) ?_
    exact hret hZ (by rw [askS_g (kN_nI hj)]; (try dsimp only); rw [hsA_c]; exact ⟨rfl, hFr, ⟨_, _, _, _, _, _, _, _, _, _, _, _, _, _, _, ff_32, gi, gt, gl, hfl, ff_35, gs, ff_53, ff_34, ff_52, gk, gc⟩⟩) dIx_ask_21
set_option maxHeartbeats 4000000 in
set_option maxRecDepth 100000 in
theorem p_phrase (l : Launch) (D : va_G) (K : Nat → ClassId) (X : hwW) (sz : Nat) (a : Nat) (its : hwIt) (fs : Nat) (lg : Nat → Nat) (qw : List (List Nat)) (qo : Nat) (qs : Nat) (ss : List (List Nat)) (hs : List (Nat × Nat × Nat)) (kk : Int32) (f0_ : ixAt K X a its fs lg qw qo qs ss hs) (ok : okS its fs lg qw qo qs ss) : Met l yIx_phrase (.code yIx_phrase cIx_phrase 2 (some .int) :: hwG) ({ frames := 7, cells := 1, slots := 1, locals := 162 } : Room) (hwPc D vwCl (hwT K) [.ref a, .int kk] X sz) (hwQi D vwCl X sz (fun r Y => r = nI (askS (fun j => hsP (qw.map (trm (lg j) ss)) (Tf its lg ss j) its.length) kk).length ∧ hwF X Y (fun M => M < 1000) ∧ ixAt K Y a its fs lg [] 0 0 ss (askS (fun j => hsP (qw.map (trm (lg j) ss)) (Tf its lg ss j) its.length) kk))) 1 1 (va_A X.1 sz) := by
  refine hwMeti (cc := cIx_phrase) (maxL := 2) (by decide) rfl (Nat.le_of_ble_eq_true rfl) (fun p e s m args below meth c ls A Q hx hb hml hown hts hname hret hK hO hZ hA hl => ?_)
  have hl : lv_has ls 2 [(0, .ref a), (1, .int kk)] := hl
  have hFr : hwF X X (fun M => M < 1000) := hwF.rf
  obtain ⟨hni3, hTG, hfs, hlg, hsss, hqG, hq2, hqs⟩ := ok
  have hok := okIt_of hTG hfs
  have hq50 : qw.length ≤ 50 := by split at hq2 <;> omega
  have hne := hqG.1
  obtain ⟨b0, b1, b2, b3, b4, b5, b6, b7, b8, fi, fl, ta, tf, tl, fc, gx, gi, gt, gl, hfl, gq, gs, gh, ga, gf, gk, gc⟩ := f0_
  have hQ2 := fun j => okWs.at (txAt.oks gq) j
  have hQ0 := (hQ2 0).1
  rcases kN_cases kk with hk | ⟨j, hj, rfl⟩
  · refine lv_aload_n hx hb dIx_phrase_0 rfl (lv_at hl 0 rfl) ?_
    refine lv_iload_n hx hb dIx_phrase_1 rfl (lv_at hl 1 rfl) ?_
    refine hw_callv (va_runV (As := [.int kk]) (rest := []) ⟨hx, hb, hml, hown, hts⟩ (c_Ix_startB l D K X s.heap.size (a := a) (b0 := b0) (b1 := b1) (b2 := b2) (b3 := b3) (b4 := b4) (b5 := b5) (b6 := b6) (b7 := b7) (b8 := b8) (ni := its.length) (fs := fs) (qs := qs) (hs := hs) (ta := ta) (qw := qw) (qo := qo) (kind := kk) gx gh ga gq (by assumption)) (cwV 1 hts (hwGood (hw_4 mm_289 mm_290 mm_291 mm_188 (hwAll mm_288))) rfl rfl rfl (by decide +kernel) ⟨Nat.le_of_ble_eq_true rfl, Nat.le_of_ble_eq_true rfl⟩) (hw_preV hK hO hZ (⟨_, _, gx⟩) rfl) rfl rfl hl.1 rfl (lv_room (Nat.le_of_ble_eq_true rfl)) dIx_phrase_2 ⟨(show 0 + 0 ≤ 1 by omega), (show 0 + 0 ≤ 1 by omega)⟩) hZ hA (fun X_1 H_2 lc_3 hp hZ => ?_)
    obtain ⟨hF, hN_4, hN_5, hN_6, hN_7⟩ := hp
    have hFr := hwF.tr hFr hF (fun _ h => h) (fun M h => by first | exact False.elim h | ((try dsimp only at h ⊢); omega))
    have gi := hF _ _ _ (by intro hNS; first | exact False.elim hNS | ((try dsimp only at hNS); omega)) gi
    have gt := itsAt.fr hF (fun M h1 h2 hNS => by first | exact False.elim hNS | ((try dsimp only at hNS); omega)) gt
    have gl := hF _ _ _ (by intro hNS; first | exact False.elim hNS | ((try dsimp only at hNS); omega)) gl
    have gs := seAt.fr hF (by intro hNS; first | exact False.elim hNS | ((try dsimp only at hNS); omega)) (by intro hNS; first | exact False.elim hNS | ((try dsimp only at hNS); omega)) gs
    have gf := tmAt.fr hF (by intro hNS; first | exact False.elim hNS | ((try dsimp only at hNS); omega)) (by intro hNS; first | exact False.elim hNS | ((try dsimp only at hNS); omega)) gf
    have gk := seAt.fr hF (by intro hNS; first | exact False.elim hNS | ((try dsimp only at hNS); omega)) (by intro hNS; first | exact False.elim hNS | ((try dsimp only at hNS); omega)) gk
    have gc := hF _ _ _ (by intro hNS; first | exact False.elim hNS | ((try dsimp only at hNS); omega)) gc
    have ff_8 := hN_4
    have ff_9 := hN_5
    have ff_10 := hN_6
    have ff_11 := hN_7
    have hT2 := fun j => okWs.at (tmAt.oks ff_10) j
    have hz0 : eW (([] : List (List Nat)).getD 0 []) = 0 := rfl
    have hz1 : eW (([] : List (List Nat)).getD 1 []) = 0 := rfl
    refine lv_aload_n hx hb dIx_phrase_5 rfl (lv_at hl 0 rfl) ?_
    refine lv_iload_n hx hb dIx_phrase_6 rfl (lv_at hl 1 rfl) ?_
    refine hw_new (ci := 7) (fs := [.null]) hx hb hts (hwInn inPhraseSearch) tyPhraseSearch tyPhraseSearch_ok hown (hts (.classLink RIx 96 RPhraseSearch) (hwMem mm_301)) (hts (.instantiable RPhraseSearch 1) (hwMem mm_302)) (hts (.initialized RPhraseSearch) (hwMem mm_143)) hK hZ hA rfl (fun j hj => by obtain rfl : j = 0 := (by omega); rfl) (show 0 + 1 ≤ 1 by omega) (show 0 + 1 ≤ 1 by omega) dIx_phrase_7 52 (fun qq_12 X_13 H_14 hZ hF hNw => ?_)
    have hFr := hwF.tr hFr hF (fun _ h => h) (fun M h => by first | exact False.elim h | ((try dsimp only at h ⊢); omega))
    have gi := hF _ _ _ (by intro hNS; first | exact False.elim hNS | ((try dsimp only at hNS); omega)) gi
    have gt := itsAt.fr hF (fun M h1 h2 hNS => by first | exact False.elim hNS | ((try dsimp only at hNS); omega)) gt
    have gl := hF _ _ _ (by intro hNS; first | exact False.elim hNS | ((try dsimp only at hNS); omega)) gl
    have gs := seAt.fr hF (by intro hNS; first | exact False.elim hNS | ((try dsimp only at hNS); omega)) (by intro hNS; first | exact False.elim hNS | ((try dsimp only at hNS); omega)) gs
    have gf := tmAt.fr hF (by intro hNS; first | exact False.elim hNS | ((try dsimp only at hNS); omega)) (by intro hNS; first | exact False.elim hNS | ((try dsimp only at hNS); omega)) gf
    have gk := seAt.fr hF (by intro hNS; first | exact False.elim hNS | ((try dsimp only at hNS); omega)) (by intro hNS; first | exact False.elim hNS | ((try dsimp only at hNS); omega)) gk
    have gc := hF _ _ _ (by intro hNS; first | exact False.elim hNS | ((try dsimp only at hNS); omega)) gc
    have ff_8 := hF _ _ _ (by intro hNS; first | exact False.elim hNS | ((try dsimp only at hNS); omega)) ff_8
    have ff_9 := hiAt.fr hF (by intro hNS; first | exact False.elim hNS | ((try dsimp only at hNS); omega)) (by intro hNS; first | exact False.elim hNS | ((try dsimp only at hNS); omega)) (by intro hNS; first | exact False.elim hNS | ((try dsimp only at hNS); omega)) (by intro hNS; first | exact False.elim hNS | ((try dsimp only at hNS); omega)) ff_9
    have ff_10 := tmAt.fr hF (by intro hNS; first | exact False.elim hNS | ((try dsimp only at hNS); omega)) (by intro hNS; first | exact False.elim hNS | ((try dsimp only at hNS); omega)) ff_10
    have ff_11 := txAt.fr hF (by intro hNS; first | exact False.elim hNS | ((try dsimp only at hNS); omega)) (by intro hNS; first | exact False.elim hNS | ((try dsimp only at hNS); omega)) ff_11
    have ff_16 := hNw
    refine lv_dup hx hb dIx_phrase_10 rfl ?_
    refine lv_aload_n hx hb dIx_phrase_11 rfl (lv_at hl 0 rfl) ?_
    refine hw_get hx hb hts (hwInn inIx) hown hK hZ ff_8 rfl 8 (by decide) (hts (.fieldLink RIx 45 RIx "asked" "LWordIndex2$Terms;") (hwMem mm_254)) (fun _ h => h) rfl dIx_phrase_12 ?_
    refine hw_callv (va_runI (As := [.ref b5]) (rest := [.ref qq_12, .int kk, .ref a]) ⟨hx, hb, hml, hown, hts⟩ (c_PhraseSearch_init l D K X_13 H_14.size (o := qq_12) (L := 52) (a := b5) ff_16) (cwI 1 hts (hwGood (hwAll mm_303)) rfl rfl rfl (hts (.initialized RPhraseSearch) (hwMem mm_143)) (hts (.methodLink RIx 98 yPhraseSearch_init) (hwMem mm_304)) (hts (.instanceMethod yPhraseSearch_init) (hwMem mm_305)) rfl (by decide +kernel) ⟨Nat.le_of_ble_eq_true rfl, Nat.le_of_ble_eq_true rfl⟩) (hw_preS hK hO hZ) rfl rfl hl.1 rfl (lv_room (Nat.le_of_ble_eq_true rfl)) dIx_phrase_15 ⟨(show 1 + 0 ≤ 1 by omega), (show (0 + 1) + 0 ≤ 1 by omega)⟩) hZ hA (fun X_17 H_18 lc_19 hp hZ => ?_)
    obtain ⟨hF, hN_20⟩ := hp
    have hFr := hwF.tr hFr hF (fun _ h => h) (fun M h => by first | exact False.elim h | ((try dsimp only at h ⊢); omega))
    have gi := hF _ _ _ (by intro hNS; first | exact False.elim hNS | ((try dsimp only at hNS); omega)) gi
    have gt := itsAt.fr hF (fun M h1 h2 hNS => by first | exact False.elim hNS | ((try dsimp only at hNS); omega)) gt
    have gl := hF _ _ _ (by intro hNS; first | exact False.elim hNS | ((try dsimp only at hNS); omega)) gl
    have gs := seAt.fr hF (by intro hNS; first | exact False.elim hNS | ((try dsimp only at hNS); omega)) (by intro hNS; first | exact False.elim hNS | ((try dsimp only at hNS); omega)) gs
    have gf := tmAt.fr hF (by intro hNS; first | exact False.elim hNS | ((try dsimp only at hNS); omega)) (by intro hNS; first | exact False.elim hNS | ((try dsimp only at hNS); omega)) gf
    have gk := seAt.fr hF (by intro hNS; first | exact False.elim hNS | ((try dsimp only at hNS); omega)) (by intro hNS; first | exact False.elim hNS | ((try dsimp only at hNS); omega)) gk
    have gc := hF _ _ _ (by intro hNS; first | exact False.elim hNS | ((try dsimp only at hNS); omega)) gc
    have ff_8 := hF _ _ _ (by intro hNS; first | exact False.elim hNS | ((try dsimp only at hNS); omega)) ff_8
    have ff_9 := hiAt.fr hF (by intro hNS; first | exact False.elim hNS | ((try dsimp only at hNS); omega)) (by intro hNS; first | exact False.elim hNS | ((try dsimp only at hNS); omega)) (by intro hNS; first | exact False.elim hNS | ((try dsimp only at hNS); omega)) (by intro hNS; first | exact False.elim hNS | ((try dsimp only at hNS); omega)) ff_9
    have ff_10 := tmAt.fr hF (by intro hNS; first | exact False.elim hNS | ((try dsimp only at hNS); omega)) (by intro hNS; first | exact False.elim hNS | ((try dsimp only at hNS); omega)) ff_10
    have ff_11 := txAt.fr hF (by intro hNS; first | exact False.elim hNS | ((try dsimp only at hNS); omega)) (by intro hNS; first | exact False.elim hNS | ((try dsimp only at hNS); omega)) ff_11
    have ff_21 := hN_20
    refine hw_calli (va_runV (As := [.int kk, .ref qq_12]) (rest := []) ⟨hx, hb, hml, hown, hts⟩ (c_Ix_gatherK l D K X_17 H_18.size (a := a) (b0 := b0) (b1 := b1) (b2 := b2) (b3 := b3) (b4 := b4) (b5 := b5) (b6 := b6) (b7 := b7) (b8 := b8) (ni := its.length) (fs := fs) (qs := 0) (fi := fi) (its := its) (hs0 := []) (so := qq_12) (kind := kk) ff_8 gi gt ff_9 (by omega) (by omega) (by assumption)) (cwV 2 hts (hwGood (hw_4 mm_298 mm_299 mm_300 mm_188 (hwAll mm_297))) rfl rfl rfl (by decide +kernel) ⟨Nat.le_of_ble_eq_true rfl, Nat.le_of_ble_eq_true rfl⟩) (hw_preV hK hO hZ (⟨_, _, ff_8⟩) rfl) rfl rfl hl.1 rfl (lv_room (Nat.le_of_ble_eq_true rfl)) dIx_phrase_18 ⟨(show 1 + 0 ≤ 1 by omega), (show (0 + 1) + 0 ≤ 1 by omega)⟩) hZ hA (fun r X_22 H_23 lc_24 hp hZ => ?_)
    obtain ⟨hr, hy⟩ := hp
    subst hy
    refine hw_topi hr ?_
    refine W.widen (k := 1) (n := 1) (by omega) (by omega) ?_
    exact hret hZ (by rw [askS_b (kN_bad hk)]; exact ⟨rfl, hFr, ⟨_, _, _, _, _, _, _, _, _, _, _, _, _, _, _, ff_8, gi, gt, gl, hfl, ff_11, gs, ff_9, ff_10, gf, gk, gc⟩⟩) dIx_phrase_21
  · refine lv_aload_n hx hb dIx_phrase_0 rfl (lv_at hl 0 rfl) ?_
    refine lv_iload_n hx hb dIx_phrase_1 rfl (lv_at hl 1 rfl) ?_
    refine hw_callv (va_runV (As := [.int (nI j)]) (rest := []) ⟨hx, hb, hml, hown, hts⟩ (c_Ix_start l D K X s.heap.size (a := a) (b0 := b0) (b1 := b1) (b2 := b2) (b3 := b3) (b4 := b4) (b5 := b5) (b6 := b6) (b7 := b7) (b8 := b8) (ni := its.length) (fs := fs) (qs := qs) (fl := fl) (lg := lg) (hs := hs) (ta := ta) (qw := qw) (qo := qo) (ss := ss) (j := j) gx gl gh ga gq gs (by omega) (by assumption) (by assumption) (by omega) (by assumption) (by assumption)) (cwV 1 hts (hwGood (hw_4 mm_289 mm_290 mm_291 mm_188 (hwAll mm_288))) rfl rfl rfl (by decide +kernel) ⟨Nat.le_of_ble_eq_true rfl, Nat.le_of_ble_eq_true rfl⟩) (hw_preV hK hO hZ (⟨_, _, gx⟩) rfl) rfl rfl hl.1 rfl (lv_room (Nat.le_of_ble_eq_true rfl)) dIx_phrase_2 ⟨(show 0 + 0 ≤ 1 by omega), (show 0 + 0 ≤ 1 by omega)⟩) hZ hA (fun X_25 H_26 lc_27 hp hZ => ?_)
    obtain ⟨hF, hN_28, hN_29, hN_30, hN_31⟩ := hp
    have hFr := hwF.tr hFr hF (fun _ h => h) (fun M h => by first | exact False.elim h | ((try dsimp only at h ⊢); omega))
    have gi := hF _ _ _ (by intro hNS; first | exact False.elim hNS | ((try dsimp only at hNS); omega)) gi
    have gt := itsAt.fr hF (fun M h1 h2 hNS => by first | exact False.elim hNS | ((try dsimp only at hNS); omega)) gt
    have gl := hF _ _ _ (by intro hNS; first | exact False.elim hNS | ((try dsimp only at hNS); omega)) gl
    have gs := seAt.fr hF (by intro hNS; first | exact False.elim hNS | ((try dsimp only at hNS); omega)) (by intro hNS; first | exact False.elim hNS | ((try dsimp only at hNS); omega)) gs
    have gf := tmAt.fr hF (by intro hNS; first | exact False.elim hNS | ((try dsimp only at hNS); omega)) (by intro hNS; first | exact False.elim hNS | ((try dsimp only at hNS); omega)) gf
    have gk := seAt.fr hF (by intro hNS; first | exact False.elim hNS | ((try dsimp only at hNS); omega)) (by intro hNS; first | exact False.elim hNS | ((try dsimp only at hNS); omega)) gk
    have gc := hF _ _ _ (by intro hNS; first | exact False.elim hNS | ((try dsimp only at hNS); omega)) gc
    have ff_32 := hN_28
    have ff_33 := hN_29
    have ff_34 := hN_30
    have ff_35 := hN_31
    have hT2 := fun j => okWs.at (tmAt.oks ff_34) j
    refine lv_aload_n hx hb dIx_phrase_5 rfl (lv_at hl 0 rfl) ?_
    refine lv_iload_n hx hb dIx_phrase_6 rfl (lv_at hl 1 rfl) ?_
    refine hw_new (ci := 7) (fs := [.null]) hx hb hts (hwInn inPhraseSearch) tyPhraseSearch tyPhraseSearch_ok hown (hts (.classLink RIx 96 RPhraseSearch) (hwMem mm_301)) (hts (.instantiable RPhraseSearch 1) (hwMem mm_302)) (hts (.initialized RPhraseSearch) (hwMem mm_143)) hK hZ hA rfl (fun j hj => by obtain rfl : j = 0 := (by omega); rfl) (show 0 + 1 ≤ 1 by omega) (show 0 + 1 ≤ 1 by omega) dIx_phrase_7 52 (fun qq_36 X_37 H_38 hZ hF hNw => ?_)
    have hFr := hwF.tr hFr hF (fun _ h => h) (fun M h => by first | exact False.elim h | ((try dsimp only at h ⊢); omega))
    have gi := hF _ _ _ (by intro hNS; first | exact False.elim hNS | ((try dsimp only at hNS); omega)) gi
    have gt := itsAt.fr hF (fun M h1 h2 hNS => by first | exact False.elim hNS | ((try dsimp only at hNS); omega)) gt
    have gl := hF _ _ _ (by intro hNS; first | exact False.elim hNS | ((try dsimp only at hNS); omega)) gl
    have gs := seAt.fr hF (by intro hNS; first | exact False.elim hNS | ((try dsimp only at hNS); omega)) (by intro hNS; first | exact False.elim hNS | ((try dsimp only at hNS); omega)) gs
    have gf := tmAt.fr hF (by intro hNS; first | exact False.elim hNS | ((try dsimp only at hNS); omega)) (by intro hNS; first | exact False.elim hNS | ((try dsimp only at hNS); omega)) gf
    have gk := seAt.fr hF (by intro hNS; first | exact False.elim hNS | ((try dsimp only at hNS); omega)) (by intro hNS; first | exact False.elim hNS | ((try dsimp only at hNS); omega)) gk
    have gc := hF _ _ _ (by intro hNS; first | exact False.elim hNS | ((try dsimp only at hNS); omega)) gc
    have ff_32 := hF _ _ _ (by intro hNS; first | exact False.elim hNS | ((try dsimp only at hNS); omega)) ff_32
    have ff_33 := hiAt.fr hF (by intro hNS; first | exact False.elim hNS | ((try dsimp only at hNS); omega)) (by intro hNS; first | exact False.elim hNS | ((try dsimp only at hNS); omega)) (by intro hNS; first | exact False.elim hNS | ((try dsimp only at hNS); omega)) (by intro hNS; first | exact False.elim hNS | ((try dsimp only at hNS); omega)) ff_33
    have ff_34 := tmAt.fr hF (by intro hNS; first | exact False.elim hNS | ((try dsimp only at hNS); omega)) (by intro hNS; first | exact False.elim hNS | ((try dsimp only at hNS); omega)) ff_34
    have ff_35 := txAt.fr hF (by intro hNS; first | exact False.elim hNS | ((try dsimp only at hNS); omega)) (by intro hNS; first | exact False.elim hNS | ((try dsimp only at hNS); omega)) ff_35
    have ff_40 := hNw
    refine lv_dup hx hb dIx_phrase_10 rfl ?_
    refine lv_aload_n hx hb dIx_phrase_11 rfl (lv_at hl 0 rfl) ?_
    refine hw_get hx hb hts (hwInn inIx) hown hK hZ ff_32 rfl 8 (by decide) (hts (.fieldLink RIx 45 RIx "asked" "LWordIndex2$Terms;") (hwMem mm_254)) (fun _ h => h) rfl dIx_phrase_12 ?_
    refine hw_callv (va_runI (As := [.ref b5]) (rest := [.ref qq_36, .int (nI j), .ref a]) ⟨hx, hb, hml, hown, hts⟩ (c_PhraseSearch_init l D K X_37 H_38.size (o := qq_36) (L := 52) (a := b5) ff_40) (cwI 1 hts (hwGood (hwAll mm_303)) rfl rfl rfl (hts (.initialized RPhraseSearch) (hwMem mm_143)) (hts (.methodLink RIx 98 yPhraseSearch_init) (hwMem mm_304)) (hts (.instanceMethod yPhraseSearch_init) (hwMem mm_305)) rfl (by decide +kernel) ⟨Nat.le_of_ble_eq_true rfl, Nat.le_of_ble_eq_true rfl⟩) (hw_preS hK hO hZ) rfl rfl hl.1 rfl (lv_room (Nat.le_of_ble_eq_true rfl)) dIx_phrase_15 ⟨(show 1 + 0 ≤ 1 by omega), (show (0 + 1) + 0 ≤ 1 by omega)⟩) hZ hA (fun X_41 H_42 lc_43 hp hZ => ?_)
    obtain ⟨hF, hN_44⟩ := hp
    have hFr := hwF.tr hFr hF (fun _ h => h) (fun M h => by first | exact False.elim h | ((try dsimp only at h ⊢); omega))
    have gi := hF _ _ _ (by intro hNS; first | exact False.elim hNS | ((try dsimp only at hNS); omega)) gi
    have gt := itsAt.fr hF (fun M h1 h2 hNS => by first | exact False.elim hNS | ((try dsimp only at hNS); omega)) gt
    have gl := hF _ _ _ (by intro hNS; first | exact False.elim hNS | ((try dsimp only at hNS); omega)) gl
    have gs := seAt.fr hF (by intro hNS; first | exact False.elim hNS | ((try dsimp only at hNS); omega)) (by intro hNS; first | exact False.elim hNS | ((try dsimp only at hNS); omega)) gs
    have gf := tmAt.fr hF (by intro hNS; first | exact False.elim hNS | ((try dsimp only at hNS); omega)) (by intro hNS; first | exact False.elim hNS | ((try dsimp only at hNS); omega)) gf
    have gk := seAt.fr hF (by intro hNS; first | exact False.elim hNS | ((try dsimp only at hNS); omega)) (by intro hNS; first | exact False.elim hNS | ((try dsimp only at hNS); omega)) gk
    have gc := hF _ _ _ (by intro hNS; first | exact False.elim hNS | ((try dsimp only at hNS); omega)) gc
    have ff_32 := hF _ _ _ (by intro hNS; first | exact False.elim hNS | ((try dsimp only at hNS); omega)) ff_32
    have ff_33 := hiAt.fr hF (by intro hNS; first | exact False.elim hNS | ((try dsimp only at hNS); omega)) (by intro hNS; first | exact False.elim hNS | ((try dsimp only at hNS); omega)) (by intro hNS; first | exact False.elim hNS | ((try dsimp only at hNS); omega)) (by intro hNS; first | exact False.elim hNS | ((try dsimp only at hNS); omega)) ff_33
    have ff_34 := tmAt.fr hF (by intro hNS; first | exact False.elim hNS | ((try dsimp only at hNS); omega)) (by intro hNS; first | exact False.elim hNS | ((try dsimp only at hNS); omega)) ff_34
    have ff_35 := txAt.fr hF (by intro hNS; first | exact False.elim hNS | ((try dsimp only at hNS); omega)) (by intro hNS; first | exact False.elim hNS | ((try dsimp only at hNS); omega)) ff_35
    have ff_45 := hN_44
    refine hw_calli (va_runV (As := [.int (nI j), .ref qq_36]) (rest := []) ⟨hx, hb, hml, hown, hts⟩ (c_Ix_gatherPhr l D K X_41 H_42.size (a := a) (b0 := b0) (b1 := b1) (b2 := b2) (b3 := b3) (b4 := b4) (b5 := b5) (b6 := b6) (b7 := b7) (b8 := b8) (ni := its.length) (fs := fs) (qs := 0) (fi := fi) (fl := fl) (its := its) (lg := lg) (tf := tf) (ss := ss) (hs0 := []) (so := qq_36) (Lo := 52) (ta := qw.map (trm (lg j) ss)) (j := j) ff_32 gi gt gl gf gs ff_33 ff_45 ff_34 (by omega) (by omega) (by omega) (by assumption) (by assumption) (by assumption) (by assumption) rfl rfl) (cwV 2 hts (hwGood (hw_4 mm_298 mm_299 mm_300 mm_188 (hwAll mm_297))) rfl rfl rfl (by decide +kernel) ⟨Nat.le_of_ble_eq_true rfl, Nat.le_of_ble_eq_true rfl⟩) (hw_preV hK hO hZ (⟨_, _, ff_32⟩) rfl) rfl rfl hl.1 rfl (lv_room (Nat.le_of_ble_eq_true rfl)) dIx_phrase_18 ⟨(show 1 + 0 ≤ 1 by omega), (show (0 + 1) + 0 ≤ 1 by omega)⟩) hZ hA (fun r X_46 H_47 lc_48 hp hZ => ?_)
    obtain ⟨tz_49, hr, hF, hN_50, hN_51⟩ := hp
    have hFr := hwF.tr hFr hF (fun _ h => h) (fun M h => by first | exact False.elim h | ((try dsimp only at h ⊢); omega))
    have gi := hF _ _ _ (by intro hNS; first | exact False.elim hNS | ((try dsimp only at hNS); omega)) gi
    have gt := itsAt.fr hF (fun M h1 h2 hNS => by first | exact False.elim hNS | ((try dsimp only at hNS); omega)) gt
    have gl := hF _ _ _ (by intro hNS; first | exact False.elim hNS | ((try dsimp only at hNS); omega)) gl
    have gs := seAt.fr hF (by intro hNS; first | exact False.elim hNS | ((try dsimp only at hNS); omega)) (by intro hNS; first | exact False.elim hNS | ((try dsimp only at hNS); omega)) gs
    have gk := seAt.fr hF (by intro hNS; first | exact False.elim hNS | ((try dsimp only at hNS); omega)) (by intro hNS; first | exact False.elim hNS | ((try dsimp only at hNS); omega)) gk
    have gc := hF _ _ _ (by intro hNS; first | exact False.elim hNS | ((try dsimp only at hNS); omega)) gc
    have ff_32 := hF _ _ _ (by intro hNS; first | exact False.elim hNS | ((try dsimp only at hNS); omega)) ff_32
    have ff_34 := tmAt.fr hF (by intro hNS; first | exact False.elim hNS | ((try dsimp only at hNS); omega)) (by intro hNS; first | exact False.elim hNS | ((try dsimp only at hNS); omega)) ff_34
    have ff_35 := txAt.fr hF (by intro hNS; first | exact False.elim hNS | ((try dsimp only at hNS); omega)) (by intro hNS; first | exact False.elim hNS | ((try dsimp only at hNS); omega)) ff_35
    have ff_45 := hF _ _ _ (by intro hNS; first | exact False.elim hNS | ((try dsimp only at hNS); omega)) ff_45
    have ff_52 := hN_50
    have ff_53 := hN_51
    refine hw_topi hr ?_
    refine W.widen (k := 1) (n := 1) (by omega) (by omega) ?_
    exact hret hZ (by rw [askS_g (kN_nI hj)]; (try dsimp only); rw [hsP_c]; exact ⟨rfl, hFr, ⟨_, _, _, _, _, _, _, _, _, _, _, _, _, _, _, ff_32, gi, gt, gl, hfl, ff_35, gs, ff_53, ff_34, ff_52, gk, gc⟩⟩) dIx_phrase_21
set_option maxHeartbeats 4000000 in
set_option maxRecDepth 100000 in
theorem p_near (l : Launch) (D : va_G) (K : Nat → ClassId) (X : hwW) (sz : Nat) (a : Nat) (its : hwIt) (fs : Nat) (lg : Nat → Nat) (qw : List (List Nat)) (qo : Nat) (qs : Nat) (ss : List (List Nat)) (hs : List (Nat × Nat × Nat)) (kk : Int32) (dx : Int32) (f0_ : ixAt K X a its fs lg qw qo qs ss hs) (ok : okS its fs lg qw qo qs ss) : Met l yIx_near (.code yIx_near cIx_near 7 (some .int) :: hwG) ({ frames := 7, cells := 1, slots := 3, locals := 162 } : Room) (hwPc D vwCl (hwT K) [.ref a, .int kk, .int dx] X sz) (hwQi D vwCl X sz (fun r Y => r = nI (askS (fun j => hsN (qw.map (trm (lg j) ss)) dx (Tf its lg ss j) its.length) kk).length ∧ hwF X Y (fun M => M < 1000) ∧ ixAt K Y a its fs lg [] 0 0 ss (askS (fun j => hsN (qw.map (trm (lg j) ss)) dx (Tf its lg ss j) its.length) kk))) 1 3 (va_A X.1 sz) := by
  refine hwMeti (cc := cIx_near) (maxL := 7) (by decide) rfl (Nat.le_of_ble_eq_true rfl) (fun p e s m args below meth c ls A Q hx hb hml hown hts hname hret hK hO hZ hA hl => ?_)
  have hl : lv_has ls 7 [(0, .ref a), (1, .int kk), (2, .int dx)] := hl
  have hFr : hwF X X (fun M => M < 1000) := hwF.rf
  obtain ⟨hni3, hTG, hfs, hlg, hsss, hqG, hq2, hqs⟩ := ok
  have hok := okIt_of hTG hfs
  have hq50 : qw.length ≤ 50 := by split at hq2 <;> omega
  have hne := hqG.1
  obtain ⟨b0, b1, b2, b3, b4, b5, b6, b7, b8, fi, fl, ta, tf, tl, fc, gx, gi, gt, gl, hfl, gq, gs, gh, ga, gf, gk, gc⟩ := f0_
  have hQ2 := fun j => okWs.at (txAt.oks gq) j
  have hQ0 := (hQ2 0).1
  rcases kN_cases kk with hk | ⟨j, hj, rfl⟩
  · rcases d1_cases dx with hd | ⟨dd, hd1, hd2, rfl⟩
    · refine lv_aload_n hx hb dIx_near_0 rfl (lv_at hl 0 rfl) ?_
      refine lv_iload_n hx hb dIx_near_1 rfl (lv_at hl 1 rfl) ?_
      refine hw_callv (va_runV (As := [.int kk]) (rest := []) ⟨hx, hb, hml, hown, hts⟩ (c_Ix_startB l D K X s.heap.size (a := a) (b0 := b0) (b1 := b1) (b2 := b2) (b3 := b3) (b4 := b4) (b5 := b5) (b6 := b6) (b7 := b7) (b8 := b8) (ni := its.length) (fs := fs) (qs := qs) (hs := hs) (ta := ta) (qw := qw) (qo := qo) (kind := kk) gx gh ga gq (by assumption)) (cwV 1 hts (hwGood (hw_4 mm_289 mm_290 mm_291 mm_188 (hwAll mm_288))) rfl rfl rfl (by decide +kernel) ⟨Nat.le_of_ble_eq_true rfl, Nat.le_of_ble_eq_true rfl⟩) (hw_preV hK hO hZ (⟨_, _, gx⟩) rfl) rfl rfl hl.1 rfl (lv_room (Nat.le_of_ble_eq_true rfl)) dIx_near_2 ⟨(show 0 + 0 ≤ 1 by omega), (show 0 + 0 ≤ 3 by omega)⟩) hZ hA (fun X_1 H_2 lc_3 hp hZ => ?_)
      obtain ⟨hF, hN_4, hN_5, hN_6, hN_7⟩ := hp
      have hFr := hwF.tr hFr hF (fun _ h => h) (fun M h => by first | exact False.elim h | ((try dsimp only at h ⊢); omega))
      have gi := hF _ _ _ (by intro hNS; first | exact False.elim hNS | ((try dsimp only at hNS); omega)) gi
      have gt := itsAt.fr hF (fun M h1 h2 hNS => by first | exact False.elim hNS | ((try dsimp only at hNS); omega)) gt
      have gl := hF _ _ _ (by intro hNS; first | exact False.elim hNS | ((try dsimp only at hNS); omega)) gl
      have gs := seAt.fr hF (by intro hNS; first | exact False.elim hNS | ((try dsimp only at hNS); omega)) (by intro hNS; first | exact False.elim hNS | ((try dsimp only at hNS); omega)) gs
      have gf := tmAt.fr hF (by intro hNS; first | exact False.elim hNS | ((try dsimp only at hNS); omega)) (by intro hNS; first | exact False.elim hNS | ((try dsimp only at hNS); omega)) gf
      have gk := seAt.fr hF (by intro hNS; first | exact False.elim hNS | ((try dsimp only at hNS); omega)) (by intro hNS; first | exact False.elim hNS | ((try dsimp only at hNS); omega)) gk
      have gc := hF _ _ _ (by intro hNS; first | exact False.elim hNS | ((try dsimp only at hNS); omega)) gc
      have ff_8 := hN_4
      have ff_9 := hN_5
      have ff_10 := hN_6
      have ff_11 := hN_7
      have hT2 := fun j => okWs.at (tmAt.oks ff_10) j
      have hz0 : eW (([] : List (List Nat)).getD 0 []) = 0 := rfl
      have hz1 : eW (([] : List (List Nat)).getD 1 []) = 0 := rfl
      refine lv_aload_n hx hb dIx_near_5 rfl (lv_at hl 0 rfl) ?_
      refine hw_get hx hb hts (hwInn inIx) hown hK hZ ff_8 rfl 8 (by decide) (hts (.fieldLink RIx 45 RIx "asked" "LWordIndex2$Terms;") (hwMem mm_254)) (fun _ h => h) rfl dIx_near_6 ?_
      refine lv_iconst (v := nI 0) hx hb dIx_near_9 (by decide) ?_
      refine hw_calll (va_runV (As := [.int (nI 0)]) (rest := []) ⟨hx, hb, hml, hown, hts⟩ (c_Tm_at l D K X_1 H_2.size (a := b5) (k := 7) (N := 50) (ts := []) (j := 0) ff_10 (by omega)) (cwV 1 hts (hwGood (hw_4 mm_263 mm_87 mm_88 mm_89 (hwAll mm_85))) rfl rfl rfl (by decide +kernel) ⟨Nat.le_of_ble_eq_true rfl, Nat.le_of_ble_eq_true rfl⟩) (hw_preV hK hO hZ (tmAt.ob ff_10) rfl) rfl rfl hl.1 rfl (lv_room (Nat.le_of_ble_eq_true rfl)) dIx_near_10 ⟨(show 0 + 0 ≤ 1 by omega), (show 0 + 0 ≤ 3 by omega)⟩) hZ hA (fun r X_12 H_13 lc_14 hp hZ => ?_)
      obtain ⟨hr, hy⟩ := hp
      subst hy
      refine hw_topl hr ?_
      refine lv_lstore_n (lv' := [(3, .long (lN (eW (([]).getD 0 [])))), (0, .ref a), (1, .int kk), (2, .int dx)]) hx hb dIx_near_13 rfl hl (by decide) rfl (fun ls hl => ?_)
      refine lv_aload_n hx hb dIx_near_14 rfl (lv_at hl 1 rfl) ?_
      refine hw_get hx hb hts (hwInn inIx) hown hK hZ ff_8 rfl 8 (by decide) (hts (.fieldLink RIx 45 RIx "asked" "LWordIndex2$Terms;") (hwMem mm_254)) (fun _ h => h) rfl dIx_near_15 ?_
      refine lv_iconst (v := nI 1) hx hb dIx_near_18 (by decide) ?_
      refine hw_calll (va_runV (As := [.int (nI 1)]) (rest := []) ⟨hx, hb, hml, hown, hts⟩ (c_Tm_at l D K X_1 H_13.size (a := b5) (k := 7) (N := 50) (ts := []) (j := 1) ff_10 (by omega)) (cwV 1 hts (hwGood (hw_4 mm_263 mm_87 mm_88 mm_89 (hwAll mm_85))) rfl rfl rfl (by decide +kernel) ⟨Nat.le_of_ble_eq_true rfl, Nat.le_of_ble_eq_true rfl⟩) (hw_preV hK hO hZ (tmAt.ob ff_10) rfl) rfl rfl hl.1 rfl (lv_room (Nat.le_of_ble_eq_true rfl)) dIx_near_19 ⟨(show 0 + 0 ≤ 1 by omega), (show 0 + 0 ≤ 3 by omega)⟩) hZ hA (fun r X_15 H_16 lc_17 hp hZ => ?_)
      obtain ⟨hr, hy⟩ := hp
      subst hy
      refine hw_topl hr ?_
      refine lv_lstore (lv' := [(5, .long (lN (eW (([]).getD 1 [])))), (3, .long (lN (eW (([]).getD 0 [])))), (0, .ref a), (1, .int kk), (2, .int dx)]) hx hb dIx_near_22 hl (by decide) rfl (fun ls hl => ?_)
      refine lv_lload_n hx hb dIx_near_24 rfl (lv_at hl 1 rfl) ?_
      refine lv_lconst (v := lN 0) hx hb dIx_near_25 rfl ?_
      refine hw_lc_eq (a := eW (([]).getD 0 [])) (b := 0) (tgt := 42) hx hb dIx_near_26 dIx_near_27 (by decide) (by first | exact eW_lt63 (hT2 _) | exact eW_lt63 (hQ2 _) | exact eW_lt63 (hL2 _) | decide) (by first | exact eW_lt63 (hT2 _) | exact eW_lt63 (hQ2 _) | exact eW_lt63 (hL2 _) | decide) (fun cq_18 => ?_) (fun cq_18 => by exfalso; omega)
      refine lv_iconst (v := nI 0) hx hb dIx_near_42 (by decide) ?_
      refine W.widen (k := 1) (n := 3) (by omega) (by omega) ?_
      exact hret hZ (by rw [askS_b (kN_bad hk)]; exact ⟨rfl, hFr, ⟨_, _, _, _, _, _, _, _, _, _, _, _, _, _, _, ff_8, gi, gt, gl, hfl, ff_11, gs, ff_9, ff_10, gf, gk, gc⟩⟩) dIx_near_43
    · refine lv_aload_n hx hb dIx_near_0 rfl (lv_at hl 0 rfl) ?_
      refine lv_iload_n hx hb dIx_near_1 rfl (lv_at hl 1 rfl) ?_
      refine hw_callv (va_runV (As := [.int kk]) (rest := []) ⟨hx, hb, hml, hown, hts⟩ (c_Ix_startB l D K X s.heap.size (a := a) (b0 := b0) (b1 := b1) (b2 := b2) (b3 := b3) (b4 := b4) (b5 := b5) (b6 := b6) (b7 := b7) (b8 := b8) (ni := its.length) (fs := fs) (qs := qs) (hs := hs) (ta := ta) (qw := qw) (qo := qo) (kind := kk) gx gh ga gq (by assumption)) (cwV 1 hts (hwGood (hw_4 mm_289 mm_290 mm_291 mm_188 (hwAll mm_288))) rfl rfl rfl (by decide +kernel) ⟨Nat.le_of_ble_eq_true rfl, Nat.le_of_ble_eq_true rfl⟩) (hw_preV hK hO hZ (⟨_, _, gx⟩) rfl) rfl rfl hl.1 rfl (lv_room (Nat.le_of_ble_eq_true rfl)) dIx_near_2 ⟨(show 0 + 0 ≤ 1 by omega), (show 0 + 0 ≤ 3 by omega)⟩) hZ hA (fun X_19 H_20 lc_21 hp hZ => ?_)
      obtain ⟨hF, hN_22, hN_23, hN_24, hN_25⟩ := hp
      have hFr := hwF.tr hFr hF (fun _ h => h) (fun M h => by first | exact False.elim h | ((try dsimp only at h ⊢); omega))
      have gi := hF _ _ _ (by intro hNS; first | exact False.elim hNS | ((try dsimp only at hNS); omega)) gi
      have gt := itsAt.fr hF (fun M h1 h2 hNS => by first | exact False.elim hNS | ((try dsimp only at hNS); omega)) gt
      have gl := hF _ _ _ (by intro hNS; first | exact False.elim hNS | ((try dsimp only at hNS); omega)) gl
      have gs := seAt.fr hF (by intro hNS; first | exact False.elim hNS | ((try dsimp only at hNS); omega)) (by intro hNS; first | exact False.elim hNS | ((try dsimp only at hNS); omega)) gs
      have gf := tmAt.fr hF (by intro hNS; first | exact False.elim hNS | ((try dsimp only at hNS); omega)) (by intro hNS; first | exact False.elim hNS | ((try dsimp only at hNS); omega)) gf
      have gk := seAt.fr hF (by intro hNS; first | exact False.elim hNS | ((try dsimp only at hNS); omega)) (by intro hNS; first | exact False.elim hNS | ((try dsimp only at hNS); omega)) gk
      have gc := hF _ _ _ (by intro hNS; first | exact False.elim hNS | ((try dsimp only at hNS); omega)) gc
      have ff_26 := hN_22
      have ff_27 := hN_23
      have ff_28 := hN_24
      have ff_29 := hN_25
      have hT2 := fun j => okWs.at (tmAt.oks ff_28) j
      have hz0 : eW (([] : List (List Nat)).getD 0 []) = 0 := rfl
      have hz1 : eW (([] : List (List Nat)).getD 1 []) = 0 := rfl
      refine lv_aload_n hx hb dIx_near_5 rfl (lv_at hl 0 rfl) ?_
      refine hw_get hx hb hts (hwInn inIx) hown hK hZ ff_26 rfl 8 (by decide) (hts (.fieldLink RIx 45 RIx "asked" "LWordIndex2$Terms;") (hwMem mm_254)) (fun _ h => h) rfl dIx_near_6 ?_
      refine lv_iconst (v := nI 0) hx hb dIx_near_9 (by decide) ?_
      refine hw_calll (va_runV (As := [.int (nI 0)]) (rest := []) ⟨hx, hb, hml, hown, hts⟩ (c_Tm_at l D K X_19 H_20.size (a := b5) (k := 7) (N := 50) (ts := []) (j := 0) ff_28 (by omega)) (cwV 1 hts (hwGood (hw_4 mm_263 mm_87 mm_88 mm_89 (hwAll mm_85))) rfl rfl rfl (by decide +kernel) ⟨Nat.le_of_ble_eq_true rfl, Nat.le_of_ble_eq_true rfl⟩) (hw_preV hK hO hZ (tmAt.ob ff_28) rfl) rfl rfl hl.1 rfl (lv_room (Nat.le_of_ble_eq_true rfl)) dIx_near_10 ⟨(show 0 + 0 ≤ 1 by omega), (show 0 + 0 ≤ 3 by omega)⟩) hZ hA (fun r X_30 H_31 lc_32 hp hZ => ?_)
      obtain ⟨hr, hy⟩ := hp
      subst hy
      refine hw_topl hr ?_
      refine lv_lstore_n (lv' := [(3, .long (lN (eW (([]).getD 0 [])))), (0, .ref a), (1, .int kk), (2, .int (nI dd))]) hx hb dIx_near_13 rfl hl (by decide) rfl (fun ls hl => ?_)
      refine lv_aload_n hx hb dIx_near_14 rfl (lv_at hl 1 rfl) ?_
      refine hw_get hx hb hts (hwInn inIx) hown hK hZ ff_26 rfl 8 (by decide) (hts (.fieldLink RIx 45 RIx "asked" "LWordIndex2$Terms;") (hwMem mm_254)) (fun _ h => h) rfl dIx_near_15 ?_
      refine lv_iconst (v := nI 1) hx hb dIx_near_18 (by decide) ?_
      refine hw_calll (va_runV (As := [.int (nI 1)]) (rest := []) ⟨hx, hb, hml, hown, hts⟩ (c_Tm_at l D K X_19 H_31.size (a := b5) (k := 7) (N := 50) (ts := []) (j := 1) ff_28 (by omega)) (cwV 1 hts (hwGood (hw_4 mm_263 mm_87 mm_88 mm_89 (hwAll mm_85))) rfl rfl rfl (by decide +kernel) ⟨Nat.le_of_ble_eq_true rfl, Nat.le_of_ble_eq_true rfl⟩) (hw_preV hK hO hZ (tmAt.ob ff_28) rfl) rfl rfl hl.1 rfl (lv_room (Nat.le_of_ble_eq_true rfl)) dIx_near_19 ⟨(show 0 + 0 ≤ 1 by omega), (show 0 + 0 ≤ 3 by omega)⟩) hZ hA (fun r X_33 H_34 lc_35 hp hZ => ?_)
      obtain ⟨hr, hy⟩ := hp
      subst hy
      refine hw_topl hr ?_
      refine lv_lstore (lv' := [(5, .long (lN (eW (([]).getD 1 [])))), (3, .long (lN (eW (([]).getD 0 [])))), (0, .ref a), (1, .int kk), (2, .int (nI dd))]) hx hb dIx_near_22 hl (by decide) rfl (fun ls hl => ?_)
      refine lv_lload_n hx hb dIx_near_24 rfl (lv_at hl 1 rfl) ?_
      refine lv_lconst (v := lN 0) hx hb dIx_near_25 rfl ?_
      refine hw_lc_eq (a := eW (([]).getD 0 [])) (b := 0) (tgt := 42) hx hb dIx_near_26 dIx_near_27 (by decide) (by first | exact eW_lt63 (hT2 _) | exact eW_lt63 (hQ2 _) | exact eW_lt63 (hL2 _) | decide) (by first | exact eW_lt63 (hT2 _) | exact eW_lt63 (hQ2 _) | exact eW_lt63 (hL2 _) | decide) (fun cq_36 => ?_) (fun cq_36 => by exfalso; omega)
      refine lv_iconst (v := nI 0) hx hb dIx_near_42 (by decide) ?_
      refine W.widen (k := 1) (n := 3) (by omega) (by omega) ?_
      exact hret hZ (by rw [askS_b (kN_bad hk)]; exact ⟨rfl, hFr, ⟨_, _, _, _, _, _, _, _, _, _, _, _, _, _, _, ff_26, gi, gt, gl, hfl, ff_29, gs, ff_27, ff_28, gf, gk, gc⟩⟩) dIx_near_43
  · rcases d1_cases dx with hd | ⟨dd, hd1, hd2, rfl⟩
    · refine lv_aload_n hx hb dIx_near_0 rfl (lv_at hl 0 rfl) ?_
      refine lv_iload_n hx hb dIx_near_1 rfl (lv_at hl 1 rfl) ?_
      refine hw_callv (va_runV (As := [.int (nI j)]) (rest := []) ⟨hx, hb, hml, hown, hts⟩ (c_Ix_start l D K X s.heap.size (a := a) (b0 := b0) (b1 := b1) (b2 := b2) (b3 := b3) (b4 := b4) (b5 := b5) (b6 := b6) (b7 := b7) (b8 := b8) (ni := its.length) (fs := fs) (qs := qs) (fl := fl) (lg := lg) (hs := hs) (ta := ta) (qw := qw) (qo := qo) (ss := ss) (j := j) gx gl gh ga gq gs (by omega) (by assumption) (by assumption) (by omega) (by assumption) (by assumption)) (cwV 1 hts (hwGood (hw_4 mm_289 mm_290 mm_291 mm_188 (hwAll mm_288))) rfl rfl rfl (by decide +kernel) ⟨Nat.le_of_ble_eq_true rfl, Nat.le_of_ble_eq_true rfl⟩) (hw_preV hK hO hZ (⟨_, _, gx⟩) rfl) rfl rfl hl.1 rfl (lv_room (Nat.le_of_ble_eq_true rfl)) dIx_near_2 ⟨(show 0 + 0 ≤ 1 by omega), (show 0 + 0 ≤ 3 by omega)⟩) hZ hA (fun X_37 H_38 lc_39 hp hZ => ?_)
      obtain ⟨hF, hN_40, hN_41, hN_42, hN_43⟩ := hp
      have hFr := hwF.tr hFr hF (fun _ h => h) (fun M h => by first | exact False.elim h | ((try dsimp only at h ⊢); omega))
      have gi := hF _ _ _ (by intro hNS; first | exact False.elim hNS | ((try dsimp only at hNS); omega)) gi
      have gt := itsAt.fr hF (fun M h1 h2 hNS => by first | exact False.elim hNS | ((try dsimp only at hNS); omega)) gt
      have gl := hF _ _ _ (by intro hNS; first | exact False.elim hNS | ((try dsimp only at hNS); omega)) gl
      have gs := seAt.fr hF (by intro hNS; first | exact False.elim hNS | ((try dsimp only at hNS); omega)) (by intro hNS; first | exact False.elim hNS | ((try dsimp only at hNS); omega)) gs
      have gf := tmAt.fr hF (by intro hNS; first | exact False.elim hNS | ((try dsimp only at hNS); omega)) (by intro hNS; first | exact False.elim hNS | ((try dsimp only at hNS); omega)) gf
      have gk := seAt.fr hF (by intro hNS; first | exact False.elim hNS | ((try dsimp only at hNS); omega)) (by intro hNS; first | exact False.elim hNS | ((try dsimp only at hNS); omega)) gk
      have gc := hF _ _ _ (by intro hNS; first | exact False.elim hNS | ((try dsimp only at hNS); omega)) gc
      have ff_44 := hN_40
      have ff_45 := hN_41
      have ff_46 := hN_42
      have ff_47 := hN_43
      have hT2 := fun j => okWs.at (tmAt.oks ff_46) j
      refine lv_aload_n hx hb dIx_near_5 rfl (lv_at hl 0 rfl) ?_
      refine hw_get hx hb hts (hwInn inIx) hown hK hZ ff_44 rfl 8 (by decide) (hts (.fieldLink RIx 45 RIx "asked" "LWordIndex2$Terms;") (hwMem mm_254)) (fun _ h => h) rfl dIx_near_6 ?_
      refine lv_iconst (v := nI 0) hx hb dIx_near_9 (by decide) ?_
      refine hw_calll (va_runV (As := [.int (nI 0)]) (rest := []) ⟨hx, hb, hml, hown, hts⟩ (c_Tm_at l D K X_37 H_38.size (a := b5) (k := 7) (N := 50) (ts := qw.map (trm (lg j) ss)) (j := 0) ff_46 (by omega)) (cwV 1 hts (hwGood (hw_4 mm_263 mm_87 mm_88 mm_89 (hwAll mm_85))) rfl rfl rfl (by decide +kernel) ⟨Nat.le_of_ble_eq_true rfl, Nat.le_of_ble_eq_true rfl⟩) (hw_preV hK hO hZ (tmAt.ob ff_46) rfl) rfl rfl hl.1 rfl (lv_room (Nat.le_of_ble_eq_true rfl)) dIx_near_10 ⟨(show 0 + 0 ≤ 1 by omega), (show 0 + 0 ≤ 3 by omega)⟩) hZ hA (fun r X_48 H_49 lc_50 hp hZ => ?_)
      obtain ⟨hr, hy⟩ := hp
      subst hy
      refine hw_topl hr ?_
      refine lv_lstore_n (lv' := [(3, .long (lN (eW ((qw.map (trm (lg j) ss)).getD 0 [])))), (0, .ref a), (1, .int (nI j)), (2, .int dx)]) hx hb dIx_near_13 rfl hl (by decide) rfl (fun ls hl => ?_)
      refine lv_aload_n hx hb dIx_near_14 rfl (lv_at hl 1 rfl) ?_
      refine hw_get hx hb hts (hwInn inIx) hown hK hZ ff_44 rfl 8 (by decide) (hts (.fieldLink RIx 45 RIx "asked" "LWordIndex2$Terms;") (hwMem mm_254)) (fun _ h => h) rfl dIx_near_15 ?_
      refine lv_iconst (v := nI 1) hx hb dIx_near_18 (by decide) ?_
      refine hw_calll (va_runV (As := [.int (nI 1)]) (rest := []) ⟨hx, hb, hml, hown, hts⟩ (c_Tm_at l D K X_37 H_49.size (a := b5) (k := 7) (N := 50) (ts := qw.map (trm (lg j) ss)) (j := 1) ff_46 (by omega)) (cwV 1 hts (hwGood (hw_4 mm_263 mm_87 mm_88 mm_89 (hwAll mm_85))) rfl rfl rfl (by decide +kernel) ⟨Nat.le_of_ble_eq_true rfl, Nat.le_of_ble_eq_true rfl⟩) (hw_preV hK hO hZ (tmAt.ob ff_46) rfl) rfl rfl hl.1 rfl (lv_room (Nat.le_of_ble_eq_true rfl)) dIx_near_19 ⟨(show 0 + 0 ≤ 1 by omega), (show 0 + 0 ≤ 3 by omega)⟩) hZ hA (fun r X_51 H_52 lc_53 hp hZ => ?_)
      obtain ⟨hr, hy⟩ := hp
      subst hy
      refine hw_topl hr ?_
      refine lv_lstore (lv' := [(5, .long (lN (eW ((qw.map (trm (lg j) ss)).getD 1 [])))), (3, .long (lN (eW ((qw.map (trm (lg j) ss)).getD 0 [])))), (0, .ref a), (1, .int (nI j)), (2, .int dx)]) hx hb dIx_near_22 hl (by decide) rfl (fun ls hl => ?_)
      refine lv_lload_n hx hb dIx_near_24 rfl (lv_at hl 1 rfl) ?_
      refine lv_lconst (v := lN 0) hx hb dIx_near_25 rfl ?_
      refine hw_lc_eq (a := eW ((qw.map (trm (lg j) ss)).getD 0 [])) (b := 0) (tgt := 42) hx hb dIx_near_26 dIx_near_27 (by decide) (by first | exact eW_lt63 (hT2 _) | exact eW_lt63 (hQ2 _) | exact eW_lt63 (hL2 _) | decide) (by first | exact eW_lt63 (hT2 _) | exact eW_lt63 (hQ2 _) | exact eW_lt63 (hL2 _) | decide) (fun cq_54 => ?_) (fun cq_54 => ?_)
      · refine lv_iconst (v := nI 0) hx hb dIx_near_42 (by decide) ?_
        refine W.widen (k := 1) (n := 3) (by omega) (by omega) ?_
        exact hret hZ (by rw [askS_g (kN_nI hj)]; (try dsimp only); rw [hsN_e (Or.inl ((eW_zero (hT2 _)).mp cq_54))]; exact ⟨rfl, hFr, ⟨_, _, _, _, _, _, _, _, _, _, _, _, _, _, _, ff_44, gi, gt, gl, hfl, ff_47, gs, ff_45, ff_46, gf, gk, gc⟩⟩) dIx_near_43
      · refine lv_lload hx hb dIx_near_30 (lv_at hl 0 rfl) ?_
        refine lv_lconst (v := lN 0) hx hb dIx_near_32 rfl ?_
        refine hw_lc_eq (a := eW ((qw.map (trm (lg j) ss)).getD 1 [])) (b := 0) (tgt := 42) hx hb dIx_near_33 dIx_near_34 (by decide) (by first | exact eW_lt63 (hT2 _) | exact eW_lt63 (hQ2 _) | exact eW_lt63 (hL2 _) | decide) (by first | exact eW_lt63 (hT2 _) | exact eW_lt63 (hQ2 _) | exact eW_lt63 (hL2 _) | decide) (fun cq_55 => ?_) (fun cq_55 => ?_)
        · refine lv_iconst (v := nI 0) hx hb dIx_near_42 (by decide) ?_
          refine W.widen (k := 1) (n := 3) (by omega) (by omega) ?_
          exact hret hZ (by rw [askS_g (kN_nI hj)]; (try dsimp only); rw [hsN_e (Or.inr (Or.inl ((eW_zero (hT2 _)).mp cq_55)))]; exact ⟨rfl, hFr, ⟨_, _, _, _, _, _, _, _, _, _, _, _, _, _, _, ff_44, gi, gt, gl, hfl, ff_47, gs, ff_45, ff_46, gf, gk, gc⟩⟩) dIx_near_43
        · refine lv_iload_n hx hb dIx_near_37 rfl (lv_at hl 4 rfl) ?_
          refine lv_iconst (v := nI 1) hx hb dIx_near_38 (by decide) ?_
          refine lv_icmp_ge (tgt := 44) hx hb dIx_near_39 (by decide) (fun cq_56 => absurd cq_56 (hw_nle hd)) (fun cq_56 => ?_)
          refine lv_iconst (v := nI 0) hx hb dIx_near_42 (by decide) ?_
          refine W.widen (k := 1) (n := 3) (by omega) (by omega) ?_
          exact hret hZ (by rw [askS_g (kN_nI hj)]; (try dsimp only); rw [hsN_e (Or.inr (Or.inr hd))]; exact ⟨rfl, hFr, ⟨_, _, _, _, _, _, _, _, _, _, _, _, _, _, _, ff_44, gi, gt, gl, hfl, ff_47, gs, ff_45, ff_46, gf, gk, gc⟩⟩) dIx_near_43
    · refine lv_aload_n hx hb dIx_near_0 rfl (lv_at hl 0 rfl) ?_
      refine lv_iload_n hx hb dIx_near_1 rfl (lv_at hl 1 rfl) ?_
      refine hw_callv (va_runV (As := [.int (nI j)]) (rest := []) ⟨hx, hb, hml, hown, hts⟩ (c_Ix_start l D K X s.heap.size (a := a) (b0 := b0) (b1 := b1) (b2 := b2) (b3 := b3) (b4 := b4) (b5 := b5) (b6 := b6) (b7 := b7) (b8 := b8) (ni := its.length) (fs := fs) (qs := qs) (fl := fl) (lg := lg) (hs := hs) (ta := ta) (qw := qw) (qo := qo) (ss := ss) (j := j) gx gl gh ga gq gs (by omega) (by assumption) (by assumption) (by omega) (by assumption) (by assumption)) (cwV 1 hts (hwGood (hw_4 mm_289 mm_290 mm_291 mm_188 (hwAll mm_288))) rfl rfl rfl (by decide +kernel) ⟨Nat.le_of_ble_eq_true rfl, Nat.le_of_ble_eq_true rfl⟩) (hw_preV hK hO hZ (⟨_, _, gx⟩) rfl) rfl rfl hl.1 rfl (lv_room (Nat.le_of_ble_eq_true rfl)) dIx_near_2 ⟨(show 0 + 0 ≤ 1 by omega), (show 0 + 0 ≤ 3 by omega)⟩) hZ hA (fun X_57 H_58 lc_59 hp hZ => ?_)
      obtain ⟨hF, hN_60, hN_61, hN_62, hN_63⟩ := hp
      have hFr := hwF.tr hFr hF (fun _ h => h) (fun M h => by first | exact False.elim h | ((try dsimp only at h ⊢); omega))
      have gi := hF _ _ _ (by intro hNS; first | exact False.elim hNS | ((try dsimp only at hNS); omega)) gi
      have gt := itsAt.fr hF (fun M h1 h2 hNS => by first | exact False.elim hNS | ((try dsimp only at hNS); omega)) gt
      have gl := hF _ _ _ (by intro hNS; first | exact False.elim hNS | ((try dsimp only at hNS); omega)) gl
      have gs := seAt.fr hF (by intro hNS; first | exact False.elim hNS | ((try dsimp only at hNS); omega)) (by intro hNS; first | exact False.elim hNS | ((try dsimp only at hNS); omega)) gs
      have gf := tmAt.fr hF (by intro hNS; first | exact False.elim hNS | ((try dsimp only at hNS); omega)) (by intro hNS; first | exact False.elim hNS | ((try dsimp only at hNS); omega)) gf
      have gk := seAt.fr hF (by intro hNS; first | exact False.elim hNS | ((try dsimp only at hNS); omega)) (by intro hNS; first | exact False.elim hNS | ((try dsimp only at hNS); omega)) gk
      have gc := hF _ _ _ (by intro hNS; first | exact False.elim hNS | ((try dsimp only at hNS); omega)) gc
      have ff_64 := hN_60
      have ff_65 := hN_61
      have ff_66 := hN_62
      have ff_67 := hN_63
      have hT2 := fun j => okWs.at (tmAt.oks ff_66) j
      refine lv_aload_n hx hb dIx_near_5 rfl (lv_at hl 0 rfl) ?_
      refine hw_get hx hb hts (hwInn inIx) hown hK hZ ff_64 rfl 8 (by decide) (hts (.fieldLink RIx 45 RIx "asked" "LWordIndex2$Terms;") (hwMem mm_254)) (fun _ h => h) rfl dIx_near_6 ?_
      refine lv_iconst (v := nI 0) hx hb dIx_near_9 (by decide) ?_
      refine hw_calll (va_runV (As := [.int (nI 0)]) (rest := []) ⟨hx, hb, hml, hown, hts⟩ (c_Tm_at l D K X_57 H_58.size (a := b5) (k := 7) (N := 50) (ts := qw.map (trm (lg j) ss)) (j := 0) ff_66 (by omega)) (cwV 1 hts (hwGood (hw_4 mm_263 mm_87 mm_88 mm_89 (hwAll mm_85))) rfl rfl rfl (by decide +kernel) ⟨Nat.le_of_ble_eq_true rfl, Nat.le_of_ble_eq_true rfl⟩) (hw_preV hK hO hZ (tmAt.ob ff_66) rfl) rfl rfl hl.1 rfl (lv_room (Nat.le_of_ble_eq_true rfl)) dIx_near_10 ⟨(show 0 + 0 ≤ 1 by omega), (show 0 + 0 ≤ 3 by omega)⟩) hZ hA (fun r X_68 H_69 lc_70 hp hZ => ?_)
      obtain ⟨hr, hy⟩ := hp
      subst hy
      refine hw_topl hr ?_
      refine lv_lstore_n (lv' := [(3, .long (lN (eW ((qw.map (trm (lg j) ss)).getD 0 [])))), (0, .ref a), (1, .int (nI j)), (2, .int (nI dd))]) hx hb dIx_near_13 rfl hl (by decide) rfl (fun ls hl => ?_)
      refine lv_aload_n hx hb dIx_near_14 rfl (lv_at hl 1 rfl) ?_
      refine hw_get hx hb hts (hwInn inIx) hown hK hZ ff_64 rfl 8 (by decide) (hts (.fieldLink RIx 45 RIx "asked" "LWordIndex2$Terms;") (hwMem mm_254)) (fun _ h => h) rfl dIx_near_15 ?_
      refine lv_iconst (v := nI 1) hx hb dIx_near_18 (by decide) ?_
      refine hw_calll (va_runV (As := [.int (nI 1)]) (rest := []) ⟨hx, hb, hml, hown, hts⟩ (c_Tm_at l D K X_57 H_69.size (a := b5) (k := 7) (N := 50) (ts := qw.map (trm (lg j) ss)) (j := 1) ff_66 (by omega)) (cwV 1 hts (hwGood (hw_4 mm_263 mm_87 mm_88 mm_89 (hwAll mm_85))) rfl rfl rfl (by decide +kernel) ⟨Nat.le_of_ble_eq_true rfl, Nat.le_of_ble_eq_true rfl⟩) (hw_preV hK hO hZ (tmAt.ob ff_66) rfl) rfl rfl hl.1 rfl (lv_room (Nat.le_of_ble_eq_true rfl)) dIx_near_19 ⟨(show 0 + 0 ≤ 1 by omega), (show 0 + 0 ≤ 3 by omega)⟩) hZ hA (fun r X_71 H_72 lc_73 hp hZ => ?_)
      obtain ⟨hr, hy⟩ := hp
      subst hy
      refine hw_topl hr ?_
      refine lv_lstore (lv' := [(5, .long (lN (eW ((qw.map (trm (lg j) ss)).getD 1 [])))), (3, .long (lN (eW ((qw.map (trm (lg j) ss)).getD 0 [])))), (0, .ref a), (1, .int (nI j)), (2, .int (nI dd))]) hx hb dIx_near_22 hl (by decide) rfl (fun ls hl => ?_)
      refine lv_lload_n hx hb dIx_near_24 rfl (lv_at hl 1 rfl) ?_
      refine lv_lconst (v := lN 0) hx hb dIx_near_25 rfl ?_
      refine hw_lc_eq (a := eW ((qw.map (trm (lg j) ss)).getD 0 [])) (b := 0) (tgt := 42) hx hb dIx_near_26 dIx_near_27 (by decide) (by first | exact eW_lt63 (hT2 _) | exact eW_lt63 (hQ2 _) | exact eW_lt63 (hL2 _) | decide) (by first | exact eW_lt63 (hT2 _) | exact eW_lt63 (hQ2 _) | exact eW_lt63 (hL2 _) | decide) (fun cq_74 => ?_) (fun cq_74 => ?_)
      · refine lv_iconst (v := nI 0) hx hb dIx_near_42 (by decide) ?_
        refine W.widen (k := 1) (n := 3) (by omega) (by omega) ?_
        exact hret hZ (by rw [askS_g (kN_nI hj)]; (try dsimp only); rw [hsN_e (Or.inl ((eW_zero (hT2 _)).mp cq_74))]; exact ⟨rfl, hFr, ⟨_, _, _, _, _, _, _, _, _, _, _, _, _, _, _, ff_64, gi, gt, gl, hfl, ff_67, gs, ff_65, ff_66, gf, gk, gc⟩⟩) dIx_near_43
      · refine lv_lload hx hb dIx_near_30 (lv_at hl 0 rfl) ?_
        refine lv_lconst (v := lN 0) hx hb dIx_near_32 rfl ?_
        refine hw_lc_eq (a := eW ((qw.map (trm (lg j) ss)).getD 1 [])) (b := 0) (tgt := 42) hx hb dIx_near_33 dIx_near_34 (by decide) (by first | exact eW_lt63 (hT2 _) | exact eW_lt63 (hQ2 _) | exact eW_lt63 (hL2 _) | decide) (by first | exact eW_lt63 (hT2 _) | exact eW_lt63 (hQ2 _) | exact eW_lt63 (hL2 _) | decide) (fun cq_75 => ?_) (fun cq_75 => ?_)
        · refine lv_iconst (v := nI 0) hx hb dIx_near_42 (by decide) ?_
          refine W.widen (k := 1) (n := 3) (by omega) (by omega) ?_
          exact hret hZ (by rw [askS_g (kN_nI hj)]; (try dsimp only); rw [hsN_e (Or.inr (Or.inl ((eW_zero (hT2 _)).mp cq_75)))]; exact ⟨rfl, hFr, ⟨_, _, _, _, _, _, _, _, _, _, _, _, _, _, _, ff_64, gi, gt, gl, hfl, ff_67, gs, ff_65, ff_66, gf, gk, gc⟩⟩) dIx_near_43
        · refine lv_iload_n hx hb dIx_near_37 rfl (lv_at hl 4 rfl) ?_
          refine lv_iconst (v := nI 1) hx hb dIx_near_38 (by decide) ?_
          refine hw_ic_ge (a := dd) (b := 1) (tgt := 44) hx hb dIx_near_39 (by decide) (by omega) (by omega) (fun cq_76 => ?_) (fun cq_76 => by exfalso; omega)
          refine lv_aload_n hx hb dIx_near_44 rfl (lv_at hl 2 rfl) ?_
          refine lv_iload_n hx hb dIx_near_45 rfl (lv_at hl 3 rfl) ?_
          refine hw_new (ci := 8) (fs := [.long (lN 0), .long (lN 0), .int (nI 0)]) hx hb hts (hwInn inNearSearch) tyNearSearch tyNearSearch_ok hown (hts (.classLink RIx 103 RNearSearch) (hwMem mm_306)) (hts (.instantiable RNearSearch 3) (hwMem mm_307)) (hts (.initialized RNearSearch) (hwMem mm_147)) hK hZ hA rfl (fun j hj => by rcases (show j = 0 ∨ j = 1 ∨ j = 2 by omega) with rfl | rfl | rfl <;> rfl) (show 0 + 1 ≤ 1 by omega) (show 0 + 3 ≤ 3 by omega) dIx_near_46 52 (fun qq_77 X_78 H_79 hZ hF hNw => ?_)
          have hFr := hwF.tr hFr hF (fun _ h => h) (fun M h => by first | exact False.elim h | ((try dsimp only at h ⊢); omega))
          have gi := hF _ _ _ (by intro hNS; first | exact False.elim hNS | ((try dsimp only at hNS); omega)) gi
          have gt := itsAt.fr hF (fun M h1 h2 hNS => by first | exact False.elim hNS | ((try dsimp only at hNS); omega)) gt
          have gl := hF _ _ _ (by intro hNS; first | exact False.elim hNS | ((try dsimp only at hNS); omega)) gl
          have gs := seAt.fr hF (by intro hNS; first | exact False.elim hNS | ((try dsimp only at hNS); omega)) (by intro hNS; first | exact False.elim hNS | ((try dsimp only at hNS); omega)) gs
          have gf := tmAt.fr hF (by intro hNS; first | exact False.elim hNS | ((try dsimp only at hNS); omega)) (by intro hNS; first | exact False.elim hNS | ((try dsimp only at hNS); omega)) gf
          have gk := seAt.fr hF (by intro hNS; first | exact False.elim hNS | ((try dsimp only at hNS); omega)) (by intro hNS; first | exact False.elim hNS | ((try dsimp only at hNS); omega)) gk
          have gc := hF _ _ _ (by intro hNS; first | exact False.elim hNS | ((try dsimp only at hNS); omega)) gc
          have ff_64 := hF _ _ _ (by intro hNS; first | exact False.elim hNS | ((try dsimp only at hNS); omega)) ff_64
          have ff_65 := hiAt.fr hF (by intro hNS; first | exact False.elim hNS | ((try dsimp only at hNS); omega)) (by intro hNS; first | exact False.elim hNS | ((try dsimp only at hNS); omega)) (by intro hNS; first | exact False.elim hNS | ((try dsimp only at hNS); omega)) (by intro hNS; first | exact False.elim hNS | ((try dsimp only at hNS); omega)) ff_65
          have ff_66 := tmAt.fr hF (by intro hNS; first | exact False.elim hNS | ((try dsimp only at hNS); omega)) (by intro hNS; first | exact False.elim hNS | ((try dsimp only at hNS); omega)) ff_66
          have ff_67 := txAt.fr hF (by intro hNS; first | exact False.elim hNS | ((try dsimp only at hNS); omega)) (by intro hNS; first | exact False.elim hNS | ((try dsimp only at hNS); omega)) ff_67
          have ff_81 := hNw
          refine lv_dup hx hb dIx_near_49 rfl ?_
          refine lv_lload_n hx hb dIx_near_50 rfl (lv_at hl 1 rfl) ?_
          refine lv_lload hx hb dIx_near_51 (lv_at hl 0 rfl) ?_
          refine lv_iload_n hx hb dIx_near_53 rfl (lv_at hl 4 rfl) ?_
          refine hw_callv (va_runI (As := [.long (lN (eW ((qw.map (trm (lg j) ss)).getD 0 []))), .long (lN (eW ((qw.map (trm (lg j) ss)).getD 1 []))), .int (nI dd)]) (rest := [.ref qq_77, .int (nI j), .ref a]) ⟨hx, hb, hml, hown, hts⟩ (c_NearSearch_init l D K X_78 H_79.size (o := qq_77) (L := 52) (u := ((qw.map (trm (lg j) ss)).getD 0 [])) (v := ((qw.map (trm (lg j) ss)).getD 1 [])) (dd := dd) ff_81) (cwI 3 hts (hwGood (hwAll mm_308)) rfl rfl rfl (hts (.initialized RNearSearch) (hwMem mm_147)) (hts (.methodLink RIx 105 yNearSearch_init) (hwMem mm_309)) (hts (.instanceMethod yNearSearch_init) (hwMem mm_310)) rfl (by decide +kernel) ⟨Nat.le_of_ble_eq_true rfl, Nat.le_of_ble_eq_true rfl⟩) (hw_preS hK hO hZ) rfl rfl hl.1 rfl (lv_room (Nat.le_of_ble_eq_true rfl)) dIx_near_54 ⟨(show 1 + 0 ≤ 1 by omega), (show (0 + 3) + 0 ≤ 3 by omega)⟩) hZ hA (fun X_82 H_83 lc_84 hp hZ => ?_)
          obtain ⟨hF, hN_85⟩ := hp
          have hFr := hwF.tr hFr hF (fun _ h => h) (fun M h => by first | exact False.elim h | ((try dsimp only at h ⊢); omega))
          have gi := hF _ _ _ (by intro hNS; first | exact False.elim hNS | ((try dsimp only at hNS); omega)) gi
          have gt := itsAt.fr hF (fun M h1 h2 hNS => by first | exact False.elim hNS | ((try dsimp only at hNS); omega)) gt
          have gl := hF _ _ _ (by intro hNS; first | exact False.elim hNS | ((try dsimp only at hNS); omega)) gl
          have gs := seAt.fr hF (by intro hNS; first | exact False.elim hNS | ((try dsimp only at hNS); omega)) (by intro hNS; first | exact False.elim hNS | ((try dsimp only at hNS); omega)) gs
          have gf := tmAt.fr hF (by intro hNS; first | exact False.elim hNS | ((try dsimp only at hNS); omega)) (by intro hNS; first | exact False.elim hNS | ((try dsimp only at hNS); omega)) gf
          have gk := seAt.fr hF (by intro hNS; first | exact False.elim hNS | ((try dsimp only at hNS); omega)) (by intro hNS; first | exact False.elim hNS | ((try dsimp only at hNS); omega)) gk
          have gc := hF _ _ _ (by intro hNS; first | exact False.elim hNS | ((try dsimp only at hNS); omega)) gc
          have ff_64 := hF _ _ _ (by intro hNS; first | exact False.elim hNS | ((try dsimp only at hNS); omega)) ff_64
          have ff_65 := hiAt.fr hF (by intro hNS; first | exact False.elim hNS | ((try dsimp only at hNS); omega)) (by intro hNS; first | exact False.elim hNS | ((try dsimp only at hNS); omega)) (by intro hNS; first | exact False.elim hNS | ((try dsimp only at hNS); omega)) (by intro hNS; first | exact False.elim hNS | ((try dsimp only at hNS); omega)) ff_65
          have ff_66 := tmAt.fr hF (by intro hNS; first | exact False.elim hNS | ((try dsimp only at hNS); omega)) (by intro hNS; first | exact False.elim hNS | ((try dsimp only at hNS); omega)) ff_66
          have ff_67 := txAt.fr hF (by intro hNS; first | exact False.elim hNS | ((try dsimp only at hNS); omega)) (by intro hNS; first | exact False.elim hNS | ((try dsimp only at hNS); omega)) ff_67
          have ff_86 := hN_85
          refine hw_calli (va_runV (As := [.int (nI j), .ref qq_77]) (rest := []) ⟨hx, hb, hml, hown, hts⟩ (c_Ix_gatherNea l D K X_82 H_83.size (a := a) (b0 := b0) (b1 := b1) (b2 := b2) (b3 := b3) (b4 := b4) (b5 := b5) (b6 := b6) (b7 := b7) (b8 := b8) (ni := its.length) (fs := fs) (qs := 0) (fi := fi) (fl := fl) (its := its) (lg := lg) (tf := tf) (ss := ss) (hs0 := []) (so := qq_77) (Lo := 52) (u := ((qw.map (trm (lg j) ss)).getD 0 [])) (v := ((qw.map (trm (lg j) ss)).getD 1 [])) (dd := dd) (j := j) ff_64 gi gt gl gf gs ff_65 ff_86 (by omega) (by omega) (by omega) (by assumption) (by assumption) (by assumption) (by assumption) rfl rfl (hT2 0) (hT2 1) (by omega)) (cwV 2 hts (hwGood (hw_4 mm_298 mm_299 mm_300 mm_188 (hwAll mm_297))) rfl rfl rfl (by decide +kernel) ⟨Nat.le_of_ble_eq_true rfl, Nat.le_of_ble_eq_true rfl⟩) (hw_preV hK hO hZ (⟨_, _, ff_64⟩) rfl) rfl rfl hl.1 rfl (lv_room (Nat.le_of_ble_eq_true rfl)) dIx_near_57 ⟨(show 1 + 0 ≤ 1 by omega), (show (0 + 3) + 0 ≤ 3 by omega)⟩) hZ hA (fun r X_87 H_88 lc_89 hp hZ => ?_)
          obtain ⟨tz_90, hr, hF, hN_91, hN_92⟩ := hp
          have hFr := hwF.tr hFr hF (fun _ h => h) (fun M h => by first | exact False.elim h | ((try dsimp only at h ⊢); omega))
          have gi := hF _ _ _ (by intro hNS; first | exact False.elim hNS | ((try dsimp only at hNS); omega)) gi
          have gt := itsAt.fr hF (fun M h1 h2 hNS => by first | exact False.elim hNS | ((try dsimp only at hNS); omega)) gt
          have gl := hF _ _ _ (by intro hNS; first | exact False.elim hNS | ((try dsimp only at hNS); omega)) gl
          have gs := seAt.fr hF (by intro hNS; first | exact False.elim hNS | ((try dsimp only at hNS); omega)) (by intro hNS; first | exact False.elim hNS | ((try dsimp only at hNS); omega)) gs
          have gk := seAt.fr hF (by intro hNS; first | exact False.elim hNS | ((try dsimp only at hNS); omega)) (by intro hNS; first | exact False.elim hNS | ((try dsimp only at hNS); omega)) gk
          have gc := hF _ _ _ (by intro hNS; first | exact False.elim hNS | ((try dsimp only at hNS); omega)) gc
          have ff_64 := hF _ _ _ (by intro hNS; first | exact False.elim hNS | ((try dsimp only at hNS); omega)) ff_64
          have ff_66 := tmAt.fr hF (by intro hNS; first | exact False.elim hNS | ((try dsimp only at hNS); omega)) (by intro hNS; first | exact False.elim hNS | ((try dsimp only at hNS); omega)) ff_66
          have ff_67 := txAt.fr hF (by intro hNS; first | exact False.elim hNS | ((try dsimp only at hNS); omega)) (by intro hNS; first | exact False.elim hNS | ((try dsimp only at hNS); omega)) ff_67
          have ff_86 := hF _ _ _ (by intro hNS; first | exact False.elim hNS | ((try dsimp only at hNS); omega)) ff_86
          have ff_93 := hN_91
          have ff_94 := hN_92
          refine hw_topi hr ?_
          refine W.widen (k := 1) (n := 3) (by omega) (by omega) ?_
          exact hret hZ (by rw [askS_g (kN_nI hj)]; (try dsimp only); rw [hsN_c (fun h => cq_74 ((eW_zero (hT2 _)).mpr h)) (fun h => cq_75 ((eW_zero (hT2 _)).mpr h)) hd1 hd2]; exact ⟨rfl, hFr, ⟨_, _, _, _, _, _, _, _, _, _, _, _, _, _, _, ff_64, gi, gt, gl, hfl, ff_67, gs, ff_94, ff_66, ff_93, gk, gc⟩⟩) dIx_near_60
set_option maxHeartbeats 4000000 in
set_option maxRecDepth 100000 in
theorem p_wild (l : Launch) (D : va_G) (K : Nat → ClassId) (X : hwW) (sz : Nat) (a : Nat) (its : hwIt) (fs : Nat) (lg : Nat → Nat) (qw : List (List Nat)) (qo : Nat) (qs : Nat) (ss : List (List Nat)) (hs : List (Nat × Nat × Nat)) (kk : Int32) (be : Bool) (f0_ : ixAt K X a its fs lg qw qo qs ss hs) (ok : okS its fs lg qw qo qs ss) : Met l yIx_wild (.code yIx_wild cIx_wild 5 (some .int) :: hwG) ({ frames := 7, cells := 1, slots := 2, locals := 162 } : Room) (hwPc D vwCl (hwT K) [.ref a, .int kk, .int (bI be)] X sz) (hwQi D vwCl X sz (fun r Y => r = nI (askS (fun j => hsW (qw.getD 0 []) be (Tf its lg ss j) its.length) kk).length ∧ hwF X Y (fun M => M < 1000) ∧ ixAt K Y a its fs lg [] 0 0 ss (askS (fun j => hsW (qw.getD 0 []) be (Tf its lg ss j) its.length) kk))) 1 2 (va_A X.1 sz) := by
  refine hwMeti (cc := cIx_wild) (maxL := 5) (by decide) rfl (Nat.le_of_ble_eq_true rfl) (fun p e s m args below meth c ls A Q hx hb hml hown hts hname hret hK hO hZ hA hl => ?_)
  have hl : lv_has ls 5 [(0, .ref a), (1, .int kk), (2, .int (bI be))] := hl
  have hFr : hwF X X (fun M => M < 1000) := hwF.rf
  obtain ⟨hni3, hTG, hfs, hlg, hsss, hqG, hq2, hqs⟩ := ok
  have hok := okIt_of hTG hfs
  have hq50 : qw.length ≤ 50 := by split at hq2 <;> omega
  have hne := hqG.1
  obtain ⟨b0, b1, b2, b3, b4, b5, b6, b7, b8, fi, fl, ta, tf, tl, fc, gx, gi, gt, gl, hfl, gq, gs, gh, ga, gf, gk, gc⟩ := f0_
  have hQ2 := fun j => okWs.at (txAt.oks gq) j
  have hQ0 := (hQ2 0).1
  rcases kN_cases kk with hk | ⟨j, hj, rfl⟩
  · refine lv_aload_n hx hb dIx_wild_0 rfl (lv_at hl 0 rfl) ?_
    refine hw_get hx hb hts (hwInn inIx) hown hK hZ gx rfl 4 (by decide) (hts (.fieldLink RIx 22 RIx "question" "LWordIndex2$Text;") (hwMem mm_194)) (fun _ h => h) rfl dIx_wild_1 ?_
    refine lv_iconst (v := nI 0) hx hb dIx_wild_4 (by decide) ?_
    refine hw_calll (va_runV (As := [.int (nI 0)]) (rest := []) ⟨hx, hb, hml, hown, hts⟩ (c_Tx_at l D K X s.heap.size (a := b2) (k := 5) (ws := qw) (o := qo) (j := 0) gq (by omega)) (cwV 1 hts (hwGood (hw_4 mm_311 mm_76 mm_77 mm_45 (hwAll mm_74))) rfl rfl rfl (by decide +kernel) ⟨Nat.le_of_ble_eq_true rfl, Nat.le_of_ble_eq_true rfl⟩) (hw_preV hK hO hZ (txAt.ob gq) rfl) rfl rfl hl.1 rfl (lv_room (Nat.le_of_ble_eq_true rfl)) dIx_wild_5 ⟨(show 0 + 0 ≤ 1 by omega), (show 0 + 0 ≤ 2 by omega)⟩) hZ hA (fun r X_1 H_2 lc_3 hp hZ => ?_)
    obtain ⟨hr, hy⟩ := hp
    subst hy
    refine hw_topl hr ?_
    refine lv_lstore_n (lv' := [(3, .long (lN (eW (qw.getD 0 [])))), (0, .ref a), (1, .int kk), (2, .int (bI be))]) hx hb dIx_wild_8 rfl hl (by decide) rfl (fun ls hl => ?_)
    refine lv_aload_n hx hb dIx_wild_9 rfl (lv_at hl 1 rfl) ?_
    refine lv_iload_n hx hb dIx_wild_10 rfl (lv_at hl 2 rfl) ?_
    refine hw_callv (va_runV (As := [.int kk]) (rest := []) ⟨hx, hb, hml, hown, hts⟩ (c_Ix_startB l D K X H_2.size (a := a) (b0 := b0) (b1 := b1) (b2 := b2) (b3 := b3) (b4 := b4) (b5 := b5) (b6 := b6) (b7 := b7) (b8 := b8) (ni := its.length) (fs := fs) (qs := qs) (hs := hs) (ta := ta) (qw := qw) (qo := qo) (kind := kk) gx gh ga gq (by assumption)) (cwV 1 hts (hwGood (hw_4 mm_289 mm_290 mm_291 mm_188 (hwAll mm_288))) rfl rfl rfl (by decide +kernel) ⟨Nat.le_of_ble_eq_true rfl, Nat.le_of_ble_eq_true rfl⟩) (hw_preV hK hO hZ (⟨_, _, gx⟩) rfl) rfl rfl hl.1 rfl (lv_room (Nat.le_of_ble_eq_true rfl)) dIx_wild_11 ⟨(show 0 + 0 ≤ 1 by omega), (show 0 + 0 ≤ 2 by omega)⟩) hZ hA (fun X_4 H_5 lc_6 hp hZ => ?_)
    obtain ⟨hF, hN_7, hN_8, hN_9, hN_10⟩ := hp
    have hFr := hwF.tr hFr hF (fun _ h => h) (fun M h => by first | exact False.elim h | ((try dsimp only at h ⊢); omega))
    have gi := hF _ _ _ (by intro hNS; first | exact False.elim hNS | ((try dsimp only at hNS); omega)) gi
    have gt := itsAt.fr hF (fun M h1 h2 hNS => by first | exact False.elim hNS | ((try dsimp only at hNS); omega)) gt
    have gl := hF _ _ _ (by intro hNS; first | exact False.elim hNS | ((try dsimp only at hNS); omega)) gl
    have gs := seAt.fr hF (by intro hNS; first | exact False.elim hNS | ((try dsimp only at hNS); omega)) (by intro hNS; first | exact False.elim hNS | ((try dsimp only at hNS); omega)) gs
    have gf := tmAt.fr hF (by intro hNS; first | exact False.elim hNS | ((try dsimp only at hNS); omega)) (by intro hNS; first | exact False.elim hNS | ((try dsimp only at hNS); omega)) gf
    have gk := seAt.fr hF (by intro hNS; first | exact False.elim hNS | ((try dsimp only at hNS); omega)) (by intro hNS; first | exact False.elim hNS | ((try dsimp only at hNS); omega)) gk
    have gc := hF _ _ _ (by intro hNS; first | exact False.elim hNS | ((try dsimp only at hNS); omega)) gc
    have ff_11 := hN_7
    have ff_12 := hN_8
    have ff_13 := hN_9
    have ff_14 := hN_10
    refine lv_lload_n hx hb dIx_wild_14 rfl (lv_at hl 0 rfl) ?_
    refine lv_lconst (v := lN 0) hx hb dIx_wild_15 rfl ?_
    refine hw_lc_eq (a := eW (qw.getD 0 [])) (b := 0) (tgt := 32) hx hb dIx_wild_16 dIx_wild_17 (by decide) (by first | exact eW_lt63 (hT2 _) | exact eW_lt63 (hQ2 _) | exact eW_lt63 (hL2 _) | decide) (by first | exact eW_lt63 (hT2 _) | exact eW_lt63 (hQ2 _) | exact eW_lt63 (hL2 _) | decide) (fun cq_15 => ?_) (fun cq_15 => ?_)
    · refine lv_iconst (v := nI 0) hx hb dIx_wild_32 (by decide) ?_
      refine W.widen (k := 1) (n := 2) (by omega) (by omega) ?_
      exact hret hZ (by rw [askS_b (kN_bad hk)]; exact ⟨rfl, hFr, ⟨_, _, _, _, _, _, _, _, _, _, _, _, _, _, _, ff_11, gi, gt, gl, hfl, ff_14, gs, ff_12, ff_13, gf, gk, gc⟩⟩) dIx_wild_33
    · refine lv_iload_n hx hb dIx_wild_20 rfl (lv_at hl 3 rfl) ?_
      refine hw_bz_eq (tgt := 34) hx hb dIx_wild_21 (by decide) (fun cq_16 => ?_) (fun cq_16 => ?_)
      · refine lv_aload_n hx hb dIx_wild_34 rfl (lv_at hl 1 rfl) ?_
        refine lv_iload_n hx hb dIx_wild_35 rfl (lv_at hl 2 rfl) ?_
        refine hw_new (ci := 9) (fs := [.long (lN 0), .int (nI 0)]) hx hb hts (hwInn inWildSearch) tyWildSearch tyWildSearch_ok hown (hts (.classLink RIx 117 RWildSearch) (hwMem mm_312)) (hts (.instantiable RWildSearch 2) (hwMem mm_313)) (hts (.initialized RWildSearch) (hwMem mm_151)) hK hZ hA rfl (fun j hj => by rcases (show j = 0 ∨ j = 1 by omega) with rfl | rfl <;> rfl) (show 0 + 1 ≤ 1 by omega) (show 0 + 2 ≤ 2 by omega) dIx_wild_36 52 (fun qq_17 X_18 H_19 hZ hF hNw => ?_)
        have hFr := hwF.tr hFr hF (fun _ h => h) (fun M h => by first | exact False.elim h | ((try dsimp only at h ⊢); omega))
        have gi := hF _ _ _ (by intro hNS; first | exact False.elim hNS | ((try dsimp only at hNS); omega)) gi
        have gt := itsAt.fr hF (fun M h1 h2 hNS => by first | exact False.elim hNS | ((try dsimp only at hNS); omega)) gt
        have gl := hF _ _ _ (by intro hNS; first | exact False.elim hNS | ((try dsimp only at hNS); omega)) gl
        have gs := seAt.fr hF (by intro hNS; first | exact False.elim hNS | ((try dsimp only at hNS); omega)) (by intro hNS; first | exact False.elim hNS | ((try dsimp only at hNS); omega)) gs
        have gf := tmAt.fr hF (by intro hNS; first | exact False.elim hNS | ((try dsimp only at hNS); omega)) (by intro hNS; first | exact False.elim hNS | ((try dsimp only at hNS); omega)) gf
        have gk := seAt.fr hF (by intro hNS; first | exact False.elim hNS | ((try dsimp only at hNS); omega)) (by intro hNS; first | exact False.elim hNS | ((try dsimp only at hNS); omega)) gk
        have gc := hF _ _ _ (by intro hNS; first | exact False.elim hNS | ((try dsimp only at hNS); omega)) gc
        have ff_11 := hF _ _ _ (by intro hNS; first | exact False.elim hNS | ((try dsimp only at hNS); omega)) ff_11
        have ff_12 := hiAt.fr hF (by intro hNS; first | exact False.elim hNS | ((try dsimp only at hNS); omega)) (by intro hNS; first | exact False.elim hNS | ((try dsimp only at hNS); omega)) (by intro hNS; first | exact False.elim hNS | ((try dsimp only at hNS); omega)) (by intro hNS; first | exact False.elim hNS | ((try dsimp only at hNS); omega)) ff_12
        have ff_13 := tmAt.fr hF (by intro hNS; first | exact False.elim hNS | ((try dsimp only at hNS); omega)) (by intro hNS; first | exact False.elim hNS | ((try dsimp only at hNS); omega)) ff_13
        have ff_14 := txAt.fr hF (by intro hNS; first | exact False.elim hNS | ((try dsimp only at hNS); omega)) (by intro hNS; first | exact False.elim hNS | ((try dsimp only at hNS); omega)) ff_14
        have ff_21 := hNw
        refine lv_dup hx hb dIx_wild_39 rfl ?_
        refine lv_lload_n hx hb dIx_wild_40 rfl (lv_at hl 0 rfl) ?_
        refine lv_iload_n hx hb dIx_wild_41 rfl (lv_at hl 3 rfl) ?_
        refine hw_callv (va_runI (As := [.long (lN (eW (qw.getD 0 []))), .int (bI be)]) (rest := [.ref qq_17, .int kk, .ref a]) ⟨hx, hb, hml, hown, hts⟩ (c_WildSearch_init l D K X_18 H_19.size (o := qq_17) (L := 52) (u := (qw.getD 0 [])) (be := be) ff_21) (cwI 2 hts (hwGood (hwAll mm_314)) rfl rfl rfl (hts (.initialized RWildSearch) (hwMem mm_151)) (hts (.methodLink RIx 119 yWildSearch_init) (hwMem mm_315)) (hts (.instanceMethod yWildSearch_init) (hwMem mm_316)) rfl (by decide +kernel) ⟨Nat.le_of_ble_eq_true rfl, Nat.le_of_ble_eq_true rfl⟩) (hw_preS hK hO hZ) rfl rfl hl.1 rfl (lv_room (Nat.le_of_ble_eq_true rfl)) dIx_wild_42 ⟨(show 1 + 0 ≤ 1 by omega), (show (0 + 2) + 0 ≤ 2 by omega)⟩) hZ hA (fun X_22 H_23 lc_24 hp hZ => ?_)
        obtain ⟨hF, hN_25⟩ := hp
        have hFr := hwF.tr hFr hF (fun _ h => h) (fun M h => by first | exact False.elim h | ((try dsimp only at h ⊢); omega))
        have gi := hF _ _ _ (by intro hNS; first | exact False.elim hNS | ((try dsimp only at hNS); omega)) gi
        have gt := itsAt.fr hF (fun M h1 h2 hNS => by first | exact False.elim hNS | ((try dsimp only at hNS); omega)) gt
        have gl := hF _ _ _ (by intro hNS; first | exact False.elim hNS | ((try dsimp only at hNS); omega)) gl
        have gs := seAt.fr hF (by intro hNS; first | exact False.elim hNS | ((try dsimp only at hNS); omega)) (by intro hNS; first | exact False.elim hNS | ((try dsimp only at hNS); omega)) gs
        have gf := tmAt.fr hF (by intro hNS; first | exact False.elim hNS | ((try dsimp only at hNS); omega)) (by intro hNS; first | exact False.elim hNS | ((try dsimp only at hNS); omega)) gf
        have gk := seAt.fr hF (by intro hNS; first | exact False.elim hNS | ((try dsimp only at hNS); omega)) (by intro hNS; first | exact False.elim hNS | ((try dsimp only at hNS); omega)) gk
        have gc := hF _ _ _ (by intro hNS; first | exact False.elim hNS | ((try dsimp only at hNS); omega)) gc
        have ff_11 := hF _ _ _ (by intro hNS; first | exact False.elim hNS | ((try dsimp only at hNS); omega)) ff_11
        have ff_12 := hiAt.fr hF (by intro hNS; first | exact False.elim hNS | ((try dsimp only at hNS); omega)) (by intro hNS; first | exact False.elim hNS | ((try dsimp only at hNS); omega)) (by intro hNS; first | exact False.elim hNS | ((try dsimp only at hNS); omega)) (by intro hNS; first | exact False.elim hNS | ((try dsimp only at hNS); omega)) ff_12
        have ff_13 := tmAt.fr hF (by intro hNS; first | exact False.elim hNS | ((try dsimp only at hNS); omega)) (by intro hNS; first | exact False.elim hNS | ((try dsimp only at hNS); omega)) ff_13
        have ff_14 := txAt.fr hF (by intro hNS; first | exact False.elim hNS | ((try dsimp only at hNS); omega)) (by intro hNS; first | exact False.elim hNS | ((try dsimp only at hNS); omega)) ff_14
        have ff_26 := hN_25
        refine hw_calli (va_runV (As := [.int kk, .ref qq_17]) (rest := []) ⟨hx, hb, hml, hown, hts⟩ (c_Ix_gatherK l D K X_22 H_23.size (a := a) (b0 := b0) (b1 := b1) (b2 := b2) (b3 := b3) (b4 := b4) (b5 := b5) (b6 := b6) (b7 := b7) (b8 := b8) (ni := its.length) (fs := fs) (qs := 0) (fi := fi) (its := its) (hs0 := []) (so := qq_17) (kind := kk) ff_11 gi gt ff_12 (by omega) (by omega) (by assumption)) (cwV 2 hts (hwGood (hw_4 mm_298 mm_299 mm_300 mm_188 (hwAll mm_297))) rfl rfl rfl (by decide +kernel) ⟨Nat.le_of_ble_eq_true rfl, Nat.le_of_ble_eq_true rfl⟩) (hw_preV hK hO hZ (⟨_, _, ff_11⟩) rfl) rfl rfl hl.1 rfl (lv_room (Nat.le_of_ble_eq_true rfl)) dIx_wild_45 ⟨(show 1 + 0 ≤ 1 by omega), (show (0 + 2) + 0 ≤ 2 by omega)⟩) hZ hA (fun r X_27 H_28 lc_29 hp hZ => ?_)
        obtain ⟨hr, hy⟩ := hp
        subst hy
        refine hw_topi hr ?_
        refine W.widen (k := 1) (n := 2) (by omega) (by omega) ?_
        exact hret hZ (by rw [askS_b (kN_bad hk)]; exact ⟨rfl, hFr, ⟨_, _, _, _, _, _, _, _, _, _, _, _, _, _, _, ff_11, gi, gt, gl, hfl, ff_14, gs, ff_12, ff_13, gf, gk, gc⟩⟩) dIx_wild_48
      · refine lv_lload_n hx hb dIx_wild_24 rfl (lv_at hl 0 rfl) ?_
        refine hw_calli (va_runS (As := [.long (lN (eW (qw.getD 0 [])))]) (rest := []) ⟨hx, hb, hml, hown, hts⟩ (c_W_length l D K X_4 H_5.size (w := (qw.getD 0 [])) (hQ2 0)) (va_cwS 1 hts (hwGood (hw_3 mm_317 mm_8 mm_3 (hwAll mm_7))) rfl rfl rfl (by decide +kernel) ⟨Nat.le_of_ble_eq_true rfl, Nat.le_of_ble_eq_true rfl⟩) (hw_preS hK hO hZ) rfl rfl hl.1 rfl (lv_room (Nat.le_of_ble_eq_true rfl)) dIx_wild_25 ⟨(show 0 + 0 ≤ 1 by omega), (show 0 + 0 ≤ 2 by omega)⟩) hZ hA (fun r X_30 H_31 lc_32 hp hZ => ?_)
        obtain ⟨hr, hy⟩ := hp
        subst hy
        refine hw_topi hr ?_
        refine lv_iconst (v := nI 3) hx hb dIx_wild_28 (by decide) ?_
        refine hw_ic_ge (a := (qw.getD 0 []).length) (b := 3) (tgt := 34) hx hb dIx_wild_29 (by decide) (by omega) (by omega) (fun cq_33 => ?_) (fun cq_33 => ?_)
        · refine lv_aload_n hx hb dIx_wild_34 rfl (lv_at hl 1 rfl) ?_
          refine lv_iload_n hx hb dIx_wild_35 rfl (lv_at hl 2 rfl) ?_
          refine hw_new (ci := 9) (fs := [.long (lN 0), .int (nI 0)]) hx hb hts (hwInn inWildSearch) tyWildSearch tyWildSearch_ok hown (hts (.classLink RIx 117 RWildSearch) (hwMem mm_312)) (hts (.instantiable RWildSearch 2) (hwMem mm_313)) (hts (.initialized RWildSearch) (hwMem mm_151)) hK hZ hA rfl (fun j hj => by rcases (show j = 0 ∨ j = 1 by omega) with rfl | rfl <;> rfl) (show 0 + 1 ≤ 1 by omega) (show 0 + 2 ≤ 2 by omega) dIx_wild_36 52 (fun qq_34 X_35 H_36 hZ hF hNw => ?_)
          have hFr := hwF.tr hFr hF (fun _ h => h) (fun M h => by first | exact False.elim h | ((try dsimp only at h ⊢); omega))
          have gi := hF _ _ _ (by intro hNS; first | exact False.elim hNS | ((try dsimp only at hNS); omega)) gi
          have gt := itsAt.fr hF (fun M h1 h2 hNS => by first | exact False.elim hNS | ((try dsimp only at hNS); omega)) gt
          have gl := hF _ _ _ (by intro hNS; first | exact False.elim hNS | ((try dsimp only at hNS); omega)) gl
          have gs := seAt.fr hF (by intro hNS; first | exact False.elim hNS | ((try dsimp only at hNS); omega)) (by intro hNS; first | exact False.elim hNS | ((try dsimp only at hNS); omega)) gs
          have gf := tmAt.fr hF (by intro hNS; first | exact False.elim hNS | ((try dsimp only at hNS); omega)) (by intro hNS; first | exact False.elim hNS | ((try dsimp only at hNS); omega)) gf
          have gk := seAt.fr hF (by intro hNS; first | exact False.elim hNS | ((try dsimp only at hNS); omega)) (by intro hNS; first | exact False.elim hNS | ((try dsimp only at hNS); omega)) gk
          have gc := hF _ _ _ (by intro hNS; first | exact False.elim hNS | ((try dsimp only at hNS); omega)) gc
          have ff_11 := hF _ _ _ (by intro hNS; first | exact False.elim hNS | ((try dsimp only at hNS); omega)) ff_11
          have ff_12 := hiAt.fr hF (by intro hNS; first | exact False.elim hNS | ((try dsimp only at hNS); omega)) (by intro hNS; first | exact False.elim hNS | ((try dsimp only at hNS); omega)) (by intro hNS; first | exact False.elim hNS | ((try dsimp only at hNS); omega)) (by intro hNS; first | exact False.elim hNS | ((try dsimp only at hNS); omega)) ff_12
          have ff_13 := tmAt.fr hF (by intro hNS; first | exact False.elim hNS | ((try dsimp only at hNS); omega)) (by intro hNS; first | exact False.elim hNS | ((try dsimp only at hNS); omega)) ff_13
          have ff_14 := txAt.fr hF (by intro hNS; first | exact False.elim hNS | ((try dsimp only at hNS); omega)) (by intro hNS; first | exact False.elim hNS | ((try dsimp only at hNS); omega)) ff_14
          have ff_38 := hNw
          refine lv_dup hx hb dIx_wild_39 rfl ?_
          refine lv_lload_n hx hb dIx_wild_40 rfl (lv_at hl 0 rfl) ?_
          refine lv_iload_n hx hb dIx_wild_41 rfl (lv_at hl 3 rfl) ?_
          refine hw_callv (va_runI (As := [.long (lN (eW (qw.getD 0 []))), .int (bI be)]) (rest := [.ref qq_34, .int kk, .ref a]) ⟨hx, hb, hml, hown, hts⟩ (c_WildSearch_init l D K X_35 H_36.size (o := qq_34) (L := 52) (u := (qw.getD 0 [])) (be := be) ff_38) (cwI 2 hts (hwGood (hwAll mm_314)) rfl rfl rfl (hts (.initialized RWildSearch) (hwMem mm_151)) (hts (.methodLink RIx 119 yWildSearch_init) (hwMem mm_315)) (hts (.instanceMethod yWildSearch_init) (hwMem mm_316)) rfl (by decide +kernel) ⟨Nat.le_of_ble_eq_true rfl, Nat.le_of_ble_eq_true rfl⟩) (hw_preS hK hO hZ) rfl rfl hl.1 rfl (lv_room (Nat.le_of_ble_eq_true rfl)) dIx_wild_42 ⟨(show 1 + 0 ≤ 1 by omega), (show (0 + 2) + 0 ≤ 2 by omega)⟩) hZ hA (fun X_39 H_40 lc_41 hp hZ => ?_)
          obtain ⟨hF, hN_42⟩ := hp
          have hFr := hwF.tr hFr hF (fun _ h => h) (fun M h => by first | exact False.elim h | ((try dsimp only at h ⊢); omega))
          have gi := hF _ _ _ (by intro hNS; first | exact False.elim hNS | ((try dsimp only at hNS); omega)) gi
          have gt := itsAt.fr hF (fun M h1 h2 hNS => by first | exact False.elim hNS | ((try dsimp only at hNS); omega)) gt
          have gl := hF _ _ _ (by intro hNS; first | exact False.elim hNS | ((try dsimp only at hNS); omega)) gl
          have gs := seAt.fr hF (by intro hNS; first | exact False.elim hNS | ((try dsimp only at hNS); omega)) (by intro hNS; first | exact False.elim hNS | ((try dsimp only at hNS); omega)) gs
          have gf := tmAt.fr hF (by intro hNS; first | exact False.elim hNS | ((try dsimp only at hNS); omega)) (by intro hNS; first | exact False.elim hNS | ((try dsimp only at hNS); omega)) gf
          have gk := seAt.fr hF (by intro hNS; first | exact False.elim hNS | ((try dsimp only at hNS); omega)) (by intro hNS; first | exact False.elim hNS | ((try dsimp only at hNS); omega)) gk
          have gc := hF _ _ _ (by intro hNS; first | exact False.elim hNS | ((try dsimp only at hNS); omega)) gc
          have ff_11 := hF _ _ _ (by intro hNS; first | exact False.elim hNS | ((try dsimp only at hNS); omega)) ff_11
          have ff_12 := hiAt.fr hF (by intro hNS; first | exact False.elim hNS | ((try dsimp only at hNS); omega)) (by intro hNS; first | exact False.elim hNS | ((try dsimp only at hNS); omega)) (by intro hNS; first | exact False.elim hNS | ((try dsimp only at hNS); omega)) (by intro hNS; first | exact False.elim hNS | ((try dsimp only at hNS); omega)) ff_12
          have ff_13 := tmAt.fr hF (by intro hNS; first | exact False.elim hNS | ((try dsimp only at hNS); omega)) (by intro hNS; first | exact False.elim hNS | ((try dsimp only at hNS); omega)) ff_13
          have ff_14 := txAt.fr hF (by intro hNS; first | exact False.elim hNS | ((try dsimp only at hNS); omega)) (by intro hNS; first | exact False.elim hNS | ((try dsimp only at hNS); omega)) ff_14
          have ff_43 := hN_42
          refine hw_calli (va_runV (As := [.int kk, .ref qq_34]) (rest := []) ⟨hx, hb, hml, hown, hts⟩ (c_Ix_gatherK l D K X_39 H_40.size (a := a) (b0 := b0) (b1 := b1) (b2 := b2) (b3 := b3) (b4 := b4) (b5 := b5) (b6 := b6) (b7 := b7) (b8 := b8) (ni := its.length) (fs := fs) (qs := 0) (fi := fi) (its := its) (hs0 := []) (so := qq_34) (kind := kk) ff_11 gi gt ff_12 (by omega) (by omega) (by assumption)) (cwV 2 hts (hwGood (hw_4 mm_298 mm_299 mm_300 mm_188 (hwAll mm_297))) rfl rfl rfl (by decide +kernel) ⟨Nat.le_of_ble_eq_true rfl, Nat.le_of_ble_eq_true rfl⟩) (hw_preV hK hO hZ (⟨_, _, ff_11⟩) rfl) rfl rfl hl.1 rfl (lv_room (Nat.le_of_ble_eq_true rfl)) dIx_wild_45 ⟨(show 1 + 0 ≤ 1 by omega), (show (0 + 2) + 0 ≤ 2 by omega)⟩) hZ hA (fun r X_44 H_45 lc_46 hp hZ => ?_)
          obtain ⟨hr, hy⟩ := hp
          subst hy
          refine hw_topi hr ?_
          refine W.widen (k := 1) (n := 2) (by omega) (by omega) ?_
          exact hret hZ (by rw [askS_b (kN_bad hk)]; exact ⟨rfl, hFr, ⟨_, _, _, _, _, _, _, _, _, _, _, _, _, _, _, ff_11, gi, gt, gl, hfl, ff_14, gs, ff_12, ff_13, gf, gk, gc⟩⟩) dIx_wild_48
        · refine lv_iconst (v := nI 0) hx hb dIx_wild_32 (by decide) ?_
          refine W.widen (k := 1) (n := 2) (by omega) (by omega) ?_
          exact hret hZ (by rw [askS_b (kN_bad hk)]; exact ⟨rfl, hFr, ⟨_, _, _, _, _, _, _, _, _, _, _, _, _, _, _, ff_11, gi, gt, gl, hfl, ff_14, gs, ff_12, ff_13, gf, gk, gc⟩⟩) dIx_wild_33
  · refine lv_aload_n hx hb dIx_wild_0 rfl (lv_at hl 0 rfl) ?_
    refine hw_get hx hb hts (hwInn inIx) hown hK hZ gx rfl 4 (by decide) (hts (.fieldLink RIx 22 RIx "question" "LWordIndex2$Text;") (hwMem mm_194)) (fun _ h => h) rfl dIx_wild_1 ?_
    refine lv_iconst (v := nI 0) hx hb dIx_wild_4 (by decide) ?_
    refine hw_calll (va_runV (As := [.int (nI 0)]) (rest := []) ⟨hx, hb, hml, hown, hts⟩ (c_Tx_at l D K X s.heap.size (a := b2) (k := 5) (ws := qw) (o := qo) (j := 0) gq (by omega)) (cwV 1 hts (hwGood (hw_4 mm_311 mm_76 mm_77 mm_45 (hwAll mm_74))) rfl rfl rfl (by decide +kernel) ⟨Nat.le_of_ble_eq_true rfl, Nat.le_of_ble_eq_true rfl⟩) (hw_preV hK hO hZ (txAt.ob gq) rfl) rfl rfl hl.1 rfl (lv_room (Nat.le_of_ble_eq_true rfl)) dIx_wild_5 ⟨(show 0 + 0 ≤ 1 by omega), (show 0 + 0 ≤ 2 by omega)⟩) hZ hA (fun r X_47 H_48 lc_49 hp hZ => ?_)
    obtain ⟨hr, hy⟩ := hp
    subst hy
    refine hw_topl hr ?_
    refine lv_lstore_n (lv' := [(3, .long (lN (eW (qw.getD 0 [])))), (0, .ref a), (1, .int (nI j)), (2, .int (bI be))]) hx hb dIx_wild_8 rfl hl (by decide) rfl (fun ls hl => ?_)
    refine lv_aload_n hx hb dIx_wild_9 rfl (lv_at hl 1 rfl) ?_
    refine lv_iload_n hx hb dIx_wild_10 rfl (lv_at hl 2 rfl) ?_
    refine hw_callv (va_runV (As := [.int (nI j)]) (rest := []) ⟨hx, hb, hml, hown, hts⟩ (c_Ix_start l D K X H_48.size (a := a) (b0 := b0) (b1 := b1) (b2 := b2) (b3 := b3) (b4 := b4) (b5 := b5) (b6 := b6) (b7 := b7) (b8 := b8) (ni := its.length) (fs := fs) (qs := qs) (fl := fl) (lg := lg) (hs := hs) (ta := ta) (qw := qw) (qo := qo) (ss := ss) (j := j) gx gl gh ga gq gs (by omega) (by assumption) (by assumption) (by omega) (by assumption) (by assumption)) (cwV 1 hts (hwGood (hw_4 mm_289 mm_290 mm_291 mm_188 (hwAll mm_288))) rfl rfl rfl (by decide +kernel) ⟨Nat.le_of_ble_eq_true rfl, Nat.le_of_ble_eq_true rfl⟩) (hw_preV hK hO hZ (⟨_, _, gx⟩) rfl) rfl rfl hl.1 rfl (lv_room (Nat.le_of_ble_eq_true rfl)) dIx_wild_11 ⟨(show 0 + 0 ≤ 1 by omega), (show 0 + 0 ≤ 2 by omega)⟩) hZ hA (fun X_50 H_51 lc_52 hp hZ => ?_)
    obtain ⟨hF, hN_53, hN_54, hN_55, hN_56⟩ := hp
    have hFr := hwF.tr hFr hF (fun _ h => h) (fun M h => by first | exact False.elim h | ((try dsimp only at h ⊢); omega))
    have gi := hF _ _ _ (by intro hNS; first | exact False.elim hNS | ((try dsimp only at hNS); omega)) gi
    have gt := itsAt.fr hF (fun M h1 h2 hNS => by first | exact False.elim hNS | ((try dsimp only at hNS); omega)) gt
    have gl := hF _ _ _ (by intro hNS; first | exact False.elim hNS | ((try dsimp only at hNS); omega)) gl
    have gs := seAt.fr hF (by intro hNS; first | exact False.elim hNS | ((try dsimp only at hNS); omega)) (by intro hNS; first | exact False.elim hNS | ((try dsimp only at hNS); omega)) gs
    have gf := tmAt.fr hF (by intro hNS; first | exact False.elim hNS | ((try dsimp only at hNS); omega)) (by intro hNS; first | exact False.elim hNS | ((try dsimp only at hNS); omega)) gf
    have gk := seAt.fr hF (by intro hNS; first | exact False.elim hNS | ((try dsimp only at hNS); omega)) (by intro hNS; first | exact False.elim hNS | ((try dsimp only at hNS); omega)) gk
    have gc := hF _ _ _ (by intro hNS; first | exact False.elim hNS | ((try dsimp only at hNS); omega)) gc
    have ff_57 := hN_53
    have ff_58 := hN_54
    have ff_59 := hN_55
    have ff_60 := hN_56
    refine lv_lload_n hx hb dIx_wild_14 rfl (lv_at hl 0 rfl) ?_
    refine lv_lconst (v := lN 0) hx hb dIx_wild_15 rfl ?_
    refine hw_lc_eq (a := eW (qw.getD 0 [])) (b := 0) (tgt := 32) hx hb dIx_wild_16 dIx_wild_17 (by decide) (by first | exact eW_lt63 (hT2 _) | exact eW_lt63 (hQ2 _) | exact eW_lt63 (hL2 _) | decide) (by first | exact eW_lt63 (hT2 _) | exact eW_lt63 (hQ2 _) | exact eW_lt63 (hL2 _) | decide) (fun cq_61 => ?_) (fun cq_61 => ?_)
    · refine lv_iconst (v := nI 0) hx hb dIx_wild_32 (by decide) ?_
      refine W.widen (k := 1) (n := 2) (by omega) (by omega) ?_
      exact hret hZ (by rw [askS_g (kN_nI hj)]; (try dsimp only); rw [hsW_e (Or.inl ((eW_zero (hQ2 _)).mp cq_61))]; exact ⟨rfl, hFr, ⟨_, _, _, _, _, _, _, _, _, _, _, _, _, _, _, ff_57, gi, gt, gl, hfl, ff_60, gs, ff_58, ff_59, gf, gk, gc⟩⟩) dIx_wild_33
    · refine lv_iload_n hx hb dIx_wild_20 rfl (lv_at hl 3 rfl) ?_
      refine hw_bz_eq (tgt := 34) hx hb dIx_wild_21 (by decide) (fun cq_62 => ?_) (fun cq_62 => ?_)
      · refine lv_aload_n hx hb dIx_wild_34 rfl (lv_at hl 1 rfl) ?_
        refine lv_iload_n hx hb dIx_wild_35 rfl (lv_at hl 2 rfl) ?_
        refine hw_new (ci := 9) (fs := [.long (lN 0), .int (nI 0)]) hx hb hts (hwInn inWildSearch) tyWildSearch tyWildSearch_ok hown (hts (.classLink RIx 117 RWildSearch) (hwMem mm_312)) (hts (.instantiable RWildSearch 2) (hwMem mm_313)) (hts (.initialized RWildSearch) (hwMem mm_151)) hK hZ hA rfl (fun j hj => by rcases (show j = 0 ∨ j = 1 by omega) with rfl | rfl <;> rfl) (show 0 + 1 ≤ 1 by omega) (show 0 + 2 ≤ 2 by omega) dIx_wild_36 52 (fun qq_63 X_64 H_65 hZ hF hNw => ?_)
        have hFr := hwF.tr hFr hF (fun _ h => h) (fun M h => by first | exact False.elim h | ((try dsimp only at h ⊢); omega))
        have gi := hF _ _ _ (by intro hNS; first | exact False.elim hNS | ((try dsimp only at hNS); omega)) gi
        have gt := itsAt.fr hF (fun M h1 h2 hNS => by first | exact False.elim hNS | ((try dsimp only at hNS); omega)) gt
        have gl := hF _ _ _ (by intro hNS; first | exact False.elim hNS | ((try dsimp only at hNS); omega)) gl
        have gs := seAt.fr hF (by intro hNS; first | exact False.elim hNS | ((try dsimp only at hNS); omega)) (by intro hNS; first | exact False.elim hNS | ((try dsimp only at hNS); omega)) gs
        have gf := tmAt.fr hF (by intro hNS; first | exact False.elim hNS | ((try dsimp only at hNS); omega)) (by intro hNS; first | exact False.elim hNS | ((try dsimp only at hNS); omega)) gf
        have gk := seAt.fr hF (by intro hNS; first | exact False.elim hNS | ((try dsimp only at hNS); omega)) (by intro hNS; first | exact False.elim hNS | ((try dsimp only at hNS); omega)) gk
        have gc := hF _ _ _ (by intro hNS; first | exact False.elim hNS | ((try dsimp only at hNS); omega)) gc
        have ff_57 := hF _ _ _ (by intro hNS; first | exact False.elim hNS | ((try dsimp only at hNS); omega)) ff_57
        have ff_58 := hiAt.fr hF (by intro hNS; first | exact False.elim hNS | ((try dsimp only at hNS); omega)) (by intro hNS; first | exact False.elim hNS | ((try dsimp only at hNS); omega)) (by intro hNS; first | exact False.elim hNS | ((try dsimp only at hNS); omega)) (by intro hNS; first | exact False.elim hNS | ((try dsimp only at hNS); omega)) ff_58
        have ff_59 := tmAt.fr hF (by intro hNS; first | exact False.elim hNS | ((try dsimp only at hNS); omega)) (by intro hNS; first | exact False.elim hNS | ((try dsimp only at hNS); omega)) ff_59
        have ff_60 := txAt.fr hF (by intro hNS; first | exact False.elim hNS | ((try dsimp only at hNS); omega)) (by intro hNS; first | exact False.elim hNS | ((try dsimp only at hNS); omega)) ff_60
        have ff_67 := hNw
        refine lv_dup hx hb dIx_wild_39 rfl ?_
        refine lv_lload_n hx hb dIx_wild_40 rfl (lv_at hl 0 rfl) ?_
        refine lv_iload_n hx hb dIx_wild_41 rfl (lv_at hl 3 rfl) ?_
        refine hw_callv (va_runI (As := [.long (lN (eW (qw.getD 0 []))), .int (bI be)]) (rest := [.ref qq_63, .int (nI j), .ref a]) ⟨hx, hb, hml, hown, hts⟩ (c_WildSearch_init l D K X_64 H_65.size (o := qq_63) (L := 52) (u := (qw.getD 0 [])) (be := be) ff_67) (cwI 2 hts (hwGood (hwAll mm_314)) rfl rfl rfl (hts (.initialized RWildSearch) (hwMem mm_151)) (hts (.methodLink RIx 119 yWildSearch_init) (hwMem mm_315)) (hts (.instanceMethod yWildSearch_init) (hwMem mm_316)) rfl (by decide +kernel) ⟨Nat.le_of_ble_eq_true rfl, Nat.le_of_ble_eq_true rfl⟩) (hw_preS hK hO hZ) rfl rfl hl.1 rfl (lv_room (Nat.le_of_ble_eq_true rfl)) dIx_wild_42 ⟨(show 1 + 0 ≤ 1 by omega), (show (0 + 2) + 0 ≤ 2 by omega)⟩) hZ hA (fun X_68 H_69 lc_70 hp hZ => ?_)
        obtain ⟨hF, hN_71⟩ := hp
        have hFr := hwF.tr hFr hF (fun _ h => h) (fun M h => by first | exact False.elim h | ((try dsimp only at h ⊢); omega))
        have gi := hF _ _ _ (by intro hNS; first | exact False.elim hNS | ((try dsimp only at hNS); omega)) gi
        have gt := itsAt.fr hF (fun M h1 h2 hNS => by first | exact False.elim hNS | ((try dsimp only at hNS); omega)) gt
        have gl := hF _ _ _ (by intro hNS; first | exact False.elim hNS | ((try dsimp only at hNS); omega)) gl
        have gs := seAt.fr hF (by intro hNS; first | exact False.elim hNS | ((try dsimp only at hNS); omega)) (by intro hNS; first | exact False.elim hNS | ((try dsimp only at hNS); omega)) gs
        have gf := tmAt.fr hF (by intro hNS; first | exact False.elim hNS | ((try dsimp only at hNS); omega)) (by intro hNS; first | exact False.elim hNS | ((try dsimp only at hNS); omega)) gf
        have gk := seAt.fr hF (by intro hNS; first | exact False.elim hNS | ((try dsimp only at hNS); omega)) (by intro hNS; first | exact False.elim hNS | ((try dsimp only at hNS); omega)) gk
        have gc := hF _ _ _ (by intro hNS; first | exact False.elim hNS | ((try dsimp only at hNS); omega)) gc
        have ff_57 := hF _ _ _ (by intro hNS; first | exact False.elim hNS | ((try dsimp only at hNS); omega)) ff_57
        have ff_58 := hiAt.fr hF (by intro hNS; first | exact False.elim hNS | ((try dsimp only at hNS); omega)) (by intro hNS; first | exact False.elim hNS | ((try dsimp only at hNS); omega)) (by intro hNS; first | exact False.elim hNS | ((try dsimp only at hNS); omega)) (by intro hNS; first | exact False.elim hNS | ((try dsimp only at hNS); omega)) ff_58
        have ff_59 := tmAt.fr hF (by intro hNS; first | exact False.elim hNS | ((try dsimp only at hNS); omega)) (by intro hNS; first | exact False.elim hNS | ((try dsimp only at hNS); omega)) ff_59
        have ff_60 := txAt.fr hF (by intro hNS; first | exact False.elim hNS | ((try dsimp only at hNS); omega)) (by intro hNS; first | exact False.elim hNS | ((try dsimp only at hNS); omega)) ff_60
        have ff_72 := hN_71
        refine hw_calli (va_runV (As := [.int (nI j), .ref qq_63]) (rest := []) ⟨hx, hb, hml, hown, hts⟩ (c_Ix_gatherWil l D K X_68 H_69.size (a := a) (b0 := b0) (b1 := b1) (b2 := b2) (b3 := b3) (b4 := b4) (b5 := b5) (b6 := b6) (b7 := b7) (b8 := b8) (ni := its.length) (fs := fs) (qs := 0) (fi := fi) (fl := fl) (its := its) (lg := lg) (tf := tf) (ss := ss) (hs0 := []) (so := qq_63) (Lo := 52) (u := (qw.getD 0 [])) (be := be) (j := j) ff_57 gi gt gl gf gs ff_58 ff_72 (by omega) (by omega) (by omega) (by assumption) (by assumption) (by assumption) (by assumption) rfl rfl (hQ2 0)) (cwV 2 hts (hwGood (hw_4 mm_298 mm_299 mm_300 mm_188 (hwAll mm_297))) rfl rfl rfl (by decide +kernel) ⟨Nat.le_of_ble_eq_true rfl, Nat.le_of_ble_eq_true rfl⟩) (hw_preV hK hO hZ (⟨_, _, ff_57⟩) rfl) rfl rfl hl.1 rfl (lv_room (Nat.le_of_ble_eq_true rfl)) dIx_wild_45 ⟨(show 1 + 0 ≤ 1 by omega), (show (0 + 2) + 0 ≤ 2 by omega)⟩) hZ hA (fun r X_73 H_74 lc_75 hp hZ => ?_)
        obtain ⟨tz_76, hr, hF, hN_77, hN_78⟩ := hp
        have hFr := hwF.tr hFr hF (fun _ h => h) (fun M h => by first | exact False.elim h | ((try dsimp only at h ⊢); omega))
        have gi := hF _ _ _ (by intro hNS; first | exact False.elim hNS | ((try dsimp only at hNS); omega)) gi
        have gt := itsAt.fr hF (fun M h1 h2 hNS => by first | exact False.elim hNS | ((try dsimp only at hNS); omega)) gt
        have gl := hF _ _ _ (by intro hNS; first | exact False.elim hNS | ((try dsimp only at hNS); omega)) gl
        have gs := seAt.fr hF (by intro hNS; first | exact False.elim hNS | ((try dsimp only at hNS); omega)) (by intro hNS; first | exact False.elim hNS | ((try dsimp only at hNS); omega)) gs
        have gk := seAt.fr hF (by intro hNS; first | exact False.elim hNS | ((try dsimp only at hNS); omega)) (by intro hNS; first | exact False.elim hNS | ((try dsimp only at hNS); omega)) gk
        have gc := hF _ _ _ (by intro hNS; first | exact False.elim hNS | ((try dsimp only at hNS); omega)) gc
        have ff_57 := hF _ _ _ (by intro hNS; first | exact False.elim hNS | ((try dsimp only at hNS); omega)) ff_57
        have ff_59 := tmAt.fr hF (by intro hNS; first | exact False.elim hNS | ((try dsimp only at hNS); omega)) (by intro hNS; first | exact False.elim hNS | ((try dsimp only at hNS); omega)) ff_59
        have ff_60 := txAt.fr hF (by intro hNS; first | exact False.elim hNS | ((try dsimp only at hNS); omega)) (by intro hNS; first | exact False.elim hNS | ((try dsimp only at hNS); omega)) ff_60
        have ff_72 := hF _ _ _ (by intro hNS; first | exact False.elim hNS | ((try dsimp only at hNS); omega)) ff_72
        have ff_79 := hN_77
        have ff_80 := hN_78
        refine hw_topi hr ?_
        refine W.widen (k := 1) (n := 2) (by omega) (by omega) ?_
        exact hret hZ (by rw [askS_g (kN_nI hj)]; (try dsimp only); rw [hsW_g (fun h => cq_61 ((eW_zero (hQ2 _)).mpr h)) (fun h => by rw [cq_62] at h; cases h)]; exact ⟨rfl, hFr, ⟨_, _, _, _, _, _, _, _, _, _, _, _, _, _, _, ff_57, gi, gt, gl, hfl, ff_60, gs, ff_80, ff_59, ff_79, gk, gc⟩⟩) dIx_wild_48
      · refine lv_lload_n hx hb dIx_wild_24 rfl (lv_at hl 0 rfl) ?_
        refine hw_calli (va_runS (As := [.long (lN (eW (qw.getD 0 [])))]) (rest := []) ⟨hx, hb, hml, hown, hts⟩ (c_W_length l D K X_50 H_51.size (w := (qw.getD 0 [])) (hQ2 0)) (va_cwS 1 hts (hwGood (hw_3 mm_317 mm_8 mm_3 (hwAll mm_7))) rfl rfl rfl (by decide +kernel) ⟨Nat.le_of_ble_eq_true rfl, Nat.le_of_ble_eq_true rfl⟩) (hw_preS hK hO hZ) rfl rfl hl.1 rfl (lv_room (Nat.le_of_ble_eq_true rfl)) dIx_wild_25 ⟨(show 0 + 0 ≤ 1 by omega), (show 0 + 0 ≤ 2 by omega)⟩) hZ hA (fun r X_81 H_82 lc_83 hp hZ => ?_)
        obtain ⟨hr, hy⟩ := hp
        subst hy
        refine hw_topi hr ?_
        refine lv_iconst (v := nI 3) hx hb dIx_wild_28 (by decide) ?_
        refine hw_ic_ge (a := (qw.getD 0 []).length) (b := 3) (tgt := 34) hx hb dIx_wild_29 (by decide) (by omega) (by omega) (fun cq_84 => ?_) (fun cq_84 => ?_)
        · refine lv_aload_n hx hb dIx_wild_34 rfl (lv_at hl 1 rfl) ?_
          refine lv_iload_n hx hb dIx_wild_35 rfl (lv_at hl 2 rfl) ?_
          refine hw_new (ci := 9) (fs := [.long (lN 0), .int (nI 0)]) hx hb hts (hwInn inWildSearch) tyWildSearch tyWildSearch_ok hown (hts (.classLink RIx 117 RWildSearch) (hwMem mm_312)) (hts (.instantiable RWildSearch 2) (hwMem mm_313)) (hts (.initialized RWildSearch) (hwMem mm_151)) hK hZ hA rfl (fun j hj => by rcases (show j = 0 ∨ j = 1 by omega) with rfl | rfl <;> rfl) (show 0 + 1 ≤ 1 by omega) (show 0 + 2 ≤ 2 by omega) dIx_wild_36 52 (fun qq_85 X_86 H_87 hZ hF hNw => ?_)
          have hFr := hwF.tr hFr hF (fun _ h => h) (fun M h => by first | exact False.elim h | ((try dsimp only at h ⊢); omega))
          have gi := hF _ _ _ (by intro hNS; first | exact False.elim hNS | ((try dsimp only at hNS); omega)) gi
          have gt := itsAt.fr hF (fun M h1 h2 hNS => by first | exact False.elim hNS | ((try dsimp only at hNS); omega)) gt
          have gl := hF _ _ _ (by intro hNS; first | exact False.elim hNS | ((try dsimp only at hNS); omega)) gl
          have gs := seAt.fr hF (by intro hNS; first | exact False.elim hNS | ((try dsimp only at hNS); omega)) (by intro hNS; first | exact False.elim hNS | ((try dsimp only at hNS); omega)) gs
          have gf := tmAt.fr hF (by intro hNS; first | exact False.elim hNS | ((try dsimp only at hNS); omega)) (by intro hNS; first | exact False.elim hNS | ((try dsimp only at hNS); omega)) gf
          have gk := seAt.fr hF (by intro hNS; first | exact False.elim hNS | ((try dsimp only at hNS); omega)) (by intro hNS; first | exact False.elim hNS | ((try dsimp only at hNS); omega)) gk
          have gc := hF _ _ _ (by intro hNS; first | exact False.elim hNS | ((try dsimp only at hNS); omega)) gc
          have ff_57 := hF _ _ _ (by intro hNS; first | exact False.elim hNS | ((try dsimp only at hNS); omega)) ff_57
          have ff_58 := hiAt.fr hF (by intro hNS; first | exact False.elim hNS | ((try dsimp only at hNS); omega)) (by intro hNS; first | exact False.elim hNS | ((try dsimp only at hNS); omega)) (by intro hNS; first | exact False.elim hNS | ((try dsimp only at hNS); omega)) (by intro hNS; first | exact False.elim hNS | ((try dsimp only at hNS); omega)) ff_58
          have ff_59 := tmAt.fr hF (by intro hNS; first | exact False.elim hNS | ((try dsimp only at hNS); omega)) (by intro hNS; first | exact False.elim hNS | ((try dsimp only at hNS); omega)) ff_59
          have ff_60 := txAt.fr hF (by intro hNS; first | exact False.elim hNS | ((try dsimp only at hNS); omega)) (by intro hNS; first | exact False.elim hNS | ((try dsimp only at hNS); omega)) ff_60
          have ff_89 := hNw
          refine lv_dup hx hb dIx_wild_39 rfl ?_
          refine lv_lload_n hx hb dIx_wild_40 rfl (lv_at hl 0 rfl) ?_
          refine lv_iload_n hx hb dIx_wild_41 rfl (lv_at hl 3 rfl) ?_
          refine hw_callv (va_runI (As := [.long (lN (eW (qw.getD 0 []))), .int (bI be)]) (rest := [.ref qq_85, .int (nI j), .ref a]) ⟨hx, hb, hml, hown, hts⟩ (c_WildSearch_init l D K X_86 H_87.size (o := qq_85) (L := 52) (u := (qw.getD 0 [])) (be := be) ff_89) (cwI 2 hts (hwGood (hwAll mm_314)) rfl rfl rfl (hts (.initialized RWildSearch) (hwMem mm_151)) (hts (.methodLink RIx 119 yWildSearch_init) (hwMem mm_315)) (hts (.instanceMethod yWildSearch_init) (hwMem mm_316)) rfl (by decide +kernel) ⟨Nat.le_of_ble_eq_true rfl, Nat.le_of_ble_eq_true rfl⟩) (hw_preS hK hO hZ) rfl rfl hl.1 rfl (lv_room (Nat.le_of_ble_eq_true rfl)) dIx_wild_42 ⟨(show 1 + 0 ≤ 1 by omega), (show (0 + 2) + 0 ≤ 2 by omega)⟩) hZ hA (fun X_90 H_91 lc_92 hp hZ => ?_)
          obtain ⟨hF, hN_93⟩ := hp
          have hFr := hwF.tr hFr hF (fun _ h => h) (fun M h => by first | exact False.elim h | ((try dsimp only at h ⊢); omega))
          have gi := hF _ _ _ (by intro hNS; first | exact False.elim hNS | ((try dsimp only at hNS); omega)) gi
          have gt := itsAt.fr hF (fun M h1 h2 hNS => by first | exact False.elim hNS | ((try dsimp only at hNS); omega)) gt
          have gl := hF _ _ _ (by intro hNS; first | exact False.elim hNS | ((try dsimp only at hNS); omega)) gl
          have gs := seAt.fr hF (by intro hNS; first | exact False.elim hNS | ((try dsimp only at hNS); omega)) (by intro hNS; first | exact False.elim hNS | ((try dsimp only at hNS); omega)) gs
          have gf := tmAt.fr hF (by intro hNS; first | exact False.elim hNS | ((try dsimp only at hNS); omega)) (by intro hNS; first | exact False.elim hNS | ((try dsimp only at hNS); omega)) gf
          have gk := seAt.fr hF (by intro hNS; first | exact False.elim hNS | ((try dsimp only at hNS); omega)) (by intro hNS; first | exact False.elim hNS | ((try dsimp only at hNS); omega)) gk
          have gc := hF _ _ _ (by intro hNS; first | exact False.elim hNS | ((try dsimp only at hNS); omega)) gc
          have ff_57 := hF _ _ _ (by intro hNS; first | exact False.elim hNS | ((try dsimp only at hNS); omega)) ff_57
          have ff_58 := hiAt.fr hF (by intro hNS; first | exact False.elim hNS | ((try dsimp only at hNS); omega)) (by intro hNS; first | exact False.elim hNS | ((try dsimp only at hNS); omega)) (by intro hNS; first | exact False.elim hNS | ((try dsimp only at hNS); omega)) (by intro hNS; first | exact False.elim hNS | ((try dsimp only at hNS); omega)) ff_58
          have ff_59 := tmAt.fr hF (by intro hNS; first | exact False.elim hNS | ((try dsimp only at hNS); omega)) (by intro hNS; first | exact False.elim hNS | ((try dsimp only at hNS); omega)) ff_59
          have ff_60 := txAt.fr hF (by intro hNS; first | exact False.elim hNS | ((try dsimp only at hNS); omega)) (by intro hNS; first | exact False.elim hNS | ((try dsimp only at hNS); omega)) ff_60
          have ff_94 := hN_93
          refine hw_calli (va_runV (As := [.int (nI j), .ref qq_85]) (rest := []) ⟨hx, hb, hml, hown, hts⟩ (c_Ix_gatherWil l D K X_90 H_91.size (a := a) (b0 := b0) (b1 := b1) (b2 := b2) (b3 := b3) (b4 := b4) (b5 := b5) (b6 := b6) (b7 := b7) (b8 := b8) (ni := its.length) (fs := fs) (qs := 0) (fi := fi) (fl := fl) (its := its) (lg := lg) (tf := tf) (ss := ss) (hs0 := []) (so := qq_85) (Lo := 52) (u := (qw.getD 0 [])) (be := be) (j := j) ff_57 gi gt gl gf gs ff_58 ff_94 (by omega) (by omega) (by omega) (by assumption) (by assumption) (by assumption) (by assumption) rfl rfl (hQ2 0)) (cwV 2 hts (hwGood (hw_4 mm_298 mm_299 mm_300 mm_188 (hwAll mm_297))) rfl rfl rfl (by decide +kernel) ⟨Nat.le_of_ble_eq_true rfl, Nat.le_of_ble_eq_true rfl⟩) (hw_preV hK hO hZ (⟨_, _, ff_57⟩) rfl) rfl rfl hl.1 rfl (lv_room (Nat.le_of_ble_eq_true rfl)) dIx_wild_45 ⟨(show 1 + 0 ≤ 1 by omega), (show (0 + 2) + 0 ≤ 2 by omega)⟩) hZ hA (fun r X_95 H_96 lc_97 hp hZ => ?_)
          obtain ⟨tz_98, hr, hF, hN_99, hN_100⟩ := hp
          have hFr := hwF.tr hFr hF (fun _ h => h) (fun M h => by first | exact False.elim h | ((try dsimp only at h ⊢); omega))
          have gi := hF _ _ _ (by intro hNS; first | exact False.elim hNS | ((try dsimp only at hNS); omega)) gi
          have gt := itsAt.fr hF (fun M h1 h2 hNS => by first | exact False.elim hNS | ((try dsimp only at hNS); omega)) gt
          have gl := hF _ _ _ (by intro hNS; first | exact False.elim hNS | ((try dsimp only at hNS); omega)) gl
          have gs := seAt.fr hF (by intro hNS; first | exact False.elim hNS | ((try dsimp only at hNS); omega)) (by intro hNS; first | exact False.elim hNS | ((try dsimp only at hNS); omega)) gs
          have gk := seAt.fr hF (by intro hNS; first | exact False.elim hNS | ((try dsimp only at hNS); omega)) (by intro hNS; first | exact False.elim hNS | ((try dsimp only at hNS); omega)) gk
          have gc := hF _ _ _ (by intro hNS; first | exact False.elim hNS | ((try dsimp only at hNS); omega)) gc
          have ff_57 := hF _ _ _ (by intro hNS; first | exact False.elim hNS | ((try dsimp only at hNS); omega)) ff_57
          have ff_59 := tmAt.fr hF (by intro hNS; first | exact False.elim hNS | ((try dsimp only at hNS); omega)) (by intro hNS; first | exact False.elim hNS | ((try dsimp only at hNS); omega)) ff_59
          have ff_60 := txAt.fr hF (by intro hNS; first | exact False.elim hNS | ((try dsimp only at hNS); omega)) (by intro hNS; first | exact False.elim hNS | ((try dsimp only at hNS); omega)) ff_60
          have ff_94 := hF _ _ _ (by intro hNS; first | exact False.elim hNS | ((try dsimp only at hNS); omega)) ff_94
          have ff_101 := hN_99
          have ff_102 := hN_100
          refine hw_topi hr ?_
          refine W.widen (k := 1) (n := 2) (by omega) (by omega) ?_
          exact hret hZ (by rw [askS_g (kN_nI hj)]; (try dsimp only); rw [hsW_g (fun h => cq_61 ((eW_zero (hQ2 _)).mpr h)) (fun _ => cq_84)]; exact ⟨rfl, hFr, ⟨_, _, _, _, _, _, _, _, _, _, _, _, _, _, _, ff_57, gi, gt, gl, hfl, ff_60, gs, ff_102, ff_59, ff_101, gk, gc⟩⟩) dIx_wild_48
        · refine lv_iconst (v := nI 0) hx hb dIx_wild_32 (by decide) ?_
          refine W.widen (k := 1) (n := 2) (by omega) (by omega) ?_
          exact hret hZ (by rw [askS_g (kN_nI hj)]; (try dsimp only); rw [hsW_e (Or.inr ⟨cq_62, cq_84⟩)]; exact ⟨rfl, hFr, ⟨_, _, _, _, _, _, _, _, _, _, _, _, _, _, _, ff_57, gi, gt, gl, hfl, ff_60, gs, ff_58, ff_59, gf, gk, gc⟩⟩) dIx_wild_33
set_option maxHeartbeats 4000000 in
set_option maxRecDepth 100000 in
theorem p_hit (l : Launch) (D : va_G) (K : Nat → ClassId) (X : hwW) (sz : Nat) (a : Nat) (its : hwIt) (fs : Nat) (lg : Nat → Nat) (qw : List (List Nat)) (qo : Nat) (qs : Nat) (ss : List (List Nat)) (hs : List (Nat × Nat × Nat)) (ii : Int32) (what : Int32) (f0_ : ixAt K X a its fs lg qw qo qs ss hs) (ok : okS its fs lg qw qo qs ss) : Met l yIx_hit (.code yIx_hit cIx_hit 3 (some .int) :: hwG) ({ frames := 2, cells := 0, slots := 0, locals := 42 } : Room) (hwPc D vwCl (hwT K) [.ref a, .int ii, .int what] X sz) (hwQi D vwCl X sz (fun r Y => r = hitP hs ii what ∧ hwF X Y (fun M => M < 1000) ∧ ixAt K Y a its fs lg qw qo qs ss hs)) 0 0 (va_A X.1 sz) := by
  refine hwMeti (cc := cIx_hit) (maxL := 3) (by decide) rfl (Nat.le_of_ble_eq_true rfl) (fun p e s m args below meth c ls A Q hx hb hml hown hts hname hret hK hO hZ hA hl => ?_)
  have hl : lv_has ls 3 [(0, .ref a), (1, .int ii), (2, .int what)] := hl
  have hFr : hwF X X (fun M => M < 1000) := hwF.rf
  obtain ⟨hni3, hTG, hfs, hlg, hsss, hqG, hq2, hqs⟩ := ok
  have hok := okIt_of hTG hfs
  have hq50 : qw.length ≤ 50 := by split at hq2 <;> omega
  have hne := hqG.1
  obtain ⟨b0, b1, b2, b3, b4, b5, b6, b7, b8, fi, fl, ta, tf, tl, fc, gx, gi, gt, gl, hfl, gq, gs, gh, ga, gf, gk, gc⟩ := f0_
  have hQ2 := fun j => okWs.at (txAt.oks gq) j
  have hQ0 := (hQ2 0).1
  rcases nI_cases ii with hi0 | ⟨x, hx2, rfl⟩
  · refine lv_iload_n hx hb dIx_hit_0 rfl (lv_at hl 2 rfl) ?_
    refine lv_if_ne (tgt := 13) hx hb dIx_hit_1 (by decide) (fun cq_1 => ?_) (fun cq_1 => ?_)
    · refine lv_iload_n hx hb dIx_hit_13 rfl (lv_at hl 2 rfl) ?_
      refine lv_iconst (v := nI 1) hx hb dIx_hit_14 (by decide) ?_
      refine lv_icmp_ne (tgt := 29) hx hb dIx_hit_15 (by decide) (fun cq_2 => ?_) (fun cq_2 => ?_)
      · refine lv_iconst (v := nI 0) hx hb dIx_hit_29 (by decide) ?_
        exact hret hZ ⟨by unfold hitP; rw [if_neg cq_1, if_neg cq_2], hFr, ⟨_, _, _, _, _, _, _, _, _, _, _, _, _, _, _, gx, gi, gt, gl, hfl, gq, gs, gh, ga, gf, gk, gc⟩⟩ dIx_hit_30
      · refine lv_aload_n hx hb dIx_hit_18 rfl (lv_at hl 0 rfl) ?_
        refine hw_get hx hb hts (hwInn inIx) hown hK hZ gx rfl 7 (by decide) (hts (.fieldLink RIx 38 RIx "hits" "LWordIndex2$Hits;") (hwMem mm_214)) (fun _ h => h) rfl dIx_hit_19 ?_
        refine lv_iload_n hx hb dIx_hit_22 rfl (lv_at hl 1 rfl) ?_
        refine hw_calli (va_runV (As := [.int ii]) (rest := []) ⟨hx, hb, hml, hown, hts⟩ (c_Hi_cntPN l D K X s.heap.size (a := b4) (hs := hs) (i := ii) gh (by assumption)) (cwV 1 hts (hwGood (hw_4 mm_318 mm_105 mm_106 mm_95 (hwAll mm_103))) rfl rfl rfl (by decide +kernel) ⟨Nat.le_of_ble_eq_true rfl, Nat.le_of_ble_eq_true rfl⟩) (hw_preV hK hO hZ (hiAt.ob gh) rfl) rfl rfl hl.1 rfl (lv_room (Nat.le_of_ble_eq_true rfl)) dIx_hit_23 ⟨(show 0 + 0 ≤ 0 by omega), (show 0 + 0 ≤ 0 by omega)⟩) hZ hA (fun r X_3 H_4 lc_5 hp hZ => ?_)
        obtain ⟨hr, hy⟩ := hp
        subst hy
        refine hw_topi hr ?_
        refine lv_goto (tgt := 30) hx hb dIx_hit_26 (by decide) ?_
        exact hret hZ ⟨by unfold hitP; rw [if_neg cq_1, if_pos cq_2, hA_neg hi0], hFr, ⟨_, _, _, _, _, _, _, _, _, _, _, _, _, _, _, gx, gi, gt, gl, hfl, gq, gs, gh, ga, gf, gk, gc⟩⟩ dIx_hit_30
    · refine lv_aload_n hx hb dIx_hit_4 rfl (lv_at hl 0 rfl) ?_
      refine hw_get hx hb hts (hwInn inIx) hown hK hZ gx rfl 7 (by decide) (hts (.fieldLink RIx 38 RIx "hits" "LWordIndex2$Hits;") (hwMem mm_214)) (fun _ h => h) rfl dIx_hit_5 ?_
      refine lv_iload_n hx hb dIx_hit_8 rfl (lv_at hl 1 rfl) ?_
      refine hw_calli (va_runV (As := [.int ii]) (rest := []) ⟨hx, hb, hml, hown, hts⟩ (c_Hi_numPN l D K X s.heap.size (a := b4) (hs := hs) (i := ii) gh (by assumption)) (cwV 1 hts (hwGood (hw_4 mm_320 mm_321 mm_322 mm_95 (hwAll mm_319))) rfl rfl rfl (by decide +kernel) ⟨Nat.le_of_ble_eq_true rfl, Nat.le_of_ble_eq_true rfl⟩) (hw_preV hK hO hZ (hiAt.ob gh) rfl) rfl rfl hl.1 rfl (lv_room (Nat.le_of_ble_eq_true rfl)) dIx_hit_9 ⟨(show 0 + 0 ≤ 0 by omega), (show 0 + 0 ≤ 0 by omega)⟩) hZ hA (fun r X_6 H_7 lc_8 hp hZ => ?_)
      obtain ⟨hr, hy⟩ := hp
      subst hy
      refine hw_topi hr ?_
      exact hret hZ ⟨by unfold hitP; rw [if_pos cq_1, hA_neg hi0], hFr, ⟨_, _, _, _, _, _, _, _, _, _, _, _, _, _, _, gx, gi, gt, gl, hfl, gq, gs, gh, ga, gf, gk, gc⟩⟩ dIx_hit_12
  · refine lv_iload_n hx hb dIx_hit_0 rfl (lv_at hl 2 rfl) ?_
    refine lv_if_ne (tgt := 13) hx hb dIx_hit_1 (by decide) (fun cq_9 => ?_) (fun cq_9 => ?_)
    · refine lv_iload_n hx hb dIx_hit_13 rfl (lv_at hl 2 rfl) ?_
      refine lv_iconst (v := nI 1) hx hb dIx_hit_14 (by decide) ?_
      refine lv_icmp_ne (tgt := 29) hx hb dIx_hit_15 (by decide) (fun cq_10 => ?_) (fun cq_10 => ?_)
      · refine lv_iconst (v := nI 0) hx hb dIx_hit_29 (by decide) ?_
        exact hret hZ ⟨by unfold hitP; rw [if_neg cq_9, if_neg cq_10], hFr, ⟨_, _, _, _, _, _, _, _, _, _, _, _, _, _, _, gx, gi, gt, gl, hfl, gq, gs, gh, ga, gf, gk, gc⟩⟩ dIx_hit_30
      · refine lv_aload_n hx hb dIx_hit_18 rfl (lv_at hl 0 rfl) ?_
        refine hw_get hx hb hts (hwInn inIx) hown hK hZ gx rfl 7 (by decide) (hts (.fieldLink RIx 38 RIx "hits" "LWordIndex2$Hits;") (hwMem mm_214)) (fun _ h => h) rfl dIx_hit_19 ?_
        refine lv_iload_n hx hb dIx_hit_22 rfl (lv_at hl 1 rfl) ?_
        refine hw_calli (va_runV (As := [.int (nI x)]) (rest := []) ⟨hx, hb, hml, hown, hts⟩ (c_Hi_cntP l D K X s.heap.size (a := b4) (hs := hs) (j := x) gh (by omega)) (cwV 1 hts (hwGood (hw_4 mm_318 mm_105 mm_106 mm_95 (hwAll mm_103))) rfl rfl rfl (by decide +kernel) ⟨Nat.le_of_ble_eq_true rfl, Nat.le_of_ble_eq_true rfl⟩) (hw_preV hK hO hZ (hiAt.ob gh) rfl) rfl rfl hl.1 rfl (lv_room (Nat.le_of_ble_eq_true rfl)) dIx_hit_23 ⟨(show 0 + 0 ≤ 0 by omega), (show 0 + 0 ≤ 0 by omega)⟩) hZ hA (fun r X_11 H_12 lc_13 hp hZ => ?_)
        obtain ⟨hr, hy, xx_14⟩ := hp
        subst hy
        refine hw_topi hr ?_
        refine lv_goto (tgt := 30) hx hb dIx_hit_26 (by decide) ?_
        exact hret hZ ⟨by unfold hitP; rw [if_neg cq_9, if_pos cq_10, hA_nI hx2], hFr, ⟨_, _, _, _, _, _, _, _, _, _, _, _, _, _, _, gx, gi, gt, gl, hfl, gq, gs, gh, ga, gf, gk, gc⟩⟩ dIx_hit_30
    · refine lv_aload_n hx hb dIx_hit_4 rfl (lv_at hl 0 rfl) ?_
      refine hw_get hx hb hts (hwInn inIx) hown hK hZ gx rfl 7 (by decide) (hts (.fieldLink RIx 38 RIx "hits" "LWordIndex2$Hits;") (hwMem mm_214)) (fun _ h => h) rfl dIx_hit_5 ?_
      refine lv_iload_n hx hb dIx_hit_8 rfl (lv_at hl 1 rfl) ?_
      refine hw_calli (va_runV (As := [.int (nI x)]) (rest := []) ⟨hx, hb, hml, hown, hts⟩ (c_Hi_numP l D K X s.heap.size (a := b4) (hs := hs) (j := x) gh (by omega)) (cwV 1 hts (hwGood (hw_4 mm_320 mm_321 mm_322 mm_95 (hwAll mm_319))) rfl rfl rfl (by decide +kernel) ⟨Nat.le_of_ble_eq_true rfl, Nat.le_of_ble_eq_true rfl⟩) (hw_preV hK hO hZ (hiAt.ob gh) rfl) rfl rfl hl.1 rfl (lv_room (Nat.le_of_ble_eq_true rfl)) dIx_hit_9 ⟨(show 0 + 0 ≤ 0 by omega), (show 0 + 0 ≤ 0 by omega)⟩) hZ hA (fun r X_15 H_16 lc_17 hp hZ => ?_)
      obtain ⟨hr, hy, xx_18⟩ := hp
      subst hy
      refine hw_topi hr ?_
      exact hret hZ ⟨by unfold hitP; rw [if_pos cq_9, hA_nI hx2], hFr, ⟨_, _, _, _, _, _, _, _, _, _, _, _, _, _, _, gx, gi, gt, gl, hfl, gq, gs, gh, ga, gf, gk, gc⟩⟩ dIx_hit_12
set_option maxHeartbeats 4000000 in
set_option maxRecDepth 100000 in
theorem p_rank (l : Launch) (D : va_G) (K : Nat → ClassId) (X : hwW) (sz : Nat) (a : Nat) (its : hwIt) (fs : Nat) (lg : Nat → Nat) (qw : List (List Nat)) (qo : Nat) (qs : Nat) (ss : List (List Nat)) (hs : List (Nat × Nat × Nat)) (ii : Int32) (side : Int32) (f0_ : ixAt K X a its fs lg qw qo qs ss hs) (ok : okS its fs lg qw qo qs ss) : Met l yIx_rank (.code yIx_rank cIx_rank 6 (some .long) :: hwG) ({ frames := 2, cells := 0, slots := 0, locals := 44 } : Room) (hwPc D vwCl (hwT K) [.ref a, .int ii, .int side] X sz) (hwQl D vwCl X sz (fun r Y => r = rankP hs ii side ∧ hwF X Y (fun M => M < 1000) ∧ ixAt K Y a its fs lg qw qo qs ss hs)) 0 0 (va_A X.1 sz) := by
  refine hwMetl (cc := cIx_rank) (maxL := 6) (by decide) rfl (Nat.le_of_ble_eq_true rfl) (fun p e s m args below meth c ls A Q hx hb hml hown hts hname hret hK hO hZ hA hl => ?_)
  have hl : lv_has ls 6 [(0, .ref a), (1, .int ii), (2, .int side)] := hl
  have hFr : hwF X X (fun M => M < 1000) := hwF.rf
  obtain ⟨hni3, hTG, hfs, hlg, hsss, hqG, hq2, hqs⟩ := ok
  have hok := okIt_of hTG hfs
  have hq50 : qw.length ≤ 50 := by split at hq2 <;> omega
  have hne := hqG.1
  obtain ⟨b0, b1, b2, b3, b4, b5, b6, b7, b8, fi, fl, ta, tf, tl, fc, gx, gi, gt, gl, hfl, gq, gs, gh, ga, gf, gk, gc⟩ := f0_
  have hQ2 := fun j => okWs.at (txAt.oks gq) j
  have hQ0 := (hQ2 0).1
  rcases nI_cases ii with hi0 | ⟨x, hx2, rfl⟩
  · refine lv_aload_n hx hb dIx_rank_0 rfl (lv_at hl 0 rfl) ?_
    refine hw_get hx hb hts (hwInn inIx) hown hK hZ gx rfl 7 (by decide) (hts (.fieldLink RIx 38 RIx "hits" "LWordIndex2$Hits;") (hwMem mm_214)) (fun _ h => h) rfl dIx_rank_1 ?_
    refine lv_iload_n hx hb dIx_rank_4 rfl (lv_at hl 1 rfl) ?_
    refine hw_calli (va_runV (As := [.int ii]) (rest := []) ⟨hx, hb, hml, hown, hts⟩ (c_Hi_cntPN l D K X s.heap.size (a := b4) (hs := hs) (i := ii) gh (by assumption)) (cwV 1 hts (hwGood (hw_4 mm_318 mm_105 mm_106 mm_95 (hwAll mm_103))) rfl rfl rfl (by decide +kernel) ⟨Nat.le_of_ble_eq_true rfl, Nat.le_of_ble_eq_true rfl⟩) (hw_preV hK hO hZ (hiAt.ob gh) rfl) rfl rfl hl.1 rfl (lv_room (Nat.le_of_ble_eq_true rfl)) dIx_rank_5 ⟨(show 0 + 0 ≤ 0 by omega), (show 0 + 0 ≤ 0 by omega)⟩) hZ hA (fun r X_1 H_2 lc_3 hp hZ => ?_)
    obtain ⟨hr, hy⟩ := hp
    subst hy
    refine hw_topi hr ?_
    refine lv_istore_n (lv' := [(3, .int (nI 0)), (0, .ref a), (1, .int ii), (2, .int side)]) hx hb dIx_rank_8 rfl hl (by decide) rfl (fun ls hl => ?_)
    refine lv_aload_n hx hb dIx_rank_9 rfl (lv_at hl 1 rfl) ?_
    refine hw_get hx hb hts (hwInn inIx) hown hK hZ gx rfl 7 (by decide) (hts (.fieldLink RIx 38 RIx "hits" "LWordIndex2$Hits;") (hwMem mm_214)) (fun _ h => h) rfl dIx_rank_10 ?_
    refine lv_iload_n hx hb dIx_rank_13 rfl (lv_at hl 2 rfl) ?_
    refine hw_calli (va_runV (As := [.int ii]) (rest := []) ⟨hx, hb, hml, hown, hts⟩ (c_Hi_sizPN l D K X H_2.size (a := b4) (hs := hs) (i := ii) gh (by assumption)) (cwV 1 hts (hwGood (hw_4 mm_323 mm_101 mm_102 mm_95 (hwAll mm_99))) rfl rfl rfl (by decide +kernel) ⟨Nat.le_of_ble_eq_true rfl, Nat.le_of_ble_eq_true rfl⟩) (hw_preV hK hO hZ (hiAt.ob gh) rfl) rfl rfl hl.1 rfl (lv_room (Nat.le_of_ble_eq_true rfl)) dIx_rank_14 ⟨(show 0 + 0 ≤ 0 by omega), (show 0 + 0 ≤ 0 by omega)⟩) hZ hA (fun r X_4 H_5 lc_6 hp hZ => ?_)
    obtain ⟨hr, hy⟩ := hp
    subst hy
    refine hw_topi hr ?_
    refine lv_istore (lv' := [(4, .int (nI 0)), (3, .int (nI 0)), (0, .ref a), (1, .int ii), (2, .int side)]) hx hb dIx_rank_17 hl (by decide) rfl (fun ls hl => ?_)
    refine lv_iload_n hx hb dIx_rank_19 rfl (lv_at hl 1 rfl) ?_
    refine lv_iload hx hb dIx_rank_20 (lv_at hl 0 rfl) ?_
    refine hw_calli (va_runS (As := [.int (nI 0), .int (nI 0)]) (rest := []) ⟨hx, hb, hml, hown, hts⟩ (c_Ix_cdv l D K X H_5.size (x0 := 0) (y0 := 0) (by omega) (by omega)) (va_cwS 2 hts (hwGood (hw_3 mm_326 mm_325 mm_188 (hwAll mm_324))) rfl rfl rfl (by decide +kernel) ⟨Nat.le_of_ble_eq_true rfl, Nat.le_of_ble_eq_true rfl⟩) (hw_preS hK hO hZ) rfl rfl hl.1 rfl (lv_room (Nat.le_of_ble_eq_true rfl)) dIx_rank_22 ⟨(show 0 + 0 ≤ 0 by omega), (show 0 + 0 ≤ 0 by omega)⟩) hZ hA (fun r X_7 H_8 lc_9 hp hZ => ?_)
    obtain ⟨hr, hy, xx_10⟩ := hp
    subst hy
    refine hw_topi hr ?_
    have hcz : cdv 0 0 = 0 := by decide
    refine lv_istore (lv' := [(5, .int (nI (cdv 0 0))), (4, .int (nI 0)), (3, .int (nI 0)), (0, .ref a), (1, .int ii), (2, .int side)]) hx hb dIx_rank_25 hl (by decide) rfl (fun ls hl => ?_)
    refine lv_iload hx hb dIx_rank_27 (lv_at hl 0 rfl) ?_
    refine lv_iconst (v := nI 1) hx hb dIx_rank_29 (by decide) ?_
    refine hw_ic_ge (a := cdv 0 0) (b := 1) (tgt := 37) hx hb dIx_rank_30 (by decide) (by omega) (by omega) (fun cq_11 => by exfalso; omega) (fun cq_11 => ?_)
    refine lv_ldc2 (v := (-1)) hx hb hown (hts (.constantLong RIx 136 (-1)) (hwMem mm_327)) dIx_rank_33 ?_
    exact hret hZ ⟨by unfold rankP; rw [hA_neg hi0, if_pos (by first | omega | decide)], hFr, ⟨_, _, _, _, _, _, _, _, _, _, _, _, _, _, _, gx, gi, gt, gl, hfl, gq, gs, gh, ga, gf, gk, gc⟩⟩ dIx_rank_36
  · refine lv_aload_n hx hb dIx_rank_0 rfl (lv_at hl 0 rfl) ?_
    refine hw_get hx hb hts (hwInn inIx) hown hK hZ gx rfl 7 (by decide) (hts (.fieldLink RIx 38 RIx "hits" "LWordIndex2$Hits;") (hwMem mm_214)) (fun _ h => h) rfl dIx_rank_1 ?_
    refine lv_iload_n hx hb dIx_rank_4 rfl (lv_at hl 1 rfl) ?_
    refine hw_calli (va_runV (As := [.int (nI x)]) (rest := []) ⟨hx, hb, hml, hown, hts⟩ (c_Hi_cntP l D K X s.heap.size (a := b4) (hs := hs) (j := x) gh (by omega)) (cwV 1 hts (hwGood (hw_4 mm_318 mm_105 mm_106 mm_95 (hwAll mm_103))) rfl rfl rfl (by decide +kernel) ⟨Nat.le_of_ble_eq_true rfl, Nat.le_of_ble_eq_true rfl⟩) (hw_preV hK hO hZ (hiAt.ob gh) rfl) rfl rfl hl.1 rfl (lv_room (Nat.le_of_ble_eq_true rfl)) dIx_rank_5 ⟨(show 0 + 0 ≤ 0 by omega), (show 0 + 0 ≤ 0 by omega)⟩) hZ hA (fun r X_12 H_13 lc_14 hp hZ => ?_)
    obtain ⟨hr, hy, xx_15⟩ := hp
    subst hy
    refine hw_topi hr ?_
    refine lv_istore_n (lv' := [(3, .int (nI ((hs.getD x (0, 0, 0)).2.1))), (0, .ref a), (1, .int (nI x)), (2, .int side)]) hx hb dIx_rank_8 rfl hl (by decide) rfl (fun ls hl => ?_)
    refine lv_aload_n hx hb dIx_rank_9 rfl (lv_at hl 1 rfl) ?_
    refine hw_get hx hb hts (hwInn inIx) hown hK hZ gx rfl 7 (by decide) (hts (.fieldLink RIx 38 RIx "hits" "LWordIndex2$Hits;") (hwMem mm_214)) (fun _ h => h) rfl dIx_rank_10 ?_
    refine lv_iload_n hx hb dIx_rank_13 rfl (lv_at hl 2 rfl) ?_
    refine hw_calli (va_runV (As := [.int (nI x)]) (rest := []) ⟨hx, hb, hml, hown, hts⟩ (c_Hi_sizP l D K X H_13.size (a := b4) (hs := hs) (j := x) gh (by omega)) (cwV 1 hts (hwGood (hw_4 mm_323 mm_101 mm_102 mm_95 (hwAll mm_99))) rfl rfl rfl (by decide +kernel) ⟨Nat.le_of_ble_eq_true rfl, Nat.le_of_ble_eq_true rfl⟩) (hw_preV hK hO hZ (hiAt.ob gh) rfl) rfl rfl hl.1 rfl (lv_room (Nat.le_of_ble_eq_true rfl)) dIx_rank_14 ⟨(show 0 + 0 ≤ 0 by omega), (show 0 + 0 ≤ 0 by omega)⟩) hZ hA (fun r X_16 H_17 lc_18 hp hZ => ?_)
    obtain ⟨hr, hy, xx_19⟩ := hp
    subst hy
    refine hw_topi hr ?_
    refine lv_istore (lv' := [(4, .int (nI ((hs.getD x (0, 0, 0)).2.2))), (3, .int (nI ((hs.getD x (0, 0, 0)).2.1))), (0, .ref a), (1, .int (nI x)), (2, .int side)]) hx hb dIx_rank_17 hl (by decide) rfl (fun ls hl => ?_)
    refine lv_iload_n hx hb dIx_rank_19 rfl (lv_at hl 1 rfl) ?_
    refine lv_iload hx hb dIx_rank_20 (lv_at hl 0 rfl) ?_
    refine hw_calli (va_runS (As := [.int (nI ((hs.getD x (0, 0, 0)).2.1)), .int (nI ((hs.getD x (0, 0, 0)).2.2))]) (rest := []) ⟨hx, hb, hml, hown, hts⟩ (c_Ix_cdv l D K X H_17.size (x0 := (hs.getD x (0, 0, 0)).2.1) (y0 := (hs.getD x (0, 0, 0)).2.2) (by omega) (by omega)) (va_cwS 2 hts (hwGood (hw_3 mm_326 mm_325 mm_188 (hwAll mm_324))) rfl rfl rfl (by decide +kernel) ⟨Nat.le_of_ble_eq_true rfl, Nat.le_of_ble_eq_true rfl⟩) (hw_preS hK hO hZ) rfl rfl hl.1 rfl (lv_room (Nat.le_of_ble_eq_true rfl)) dIx_rank_22 ⟨(show 0 + 0 ≤ 0 by omega), (show 0 + 0 ≤ 0 by omega)⟩) hZ hA (fun r X_20 H_21 lc_22 hp hZ => ?_)
    obtain ⟨hr, hy, xx_23⟩ := hp
    subst hy
    refine hw_topi hr ?_
    refine lv_istore (lv' := [(5, .int (nI (cdv ((hs.getD x (0, 0, 0)).2.1) ((hs.getD x (0, 0, 0)).2.2)))), (4, .int (nI ((hs.getD x (0, 0, 0)).2.2))), (3, .int (nI ((hs.getD x (0, 0, 0)).2.1))), (0, .ref a), (1, .int (nI x)), (2, .int side)]) hx hb dIx_rank_25 hl (by decide) rfl (fun ls hl => ?_)
    refine lv_iload hx hb dIx_rank_27 (lv_at hl 0 rfl) ?_
    refine lv_iconst (v := nI 1) hx hb dIx_rank_29 (by decide) ?_
    refine hw_ic_ge (a := cdv ((hs.getD x (0, 0, 0)).2.1) ((hs.getD x (0, 0, 0)).2.2)) (b := 1) (tgt := 37) hx hb dIx_rank_30 (by decide) (by omega) (by omega) (fun cq_24 => ?_) (fun cq_24 => ?_)
    · refine lv_iload_n hx hb dIx_rank_37 rfl (lv_at hl 5 rfl) ?_
      refine lv_if_ne (tgt := 45) hx hb dIx_rank_38 (by decide) (fun cq_25 => ?_) (fun cq_25 => ?_)
      · refine lv_iload hx hb dIx_rank_45 (lv_at hl 1 rfl) ?_
        refine lv_iload hx hb dIx_rank_47 (lv_at hl 0 rfl) ?_
        refine lv_idiv hx hb dIx_rank_49 (nI_ne0 (by omega) (by omega)) ?_
        refine hw_topi (pk_div (a := (hs.getD x (0, 0, 0)).2.2) (d := cdv ((hs.getD x (0, 0, 0)).2.1) ((hs.getD x (0, 0, 0)).2.2)) (by omega) (by omega) (by omega)) ?_
        have hmd_26 := Nat.div_le_self ((hs.getD x (0, 0, 0)).2.2) (cdv ((hs.getD x (0, 0, 0)).2.1) ((hs.getD x (0, 0, 0)).2.2))
        refine lv_i2l hx hb dIx_rank_50 (nI_l (n := ((hs.getD x (0, 0, 0)).2.2) / (cdv ((hs.getD x (0, 0, 0)).2.1) ((hs.getD x (0, 0, 0)).2.2))) (by omega)) ?_
        exact hret hZ ⟨by unfold rankP; rw [hA_nI hx2, if_neg (by omega), if_neg cq_25], hFr, ⟨_, _, _, _, _, _, _, _, _, _, _, _, _, _, _, gx, gi, gt, gl, hfl, gq, gs, gh, ga, gf, gk, gc⟩⟩ dIx_rank_51
      · refine lv_iload_n hx hb dIx_rank_41 rfl (lv_at hl 2 rfl) ?_
        refine lv_goto (tgt := 47) hx hb dIx_rank_42 (by decide) ?_
        refine lv_iload hx hb dIx_rank_47 (lv_at hl 0 rfl) ?_
        refine lv_idiv hx hb dIx_rank_49 (nI_ne0 (by omega) (by omega)) ?_
        refine hw_topi (pk_div (a := (hs.getD x (0, 0, 0)).2.1) (d := cdv ((hs.getD x (0, 0, 0)).2.1) ((hs.getD x (0, 0, 0)).2.2)) (by omega) (by omega) (by omega)) ?_
        have hmd_27 := Nat.div_le_self ((hs.getD x (0, 0, 0)).2.1) (cdv ((hs.getD x (0, 0, 0)).2.1) ((hs.getD x (0, 0, 0)).2.2))
        refine lv_i2l hx hb dIx_rank_50 (nI_l (n := ((hs.getD x (0, 0, 0)).2.1) / (cdv ((hs.getD x (0, 0, 0)).2.1) ((hs.getD x (0, 0, 0)).2.2))) (by omega)) ?_
        exact hret hZ ⟨by unfold rankP; rw [hA_nI hx2, if_neg (by omega), if_pos cq_25], hFr, ⟨_, _, _, _, _, _, _, _, _, _, _, _, _, _, _, gx, gi, gt, gl, hfl, gq, gs, gh, ga, gf, gk, gc⟩⟩ dIx_rank_51
    · refine lv_ldc2 (v := (-1)) hx hb hown (hts (.constantLong RIx 136 (-1)) (hwMem mm_327)) dIx_rank_33 ?_
      exact hret hZ ⟨by unfold rankP; rw [hA_nI hx2, if_pos (by first | omega | decide)], hFr, ⟨_, _, _, _, _, _, _, _, _, _, _, _, _, _, _, gx, gi, gt, gl, hfl, gq, gs, gh, ga, gf, gk, gc⟩⟩ dIx_rank_36
set_option maxHeartbeats 4000000 in
set_option maxRecDepth 100000 in
theorem p_term (l : Launch) (D : va_G) (K : Nat → ClassId) (X : hwW) (sz : Nat) (a : Nat) (its : hwIt) (fs : Nat) (lg : Nat → Nat) (qw : List (List Nat)) (qo : Nat) (qs : Nat) (ss : List (List Nat)) (hs : List (Nat × Nat × Nat)) (kk : Int32) (ii : Int32) (ll : Int32) (f0_ : ixAt K X a its fs lg qw qo qs ss hs) (ok : okS its fs lg qw qo qs ss) : Met l yIx_term (.code yIx_term cIx_term 6 (some .int) :: hwG) ({ frames := 7, cells := 0, slots := 0, locals := 160 } : Room) (hwPc D vwCl (hwT K) [.ref a, .int kk, .int ii, .int ll] X sz) (hwQi D vwCl X sz (fun r Y => r = askI (fun j => termW (liN (Tf its lg ss j) its.length) ii ll) kk ∧ hwF X Y (fun M => M < 1000) ∧ ixAt K Y a its fs lg qw qo qs ss hs)) 0 0 (va_A X.1 sz) := by
  refine hwMeti (cc := cIx_term) (maxL := 6) (by decide) rfl (Nat.le_of_ble_eq_true rfl) (fun p e s m args below meth c ls A Q hx hb hml hown hts hname hret hK hO hZ hA hl => ?_)
  have hl : lv_has ls 6 [(0, .ref a), (1, .int kk), (2, .int ii), (3, .int ll)] := hl
  have hFr : hwF X X (fun M => M < 1000) := hwF.rf
  obtain ⟨hni3, hTG, hfs, hlg, hsss, hqG, hq2, hqs⟩ := ok
  have hok := okIt_of hTG hfs
  have hq50 : qw.length ≤ 50 := by split at hq2 <;> omega
  have hne := hqG.1
  obtain ⟨b0, b1, b2, b3, b4, b5, b6, b7, b8, fi, fl, ta, tf, tl, fc, gx, gi, gt, gl, hfl, gq, gs, gh, ga, gf, gk, gc⟩ := f0_
  have hQ2 := fun j => okWs.at (txAt.oks gq) j
  have hQ0 := (hQ2 0).1
  rcases kN_cases kk with hk | ⟨j, hj, rfl⟩
  · rcases nI_cases ii with hi0 | ⟨x, hx2, rfl⟩
    · rcases nI_cases ll with hk0 | ⟨y, hy2, rfl⟩
      · refine lv_aload_n hx hb dIx_term_0 rfl (lv_at hl 0 rfl) ?_
        refine lv_iload_n hx hb dIx_term_1 rfl (lv_at hl 1 rfl) ?_
        refine hw_callv (va_runV (As := [.int kk]) (rest := []) ⟨hx, hb, hml, hown, hts⟩ (c_Ix_listB l D K X s.heap.size (a := a) (b0 := b0) (b1 := b1) (b2 := b2) (b3 := b3) (b4 := b4) (b5 := b5) (b6 := b6) (b7 := b7) (b8 := b8) (ni := its.length) (fs := fs) (qs := qs) (fi := fi) (its := its) (tl := tl) (kind := kk) gx gi gt gk (by omega) (by omega) (by assumption)) (cwV 1 hts (hwGood (hw_4 mm_329 mm_330 mm_331 mm_188 (hwAll mm_328))) rfl rfl rfl (by decide +kernel) ⟨Nat.le_of_ble_eq_true rfl, Nat.le_of_ble_eq_true rfl⟩) (hw_preV hK hO hZ (⟨_, _, gx⟩) rfl) rfl rfl hl.1 rfl (lv_room (Nat.le_of_ble_eq_true rfl)) dIx_term_2 ⟨(show 0 + 0 ≤ 0 by omega), (show 0 + 0 ≤ 0 by omega)⟩) hZ hA (fun X_1 H_2 lc_3 hp hZ => ?_)
        obtain ⟨hF, hN_4⟩ := hp
        have hFr := hwF.tr hFr hF (fun _ h => h) (fun M h => by first | exact False.elim h | ((try dsimp only at h ⊢); omega))
        have gx := hF _ _ _ (by intro hNS; first | exact False.elim hNS | ((try dsimp only at hNS); omega)) gx
        have gi := hF _ _ _ (by intro hNS; first | exact False.elim hNS | ((try dsimp only at hNS); omega)) gi
        have gt := itsAt.fr hF (fun M h1 h2 hNS => by first | exact False.elim hNS | ((try dsimp only at hNS); omega)) gt
        have gl := hF _ _ _ (by intro hNS; first | exact False.elim hNS | ((try dsimp only at hNS); omega)) gl
        have gq := txAt.fr hF (by intro hNS; first | exact False.elim hNS | ((try dsimp only at hNS); omega)) (by intro hNS; first | exact False.elim hNS | ((try dsimp only at hNS); omega)) gq
        have gs := seAt.fr hF (by intro hNS; first | exact False.elim hNS | ((try dsimp only at hNS); omega)) (by intro hNS; first | exact False.elim hNS | ((try dsimp only at hNS); omega)) gs
        have gh := hiAt.fr hF (by intro hNS; first | exact False.elim hNS | ((try dsimp only at hNS); omega)) (by intro hNS; first | exact False.elim hNS | ((try dsimp only at hNS); omega)) (by intro hNS; first | exact False.elim hNS | ((try dsimp only at hNS); omega)) (by intro hNS; first | exact False.elim hNS | ((try dsimp only at hNS); omega)) gh
        have ga := tmAt.fr hF (by intro hNS; first | exact False.elim hNS | ((try dsimp only at hNS); omega)) (by intro hNS; first | exact False.elim hNS | ((try dsimp only at hNS); omega)) ga
        have gf := tmAt.fr hF (by intro hNS; first | exact False.elim hNS | ((try dsimp only at hNS); omega)) (by intro hNS; first | exact False.elim hNS | ((try dsimp only at hNS); omega)) gf
        have gc := hF _ _ _ (by intro hNS; first | exact False.elim hNS | ((try dsimp only at hNS); omega)) gc
        have ff_5 := hN_4
        have hL2 := fun j => okWs.at (seAt.oks ff_5) j
        have hz9 : eW [] = 0 := rfl
        refine lv_aload_n hx hb dIx_term_5 rfl (lv_at hl 0 rfl) ?_
        refine hw_get hx hb hts (hwInn inIx) hown hK hZ gx rfl 10 (by decide) (hts (.fieldLink RIx 52 RIx "listed" "LWordIndex2$WordSet;") (hwMem mm_264)) (fun _ h => h) rfl dIx_term_6 ?_
        refine lv_iload_n hx hb dIx_term_9 rfl (lv_at hl 2 rfl) ?_
        refine hw_calll (va_runV (As := [.int ii]) (rest := []) ⟨hx, hb, hml, hown, hts⟩ (c_Se_atN l D K X_1 H_2.size (a := b7) (k := 9) (N := 750) (ts := []) (i := ii) ff_5 (by assumption)) (cwV 1 hts (hwGood (hw_4 mm_332 mm_61 mm_62 mm_63 (hwAll mm_59))) rfl rfl rfl (by decide +kernel) ⟨Nat.le_of_ble_eq_true rfl, Nat.le_of_ble_eq_true rfl⟩) (hw_preV hK hO hZ (seAt.ob ff_5) rfl) rfl rfl hl.1 rfl (lv_room (Nat.le_of_ble_eq_true rfl)) dIx_term_10 ⟨(show 0 + 0 ≤ 0 by omega), (show 0 + 0 ≤ 0 by omega)⟩) hZ hA (fun r X_6 H_7 lc_8 hp hZ => ?_)
        obtain ⟨hr, hy⟩ := hp
        subst hy
        refine hw_topl hr ?_
        refine lv_lstore (lv' := [(4, .long (lN (eW []))), (0, .ref a), (1, .int kk), (2, .int ii), (3, .int ll)]) hx hb dIx_term_13 hl (by decide) rfl (fun ls hl => ?_)
        refine lv_lload hx hb dIx_term_15 (lv_at hl 0 rfl) ?_
        refine lv_lconst (v := lN 0) hx hb dIx_term_17 rfl ?_
        refine hw_lc_eq (a := eW []) (b := 0) (tgt := 26) hx hb dIx_term_18 dIx_term_19 (by decide) (by first | exact eW_lt63 (hT2 _) | exact eW_lt63 (hQ2 _) | exact eW_lt63 (hL2 _) | decide) (by first | exact eW_lt63 (hT2 _) | exact eW_lt63 (hQ2 _) | exact eW_lt63 (hL2 _) | decide) (fun cq_9 => ?_) (fun cq_9 => by exfalso; omega)
        refine lv_iconst (v := (-1)) hx hb dIx_term_26 (by decide) ?_
        exact hret hZ ⟨by rw [askI_b (kN_bad hk)], hFr, ⟨_, _, _, _, _, _, _, _, _, _, _, _, _, _, _, gx, gi, gt, gl, hfl, gq, gs, gh, ga, gf, ff_5, gc⟩⟩ dIx_term_27
      · refine lv_aload_n hx hb dIx_term_0 rfl (lv_at hl 0 rfl) ?_
        refine lv_iload_n hx hb dIx_term_1 rfl (lv_at hl 1 rfl) ?_
        refine hw_callv (va_runV (As := [.int kk]) (rest := []) ⟨hx, hb, hml, hown, hts⟩ (c_Ix_listB l D K X s.heap.size (a := a) (b0 := b0) (b1 := b1) (b2 := b2) (b3 := b3) (b4 := b4) (b5 := b5) (b6 := b6) (b7 := b7) (b8 := b8) (ni := its.length) (fs := fs) (qs := qs) (fi := fi) (its := its) (tl := tl) (kind := kk) gx gi gt gk (by omega) (by omega) (by assumption)) (cwV 1 hts (hwGood (hw_4 mm_329 mm_330 mm_331 mm_188 (hwAll mm_328))) rfl rfl rfl (by decide +kernel) ⟨Nat.le_of_ble_eq_true rfl, Nat.le_of_ble_eq_true rfl⟩) (hw_preV hK hO hZ (⟨_, _, gx⟩) rfl) rfl rfl hl.1 rfl (lv_room (Nat.le_of_ble_eq_true rfl)) dIx_term_2 ⟨(show 0 + 0 ≤ 0 by omega), (show 0 + 0 ≤ 0 by omega)⟩) hZ hA (fun X_10 H_11 lc_12 hp hZ => ?_)
        obtain ⟨hF, hN_13⟩ := hp
        have hFr := hwF.tr hFr hF (fun _ h => h) (fun M h => by first | exact False.elim h | ((try dsimp only at h ⊢); omega))
        have gx := hF _ _ _ (by intro hNS; first | exact False.elim hNS | ((try dsimp only at hNS); omega)) gx
        have gi := hF _ _ _ (by intro hNS; first | exact False.elim hNS | ((try dsimp only at hNS); omega)) gi
        have gt := itsAt.fr hF (fun M h1 h2 hNS => by first | exact False.elim hNS | ((try dsimp only at hNS); omega)) gt
        have gl := hF _ _ _ (by intro hNS; first | exact False.elim hNS | ((try dsimp only at hNS); omega)) gl
        have gq := txAt.fr hF (by intro hNS; first | exact False.elim hNS | ((try dsimp only at hNS); omega)) (by intro hNS; first | exact False.elim hNS | ((try dsimp only at hNS); omega)) gq
        have gs := seAt.fr hF (by intro hNS; first | exact False.elim hNS | ((try dsimp only at hNS); omega)) (by intro hNS; first | exact False.elim hNS | ((try dsimp only at hNS); omega)) gs
        have gh := hiAt.fr hF (by intro hNS; first | exact False.elim hNS | ((try dsimp only at hNS); omega)) (by intro hNS; first | exact False.elim hNS | ((try dsimp only at hNS); omega)) (by intro hNS; first | exact False.elim hNS | ((try dsimp only at hNS); omega)) (by intro hNS; first | exact False.elim hNS | ((try dsimp only at hNS); omega)) gh
        have ga := tmAt.fr hF (by intro hNS; first | exact False.elim hNS | ((try dsimp only at hNS); omega)) (by intro hNS; first | exact False.elim hNS | ((try dsimp only at hNS); omega)) ga
        have gf := tmAt.fr hF (by intro hNS; first | exact False.elim hNS | ((try dsimp only at hNS); omega)) (by intro hNS; first | exact False.elim hNS | ((try dsimp only at hNS); omega)) gf
        have gc := hF _ _ _ (by intro hNS; first | exact False.elim hNS | ((try dsimp only at hNS); omega)) gc
        have ff_14 := hN_13
        have hL2 := fun j => okWs.at (seAt.oks ff_14) j
        have hz9 : eW [] = 0 := rfl
        refine lv_aload_n hx hb dIx_term_5 rfl (lv_at hl 0 rfl) ?_
        refine hw_get hx hb hts (hwInn inIx) hown hK hZ gx rfl 10 (by decide) (hts (.fieldLink RIx 52 RIx "listed" "LWordIndex2$WordSet;") (hwMem mm_264)) (fun _ h => h) rfl dIx_term_6 ?_
        refine lv_iload_n hx hb dIx_term_9 rfl (lv_at hl 2 rfl) ?_
        refine hw_calll (va_runV (As := [.int ii]) (rest := []) ⟨hx, hb, hml, hown, hts⟩ (c_Se_atN l D K X_10 H_11.size (a := b7) (k := 9) (N := 750) (ts := []) (i := ii) ff_14 (by assumption)) (cwV 1 hts (hwGood (hw_4 mm_332 mm_61 mm_62 mm_63 (hwAll mm_59))) rfl rfl rfl (by decide +kernel) ⟨Nat.le_of_ble_eq_true rfl, Nat.le_of_ble_eq_true rfl⟩) (hw_preV hK hO hZ (seAt.ob ff_14) rfl) rfl rfl hl.1 rfl (lv_room (Nat.le_of_ble_eq_true rfl)) dIx_term_10 ⟨(show 0 + 0 ≤ 0 by omega), (show 0 + 0 ≤ 0 by omega)⟩) hZ hA (fun r X_15 H_16 lc_17 hp hZ => ?_)
        obtain ⟨hr, hy⟩ := hp
        subst hy
        refine hw_topl hr ?_
        refine lv_lstore (lv' := [(4, .long (lN (eW []))), (0, .ref a), (1, .int kk), (2, .int ii), (3, .int (nI y))]) hx hb dIx_term_13 hl (by decide) rfl (fun ls hl => ?_)
        refine lv_lload hx hb dIx_term_15 (lv_at hl 0 rfl) ?_
        refine lv_lconst (v := lN 0) hx hb dIx_term_17 rfl ?_
        refine hw_lc_eq (a := eW []) (b := 0) (tgt := 26) hx hb dIx_term_18 dIx_term_19 (by decide) (by first | exact eW_lt63 (hT2 _) | exact eW_lt63 (hQ2 _) | exact eW_lt63 (hL2 _) | decide) (by first | exact eW_lt63 (hT2 _) | exact eW_lt63 (hQ2 _) | exact eW_lt63 (hL2 _) | decide) (fun cq_18 => ?_) (fun cq_18 => by exfalso; omega)
        refine lv_iconst (v := (-1)) hx hb dIx_term_26 (by decide) ?_
        exact hret hZ ⟨by rw [askI_b (kN_bad hk)], hFr, ⟨_, _, _, _, _, _, _, _, _, _, _, _, _, _, _, gx, gi, gt, gl, hfl, gq, gs, gh, ga, gf, ff_14, gc⟩⟩ dIx_term_27
    · rcases nI_cases ll with hk0 | ⟨y, hy2, rfl⟩
      · refine lv_aload_n hx hb dIx_term_0 rfl (lv_at hl 0 rfl) ?_
        refine lv_iload_n hx hb dIx_term_1 rfl (lv_at hl 1 rfl) ?_
        refine hw_callv (va_runV (As := [.int kk]) (rest := []) ⟨hx, hb, hml, hown, hts⟩ (c_Ix_listB l D K X s.heap.size (a := a) (b0 := b0) (b1 := b1) (b2 := b2) (b3 := b3) (b4 := b4) (b5 := b5) (b6 := b6) (b7 := b7) (b8 := b8) (ni := its.length) (fs := fs) (qs := qs) (fi := fi) (its := its) (tl := tl) (kind := kk) gx gi gt gk (by omega) (by omega) (by assumption)) (cwV 1 hts (hwGood (hw_4 mm_329 mm_330 mm_331 mm_188 (hwAll mm_328))) rfl rfl rfl (by decide +kernel) ⟨Nat.le_of_ble_eq_true rfl, Nat.le_of_ble_eq_true rfl⟩) (hw_preV hK hO hZ (⟨_, _, gx⟩) rfl) rfl rfl hl.1 rfl (lv_room (Nat.le_of_ble_eq_true rfl)) dIx_term_2 ⟨(show 0 + 0 ≤ 0 by omega), (show 0 + 0 ≤ 0 by omega)⟩) hZ hA (fun X_19 H_20 lc_21 hp hZ => ?_)
        obtain ⟨hF, hN_22⟩ := hp
        have hFr := hwF.tr hFr hF (fun _ h => h) (fun M h => by first | exact False.elim h | ((try dsimp only at h ⊢); omega))
        have gx := hF _ _ _ (by intro hNS; first | exact False.elim hNS | ((try dsimp only at hNS); omega)) gx
        have gi := hF _ _ _ (by intro hNS; first | exact False.elim hNS | ((try dsimp only at hNS); omega)) gi
        have gt := itsAt.fr hF (fun M h1 h2 hNS => by first | exact False.elim hNS | ((try dsimp only at hNS); omega)) gt
        have gl := hF _ _ _ (by intro hNS; first | exact False.elim hNS | ((try dsimp only at hNS); omega)) gl
        have gq := txAt.fr hF (by intro hNS; first | exact False.elim hNS | ((try dsimp only at hNS); omega)) (by intro hNS; first | exact False.elim hNS | ((try dsimp only at hNS); omega)) gq
        have gs := seAt.fr hF (by intro hNS; first | exact False.elim hNS | ((try dsimp only at hNS); omega)) (by intro hNS; first | exact False.elim hNS | ((try dsimp only at hNS); omega)) gs
        have gh := hiAt.fr hF (by intro hNS; first | exact False.elim hNS | ((try dsimp only at hNS); omega)) (by intro hNS; first | exact False.elim hNS | ((try dsimp only at hNS); omega)) (by intro hNS; first | exact False.elim hNS | ((try dsimp only at hNS); omega)) (by intro hNS; first | exact False.elim hNS | ((try dsimp only at hNS); omega)) gh
        have ga := tmAt.fr hF (by intro hNS; first | exact False.elim hNS | ((try dsimp only at hNS); omega)) (by intro hNS; first | exact False.elim hNS | ((try dsimp only at hNS); omega)) ga
        have gf := tmAt.fr hF (by intro hNS; first | exact False.elim hNS | ((try dsimp only at hNS); omega)) (by intro hNS; first | exact False.elim hNS | ((try dsimp only at hNS); omega)) gf
        have gc := hF _ _ _ (by intro hNS; first | exact False.elim hNS | ((try dsimp only at hNS); omega)) gc
        have ff_23 := hN_22
        have hL2 := fun j => okWs.at (seAt.oks ff_23) j
        have hz : eW (([] : List (List Nat)).getD x []) = 0 := rfl
        refine lv_aload_n hx hb dIx_term_5 rfl (lv_at hl 0 rfl) ?_
        refine hw_get hx hb hts (hwInn inIx) hown hK hZ gx rfl 10 (by decide) (hts (.fieldLink RIx 52 RIx "listed" "LWordIndex2$WordSet;") (hwMem mm_264)) (fun _ h => h) rfl dIx_term_6 ?_
        refine lv_iload_n hx hb dIx_term_9 rfl (lv_at hl 2 rfl) ?_
        refine hw_calll (va_runV (As := [.int (nI x)]) (rest := []) ⟨hx, hb, hml, hown, hts⟩ (c_Se_at l D K X_19 H_20.size (a := b7) (k := 9) (N := 750) (ts := []) (j := x) ff_23 (by omega)) (cwV 1 hts (hwGood (hw_4 mm_332 mm_61 mm_62 mm_63 (hwAll mm_59))) rfl rfl rfl (by decide +kernel) ⟨Nat.le_of_ble_eq_true rfl, Nat.le_of_ble_eq_true rfl⟩) (hw_preV hK hO hZ (seAt.ob ff_23) rfl) rfl rfl hl.1 rfl (lv_room (Nat.le_of_ble_eq_true rfl)) dIx_term_10 ⟨(show 0 + 0 ≤ 0 by omega), (show 0 + 0 ≤ 0 by omega)⟩) hZ hA (fun r X_24 H_25 lc_26 hp hZ => ?_)
        obtain ⟨hr, hy⟩ := hp
        subst hy
        refine hw_topl hr ?_
        refine lv_lstore (lv' := [(4, .long (lN (eW (([]).getD x [])))), (0, .ref a), (1, .int kk), (2, .int (nI x)), (3, .int ll)]) hx hb dIx_term_13 hl (by decide) rfl (fun ls hl => ?_)
        refine lv_lload hx hb dIx_term_15 (lv_at hl 0 rfl) ?_
        refine lv_lconst (v := lN 0) hx hb dIx_term_17 rfl ?_
        refine hw_lc_eq (a := eW (([]).getD x [])) (b := 0) (tgt := 26) hx hb dIx_term_18 dIx_term_19 (by decide) (by first | exact eW_lt63 (hT2 _) | exact eW_lt63 (hQ2 _) | exact eW_lt63 (hL2 _) | decide) (by first | exact eW_lt63 (hT2 _) | exact eW_lt63 (hQ2 _) | exact eW_lt63 (hL2 _) | decide) (fun cq_27 => ?_) (fun cq_27 => by exfalso; omega)
        refine lv_iconst (v := (-1)) hx hb dIx_term_26 (by decide) ?_
        exact hret hZ ⟨by rw [askI_b (kN_bad hk)], hFr, ⟨_, _, _, _, _, _, _, _, _, _, _, _, _, _, _, gx, gi, gt, gl, hfl, gq, gs, gh, ga, gf, ff_23, gc⟩⟩ dIx_term_27
      · refine lv_aload_n hx hb dIx_term_0 rfl (lv_at hl 0 rfl) ?_
        refine lv_iload_n hx hb dIx_term_1 rfl (lv_at hl 1 rfl) ?_
        refine hw_callv (va_runV (As := [.int kk]) (rest := []) ⟨hx, hb, hml, hown, hts⟩ (c_Ix_listB l D K X s.heap.size (a := a) (b0 := b0) (b1 := b1) (b2 := b2) (b3 := b3) (b4 := b4) (b5 := b5) (b6 := b6) (b7 := b7) (b8 := b8) (ni := its.length) (fs := fs) (qs := qs) (fi := fi) (its := its) (tl := tl) (kind := kk) gx gi gt gk (by omega) (by omega) (by assumption)) (cwV 1 hts (hwGood (hw_4 mm_329 mm_330 mm_331 mm_188 (hwAll mm_328))) rfl rfl rfl (by decide +kernel) ⟨Nat.le_of_ble_eq_true rfl, Nat.le_of_ble_eq_true rfl⟩) (hw_preV hK hO hZ (⟨_, _, gx⟩) rfl) rfl rfl hl.1 rfl (lv_room (Nat.le_of_ble_eq_true rfl)) dIx_term_2 ⟨(show 0 + 0 ≤ 0 by omega), (show 0 + 0 ≤ 0 by omega)⟩) hZ hA (fun X_28 H_29 lc_30 hp hZ => ?_)
        obtain ⟨hF, hN_31⟩ := hp
        have hFr := hwF.tr hFr hF (fun _ h => h) (fun M h => by first | exact False.elim h | ((try dsimp only at h ⊢); omega))
        have gx := hF _ _ _ (by intro hNS; first | exact False.elim hNS | ((try dsimp only at hNS); omega)) gx
        have gi := hF _ _ _ (by intro hNS; first | exact False.elim hNS | ((try dsimp only at hNS); omega)) gi
        have gt := itsAt.fr hF (fun M h1 h2 hNS => by first | exact False.elim hNS | ((try dsimp only at hNS); omega)) gt
        have gl := hF _ _ _ (by intro hNS; first | exact False.elim hNS | ((try dsimp only at hNS); omega)) gl
        have gq := txAt.fr hF (by intro hNS; first | exact False.elim hNS | ((try dsimp only at hNS); omega)) (by intro hNS; first | exact False.elim hNS | ((try dsimp only at hNS); omega)) gq
        have gs := seAt.fr hF (by intro hNS; first | exact False.elim hNS | ((try dsimp only at hNS); omega)) (by intro hNS; first | exact False.elim hNS | ((try dsimp only at hNS); omega)) gs
        have gh := hiAt.fr hF (by intro hNS; first | exact False.elim hNS | ((try dsimp only at hNS); omega)) (by intro hNS; first | exact False.elim hNS | ((try dsimp only at hNS); omega)) (by intro hNS; first | exact False.elim hNS | ((try dsimp only at hNS); omega)) (by intro hNS; first | exact False.elim hNS | ((try dsimp only at hNS); omega)) gh
        have ga := tmAt.fr hF (by intro hNS; first | exact False.elim hNS | ((try dsimp only at hNS); omega)) (by intro hNS; first | exact False.elim hNS | ((try dsimp only at hNS); omega)) ga
        have gf := tmAt.fr hF (by intro hNS; first | exact False.elim hNS | ((try dsimp only at hNS); omega)) (by intro hNS; first | exact False.elim hNS | ((try dsimp only at hNS); omega)) gf
        have gc := hF _ _ _ (by intro hNS; first | exact False.elim hNS | ((try dsimp only at hNS); omega)) gc
        have ff_32 := hN_31
        have hL2 := fun j => okWs.at (seAt.oks ff_32) j
        have hz : eW (([] : List (List Nat)).getD x []) = 0 := rfl
        refine lv_aload_n hx hb dIx_term_5 rfl (lv_at hl 0 rfl) ?_
        refine hw_get hx hb hts (hwInn inIx) hown hK hZ gx rfl 10 (by decide) (hts (.fieldLink RIx 52 RIx "listed" "LWordIndex2$WordSet;") (hwMem mm_264)) (fun _ h => h) rfl dIx_term_6 ?_
        refine lv_iload_n hx hb dIx_term_9 rfl (lv_at hl 2 rfl) ?_
        refine hw_calll (va_runV (As := [.int (nI x)]) (rest := []) ⟨hx, hb, hml, hown, hts⟩ (c_Se_at l D K X_28 H_29.size (a := b7) (k := 9) (N := 750) (ts := []) (j := x) ff_32 (by omega)) (cwV 1 hts (hwGood (hw_4 mm_332 mm_61 mm_62 mm_63 (hwAll mm_59))) rfl rfl rfl (by decide +kernel) ⟨Nat.le_of_ble_eq_true rfl, Nat.le_of_ble_eq_true rfl⟩) (hw_preV hK hO hZ (seAt.ob ff_32) rfl) rfl rfl hl.1 rfl (lv_room (Nat.le_of_ble_eq_true rfl)) dIx_term_10 ⟨(show 0 + 0 ≤ 0 by omega), (show 0 + 0 ≤ 0 by omega)⟩) hZ hA (fun r X_33 H_34 lc_35 hp hZ => ?_)
        obtain ⟨hr, hy⟩ := hp
        subst hy
        refine hw_topl hr ?_
        refine lv_lstore (lv' := [(4, .long (lN (eW (([]).getD x [])))), (0, .ref a), (1, .int kk), (2, .int (nI x)), (3, .int (nI y))]) hx hb dIx_term_13 hl (by decide) rfl (fun ls hl => ?_)
        refine lv_lload hx hb dIx_term_15 (lv_at hl 0 rfl) ?_
        refine lv_lconst (v := lN 0) hx hb dIx_term_17 rfl ?_
        refine hw_lc_eq (a := eW (([]).getD x [])) (b := 0) (tgt := 26) hx hb dIx_term_18 dIx_term_19 (by decide) (by first | exact eW_lt63 (hT2 _) | exact eW_lt63 (hQ2 _) | exact eW_lt63 (hL2 _) | decide) (by first | exact eW_lt63 (hT2 _) | exact eW_lt63 (hQ2 _) | exact eW_lt63 (hL2 _) | decide) (fun cq_36 => ?_) (fun cq_36 => by exfalso; omega)
        refine lv_iconst (v := (-1)) hx hb dIx_term_26 (by decide) ?_
        exact hret hZ ⟨by rw [askI_b (kN_bad hk)], hFr, ⟨_, _, _, _, _, _, _, _, _, _, _, _, _, _, _, gx, gi, gt, gl, hfl, gq, gs, gh, ga, gf, ff_32, gc⟩⟩ dIx_term_27
  · rcases nI_cases ii with hi0 | ⟨x, hx2, rfl⟩
    · rcases nI_cases ll with hk0 | ⟨y, hy2, rfl⟩
      · refine lv_aload_n hx hb dIx_term_0 rfl (lv_at hl 0 rfl) ?_
        refine lv_iload_n hx hb dIx_term_1 rfl (lv_at hl 1 rfl) ?_
        refine hw_callv (va_runV (As := [.int (nI j)]) (rest := []) ⟨hx, hb, hml, hown, hts⟩ (c_Ix_list l D K X s.heap.size (a := a) (b0 := b0) (b1 := b1) (b2 := b2) (b3 := b3) (b4 := b4) (b5 := b5) (b6 := b6) (b7 := b7) (b8 := b8) (ni := its.length) (fs := fs) (qs := qs) (fi := fi) (fl := fl) (its := its) (lg := lg) (tf := tf) (ss := ss) (tl := tl) (j := j) gx gi gt gl gf gs gk (by omega) (by omega) (by omega) (by assumption) (by assumption) (by assumption) (by assumption)) (cwV 1 hts (hwGood (hw_4 mm_329 mm_330 mm_331 mm_188 (hwAll mm_328))) rfl rfl rfl (by decide +kernel) ⟨Nat.le_of_ble_eq_true rfl, Nat.le_of_ble_eq_true rfl⟩) (hw_preV hK hO hZ (⟨_, _, gx⟩) rfl) rfl rfl hl.1 rfl (lv_room (Nat.le_of_ble_eq_true rfl)) dIx_term_2 ⟨(show 0 + 0 ≤ 0 by omega), (show 0 + 0 ≤ 0 by omega)⟩) hZ hA (fun X_37 H_38 lc_39 hp hZ => ?_)
        obtain ⟨tz_40, hF, hN_41, hN_42⟩ := hp
        have hFr := hwF.tr hFr hF (fun _ h => h) (fun M h => by first | exact False.elim h | ((try dsimp only at h ⊢); omega))
        have gx := hF _ _ _ (by intro hNS; first | exact False.elim hNS | ((try dsimp only at hNS); omega)) gx
        have gi := hF _ _ _ (by intro hNS; first | exact False.elim hNS | ((try dsimp only at hNS); omega)) gi
        have gt := itsAt.fr hF (fun M h1 h2 hNS => by first | exact False.elim hNS | ((try dsimp only at hNS); omega)) gt
        have gl := hF _ _ _ (by intro hNS; first | exact False.elim hNS | ((try dsimp only at hNS); omega)) gl
        have gq := txAt.fr hF (by intro hNS; first | exact False.elim hNS | ((try dsimp only at hNS); omega)) (by intro hNS; first | exact False.elim hNS | ((try dsimp only at hNS); omega)) gq
        have gs := seAt.fr hF (by intro hNS; first | exact False.elim hNS | ((try dsimp only at hNS); omega)) (by intro hNS; first | exact False.elim hNS | ((try dsimp only at hNS); omega)) gs
        have gh := hiAt.fr hF (by intro hNS; first | exact False.elim hNS | ((try dsimp only at hNS); omega)) (by intro hNS; first | exact False.elim hNS | ((try dsimp only at hNS); omega)) (by intro hNS; first | exact False.elim hNS | ((try dsimp only at hNS); omega)) (by intro hNS; first | exact False.elim hNS | ((try dsimp only at hNS); omega)) gh
        have ga := tmAt.fr hF (by intro hNS; first | exact False.elim hNS | ((try dsimp only at hNS); omega)) (by intro hNS; first | exact False.elim hNS | ((try dsimp only at hNS); omega)) ga
        have gc := hF _ _ _ (by intro hNS; first | exact False.elim hNS | ((try dsimp only at hNS); omega)) gc
        have ff_43 := hN_41
        have ff_44 := hN_42
        have hL2 := fun j => okWs.at (seAt.oks ff_44) j
        have hz9 : eW [] = 0 := rfl
        refine lv_aload_n hx hb dIx_term_5 rfl (lv_at hl 0 rfl) ?_
        refine hw_get hx hb hts (hwInn inIx) hown hK hZ gx rfl 10 (by decide) (hts (.fieldLink RIx 52 RIx "listed" "LWordIndex2$WordSet;") (hwMem mm_264)) (fun _ h => h) rfl dIx_term_6 ?_
        refine lv_iload_n hx hb dIx_term_9 rfl (lv_at hl 2 rfl) ?_
        refine hw_calll (va_runV (As := [.int ii]) (rest := []) ⟨hx, hb, hml, hown, hts⟩ (c_Se_atN l D K X_37 H_38.size (a := b7) (k := 9) (N := 750) (ts := liN (Tf its lg ss j) its.length) (i := ii) ff_44 (by assumption)) (cwV 1 hts (hwGood (hw_4 mm_332 mm_61 mm_62 mm_63 (hwAll mm_59))) rfl rfl rfl (by decide +kernel) ⟨Nat.le_of_ble_eq_true rfl, Nat.le_of_ble_eq_true rfl⟩) (hw_preV hK hO hZ (seAt.ob ff_44) rfl) rfl rfl hl.1 rfl (lv_room (Nat.le_of_ble_eq_true rfl)) dIx_term_10 ⟨(show 0 + 0 ≤ 0 by omega), (show 0 + 0 ≤ 0 by omega)⟩) hZ hA (fun r X_45 H_46 lc_47 hp hZ => ?_)
        obtain ⟨hr, hy⟩ := hp
        subst hy
        refine hw_topl hr ?_
        refine lv_lstore (lv' := [(4, .long (lN (eW []))), (0, .ref a), (1, .int (nI j)), (2, .int ii), (3, .int ll)]) hx hb dIx_term_13 hl (by decide) rfl (fun ls hl => ?_)
        refine lv_lload hx hb dIx_term_15 (lv_at hl 0 rfl) ?_
        refine lv_lconst (v := lN 0) hx hb dIx_term_17 rfl ?_
        refine hw_lc_eq (a := eW []) (b := 0) (tgt := 26) hx hb dIx_term_18 dIx_term_19 (by decide) (by first | exact eW_lt63 (hT2 _) | exact eW_lt63 (hQ2 _) | exact eW_lt63 (hL2 _) | decide) (by first | exact eW_lt63 (hT2 _) | exact eW_lt63 (hQ2 _) | exact eW_lt63 (hL2 _) | decide) (fun cq_48 => ?_) (fun cq_48 => by exfalso; omega)
        refine lv_iconst (v := (-1)) hx hb dIx_term_26 (by decide) ?_
        exact hret hZ ⟨by rw [askI_g (kN_nI hj)]; (try dsimp only); rw [termW_e (Or.inl (lA_neg hi0))], hFr, ⟨_, _, _, _, _, _, _, _, _, _, _, _, _, _, _, gx, gi, gt, gl, hfl, gq, gs, gh, ga, ff_43, ff_44, gc⟩⟩ dIx_term_27
      · refine lv_aload_n hx hb dIx_term_0 rfl (lv_at hl 0 rfl) ?_
        refine lv_iload_n hx hb dIx_term_1 rfl (lv_at hl 1 rfl) ?_
        refine hw_callv (va_runV (As := [.int (nI j)]) (rest := []) ⟨hx, hb, hml, hown, hts⟩ (c_Ix_list l D K X s.heap.size (a := a) (b0 := b0) (b1 := b1) (b2 := b2) (b3 := b3) (b4 := b4) (b5 := b5) (b6 := b6) (b7 := b7) (b8 := b8) (ni := its.length) (fs := fs) (qs := qs) (fi := fi) (fl := fl) (its := its) (lg := lg) (tf := tf) (ss := ss) (tl := tl) (j := j) gx gi gt gl gf gs gk (by omega) (by omega) (by omega) (by assumption) (by assumption) (by assumption) (by assumption)) (cwV 1 hts (hwGood (hw_4 mm_329 mm_330 mm_331 mm_188 (hwAll mm_328))) rfl rfl rfl (by decide +kernel) ⟨Nat.le_of_ble_eq_true rfl, Nat.le_of_ble_eq_true rfl⟩) (hw_preV hK hO hZ (⟨_, _, gx⟩) rfl) rfl rfl hl.1 rfl (lv_room (Nat.le_of_ble_eq_true rfl)) dIx_term_2 ⟨(show 0 + 0 ≤ 0 by omega), (show 0 + 0 ≤ 0 by omega)⟩) hZ hA (fun X_49 H_50 lc_51 hp hZ => ?_)
        obtain ⟨tz_52, hF, hN_53, hN_54⟩ := hp
        have hFr := hwF.tr hFr hF (fun _ h => h) (fun M h => by first | exact False.elim h | ((try dsimp only at h ⊢); omega))
        have gx := hF _ _ _ (by intro hNS; first | exact False.elim hNS | ((try dsimp only at hNS); omega)) gx
        have gi := hF _ _ _ (by intro hNS; first | exact False.elim hNS | ((try dsimp only at hNS); omega)) gi
        have gt := itsAt.fr hF (fun M h1 h2 hNS => by first | exact False.elim hNS | ((try dsimp only at hNS); omega)) gt
        have gl := hF _ _ _ (by intro hNS; first | exact False.elim hNS | ((try dsimp only at hNS); omega)) gl
        have gq := txAt.fr hF (by intro hNS; first | exact False.elim hNS | ((try dsimp only at hNS); omega)) (by intro hNS; first | exact False.elim hNS | ((try dsimp only at hNS); omega)) gq
        have gs := seAt.fr hF (by intro hNS; first | exact False.elim hNS | ((try dsimp only at hNS); omega)) (by intro hNS; first | exact False.elim hNS | ((try dsimp only at hNS); omega)) gs
        have gh := hiAt.fr hF (by intro hNS; first | exact False.elim hNS | ((try dsimp only at hNS); omega)) (by intro hNS; first | exact False.elim hNS | ((try dsimp only at hNS); omega)) (by intro hNS; first | exact False.elim hNS | ((try dsimp only at hNS); omega)) (by intro hNS; first | exact False.elim hNS | ((try dsimp only at hNS); omega)) gh
        have ga := tmAt.fr hF (by intro hNS; first | exact False.elim hNS | ((try dsimp only at hNS); omega)) (by intro hNS; first | exact False.elim hNS | ((try dsimp only at hNS); omega)) ga
        have gc := hF _ _ _ (by intro hNS; first | exact False.elim hNS | ((try dsimp only at hNS); omega)) gc
        have ff_55 := hN_53
        have ff_56 := hN_54
        have hL2 := fun j => okWs.at (seAt.oks ff_56) j
        have hz9 : eW [] = 0 := rfl
        refine lv_aload_n hx hb dIx_term_5 rfl (lv_at hl 0 rfl) ?_
        refine hw_get hx hb hts (hwInn inIx) hown hK hZ gx rfl 10 (by decide) (hts (.fieldLink RIx 52 RIx "listed" "LWordIndex2$WordSet;") (hwMem mm_264)) (fun _ h => h) rfl dIx_term_6 ?_
        refine lv_iload_n hx hb dIx_term_9 rfl (lv_at hl 2 rfl) ?_
        refine hw_calll (va_runV (As := [.int ii]) (rest := []) ⟨hx, hb, hml, hown, hts⟩ (c_Se_atN l D K X_49 H_50.size (a := b7) (k := 9) (N := 750) (ts := liN (Tf its lg ss j) its.length) (i := ii) ff_56 (by assumption)) (cwV 1 hts (hwGood (hw_4 mm_332 mm_61 mm_62 mm_63 (hwAll mm_59))) rfl rfl rfl (by decide +kernel) ⟨Nat.le_of_ble_eq_true rfl, Nat.le_of_ble_eq_true rfl⟩) (hw_preV hK hO hZ (seAt.ob ff_56) rfl) rfl rfl hl.1 rfl (lv_room (Nat.le_of_ble_eq_true rfl)) dIx_term_10 ⟨(show 0 + 0 ≤ 0 by omega), (show 0 + 0 ≤ 0 by omega)⟩) hZ hA (fun r X_57 H_58 lc_59 hp hZ => ?_)
        obtain ⟨hr, hy⟩ := hp
        subst hy
        refine hw_topl hr ?_
        refine lv_lstore (lv' := [(4, .long (lN (eW []))), (0, .ref a), (1, .int (nI j)), (2, .int ii), (3, .int (nI y))]) hx hb dIx_term_13 hl (by decide) rfl (fun ls hl => ?_)
        refine lv_lload hx hb dIx_term_15 (lv_at hl 0 rfl) ?_
        refine lv_lconst (v := lN 0) hx hb dIx_term_17 rfl ?_
        refine hw_lc_eq (a := eW []) (b := 0) (tgt := 26) hx hb dIx_term_18 dIx_term_19 (by decide) (by first | exact eW_lt63 (hT2 _) | exact eW_lt63 (hQ2 _) | exact eW_lt63 (hL2 _) | decide) (by first | exact eW_lt63 (hT2 _) | exact eW_lt63 (hQ2 _) | exact eW_lt63 (hL2 _) | decide) (fun cq_60 => ?_) (fun cq_60 => by exfalso; omega)
        refine lv_iconst (v := (-1)) hx hb dIx_term_26 (by decide) ?_
        exact hret hZ ⟨by rw [askI_g (kN_nI hj)]; (try dsimp only); rw [termW_e (Or.inl (lA_neg hi0))], hFr, ⟨_, _, _, _, _, _, _, _, _, _, _, _, _, _, _, gx, gi, gt, gl, hfl, gq, gs, gh, ga, ff_55, ff_56, gc⟩⟩ dIx_term_27
    · rcases nI_cases ll with hk0 | ⟨y, hy2, rfl⟩
      · refine lv_aload_n hx hb dIx_term_0 rfl (lv_at hl 0 rfl) ?_
        refine lv_iload_n hx hb dIx_term_1 rfl (lv_at hl 1 rfl) ?_
        refine hw_callv (va_runV (As := [.int (nI j)]) (rest := []) ⟨hx, hb, hml, hown, hts⟩ (c_Ix_list l D K X s.heap.size (a := a) (b0 := b0) (b1 := b1) (b2 := b2) (b3 := b3) (b4 := b4) (b5 := b5) (b6 := b6) (b7 := b7) (b8 := b8) (ni := its.length) (fs := fs) (qs := qs) (fi := fi) (fl := fl) (its := its) (lg := lg) (tf := tf) (ss := ss) (tl := tl) (j := j) gx gi gt gl gf gs gk (by omega) (by omega) (by omega) (by assumption) (by assumption) (by assumption) (by assumption)) (cwV 1 hts (hwGood (hw_4 mm_329 mm_330 mm_331 mm_188 (hwAll mm_328))) rfl rfl rfl (by decide +kernel) ⟨Nat.le_of_ble_eq_true rfl, Nat.le_of_ble_eq_true rfl⟩) (hw_preV hK hO hZ (⟨_, _, gx⟩) rfl) rfl rfl hl.1 rfl (lv_room (Nat.le_of_ble_eq_true rfl)) dIx_term_2 ⟨(show 0 + 0 ≤ 0 by omega), (show 0 + 0 ≤ 0 by omega)⟩) hZ hA (fun X_61 H_62 lc_63 hp hZ => ?_)
        obtain ⟨tz_64, hF, hN_65, hN_66⟩ := hp
        have hFr := hwF.tr hFr hF (fun _ h => h) (fun M h => by first | exact False.elim h | ((try dsimp only at h ⊢); omega))
        have gx := hF _ _ _ (by intro hNS; first | exact False.elim hNS | ((try dsimp only at hNS); omega)) gx
        have gi := hF _ _ _ (by intro hNS; first | exact False.elim hNS | ((try dsimp only at hNS); omega)) gi
        have gt := itsAt.fr hF (fun M h1 h2 hNS => by first | exact False.elim hNS | ((try dsimp only at hNS); omega)) gt
        have gl := hF _ _ _ (by intro hNS; first | exact False.elim hNS | ((try dsimp only at hNS); omega)) gl
        have gq := txAt.fr hF (by intro hNS; first | exact False.elim hNS | ((try dsimp only at hNS); omega)) (by intro hNS; first | exact False.elim hNS | ((try dsimp only at hNS); omega)) gq
        have gs := seAt.fr hF (by intro hNS; first | exact False.elim hNS | ((try dsimp only at hNS); omega)) (by intro hNS; first | exact False.elim hNS | ((try dsimp only at hNS); omega)) gs
        have gh := hiAt.fr hF (by intro hNS; first | exact False.elim hNS | ((try dsimp only at hNS); omega)) (by intro hNS; first | exact False.elim hNS | ((try dsimp only at hNS); omega)) (by intro hNS; first | exact False.elim hNS | ((try dsimp only at hNS); omega)) (by intro hNS; first | exact False.elim hNS | ((try dsimp only at hNS); omega)) gh
        have ga := tmAt.fr hF (by intro hNS; first | exact False.elim hNS | ((try dsimp only at hNS); omega)) (by intro hNS; first | exact False.elim hNS | ((try dsimp only at hNS); omega)) ga
        have gc := hF _ _ _ (by intro hNS; first | exact False.elim hNS | ((try dsimp only at hNS); omega)) gc
        have ff_67 := hN_65
        have ff_68 := hN_66
        have hL2 := fun j => okWs.at (seAt.oks ff_68) j
        refine lv_aload_n hx hb dIx_term_5 rfl (lv_at hl 0 rfl) ?_
        refine hw_get hx hb hts (hwInn inIx) hown hK hZ gx rfl 10 (by decide) (hts (.fieldLink RIx 52 RIx "listed" "LWordIndex2$WordSet;") (hwMem mm_264)) (fun _ h => h) rfl dIx_term_6 ?_
        refine lv_iload_n hx hb dIx_term_9 rfl (lv_at hl 2 rfl) ?_
        refine hw_calll (va_runV (As := [.int (nI x)]) (rest := []) ⟨hx, hb, hml, hown, hts⟩ (c_Se_at l D K X_61 H_62.size (a := b7) (k := 9) (N := 750) (ts := liN (Tf its lg ss j) its.length) (j := x) ff_68 (by omega)) (cwV 1 hts (hwGood (hw_4 mm_332 mm_61 mm_62 mm_63 (hwAll mm_59))) rfl rfl rfl (by decide +kernel) ⟨Nat.le_of_ble_eq_true rfl, Nat.le_of_ble_eq_true rfl⟩) (hw_preV hK hO hZ (seAt.ob ff_68) rfl) rfl rfl hl.1 rfl (lv_room (Nat.le_of_ble_eq_true rfl)) dIx_term_10 ⟨(show 0 + 0 ≤ 0 by omega), (show 0 + 0 ≤ 0 by omega)⟩) hZ hA (fun r X_69 H_70 lc_71 hp hZ => ?_)
        obtain ⟨hr, hy⟩ := hp
        subst hy
        refine hw_topl hr ?_
        refine lv_lstore (lv' := [(4, .long (lN (eW ((liN (Tf its lg ss j) its.length).getD x [])))), (0, .ref a), (1, .int (nI j)), (2, .int (nI x)), (3, .int ll)]) hx hb dIx_term_13 hl (by decide) rfl (fun ls hl => ?_)
        refine lv_lload hx hb dIx_term_15 (lv_at hl 0 rfl) ?_
        refine lv_lconst (v := lN 0) hx hb dIx_term_17 rfl ?_
        refine hw_lc_eq (a := eW ((liN (Tf its lg ss j) its.length).getD x [])) (b := 0) (tgt := 26) hx hb dIx_term_18 dIx_term_19 (by decide) (by first | exact eW_lt63 (hT2 _) | exact eW_lt63 (hQ2 _) | exact eW_lt63 (hL2 _) | decide) (by first | exact eW_lt63 (hT2 _) | exact eW_lt63 (hQ2 _) | exact eW_lt63 (hL2 _) | decide) (fun cq_72 => ?_) (fun cq_72 => ?_)
        · refine lv_iconst (v := (-1)) hx hb dIx_term_26 (by decide) ?_
          exact hret hZ ⟨by rw [askI_g (kN_nI hj)]; (try dsimp only); rw [termW_e (Or.inl ((lA_nI hx2).trans ((eW_zero (hL2 _)).mp cq_72)))], hFr, ⟨_, _, _, _, _, _, _, _, _, _, _, _, _, _, _, gx, gi, gt, gl, hfl, gq, gs, gh, ga, ff_67, ff_68, gc⟩⟩ dIx_term_27
        · refine lv_iload_n hx hb dIx_term_22 rfl (lv_at hl 4 rfl) ?_
          refine lv_if_ge (tgt := 28) hx hb dIx_term_23 (by decide) (fun cq_73 => absurd cq_73 (hw_nle hk0)) (fun cq_73 => ?_)
          refine lv_iconst (v := (-1)) hx hb dIx_term_26 (by decide) ?_
          exact hret hZ ⟨by rw [askI_g (kN_nI hj)]; (try dsimp only); rw [termW_e (Or.inr hk0)], hFr, ⟨_, _, _, _, _, _, _, _, _, _, _, _, _, _, _, gx, gi, gt, gl, hfl, gq, gs, gh, ga, ff_67, ff_68, gc⟩⟩ dIx_term_27
      · refine lv_aload_n hx hb dIx_term_0 rfl (lv_at hl 0 rfl) ?_
        refine lv_iload_n hx hb dIx_term_1 rfl (lv_at hl 1 rfl) ?_
        refine hw_callv (va_runV (As := [.int (nI j)]) (rest := []) ⟨hx, hb, hml, hown, hts⟩ (c_Ix_list l D K X s.heap.size (a := a) (b0 := b0) (b1 := b1) (b2 := b2) (b3 := b3) (b4 := b4) (b5 := b5) (b6 := b6) (b7 := b7) (b8 := b8) (ni := its.length) (fs := fs) (qs := qs) (fi := fi) (fl := fl) (its := its) (lg := lg) (tf := tf) (ss := ss) (tl := tl) (j := j) gx gi gt gl gf gs gk (by omega) (by omega) (by omega) (by assumption) (by assumption) (by assumption) (by assumption)) (cwV 1 hts (hwGood (hw_4 mm_329 mm_330 mm_331 mm_188 (hwAll mm_328))) rfl rfl rfl (by decide +kernel) ⟨Nat.le_of_ble_eq_true rfl, Nat.le_of_ble_eq_true rfl⟩) (hw_preV hK hO hZ (⟨_, _, gx⟩) rfl) rfl rfl hl.1 rfl (lv_room (Nat.le_of_ble_eq_true rfl)) dIx_term_2 ⟨(show 0 + 0 ≤ 0 by omega), (show 0 + 0 ≤ 0 by omega)⟩) hZ hA (fun X_74 H_75 lc_76 hp hZ => ?_)
        obtain ⟨tz_77, hF, hN_78, hN_79⟩ := hp
        have hFr := hwF.tr hFr hF (fun _ h => h) (fun M h => by first | exact False.elim h | ((try dsimp only at h ⊢); omega))
        have gx := hF _ _ _ (by intro hNS; first | exact False.elim hNS | ((try dsimp only at hNS); omega)) gx
        have gi := hF _ _ _ (by intro hNS; first | exact False.elim hNS | ((try dsimp only at hNS); omega)) gi
        have gt := itsAt.fr hF (fun M h1 h2 hNS => by first | exact False.elim hNS | ((try dsimp only at hNS); omega)) gt
        have gl := hF _ _ _ (by intro hNS; first | exact False.elim hNS | ((try dsimp only at hNS); omega)) gl
        have gq := txAt.fr hF (by intro hNS; first | exact False.elim hNS | ((try dsimp only at hNS); omega)) (by intro hNS; first | exact False.elim hNS | ((try dsimp only at hNS); omega)) gq
        have gs := seAt.fr hF (by intro hNS; first | exact False.elim hNS | ((try dsimp only at hNS); omega)) (by intro hNS; first | exact False.elim hNS | ((try dsimp only at hNS); omega)) gs
        have gh := hiAt.fr hF (by intro hNS; first | exact False.elim hNS | ((try dsimp only at hNS); omega)) (by intro hNS; first | exact False.elim hNS | ((try dsimp only at hNS); omega)) (by intro hNS; first | exact False.elim hNS | ((try dsimp only at hNS); omega)) (by intro hNS; first | exact False.elim hNS | ((try dsimp only at hNS); omega)) gh
        have ga := tmAt.fr hF (by intro hNS; first | exact False.elim hNS | ((try dsimp only at hNS); omega)) (by intro hNS; first | exact False.elim hNS | ((try dsimp only at hNS); omega)) ga
        have gc := hF _ _ _ (by intro hNS; first | exact False.elim hNS | ((try dsimp only at hNS); omega)) gc
        have ff_80 := hN_78
        have ff_81 := hN_79
        have hL2 := fun j => okWs.at (seAt.oks ff_81) j
        refine lv_aload_n hx hb dIx_term_5 rfl (lv_at hl 0 rfl) ?_
        refine hw_get hx hb hts (hwInn inIx) hown hK hZ gx rfl 10 (by decide) (hts (.fieldLink RIx 52 RIx "listed" "LWordIndex2$WordSet;") (hwMem mm_264)) (fun _ h => h) rfl dIx_term_6 ?_
        refine lv_iload_n hx hb dIx_term_9 rfl (lv_at hl 2 rfl) ?_
        refine hw_calll (va_runV (As := [.int (nI x)]) (rest := []) ⟨hx, hb, hml, hown, hts⟩ (c_Se_at l D K X_74 H_75.size (a := b7) (k := 9) (N := 750) (ts := liN (Tf its lg ss j) its.length) (j := x) ff_81 (by omega)) (cwV 1 hts (hwGood (hw_4 mm_332 mm_61 mm_62 mm_63 (hwAll mm_59))) rfl rfl rfl (by decide +kernel) ⟨Nat.le_of_ble_eq_true rfl, Nat.le_of_ble_eq_true rfl⟩) (hw_preV hK hO hZ (seAt.ob ff_81) rfl) rfl rfl hl.1 rfl (lv_room (Nat.le_of_ble_eq_true rfl)) dIx_term_10 ⟨(show 0 + 0 ≤ 0 by omega), (show 0 + 0 ≤ 0 by omega)⟩) hZ hA (fun r X_82 H_83 lc_84 hp hZ => ?_)
        obtain ⟨hr, hy⟩ := hp
        subst hy
        refine hw_topl hr ?_
        refine lv_lstore (lv' := [(4, .long (lN (eW ((liN (Tf its lg ss j) its.length).getD x [])))), (0, .ref a), (1, .int (nI j)), (2, .int (nI x)), (3, .int (nI y))]) hx hb dIx_term_13 hl (by decide) rfl (fun ls hl => ?_)
        refine lv_lload hx hb dIx_term_15 (lv_at hl 0 rfl) ?_
        refine lv_lconst (v := lN 0) hx hb dIx_term_17 rfl ?_
        refine hw_lc_eq (a := eW ((liN (Tf its lg ss j) its.length).getD x [])) (b := 0) (tgt := 26) hx hb dIx_term_18 dIx_term_19 (by decide) (by first | exact eW_lt63 (hT2 _) | exact eW_lt63 (hQ2 _) | exact eW_lt63 (hL2 _) | decide) (by first | exact eW_lt63 (hT2 _) | exact eW_lt63 (hQ2 _) | exact eW_lt63 (hL2 _) | decide) (fun cq_85 => ?_) (fun cq_85 => ?_)
        · refine lv_iconst (v := (-1)) hx hb dIx_term_26 (by decide) ?_
          exact hret hZ ⟨by rw [askI_g (kN_nI hj)]; (try dsimp only); rw [termW_e (Or.inl ((lA_nI hx2).trans ((eW_zero (hL2 _)).mp cq_85)))], hFr, ⟨_, _, _, _, _, _, _, _, _, _, _, _, _, _, _, gx, gi, gt, gl, hfl, gq, gs, gh, ga, ff_80, ff_81, gc⟩⟩ dIx_term_27
        · refine lv_iload_n hx hb dIx_term_22 rfl (lv_at hl 4 rfl) ?_
          refine hw_if_ge (a := y) (tgt := 28) hx hb dIx_term_23 (by decide) (by omega) (fun cq_86 => ?_) (fun cq_86 => by exfalso; omega)
          refine lv_lload hx hb dIx_term_28 (lv_at hl 0 rfl) ?_
          refine lv_iload_n hx hb dIx_term_30 rfl (lv_at hl 4 rfl) ?_
          refine hw_calli (va_runS (As := [.long (lN (eW ((liN (Tf its lg ss j) its.length).getD x []))), .int (nI y)]) (rest := []) ⟨hx, hb, hml, hown, hts⟩ (c_W_signAt l D K X_74 H_83.size (w := ((liN (Tf its lg ss j) its.length).getD x [])) (j := y) (hL2 x) (by omega)) (va_cwS 2 hts (hwGood (hw_3 mm_335 mm_334 mm_3 (hwAll mm_333))) rfl rfl rfl (by decide +kernel) ⟨Nat.le_of_ble_eq_true rfl, Nat.le_of_ble_eq_true rfl⟩) (hw_preS hK hO hZ) rfl rfl hl.1 rfl (lv_room (Nat.le_of_ble_eq_true rfl)) dIx_term_31 ⟨(show 0 + 0 ≤ 0 by omega), (show 0 + 0 ≤ 0 by omega)⟩) hZ hA (fun r X_87 H_88 lc_89 hp hZ => ?_)
          obtain ⟨hr, hy⟩ := hp
          subst hy
          refine hw_topi hr ?_
          exact hret hZ ⟨by rw [askI_g (kN_nI hj)]; (try dsimp only); rw [termW_g hx2 hy2 (fun h => cq_85 ((eW_zero (hL2 _)).mpr h))], hFr, ⟨_, _, _, _, _, _, _, _, _, _, _, _, _, _, _, gx, gi, gt, gl, hfl, gq, gs, gh, ga, ff_80, ff_81, gc⟩⟩ dIx_term_34
