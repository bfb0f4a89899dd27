theorem mm_552 : (.code yIx_hit cIx_hit 3 (some .int) : Cond) ∈ hwG := hwIx 484 (by decide +kernel) (by decide +kernel)
theorem mm_553 : (.methodLink RLaw 51 yIx_hit : Cond) ∈ hwG := hwIx 481 (by decide +kernel) (by decide +kernel)
theorem mm_554 : (.instanceMethod yIx_hit : Cond) ∈ hwG := hwIx 482 (by decide +kernel) (by decide +kernel)
theorem mm_555 : (.selects RIx yIx_hit yIx_hit : Cond) ∈ hwG := hwIx 483 (by decide +kernel) (by decide +kernel)
theorem mm_556 : (.code yMo_hit cMo_hit 3 (some .int) : Cond) ∈ hwG := hwIx 741 (by decide +kernel) (by decide +kernel)
theorem mm_557 : (.methodLink RLaw 54 yMo_hit : Cond) ∈ hwG := hwIx 738 (by decide +kernel) (by decide +kernel)
theorem mm_558 : (.instanceMethod yMo_hit : Cond) ∈ hwG := hwIx 739 (by decide +kernel) (by decide +kernel)
theorem mm_559 : (.selects RMo yMo_hit yMo_hit : Cond) ∈ hwG := hwIx 740 (by decide +kernel) (by decide +kernel)
theorem mm_560 : (.code yIx_rank cIx_rank 6 (some .long) : Cond) ∈ hwG := hwIx 493 (by decide +kernel) (by decide +kernel)
theorem mm_561 : (.methodLink RLaw 55 yIx_rank : Cond) ∈ hwG := hwIx 490 (by decide +kernel) (by decide +kernel)
theorem mm_562 : (.instanceMethod yIx_rank : Cond) ∈ hwG := hwIx 491 (by decide +kernel) (by decide +kernel)
theorem mm_563 : (.selects RIx yIx_rank yIx_rank : Cond) ∈ hwG := hwIx 492 (by decide +kernel) (by decide +kernel)
theorem mm_564 : (.code yMo_rank cMo_rank 6 (some .long) : Cond) ∈ hwG := hwIx 745 (by decide +kernel) (by decide +kernel)
theorem mm_565 : (.methodLink RLaw 59 yMo_rank : Cond) ∈ hwG := hwIx 742 (by decide +kernel) (by decide +kernel)
theorem mm_566 : (.instanceMethod yMo_rank : Cond) ∈ hwG := hwIx 743 (by decide +kernel) (by decide +kernel)
theorem mm_567 : (.selects RMo yMo_rank yMo_rank : Cond) ∈ hwG := hwIx 744 (by decide +kernel) (by decide +kernel)
theorem mm_568 : (.code yIx_term cIx_term 6 (some .int) : Cond) ∈ hwG := hwIx 503 (by decide +kernel) (by decide +kernel)
theorem mm_569 : (.methodLink RLaw 60 yIx_term : Cond) ∈ hwG := hwIx 500 (by decide +kernel) (by decide +kernel)
theorem mm_570 : (.instanceMethod yIx_term : Cond) ∈ hwG := hwIx 501 (by decide +kernel) (by decide +kernel)
theorem mm_571 : (.selects RIx yIx_term yIx_term : Cond) ∈ hwG := hwIx 502 (by decide +kernel) (by decide +kernel)
theorem mm_572 : (.code yMo_term cMo_term 5 (some .int) : Cond) ∈ hwG := hwIx 750 (by decide +kernel) (by decide +kernel)
theorem mm_573 : (.methodLink RLaw 64 yMo_term : Cond) ∈ hwG := hwIx 747 (by decide +kernel) (by decide +kernel)
theorem mm_574 : (.instanceMethod yMo_term : Cond) ∈ hwG := hwIx 748 (by decide +kernel) (by decide +kernel)
theorem mm_575 : (.selects RMo yMo_term yMo_term : Cond) ∈ hwG := hwIx 749 (by decide +kernel) (by decide +kernel)
theorem mm_576 : (.code yIx_nearest cIx_nearest 8 (some .int) : Cond) ∈ hwG := hwIx 528 (by decide +kernel) (by decide +kernel)
theorem mm_577 : (.methodLink RLaw 65 yIx_nearest : Cond) ∈ hwG := hwIx 525 (by decide +kernel) (by decide +kernel)
theorem mm_578 : (.instanceMethod yIx_nearest : Cond) ∈ hwG := hwIx 526 (by decide +kernel) (by decide +kernel)
theorem mm_579 : (.selects RIx yIx_nearest yIx_nearest : Cond) ∈ hwG := hwIx 527 (by decide +kernel) (by decide +kernel)
theorem mm_580 : (.code yMo_nearest cMo_nearest 6 (some .int) : Cond) ∈ hwG := hwIx 765 (by decide +kernel) (by decide +kernel)
theorem mm_581 : (.methodLink RLaw 68 yMo_nearest : Cond) ∈ hwG := hwIx 762 (by decide +kernel) (by decide +kernel)
theorem mm_582 : (.instanceMethod yMo_nearest : Cond) ∈ hwG := hwIx 763 (by decide +kernel) (by decide +kernel)
theorem mm_583 : (.selects RMo yMo_nearest yMo_nearest : Cond) ∈ hwG := hwIx 764 (by decide +kernel) (by decide +kernel)
theorem mm_584 : (.code yIx_stop cIx_stop 2 (some .int) : Cond) ∈ hwG := hwIx 543 (by decide +kernel) (by decide +kernel)
theorem mm_585 : (.methodLink RLaw 69 yIx_stop : Cond) ∈ hwG := hwIx 540 (by decide +kernel) (by decide +kernel)
theorem mm_586 : (.instanceMethod yIx_stop : Cond) ∈ hwG := hwIx 541 (by decide +kernel) (by decide +kernel)
theorem mm_587 : (.selects RIx yIx_stop yIx_stop : Cond) ∈ hwG := hwIx 542 (by decide +kernel) (by decide +kernel)
theorem mm_588 : (.code yMo_stop cMo_stop 2 (some .int) : Cond) ∈ hwG := hwIx 780 (by decide +kernel) (by decide +kernel)
theorem mm_589 : (.methodLink RLaw 72 yMo_stop : Cond) ∈ hwG := hwIx 777 (by decide +kernel) (by decide +kernel)
theorem mm_590 : (.instanceMethod yMo_stop : Cond) ∈ hwG := hwIx 778 (by decide +kernel) (by decide +kernel)
theorem mm_591 : (.selects RMo yMo_stop yMo_stop : Cond) ∈ hwG := hwIx 779 (by decide +kernel) (by decide +kernel)
theorem mm_592 : (.code yIx_language cIx_language 4 (some .int) : Cond) ∈ hwG := hwIx 548 (by decide +kernel) (by decide +kernel)
theorem mm_593 : (.methodLink RLaw 73 yIx_language : Cond) ∈ hwG := hwIx 545 (by decide +kernel) (by decide +kernel)
theorem mm_594 : (.instanceMethod yIx_language : Cond) ∈ hwG := hwIx 546 (by decide +kernel) (by decide +kernel)
theorem mm_595 : (.selects RIx yIx_language yIx_language : Cond) ∈ hwG := hwIx 547 (by decide +kernel) (by decide +kernel)
theorem mm_596 : (.code yMo_language cMo_language 4 (some .int) : Cond) ∈ hwG := hwIx 784 (by decide +kernel) (by decide +kernel)
theorem mm_597 : (.methodLink RLaw 76 yMo_language : Cond) ∈ hwG := hwIx 781 (by decide +kernel) (by decide +kernel)
theorem mm_598 : (.instanceMethod yMo_language : Cond) ∈ hwG := hwIx 782 (by decide +kernel) (by decide +kernel)
theorem mm_599 : (.selects RMo yMo_language yMo_language : Cond) ∈ hwG := hwIx 783 (by decide +kernel) (by decide +kernel)
set_option maxHeartbeats 4000000 in
set_option maxRecDepth 100000 in
theorem law_c8 {p : Program} {l : Launch} {e : Env} {s : State} {m : MethodId} {below : List Frame} {meth : Method} {c : Code} {D : va_G} {K : Nat → ClassId} {b L : Nat} {xs : Nat → Int32} {Q : State → Prop} (hx : p.tables.exec = Jvm.exec) (hb : c.code = code) (hml : c.maxLocals = 4) (hown : s.vm.findClass RLaw = some m.cls) (hts : ∀ w ∈ lw0 :: hwG, w.before #[Value.ref b] s = true) (hX0 : va_X b L xs s s.heap) (hbl : b < s.heap.size) (hK : va_K D vwCl (hwT K) s) (hO : hwO (hwT K) s) (hL : L ≤ 2048) {i k qa qm cl0 sl0 : Nat} {X : hwW} {H : Heap} {locs : List Loc} {ls : Array Slot} (hi : i + 3 < L) (hk : k ≤ 512) (hcc : cl0 + 10 ≤ 659988) (hss : sl0 + 1300 ≤ 7122284) (hZ : hwZ D vwCl (fun q : Nat => s.heap.size ≤ q) s.heap X H locs) (hl : lv_has ls 4 [(3, .int (nI i)), (2, .ref qm), (1, .ref qa), (0, .ref b)]) (hI : lwI K X qa qm k) (kk : ∀ (Y : hwW) (H1 : Heap) (locs1 : List Loc), hwZ D vwCl (fun q : Nat => s.heap.size ≤ q) s.heap Y H1 locs1 → lwI K Y qa qm (k + 1) → W p l e room_1 s m #[Value.ref b] below meth c H1 locs1 (cl0 + 10) (sl0 + 1300) Q (F0 m 509 ls [])) : W p l e room_1 s m #[Value.ref b] below meth c H locs cl0 sl0 Q (F0 m 330 ls []) := by
  obtain ⟨its, fs, lg, qw, qo, qs, ss, hs, sg, st, sd, f0, f1, hR⟩ := hI
  have ok := hR.okS (by omega)
  have okm := hR.okM (by omega)
  have hA : ∀ q : Nat, s.heap.size ≤ q → (fun q : Nat => s.heap.size ≤ q) q := fun _ h => h
  have hbA : ¬ (fun q : Nat => s.heap.size ≤ q) b := Nat.not_le.mpr hbl
  have hR2 := hR.up (Nat.le_succ k)
  have hn30 := hR2.n30
  refine lv_aload_n hx hb dLaw_law_330 rfl (lv_at hl 2 rfl) ?_
  refine lv_aload_n hx hb dLaw_law_331 rfl (lv_at hl 3 rfl) ?_
  refine lv_iload_n hx hb dLaw_law_332 rfl (lv_at hl 0 rfl) ?_
  refine lv_iconst (v := nI 1) hx hb dLaw_law_333 (by decide) ?_
  refine lv_iadd hx hb dLaw_law_334 ?_
  refine hw_topi (nI_add i 1) ?_
  refine va_sld hx hb hX0 hbl hbA hZ.2.2 (vp_in_nI (show i + 1 < L by omega) (by omega)) dLaw_law_335 ?_
  refine hw_topi (congrArg xs (nI_clamp (show i + 1 < 2 ^ 31 by omega))) ?_
  refine lv_aload_n hx hb dLaw_law_336 rfl (lv_at hl 3 rfl) ?_
  refine lv_iload_n hx hb dLaw_law_337 rfl (lv_at hl 0 rfl) ?_
  refine lv_iconst (v := nI 2) hx hb dLaw_law_338 (by decide) ?_
  refine lv_iadd hx hb dLaw_law_339 ?_
  refine hw_topi (nI_add i 2) ?_
  refine va_sld hx hb hX0 hbl hbA hZ.2.2 (vp_in_nI (show i + 2 < L by omega) (by omega)) dLaw_law_340 ?_
  refine hw_topi (congrArg xs (nI_clamp (show i + 2 < 2 ^ 31 by omega))) ?_
  refine hw_calli (va_runV (As := [.int (xs (i + 1)), .int (xs (i + 2))]) (rest := []) ⟨hx, hb, hml, hown, hts⟩ (p_hit l D K X H.size qa its fs lg qw qo qs ss hs (xs (i + 1)) (xs (i + 2)) f0 ok) (cwV 2 hts (hwGood (hw_4 mm_553 mm_554 mm_555 mm_188 (hwAll mm_552))) rfl rfl rfl (by decide +kernel) ⟨Nat.le_of_ble_eq_true rfl, Nat.le_of_ble_eq_true rfl⟩) (hw_preV hK hO hZ (ixAt.ob f0) rfl) rfl rfl hl.1 rfl (lv_room (Nat.le_of_ble_eq_true rfl)) dLaw_law_341 ⟨(show cl0 + 0 ≤ 659988 by omega), (show sl0 + 0 ≤ 7122284 by omega)⟩) hZ hA (fun r1 X1 H1 lc1 hp hZ => ?_)
  obtain ⟨hr1, hF, hN⟩ := hp
  have f1 := moAt.fr hF (fun M hM hM2 hNS => by ((try dsimp only at hNS); omega)) f1
  have f0 := hN
  refine lv_aload_n hx hb dLaw_law_344 rfl (lv_at hl 1 rfl) ?_
  refine lv_aload_n hx hb dLaw_law_345 rfl (lv_at hl 3 rfl) ?_
  refine lv_iload_n hx hb dLaw_law_346 rfl (lv_at hl 0 rfl) ?_
  refine lv_iconst (v := nI 1) hx hb dLaw_law_347 (by decide) ?_
  refine lv_iadd hx hb dLaw_law_348 ?_
  refine hw_topi (nI_add i 1) ?_
  refine va_sld hx hb hX0 hbl hbA hZ.2.2 (vp_in_nI (show i + 1 < L by omega) (by omega)) dLaw_law_349 ?_
  refine hw_topi (congrArg xs (nI_clamp (show i + 1 < 2 ^ 31 by omega))) ?_
  refine lv_aload_n hx hb dLaw_law_350 rfl (lv_at hl 3 rfl) ?_
  refine lv_iload_n hx hb dLaw_law_351 rfl (lv_at hl 0 rfl) ?_
  refine lv_iconst (v := nI 2) hx hb dLaw_law_352 (by decide) ?_
  refine lv_iadd hx hb dLaw_law_353 ?_
  refine hw_topi (nI_add i 2) ?_
  refine va_sld hx hb hX0 hbl hbA hZ.2.2 (vp_in_nI (show i + 2 < L by omega) (by omega)) dLaw_law_354 ?_
  refine hw_topi (congrArg xs (nI_clamp (show i + 2 < 2 ^ 31 by omega))) ?_
  refine hw_calli (va_runV (As := [.int (xs (i + 1)), .int (xs (i + 2))]) (rest := [.int r1]) ⟨hx, hb, hml, hown, hts⟩ (q_hit l D K X1 H1.size qm its sg lg st sd hs (xs (i + 1)) (xs (i + 2)) f1 okm) (cwV 2 hts (hwGood (hw_4 mm_557 mm_558 mm_559 mm_365 (hwAll mm_556))) rfl rfl rfl (by decide +kernel) ⟨Nat.le_of_ble_eq_true rfl, Nat.le_of_ble_eq_true rfl⟩) (hw_preV hK hO hZ (moAt.ob f1) rfl) rfl rfl hl.1 rfl (lv_room (Nat.le_of_ble_eq_true rfl)) dLaw_law_355 ⟨(show (cl0 + 0) + 0 ≤ 659988 by omega), (show (sl0 + 0) + 0 ≤ 7122284 by omega)⟩) hZ hA (fun r2 X2 H2 lc2 hp hZ => ?_)
  obtain ⟨hr2, hF, hN⟩ := hp
  have f0 := ixAt.fr hF (fun M hM hNS => by ((try dsimp only at hNS); omega)) hn30 f0
  have f1 := hN
  refine lv_icmp_eq (tgt := 509) hx hb dLaw_law_358 (by decide) (fun _ => ?_) (fun c9 => absurd (hr1.trans hr2.symm) c9)
  refine W.widen (k := cl0 + 10) (n := sl0 + 1300) (by omega) (by omega) ?_
  exact kk _ _ _ hZ ⟨_, _, _, _, _, _, _, _, _, _, _, f0, f1, hR2⟩
set_option maxHeartbeats 4000000 in
set_option maxRecDepth 100000 in
theorem law_c9 {p : Program} {l : Launch} {e : Env} {s : State} {m : MethodId} {below : List Frame} {meth : Method} {c : Code} {D : va_G} {K : Nat → ClassId} {b L : Nat} {xs : Nat → Int32} {Q : State → Prop} (hx : p.tables.exec = Jvm.exec) (hb : c.code = code) (hml : c.maxLocals = 4) (hown : s.vm.findClass RLaw = some m.cls) (hts : ∀ w ∈ lw0 :: hwG, w.before #[Value.ref b] s = true) (hX0 : va_X b L xs s s.heap) (hbl : b < s.heap.size) (hK : va_K D vwCl (hwT K) s) (hO : hwO (hwT K) s) (hL : L ≤ 2048) {i k qa qm cl0 sl0 : Nat} {X : hwW} {H : Heap} {locs : List Loc} {ls : Array Slot} (hi : i + 3 < L) (hk : k ≤ 512) (hcc : cl0 + 10 ≤ 659988) (hss : sl0 + 1300 ≤ 7122284) (hZ : hwZ D vwCl (fun q : Nat => s.heap.size ≤ q) s.heap X H locs) (hl : lv_has ls 4 [(3, .int (nI i)), (2, .ref qm), (1, .ref qa), (0, .ref b)]) (hI : lwI K X qa qm k) (kk : ∀ (Y : hwW) (H1 : Heap) (locs1 : List Loc), hwZ D vwCl (fun q : Nat => s.heap.size ≤ q) s.heap Y H1 locs1 → lwI K Y qa qm (k + 1) → W p l e room_1 s m #[Value.ref b] below meth c H1 locs1 (cl0 + 10) (sl0 + 1300) Q (F0 m 509 ls [])) : W p l e room_1 s m #[Value.ref b] below meth c H locs cl0 sl0 Q (F0 m 363 ls []) := by
  obtain ⟨its, fs, lg, qw, qo, qs, ss, hs, sg, st, sd, f0, f1, hR⟩ := hI
  have ok := hR.okS (by omega)
  have okm := hR.okM (by omega)
  have hA : ∀ q : Nat, s.heap.size ≤ q → (fun q : Nat => s.heap.size ≤ q) q := fun _ h => h
  have hbA : ¬ (fun q : Nat => s.heap.size ≤ q) b := Nat.not_le.mpr hbl
  have hR2 := hR.up (Nat.le_succ k)
  have hn30 := hR2.n30
  refine lv_aload_n hx hb dLaw_law_363 rfl (lv_at hl 2 rfl) ?_
  refine lv_aload_n hx hb dLaw_law_364 rfl (lv_at hl 3 rfl) ?_
  refine lv_iload_n hx hb dLaw_law_365 rfl (lv_at hl 0 rfl) ?_
  refine lv_iconst (v := nI 1) hx hb dLaw_law_366 (by decide) ?_
  refine lv_iadd hx hb dLaw_law_367 ?_
  refine hw_topi (nI_add i 1) ?_
  refine va_sld hx hb hX0 hbl hbA hZ.2.2 (vp_in_nI (show i + 1 < L by omega) (by omega)) dLaw_law_368 ?_
  refine hw_topi (congrArg xs (nI_clamp (show i + 1 < 2 ^ 31 by omega))) ?_
  refine lv_aload_n hx hb dLaw_law_369 rfl (lv_at hl 3 rfl) ?_
  refine lv_iload_n hx hb dLaw_law_370 rfl (lv_at hl 0 rfl) ?_
  refine lv_iconst (v := nI 2) hx hb dLaw_law_371 (by decide) ?_
  refine lv_iadd hx hb dLaw_law_372 ?_
  refine hw_topi (nI_add i 2) ?_
  refine va_sld hx hb hX0 hbl hbA hZ.2.2 (vp_in_nI (show i + 2 < L by omega) (by omega)) dLaw_law_373 ?_
  refine hw_topi (congrArg xs (nI_clamp (show i + 2 < 2 ^ 31 by omega))) ?_
  refine hw_calll (va_runV (As := [.int (xs (i + 1)), .int (xs (i + 2))]) (rest := []) ⟨hx, hb, hml, hown, hts⟩ (p_rank l D K X H.size qa its fs lg qw qo qs ss hs (xs (i + 1)) (xs (i + 2)) f0 ok) (cwV 2 hts (hwGood (hw_4 mm_561 mm_562 mm_563 mm_188 (hwAll mm_560))) rfl rfl rfl (by decide +kernel) ⟨Nat.le_of_ble_eq_true rfl, Nat.le_of_ble_eq_true rfl⟩) (hw_preV hK hO hZ (ixAt.ob f0) rfl) rfl rfl hl.1 rfl (lv_room (Nat.le_of_ble_eq_true rfl)) dLaw_law_374 ⟨(show cl0 + 0 ≤ 659988 by omega), (show sl0 + 0 ≤ 7122284 by omega)⟩) hZ hA (fun r1 X1 H1 lc1 hp hZ => ?_)
  obtain ⟨hr1, hF, hN⟩ := hp
  have f1 := moAt.fr hF (fun M hM hM2 hNS => by ((try dsimp only at hNS); omega)) f1
  have f0 := hN
  refine lv_aload_n hx hb dLaw_law_377 rfl (lv_at hl 1 rfl) ?_
  refine lv_aload_n hx hb dLaw_law_378 rfl (lv_at hl 3 rfl) ?_
  refine lv_iload_n hx hb dLaw_law_379 rfl (lv_at hl 0 rfl) ?_
  refine lv_iconst (v := nI 1) hx hb dLaw_law_380 (by decide) ?_
  refine lv_iadd hx hb dLaw_law_381 ?_
  refine hw_topi (nI_add i 1) ?_
  refine va_sld hx hb hX0 hbl hbA hZ.2.2 (vp_in_nI (show i + 1 < L by omega) (by omega)) dLaw_law_382 ?_
  refine hw_topi (congrArg xs (nI_clamp (show i + 1 < 2 ^ 31 by omega))) ?_
  refine lv_aload_n hx hb dLaw_law_383 rfl (lv_at hl 3 rfl) ?_
  refine lv_iload_n hx hb dLaw_law_384 rfl (lv_at hl 0 rfl) ?_
  refine lv_iconst (v := nI 2) hx hb dLaw_law_385 (by decide) ?_
  refine lv_iadd hx hb dLaw_law_386 ?_
  refine hw_topi (nI_add i 2) ?_
  refine va_sld hx hb hX0 hbl hbA hZ.2.2 (vp_in_nI (show i + 2 < L by omega) (by omega)) dLaw_law_387 ?_
  refine hw_topi (congrArg xs (nI_clamp (show i + 2 < 2 ^ 31 by omega))) ?_
  refine hw_calll (va_runV (As := [.int (xs (i + 1)), .int (xs (i + 2))]) (rest := [.long r1]) ⟨hx, hb, hml, hown, hts⟩ (q_rank l D K X1 H1.size qm its sg lg st sd hs (xs (i + 1)) (xs (i + 2)) f1 okm hR.hP) (cwV 2 hts (hwGood (hw_4 mm_565 mm_566 mm_567 mm_365 (hwAll mm_564))) rfl rfl rfl (by decide +kernel) ⟨Nat.le_of_ble_eq_true rfl, Nat.le_of_ble_eq_true rfl⟩) (hw_preV hK hO hZ (moAt.ob f1) rfl) rfl rfl hl.1 rfl (lv_room (Nat.le_of_ble_eq_true rfl)) dLaw_law_388 ⟨(show (cl0 + 0) + 0 ≤ 659988 by omega), (show (sl0 + 0) + 0 ≤ 7122284 by omega)⟩) hZ hA (fun r2 X2 H2 lc2 hp hZ => ?_)
  obtain ⟨hr2, hF, hN⟩ := hp
  have f0 := ixAt.fr hF (fun M hM hNS => by ((try dsimp only at hNS); omega)) hn30 f0
  have f1 := hN
  refine hw_lr_eq (tgt := 509) hx hb dLaw_law_391 dLaw_law_392 (by decide) (fun _ => ?_) (fun c9 => absurd (hr1.trans hr2.symm) c9)
  refine W.widen (k := cl0 + 10) (n := sl0 + 1300) (by omega) (by omega) ?_
  exact kk _ _ _ hZ ⟨_, _, _, _, _, _, _, _, _, _, _, f0, f1, hR2⟩
set_option maxHeartbeats 4000000 in
set_option maxRecDepth 100000 in
theorem law_c10 {p : Program} {l : Launch} {e : Env} {s : State} {m : MethodId} {below : List Frame} {meth : Method} {c : Code} {D : va_G} {K : Nat → ClassId} {b L : Nat} {xs : Nat → Int32} {Q : State → Prop} (hx : p.tables.exec = Jvm.exec) (hb : c.code = code) (hml : c.maxLocals = 4) (hown : s.vm.findClass RLaw = some m.cls) (hts : ∀ w ∈ lw0 :: hwG, w.before #[Value.ref b] s = true) (hX0 : va_X b L xs s s.heap) (hbl : b < s.heap.size) (hK : va_K D vwCl (hwT K) s) (hO : hwO (hwT K) s) (hL : L ≤ 2048) {i k qa qm cl0 sl0 : Nat} {X : hwW} {H : Heap} {locs : List Loc} {ls : Array Slot} (hi : i + 3 < L) (hk : k ≤ 512) (hcc : cl0 + 10 ≤ 659988) (hss : sl0 + 1300 ≤ 7122284) (hZ : hwZ D vwCl (fun q : Nat => s.heap.size ≤ q) s.heap X H locs) (hl : lv_has ls 4 [(3, .int (nI i)), (2, .ref qm), (1, .ref qa), (0, .ref b)]) (hI : lwI K X qa qm k) (kk : ∀ (Y : hwW) (H1 : Heap) (locs1 : List Loc), hwZ D vwCl (fun q : Nat => s.heap.size ≤ q) s.heap Y H1 locs1 → lwI K Y qa qm (k + 1) → W p l e room_1 s m #[Value.ref b] below meth c H1 locs1 (cl0 + 10) (sl0 + 1300) Q (F0 m 509 ls [])) : W p l e room_1 s m #[Value.ref b] below meth c H locs cl0 sl0 Q (F0 m 397 ls []) := by
  obtain ⟨its, fs, lg, qw, qo, qs, ss, hs, sg, st, sd, f0, f1, hR⟩ := hI
  have ok := hR.okS (by omega)
  have okm := hR.okM (by omega)
  have hA : ∀ q : Nat, s.heap.size ≤ q → (fun q : Nat => s.heap.size ≤ q) q := fun _ h => h
  have hbA : ¬ (fun q : Nat => s.heap.size ≤ q) b := Nat.not_le.mpr hbl
  have hR2 := hR.up (Nat.le_succ k)
  have hn30 := hR2.n30
  refine lv_aload_n hx hb dLaw_law_397 rfl (lv_at hl 2 rfl) ?_
  refine lv_aload_n hx hb dLaw_law_398 rfl (lv_at hl 3 rfl) ?_
  refine lv_iload_n hx hb dLaw_law_399 rfl (lv_at hl 0 rfl) ?_
  refine lv_iconst (v := nI 1) hx hb dLaw_law_400 (by decide) ?_
  refine lv_iadd hx hb dLaw_law_401 ?_
  refine hw_topi (nI_add i 1) ?_
  refine va_sld hx hb hX0 hbl hbA hZ.2.2 (vp_in_nI (show i + 1 < L by omega) (by omega)) dLaw_law_402 ?_
  refine hw_topi (congrArg xs (nI_clamp (show i + 1 < 2 ^ 31 by omega))) ?_
  refine lv_aload_n hx hb dLaw_law_403 rfl (lv_at hl 3 rfl) ?_
  refine lv_iload_n hx hb dLaw_law_404 rfl (lv_at hl 0 rfl) ?_
  refine lv_iconst (v := nI 2) hx hb dLaw_law_405 (by decide) ?_
  refine lv_iadd hx hb dLaw_law_406 ?_
  refine hw_topi (nI_add i 2) ?_
  refine va_sld hx hb hX0 hbl hbA hZ.2.2 (vp_in_nI (show i + 2 < L by omega) (by omega)) dLaw_law_407 ?_
  refine hw_topi (congrArg xs (nI_clamp (show i + 2 < 2 ^ 31 by omega))) ?_
  refine lv_aload_n hx hb dLaw_law_408 rfl (lv_at hl 3 rfl) ?_
  refine lv_iload_n hx hb dLaw_law_409 rfl (lv_at hl 0 rfl) ?_
  refine lv_iconst (v := nI 3) hx hb dLaw_law_410 (by decide) ?_
  refine lv_iadd hx hb dLaw_law_411 ?_
  refine hw_topi (nI_add i 3) ?_
  refine va_sld hx hb hX0 hbl hbA hZ.2.2 (vp_in_nI (show i + 3 < L by omega) (by omega)) dLaw_law_412 ?_
  refine hw_topi (congrArg xs (nI_clamp (show i + 3 < 2 ^ 31 by omega))) ?_
  refine hw_calli (va_runV (As := [.int (xs (i + 1)), .int (xs (i + 2)), .int (xs (i + 3))]) (rest := []) ⟨hx, hb, hml, hown, hts⟩ (p_term l D K X H.size qa its fs lg qw qo qs ss hs (xs (i + 1)) (xs (i + 2)) (xs (i + 3)) f0 ok) (cwV 3 hts (hwGood (hw_4 mm_569 mm_570 mm_571 mm_188 (hwAll mm_568))) rfl rfl rfl (by decide +kernel) ⟨Nat.le_of_ble_eq_true rfl, Nat.le_of_ble_eq_true rfl⟩) (hw_preV hK hO hZ (ixAt.ob f0) rfl) rfl rfl hl.1 rfl (lv_room (Nat.le_of_ble_eq_true rfl)) dLaw_law_413 ⟨(show cl0 + 0 ≤ 659988 by omega), (show sl0 + 0 ≤ 7122284 by omega)⟩) hZ hA (fun r1 X1 H1 lc1 hp hZ => ?_)
  obtain ⟨hr1, hF, hN⟩ := hp
  have f1 := moAt.fr hF (fun M hM hM2 hNS => by ((try dsimp only at hNS); omega)) f1
  have f0 := hN
  refine lv_aload_n hx hb dLaw_law_416 rfl (lv_at hl 1 rfl) ?_
  refine lv_aload_n hx hb dLaw_law_417 rfl (lv_at hl 3 rfl) ?_
  refine lv_iload_n hx hb dLaw_law_418 rfl (lv_at hl 0 rfl) ?_
  refine lv_iconst (v := nI 1) hx hb dLaw_law_419 (by decide) ?_
  refine lv_iadd hx hb dLaw_law_420 ?_
  refine hw_topi (nI_add i 1) ?_
  refine va_sld hx hb hX0 hbl hbA hZ.2.2 (vp_in_nI (show i + 1 < L by omega) (by omega)) dLaw_law_421 ?_
  refine hw_topi (congrArg xs (nI_clamp (show i + 1 < 2 ^ 31 by omega))) ?_
  refine lv_aload_n hx hb dLaw_law_422 rfl (lv_at hl 3 rfl) ?_
  refine lv_iload_n hx hb dLaw_law_423 rfl (lv_at hl 0 rfl) ?_
  refine lv_iconst (v := nI 2) hx hb dLaw_law_424 (by decide) ?_
  refine lv_iadd hx hb dLaw_law_425 ?_
  refine hw_topi (nI_add i 2) ?_
  refine va_sld hx hb hX0 hbl hbA hZ.2.2 (vp_in_nI (show i + 2 < L by omega) (by omega)) dLaw_law_426 ?_
  refine hw_topi (congrArg xs (nI_clamp (show i + 2 < 2 ^ 31 by omega))) ?_
  refine lv_aload_n hx hb dLaw_law_427 rfl (lv_at hl 3 rfl) ?_
  refine lv_iload_n hx hb dLaw_law_428 rfl (lv_at hl 0 rfl) ?_
  refine lv_iconst (v := nI 3) hx hb dLaw_law_429 (by decide) ?_
  refine lv_iadd hx hb dLaw_law_430 ?_
  refine hw_topi (nI_add i 3) ?_
  refine va_sld hx hb hX0 hbl hbA hZ.2.2 (vp_in_nI (show i + 3 < L by omega) (by omega)) dLaw_law_431 ?_
  refine hw_topi (congrArg xs (nI_clamp (show i + 3 < 2 ^ 31 by omega))) ?_
  refine hw_calli (va_runV (As := [.int (xs (i + 1)), .int (xs (i + 2)), .int (xs (i + 3))]) (rest := [.int r1]) ⟨hx, hb, hml, hown, hts⟩ (q_term l D K X1 H1.size qm its sg lg st sd hs (xs (i + 1)) (xs (i + 2)) (xs (i + 3)) f1 okm) (cwV 3 hts (hwGood (hw_4 mm_573 mm_574 mm_575 mm_365 (hwAll mm_572))) rfl rfl rfl (by decide +kernel) ⟨Nat.le_of_ble_eq_true rfl, Nat.le_of_ble_eq_true rfl⟩) (hw_preV hK hO hZ (moAt.ob f1) rfl) rfl rfl hl.1 rfl (lv_room (Nat.le_of_ble_eq_true rfl)) dLaw_law_432 ⟨(show (cl0 + 0) + 0 ≤ 659988 by omega), (show (sl0 + 0) + 0 ≤ 7122284 by omega)⟩) hZ hA (fun r2 X2 H2 lc2 hp hZ => ?_)
  obtain ⟨hr2, hF, hN⟩ := hp
  have f0 := ixAt.fr hF (fun M hM hNS => by ((try dsimp only at hNS); omega)) hn30 f0
  have f1 := hN
  simp only [hR.eTf] at hr2
  refine lv_icmp_eq (tgt := 509) hx hb dLaw_law_435 (by decide) (fun _ => ?_) (fun c9 => absurd (hr1.trans hr2.symm) c9)
  refine W.widen (k := cl0 + 10) (n := sl0 + 1300) (by omega) (by omega) ?_
  exact kk _ _ _ hZ ⟨_, _, _, _, _, _, _, _, _, _, _, f0, f1, hR2⟩
set_option maxHeartbeats 4000000 in
set_option maxRecDepth 100000 in
theorem law_c11 {p : Program} {l : Launch} {e : Env} {s : State} {m : MethodId} {below : List Frame} {meth : Method} {c : Code} {D : va_G} {K : Nat → ClassId} {b L : Nat} {xs : Nat → Int32} {Q : State → Prop} (hx : p.tables.exec = Jvm.exec) (hb : c.code = code) (hml : c.maxLocals = 4) (hown : s.vm.findClass RLaw = some m.cls) (hts : ∀ w ∈ lw0 :: hwG, w.before #[Value.ref b] s = true) (hX0 : va_X b L xs s s.heap) (hbl : b < s.heap.size) (hK : va_K D vwCl (hwT K) s) (hO : hwO (hwT K) s) (hL : L ≤ 2048) {i k qa qm cl0 sl0 : Nat} {X : hwW} {H : Heap} {locs : List Loc} {ls : Array Slot} (hi : i + 3 < L) (hk : k ≤ 512) (hcc : cl0 + 10 ≤ 659988) (hss : sl0 + 1300 ≤ 7122284) (hZ : hwZ D vwCl (fun q : Nat => s.heap.size ≤ q) s.heap X H locs) (hl : lv_has ls 4 [(3, .int (nI i)), (2, .ref qm), (1, .ref qa), (0, .ref b)]) (hI : lwI K X qa qm k) (kk : ∀ (Y : hwW) (H1 : Heap) (locs1 : List Loc), hwZ D vwCl (fun q : Nat => s.heap.size ≤ q) s.heap Y H1 locs1 → lwI K Y qa qm (k + 1) → W p l e room_1 s m #[Value.ref b] below meth c H1 locs1 (cl0 + 10) (sl0 + 1300) Q (F0 m 509 ls [])) : W p l e room_1 s m #[Value.ref b] below meth c H locs cl0 sl0 Q (F0 m 440 ls []) := by
  obtain ⟨its, fs, lg, qw, qo, qs, ss, hs, sg, st, sd, f0, f1, hR⟩ := hI
  have ok := hR.okS (by omega)
  have okm := hR.okM (by omega)
  have hA : ∀ q : Nat, s.heap.size ≤ q → (fun q : Nat => s.heap.size ≤ q) q := fun _ h => h
  have hbA : ¬ (fun q : Nat => s.heap.size ≤ q) b := Nat.not_le.mpr hbl
  have hR2 := hR.clr
  have hn30 := hR2.n30
  refine lv_aload_n hx hb dLaw_law_440 rfl (lv_at hl 2 rfl) ?_
  refine lv_aload_n hx hb dLaw_law_441 rfl (lv_at hl 3 rfl) ?_
  refine lv_iload_n hx hb dLaw_law_442 rfl (lv_at hl 0 rfl) ?_
  refine lv_iconst (v := nI 1) hx hb dLaw_law_443 (by decide) ?_
  refine lv_iadd hx hb dLaw_law_444 ?_
  refine hw_topi (nI_add i 1) ?_
  refine va_sld hx hb hX0 hbl hbA hZ.2.2 (vp_in_nI (show i + 1 < L by omega) (by omega)) dLaw_law_445 ?_
  refine hw_topi (congrArg xs (nI_clamp (show i + 1 < 2 ^ 31 by omega))) ?_
  refine hw_calli (va_runV (As := [.int (xs (i + 1))]) (rest := []) ⟨hx, hb, hml, hown, hts⟩ (p_nearest l D K X H.size qa its fs lg qw qo qs ss hs (xs (i + 1)) f0 ok) (cwV 1 hts (hwGood (hw_4 mm_577 mm_578 mm_579 mm_188 (hwAll mm_576))) rfl rfl rfl (by decide +kernel) ⟨Nat.le_of_ble_eq_true rfl, Nat.le_of_ble_eq_true rfl⟩) (hw_preV hK hO hZ (ixAt.ob f0) rfl) rfl rfl hl.1 rfl (lv_room (Nat.le_of_ble_eq_true rfl)) dLaw_law_446 ⟨(show cl0 + 0 ≤ 659988 by omega), (show sl0 + 0 ≤ 7122284 by omega)⟩) hZ hA (fun r1 X1 H1 lc1 hp hZ => ?_)
  obtain ⟨hr1, hF, hN⟩ := hp
  have f1 := moAt.fr hF (fun M hM hM2 hNS => by ((try dsimp only at hNS); omega)) f1
  have f0 := hN
  refine lv_aload_n hx hb dLaw_law_449 rfl (lv_at hl 1 rfl) ?_
  refine lv_aload_n hx hb dLaw_law_450 rfl (lv_at hl 3 rfl) ?_
  refine lv_iload_n hx hb dLaw_law_451 rfl (lv_at hl 0 rfl) ?_
  refine lv_iconst (v := nI 1) hx hb dLaw_law_452 (by decide) ?_
  refine lv_iadd hx hb dLaw_law_453 ?_
  refine hw_topi (nI_add i 1) ?_
  refine va_sld hx hb hX0 hbl hbA hZ.2.2 (vp_in_nI (show i + 1 < L by omega) (by omega)) dLaw_law_454 ?_
  refine hw_topi (congrArg xs (nI_clamp (show i + 1 < 2 ^ 31 by omega))) ?_
  refine hw_calli (va_runV (As := [.int (xs (i + 1))]) (rest := [.int r1]) ⟨hx, hb, hml, hown, hts⟩ (q_nearest l D K X1 H1.size qm its sg lg st sd hs (xs (i + 1)) f1 okm) (cwV 1 hts (hwGood (hw_4 mm_581 mm_582 mm_583 mm_365 (hwAll mm_580))) rfl rfl rfl (by decide +kernel) ⟨Nat.le_of_ble_eq_true rfl, Nat.le_of_ble_eq_true rfl⟩) (hw_preV hK hO hZ (moAt.ob f1) rfl) rfl rfl hl.1 rfl (lv_room (Nat.le_of_ble_eq_true rfl)) dLaw_law_455 ⟨(show (cl0 + 0) + 0 ≤ 659988 by omega), (show (sl0 + 0) + 0 ≤ 7122284 by omega)⟩) hZ hA (fun r2 X2 H2 lc2 hp hZ => ?_)
  obtain ⟨hr2, hF, hN⟩ := hp
  have f0 := ixAt.fr hF (fun M hM hNS => by ((try dsimp only at hNS); omega)) hn30 f0
  have f1 := hN
  simp only [hR.eTf, hR.tq] at hr2
  refine lv_icmp_eq (tgt := 509) hx hb dLaw_law_458 (by decide) (fun _ => ?_) (fun c9 => absurd (hr1.trans hr2.symm) c9)
  refine W.widen (k := cl0 + 10) (n := sl0 + 1300) (by omega) (by omega) ?_
  exact kk _ _ _ hZ ⟨_, _, _, _, _, _, _, _, _, _, _, f0, f1, hR2⟩
set_option maxHeartbeats 4000000 in
set_option maxRecDepth 100000 in
theorem law_c12 {p : Program} {l : Launch} {e : Env} {s : State} {m : MethodId} {below : List Frame} {meth : Method} {c : Code} {D : va_G} {K : Nat → ClassId} {b L : Nat} {xs : Nat → Int32} {Q : State → Prop} (hx : p.tables.exec = Jvm.exec) (hb : c.code = code) (hml : c.maxLocals = 4) (hown : s.vm.findClass RLaw = some m.cls) (hts : ∀ w ∈ lw0 :: hwG, w.before #[Value.ref b] s = true) (hX0 : va_X b L xs s s.heap) (hbl : b < s.heap.size) (hK : va_K D vwCl (hwT K) s) (hO : hwO (hwT K) s) (hL : L ≤ 2048) {i k qa qm cl0 sl0 : Nat} {X : hwW} {H : Heap} {locs : List Loc} {ls : Array Slot} (hi : i + 3 < L) (hk : k ≤ 512) (hcc : cl0 + 10 ≤ 659988) (hss : sl0 + 1300 ≤ 7122284) (hZ : hwZ D vwCl (fun q : Nat => s.heap.size ≤ q) s.heap X H locs) (hl : lv_has ls 4 [(3, .int (nI i)), (2, .ref qm), (1, .ref qa), (0, .ref b)]) (hI : lwI K X qa qm k) (kk : ∀ (Y : hwW) (H1 : Heap) (locs1 : List Loc), hwZ D vwCl (fun q : Nat => s.heap.size ≤ q) s.heap Y H1 locs1 → lwI K Y qa qm (k + 1) → W p l e room_1 s m #[Value.ref b] below meth c H1 locs1 (cl0 + 10) (sl0 + 1300) Q (F0 m 509 ls [])) : W p l e room_1 s m #[Value.ref b] below meth c H locs cl0 sl0 Q (F0 m 463 ls []) := by
  obtain ⟨its, fs, lg, qw, qo, qs, ss, hs, sg, st, sd, f0, f1, hR⟩ := hI
  have ok := hR.okS (by omega)
  have okm := hR.okM (by omega)
  have hA : ∀ q : Nat, s.heap.size ≤ q → (fun q : Nat => s.heap.size ≤ q) q := fun _ h => h
  have hbA : ¬ (fun q : Nat => s.heap.size ≤ q) b := Nat.not_le.mpr hbl
  have hR2 := hR.stop
  have hn30 := hR2.n30
  refine lv_aload_n hx hb dLaw_law_463 rfl (lv_at hl 2 rfl) ?_
  refine hw_calli (va_runV (As := []) (rest := []) ⟨hx, hb, hml, hown, hts⟩ (p_stop l D K X H.size qa its fs lg qw qo qs ss hs  f0 ok) (cwV 0 hts (hwGood (hw_4 mm_585 mm_586 mm_587 mm_188 (hwAll mm_584))) rfl rfl rfl (by decide +kernel) ⟨Nat.le_of_ble_eq_true rfl, Nat.le_of_ble_eq_true rfl⟩) (hw_preV hK hO hZ (ixAt.ob f0) rfl) rfl rfl hl.1 rfl (lv_room (Nat.le_of_ble_eq_true rfl)) dLaw_law_464 ⟨(show cl0 + 0 ≤ 659988 by omega), (show sl0 + 0 ≤ 7122284 by omega)⟩) hZ hA (fun r1 X1 H1 lc1 hp hZ => ?_)
  obtain ⟨hr1, hF, hN⟩ := hp
  have f1 := moAt.fr hF (fun M hM hM2 hNS => by ((try dsimp only at hNS); omega)) f1
  have f0 := hN
  refine lv_aload_n hx hb dLaw_law_467 rfl (lv_at hl 1 rfl) ?_
  refine hw_calli (va_runV (As := []) (rest := [.int r1]) ⟨hx, hb, hml, hown, hts⟩ (q_stop l D K X1 H1.size qm its sg lg st sd hs  f1 okm) (cwV 0 hts (hwGood (hw_4 mm_589 mm_590 mm_591 mm_365 (hwAll mm_588))) rfl rfl rfl (by decide +kernel) ⟨Nat.le_of_ble_eq_true rfl, Nat.le_of_ble_eq_true rfl⟩) (hw_preV hK hO hZ (moAt.ob f1) rfl) rfl rfl hl.1 rfl (lv_room (Nat.le_of_ble_eq_true rfl)) dLaw_law_468 ⟨(show (cl0 + 0) + 0 ≤ 659988 by omega), (show (sl0 + 0) + 0 ≤ 7122284 by omega)⟩) hZ hA (fun r2 X2 H2 lc2 hp hZ => ?_)
  obtain ⟨hr2, hF, hN⟩ := hp
  have f0 := ixAt.fr hF (fun M hM hNS => by ((try dsimp only at hNS); omega)) hn30 f0
  have f1 := hN
  rw [hR.stl] at hr2
  refine lv_icmp_eq (tgt := 509) hx hb dLaw_law_471 (by decide) (fun _ => ?_) (fun c9 => absurd (hr1.trans hr2.symm) c9)
  refine W.widen (k := cl0 + 10) (n := sl0 + 1300) (by omega) (by omega) ?_
  exact kk _ _ _ hZ ⟨_, _, _, _, _, _, _, _, _, _, _, f0, f1, hR2⟩
set_option maxHeartbeats 4000000 in
set_option maxRecDepth 100000 in
theorem law_c13 {p : Program} {l : Launch} {e : Env} {s : State} {m : MethodId} {below : List Frame} {meth : Method} {c : Code} {D : va_G} {K : Nat → ClassId} {b L : Nat} {xs : Nat → Int32} {Q : State → Prop} (hx : p.tables.exec = Jvm.exec) (hb : c.code = code) (hml : c.maxLocals = 4) (hown : s.vm.findClass RLaw = some m.cls) (hts : ∀ w ∈ lw0 :: hwG, w.before #[Value.ref b] s = true) (hX0 : va_X b L xs s s.heap) (hbl : b < s.heap.size) (hK : va_K D vwCl (hwT K) s) (hO : hwO (hwT K) s) (hL : L ≤ 2048) {i k qa qm cl0 sl0 : Nat} {X : hwW} {H : Heap} {locs : List Loc} {ls : Array Slot} (hi : i + 3 < L) (hk : k ≤ 512) (hcc : cl0 + 10 ≤ 659988) (hss : sl0 + 1300 ≤ 7122284) (hZ : hwZ D vwCl (fun q : Nat => s.heap.size ≤ q) s.heap X H locs) (hl : lv_has ls 4 [(3, .int (nI i)), (2, .ref qm), (1, .ref qa), (0, .ref b)]) (hI : lwI K X qa qm k) (kk : ∀ (Y : hwW) (H1 : Heap) (locs1 : List Loc), hwZ D vwCl (fun q : Nat => s.heap.size ≤ q) s.heap Y H1 locs1 → lwI K Y qa qm (k + 1) → W p l e room_1 s m #[Value.ref b] below meth c H1 locs1 (cl0 + 10) (sl0 + 1300) Q (F0 m 509 ls [])) : W p l e room_1 s m #[Value.ref b] below meth c H locs cl0 sl0 Q (F0 m 476 ls []) := by
  obtain ⟨its, fs, lg, qw, qo, qs, ss, hs, sg, st, sd, f0, f1, hR⟩ := hI
  have ok := hR.okS (by omega)
  have okm := hR.okM (by omega)
  have hA : ∀ q : Nat, s.heap.size ≤ q → (fun q : Nat => s.heap.size ≤ q) q := fun _ h => h
  have hbA : ¬ (fun q : Nat => s.heap.size ≤ q) b := Nat.not_le.mpr hbl
  have hR2 := hR.lang (xs (i + 1)) (xs (i + 2))
  have hn30 := hR2.n30
  refine lv_aload_n hx hb dLaw_law_476 rfl (lv_at hl 2 rfl) ?_
  refine lv_aload_n hx hb dLaw_law_477 rfl (lv_at hl 3 rfl) ?_
  refine lv_iload_n hx hb dLaw_law_478 rfl (lv_at hl 0 rfl) ?_
  refine lv_iconst (v := nI 1) hx hb dLaw_law_479 (by decide) ?_
  refine lv_iadd hx hb dLaw_law_480 ?_
  refine hw_topi (nI_add i 1) ?_
  refine va_sld hx hb hX0 hbl hbA hZ.2.2 (vp_in_nI (show i + 1 < L by omega) (by omega)) dLaw_law_481 ?_
  refine hw_topi (congrArg xs (nI_clamp (show i + 1 < 2 ^ 31 by omega))) ?_
  refine lv_aload_n hx hb dLaw_law_482 rfl (lv_at hl 3 rfl) ?_
  refine lv_iload_n hx hb dLaw_law_483 rfl (lv_at hl 0 rfl) ?_
  refine lv_iconst (v := nI 2) hx hb dLaw_law_484 (by decide) ?_
  refine lv_iadd hx hb dLaw_law_485 ?_
  refine hw_topi (nI_add i 2) ?_
  refine va_sld hx hb hX0 hbl hbA hZ.2.2 (vp_in_nI (show i + 2 < L by omega) (by omega)) dLaw_law_486 ?_
  refine hw_topi (congrArg xs (nI_clamp (show i + 2 < 2 ^ 31 by omega))) ?_
  refine hw_calli (va_runV (As := [.int (xs (i + 1)), .int (xs (i + 2))]) (rest := []) ⟨hx, hb, hml, hown, hts⟩ (p_language l D K X H.size qa its fs lg qw qo qs ss hs (xs (i + 1)) (xs (i + 2)) f0 ok) (cwV 2 hts (hwGood (hw_4 mm_593 mm_594 mm_595 mm_188 (hwAll mm_592))) rfl rfl rfl (by decide +kernel) ⟨Nat.le_of_ble_eq_true rfl, Nat.le_of_ble_eq_true rfl⟩) (hw_preV hK hO hZ (ixAt.ob f0) rfl) rfl rfl hl.1 rfl (lv_room (Nat.le_of_ble_eq_true rfl)) dLaw_law_487 ⟨(show cl0 + 0 ≤ 659988 by omega), (show sl0 + 0 ≤ 7122284 by omega)⟩) hZ hA (fun r1 X1 H1 lc1 hp hZ => ?_)
  obtain ⟨hr1, hF, hN⟩ := hp
  have f1 := moAt.fr hF (fun M hM hM2 hNS => by ((try dsimp only at hNS); omega)) f1
  have f0 := hN
  refine lv_aload_n hx hb dLaw_law_490 rfl (lv_at hl 1 rfl) ?_
  refine lv_aload_n hx hb dLaw_law_491 rfl (lv_at hl 3 rfl) ?_
  refine lv_iload_n hx hb dLaw_law_492 rfl (lv_at hl 0 rfl) ?_
  refine lv_iconst (v := nI 1) hx hb dLaw_law_493 (by decide) ?_
  refine lv_iadd hx hb dLaw_law_494 ?_
  refine hw_topi (nI_add i 1) ?_
  refine va_sld hx hb hX0 hbl hbA hZ.2.2 (vp_in_nI (show i + 1 < L by omega) (by omega)) dLaw_law_495 ?_
  refine hw_topi (congrArg xs (nI_clamp (show i + 1 < 2 ^ 31 by omega))) ?_
  refine lv_aload_n hx hb dLaw_law_496 rfl (lv_at hl 3 rfl) ?_
  refine lv_iload_n hx hb dLaw_law_497 rfl (lv_at hl 0 rfl) ?_
  refine lv_iconst (v := nI 2) hx hb dLaw_law_498 (by decide) ?_
  refine lv_iadd hx hb dLaw_law_499 ?_
  refine hw_topi (nI_add i 2) ?_
  refine va_sld hx hb hX0 hbl hbA hZ.2.2 (vp_in_nI (show i + 2 < L by omega) (by omega)) dLaw_law_500 ?_
  refine hw_topi (congrArg xs (nI_clamp (show i + 2 < 2 ^ 31 by omega))) ?_
  refine hw_calli (va_runV (As := [.int (xs (i + 1)), .int (xs (i + 2))]) (rest := [.int r1]) ⟨hx, hb, hml, hown, hts⟩ (q_language l D K X1 H1.size qm its sg lg st sd hs (xs (i + 1)) (xs (i + 2)) f1 okm) (cwV 2 hts (hwGood (hw_4 mm_597 mm_598 mm_599 mm_365 (hwAll mm_596))) rfl rfl rfl (by decide +kernel) ⟨Nat.le_of_ble_eq_true rfl, Nat.le_of_ble_eq_true rfl⟩) (hw_preV hK hO hZ (moAt.ob f1) rfl) rfl rfl hl.1 rfl (lv_room (Nat.le_of_ble_eq_true rfl)) dLaw_law_501 ⟨(show (cl0 + 0) + 0 ≤ 659988 by omega), (show (sl0 + 0) + 0 ≤ 7122284 by omega)⟩) hZ hA (fun r2 X2 H2 lc2 hp hZ => ?_)
  obtain ⟨hr2, hF, hN⟩ := hp
  have f0 := ixAt.fr hF (fun M hM hNS => by ((try dsimp only at hNS); omega)) hn30 f0
  have f1 := hN
  refine lv_icmp_eq (tgt := 509) hx hb dLaw_law_504 (by decide) (fun _ => ?_) (fun c9 => absurd (hr1.trans hr2.symm) c9)
  refine W.widen (k := cl0 + 10) (n := sl0 + 1300) (by omega) (by omega) ?_
  exact kk _ _ _ hZ ⟨_, _, _, _, _, _, _, _, _, _, _, f0, f1, hR2⟩
