theorem mm_520 : (.code yIx_ask cIx_ask 2 (some .int) : Cond) ∈ hwG := hwIx 243 (by decide +kernel) (by decide +kernel)
theorem mm_521 : (.methodLink RLaw 33 yIx_ask : Cond) ∈ hwG := hwIx 240 (by decide +kernel) (by decide +kernel)
theorem mm_522 : (.instanceMethod yIx_ask : Cond) ∈ hwG := hwIx 241 (by decide +kernel) (by decide +kernel)
theorem mm_523 : (.selects RIx yIx_ask yIx_ask : Cond) ∈ hwG := hwIx 242 (by decide +kernel) (by decide +kernel)
theorem mm_524 : (.code yMo_ask cMo_ask 2 (some .int) : Cond) ∈ hwG := hwIx 652 (by decide +kernel) (by decide +kernel)
theorem mm_525 : (.methodLink RLaw 36 yMo_ask : Cond) ∈ hwG := hwIx 649 (by decide +kernel) (by decide +kernel)
theorem mm_526 : (.instanceMethod yMo_ask : Cond) ∈ hwG := hwIx 650 (by decide +kernel) (by decide +kernel)
theorem mm_527 : (.selects RMo yMo_ask yMo_ask : Cond) ∈ hwG := hwIx 651 (by decide +kernel) (by decide +kernel)
theorem mm_528 : (.code yIx_phrase cIx_phrase 2 (some .int) : Cond) ∈ hwG := hwIx 432 (by decide +kernel) (by decide +kernel)
theorem mm_529 : (.methodLink RLaw 37 yIx_phrase : Cond) ∈ hwG := hwIx 429 (by decide +kernel) (by decide +kernel)
theorem mm_530 : (.instanceMethod yIx_phrase : Cond) ∈ hwG := hwIx 430 (by decide +kernel) (by decide +kernel)
theorem mm_531 : (.selects RIx yIx_phrase yIx_phrase : Cond) ∈ hwG := hwIx 431 (by decide +kernel) (by decide +kernel)
theorem mm_532 : (.code yMo_phrase cMo_phrase 2 (some .int) : Cond) ∈ hwG := hwIx 729 (by decide +kernel) (by decide +kernel)
theorem mm_533 : (.methodLink RLaw 40 yMo_phrase : Cond) ∈ hwG := hwIx 726 (by decide +kernel) (by decide +kernel)
theorem mm_534 : (.instanceMethod yMo_phrase : Cond) ∈ hwG := hwIx 727 (by decide +kernel) (by decide +kernel)
theorem mm_535 : (.selects RMo yMo_phrase yMo_phrase : Cond) ∈ hwG := hwIx 728 (by decide +kernel) (by decide +kernel)
theorem mm_536 : (.code yIx_near cIx_near 7 (some .int) : Cond) ∈ hwG := hwIx 445 (by decide +kernel) (by decide +kernel)
theorem mm_537 : (.methodLink RLaw 41 yIx_near : Cond) ∈ hwG := hwIx 442 (by decide +kernel) (by decide +kernel)
theorem mm_538 : (.instanceMethod yIx_near : Cond) ∈ hwG := hwIx 443 (by decide +kernel) (by decide +kernel)
theorem mm_539 : (.selects RIx yIx_near yIx_near : Cond) ∈ hwG := hwIx 444 (by decide +kernel) (by decide +kernel)
theorem mm_540 : (.code yMo_near cMo_near 3 (some .int) : Cond) ∈ hwG := hwIx 733 (by decide +kernel) (by decide +kernel)
theorem mm_541 : (.methodLink RLaw 45 yMo_near : Cond) ∈ hwG := hwIx 730 (by decide +kernel) (by decide +kernel)
theorem mm_542 : (.instanceMethod yMo_near : Cond) ∈ hwG := hwIx 731 (by decide +kernel) (by decide +kernel)
theorem mm_543 : (.selects RMo yMo_near yMo_near : Cond) ∈ hwG := hwIx 732 (by decide +kernel) (by decide +kernel)
theorem mm_544 : (.code yIx_wild cIx_wild 5 (some .int) : Cond) ∈ hwG := hwIx 465 (by decide +kernel) (by decide +kernel)
theorem mm_545 : (.methodLink RLaw 46 yIx_wild : Cond) ∈ hwG := hwIx 462 (by decide +kernel) (by decide +kernel)
theorem mm_546 : (.instanceMethod yIx_wild : Cond) ∈ hwG := hwIx 463 (by decide +kernel) (by decide +kernel)
theorem mm_547 : (.selects RIx yIx_wild yIx_wild : Cond) ∈ hwG := hwIx 464 (by decide +kernel) (by decide +kernel)
theorem mm_548 : (.code yMo_wild cMo_wild 3 (some .int) : Cond) ∈ hwG := hwIx 737 (by decide +kernel) (by decide +kernel)
theorem mm_549 : (.methodLink RLaw 50 yMo_wild : Cond) ∈ hwG := hwIx 734 (by decide +kernel) (by decide +kernel)
theorem mm_550 : (.instanceMethod yMo_wild : Cond) ∈ hwG := hwIx 735 (by decide +kernel) (by decide +kernel)
theorem mm_551 : (.selects RMo yMo_wild yMo_wild : Cond) ∈ hwG := hwIx 736 (by decide +kernel) (by decide +kernel)
set_option maxHeartbeats 4000000 in
set_option maxRecDepth 100000 in
theorem law_c4 {p : Program} {l : Launch} {e : Env} {s : State} {m : MethodId} {below : List Frame} {meth : Method} {c : Code} {D : va_G} {K : Nat → ClassId} {b L : Nat} {xs : Nat → Int32} {Q : State → Prop} (hx : p.tables.exec = Jvm.exec) (hb : c.code = code) (hml : c.maxLocals = 4) (hown : s.vm.findClass RLaw = some m.cls) (hts : ∀ w ∈ lw0 :: hwG, w.before #[Value.ref b] s = true) (hX0 : va_X b L xs s s.heap) (hbl : b < s.heap.size) (hK : va_K D vwCl (hwT K) s) (hO : hwO (hwT K) s) (hL : L ≤ 2048) {i k qa qm cl0 sl0 : Nat} {X : hwW} {H : Heap} {locs : List Loc} {ls : Array Slot} (hi : i + 3 < L) (hk : k ≤ 512) (hcc : cl0 + 10 ≤ 659988) (hss : sl0 + 1300 ≤ 7122284) (hZ : hwZ D vwCl (fun q : Nat => s.heap.size ≤ q) s.heap X H locs) (hl : lv_has ls 4 [(3, .int (nI i)), (2, .ref qm), (1, .ref qa), (0, .ref b)]) (hI : lwI K X qa qm k) (kk : ∀ (Y : hwW) (H1 : Heap) (locs1 : List Loc), hwZ D vwCl (fun q : Nat => s.heap.size ≤ q) s.heap Y H1 locs1 → lwI K Y qa qm (k + 1) → W p l e room_1 s m #[Value.ref b] below meth c H1 locs1 (cl0 + 10) (sl0 + 1300) Q (F0 m 509 ls [])) : W p l e room_1 s m #[Value.ref b] below meth c H locs cl0 sl0 Q (F0 m 202 ls []) := by
  obtain ⟨its, fs, lg, qw, qo, qs, ss, hs, sg, st, sd, f0, f1, hR⟩ := hI
  have ok := hR.okS (by omega)
  have okm := hR.okM (by omega)
  have hA : ∀ q : Nat, s.heap.size ≤ q → (fun q : Nat => s.heap.size ≤ q) q := fun _ h => h
  have hbA : ¬ (fun q : Nat => s.heap.size ≤ q) b := Nat.not_le.mpr hbl
  have hR2 := hR.ask (by omega) (xs (i + 1))
  have hn30 := hR2.n30
  refine lv_aload_n hx hb dLaw_law_202 rfl (lv_at hl 2 rfl) ?_
  refine lv_aload_n hx hb dLaw_law_203 rfl (lv_at hl 3 rfl) ?_
  refine lv_iload_n hx hb dLaw_law_204 rfl (lv_at hl 0 rfl) ?_
  refine lv_iconst (v := nI 1) hx hb dLaw_law_205 (by decide) ?_
  refine lv_iadd hx hb dLaw_law_206 ?_
  refine hw_topi (nI_add i 1) ?_
  refine va_sld hx hb hX0 hbl hbA hZ.2.2 (vp_in_nI (show i + 1 < L by omega) (by omega)) dLaw_law_207 ?_
  refine hw_topi (congrArg xs (nI_clamp (show i + 1 < 2 ^ 31 by omega))) ?_
  refine hw_calli (va_runV (As := [.int (xs (i + 1))]) (rest := []) ⟨hx, hb, hml, hown, hts⟩ (p_ask l D K X H.size qa its fs lg qw qo qs ss hs (xs (i + 1)) f0 ok) (cwV 1 hts (hwGood (hw_4 mm_521 mm_522 mm_523 mm_188 (hwAll mm_520))) rfl rfl rfl (by decide +kernel) ⟨Nat.le_of_ble_eq_true rfl, Nat.le_of_ble_eq_true rfl⟩) (hw_preV hK hO hZ (ixAt.ob f0) rfl) rfl rfl hl.1 rfl (lv_room (Nat.le_of_ble_eq_true rfl)) dLaw_law_208 ⟨(show cl0 + 1 ≤ 659988 by omega), (show sl0 + 1 ≤ 7122284 by omega)⟩) hZ hA (fun r1 X1 H1 lc1 hp hZ => ?_)
  obtain ⟨hr1, hF, hN⟩ := hp
  have f1 := moAt.fr hF (fun M hM hM2 hNS => by ((try dsimp only at hNS); omega)) f1
  have f0 := hN
  refine lv_aload_n hx hb dLaw_law_211 rfl (lv_at hl 1 rfl) ?_
  refine lv_aload_n hx hb dLaw_law_212 rfl (lv_at hl 3 rfl) ?_
  refine lv_iload_n hx hb dLaw_law_213 rfl (lv_at hl 0 rfl) ?_
  refine lv_iconst (v := nI 1) hx hb dLaw_law_214 (by decide) ?_
  refine lv_iadd hx hb dLaw_law_215 ?_
  refine hw_topi (nI_add i 1) ?_
  refine va_sld hx hb hX0 hbl hbA hZ.2.2 (vp_in_nI (show i + 1 < L by omega) (by omega)) dLaw_law_216 ?_
  refine hw_topi (congrArg xs (nI_clamp (show i + 1 < 2 ^ 31 by omega))) ?_
  refine hw_calli (va_runV (As := [.int (xs (i + 1))]) (rest := [.int r1]) ⟨hx, hb, hml, hown, hts⟩ (q_ask l D K X1 H1.size qm its sg lg st sd hs (xs (i + 1)) f1 okm) (cwV 1 hts (hwGood (hw_4 mm_525 mm_526 mm_527 mm_365 (hwAll mm_524))) rfl rfl rfl (by decide +kernel) ⟨Nat.le_of_ble_eq_true rfl, Nat.le_of_ble_eq_true rfl⟩) (hw_preV hK hO hZ (moAt.ob f1) rfl) rfl rfl hl.1 rfl (lv_room (Nat.le_of_ble_eq_true rfl)) dLaw_law_217 ⟨(show (cl0 + 1) + 0 ≤ 659988 by omega), (show (sl0 + 1) + 0 ≤ 7122284 by omega)⟩) hZ hA (fun r2 X2 H2 lc2 hp hZ => ?_)
  obtain ⟨hr2, hF, hN⟩ := hp
  have f0 := ixAt.fr hF (fun M hM hNS => by ((try dsimp only at hNS); omega)) hn30 f0
  have f1 := hN
  have eA : askS (fun j => hsA ((tkF sd).1.map (trm (lg j) st)) (Tf its lg st j) its.length) (xs (i + 1)) = askS (fun j => hsA (qw.map (trm (lg j) ss)) (Tf its lg ss j) its.length) (xs (i + 1)) := by simp only [hR.etr, hR.eTf, hR.tq]
  rw [eA] at f1 hr2
  refine lv_icmp_eq (tgt := 509) hx hb dLaw_law_220 (by decide) (fun _ => ?_) (fun c9 => absurd (hr1.trans hr2.symm) c9)
  refine W.widen (k := cl0 + 10) (n := sl0 + 1300) (by omega) (by omega) ?_
  exact kk _ _ _ hZ ⟨_, _, _, _, _, _, _, _, _, _, _, f0, f1, hR2⟩
set_option maxHeartbeats 4000000 in
set_option maxRecDepth 100000 in
theorem law_c5 {p : Program} {l : Launch} {e : Env} {s : State} {m : MethodId} {below : List Frame} {meth : Method} {c : Code} {D : va_G} {K : Nat → ClassId} {b L : Nat} {xs : Nat → Int32} {Q : State → Prop} (hx : p.tables.exec = Jvm.exec) (hb : c.code = code) (hml : c.maxLocals = 4) (hown : s.vm.findClass RLaw = some m.cls) (hts : ∀ w ∈ lw0 :: hwG, w.before #[Value.ref b] s = true) (hX0 : va_X b L xs s s.heap) (hbl : b < s.heap.size) (hK : va_K D vwCl (hwT K) s) (hO : hwO (hwT K) s) (hL : L ≤ 2048) {i k qa qm cl0 sl0 : Nat} {X : hwW} {H : Heap} {locs : List Loc} {ls : Array Slot} (hi : i + 3 < L) (hk : k ≤ 512) (hcc : cl0 + 10 ≤ 659988) (hss : sl0 + 1300 ≤ 7122284) (hZ : hwZ D vwCl (fun q : Nat => s.heap.size ≤ q) s.heap X H locs) (hl : lv_has ls 4 [(3, .int (nI i)), (2, .ref qm), (1, .ref qa), (0, .ref b)]) (hI : lwI K X qa qm k) (kk : ∀ (Y : hwW) (H1 : Heap) (locs1 : List Loc), hwZ D vwCl (fun q : Nat => s.heap.size ≤ q) s.heap Y H1 locs1 → lwI K Y qa qm (k + 1) → W p l e room_1 s m #[Value.ref b] below meth c H1 locs1 (cl0 + 10) (sl0 + 1300) Q (F0 m 509 ls [])) : W p l e room_1 s m #[Value.ref b] below meth c H locs cl0 sl0 Q (F0 m 225 ls []) := by
  obtain ⟨its, fs, lg, qw, qo, qs, ss, hs, sg, st, sd, f0, f1, hR⟩ := hI
  have ok := hR.okS (by omega)
  have okm := hR.okM (by omega)
  have hA : ∀ q : Nat, s.heap.size ≤ q → (fun q : Nat => s.heap.size ≤ q) q := fun _ h => h
  have hbA : ¬ (fun q : Nat => s.heap.size ≤ q) b := Nat.not_le.mpr hbl
  have hR2 := hR.phrase (by omega) (xs (i + 1))
  have hn30 := hR2.n30
  refine lv_aload_n hx hb dLaw_law_225 rfl (lv_at hl 2 rfl) ?_
  refine lv_aload_n hx hb dLaw_law_226 rfl (lv_at hl 3 rfl) ?_
  refine lv_iload_n hx hb dLaw_law_227 rfl (lv_at hl 0 rfl) ?_
  refine lv_iconst (v := nI 1) hx hb dLaw_law_228 (by decide) ?_
  refine lv_iadd hx hb dLaw_law_229 ?_
  refine hw_topi (nI_add i 1) ?_
  refine va_sld hx hb hX0 hbl hbA hZ.2.2 (vp_in_nI (show i + 1 < L by omega) (by omega)) dLaw_law_230 ?_
  refine hw_topi (congrArg xs (nI_clamp (show i + 1 < 2 ^ 31 by omega))) ?_
  refine hw_calli (va_runV (As := [.int (xs (i + 1))]) (rest := []) ⟨hx, hb, hml, hown, hts⟩ (p_phrase l D K X H.size qa its fs lg qw qo qs ss hs (xs (i + 1)) f0 ok) (cwV 1 hts (hwGood (hw_4 mm_529 mm_530 mm_531 mm_188 (hwAll mm_528))) rfl rfl rfl (by decide +kernel) ⟨Nat.le_of_ble_eq_true rfl, Nat.le_of_ble_eq_true rfl⟩) (hw_preV hK hO hZ (ixAt.ob f0) rfl) rfl rfl hl.1 rfl (lv_room (Nat.le_of_ble_eq_true rfl)) dLaw_law_231 ⟨(show cl0 + 1 ≤ 659988 by omega), (show sl0 + 1 ≤ 7122284 by omega)⟩) hZ hA (fun r1 X1 H1 lc1 hp hZ => ?_)
  obtain ⟨hr1, hF, hN⟩ := hp
  have f1 := moAt.fr hF (fun M hM hM2 hNS => by ((try dsimp only at hNS); omega)) f1
  have f0 := hN
  refine lv_aload_n hx hb dLaw_law_234 rfl (lv_at hl 1 rfl) ?_
  refine lv_aload_n hx hb dLaw_law_235 rfl (lv_at hl 3 rfl) ?_
  refine lv_iload_n hx hb dLaw_law_236 rfl (lv_at hl 0 rfl) ?_
  refine lv_iconst (v := nI 1) hx hb dLaw_law_237 (by decide) ?_
  refine lv_iadd hx hb dLaw_law_238 ?_
  refine hw_topi (nI_add i 1) ?_
  refine va_sld hx hb hX0 hbl hbA hZ.2.2 (vp_in_nI (show i + 1 < L by omega) (by omega)) dLaw_law_239 ?_
  refine hw_topi (congrArg xs (nI_clamp (show i + 1 < 2 ^ 31 by omega))) ?_
  refine hw_calli (va_runV (As := [.int (xs (i + 1))]) (rest := [.int r1]) ⟨hx, hb, hml, hown, hts⟩ (q_phrase l D K X1 H1.size qm its sg lg st sd hs (xs (i + 1)) f1 okm) (cwV 1 hts (hwGood (hw_4 mm_533 mm_534 mm_535 mm_365 (hwAll mm_532))) rfl rfl rfl (by decide +kernel) ⟨Nat.le_of_ble_eq_true rfl, Nat.le_of_ble_eq_true rfl⟩) (hw_preV hK hO hZ (moAt.ob f1) rfl) rfl rfl hl.1 rfl (lv_room (Nat.le_of_ble_eq_true rfl)) dLaw_law_240 ⟨(show (cl0 + 1) + 0 ≤ 659988 by omega), (show (sl0 + 1) + 0 ≤ 7122284 by omega)⟩) hZ hA (fun r2 X2 H2 lc2 hp hZ => ?_)
  obtain ⟨hr2, hF, hN⟩ := hp
  have f0 := ixAt.fr hF (fun M hM hNS => by ((try dsimp only at hNS); omega)) hn30 f0
  have f1 := hN
  have eA : askS (fun j => hsP ((tkF sd).1.map (trm (lg j) st)) (Tf its lg st j) its.length) (xs (i + 1)) = askS (fun j => hsP (qw.map (trm (lg j) ss)) (Tf its lg ss j) its.length) (xs (i + 1)) := by simp only [hR.etr, hR.eTf, hR.tq]
  rw [eA] at f1 hr2
  refine lv_icmp_eq (tgt := 509) hx hb dLaw_law_243 (by decide) (fun _ => ?_) (fun c9 => absurd (hr1.trans hr2.symm) c9)
  refine W.widen (k := cl0 + 10) (n := sl0 + 1300) (by omega) (by omega) ?_
  exact kk _ _ _ hZ ⟨_, _, _, _, _, _, _, _, _, _, _, f0, f1, hR2⟩
set_option maxHeartbeats 4000000 in
set_option maxRecDepth 100000 in
theorem law_c6 {p : Program} {l : Launch} {e : Env} {s : State} {m : MethodId} {below : List Frame} {meth : Method} {c : Code} {D : va_G} {K : Nat → ClassId} {b L : Nat} {xs : Nat → Int32} {Q : State → Prop} (hx : p.tables.exec = Jvm.exec) (hb : c.code = code) (hml : c.maxLocals = 4) (hown : s.vm.findClass RLaw = some m.cls) (hts : ∀ w ∈ lw0 :: hwG, w.before #[Value.ref b] s = true) (hX0 : va_X b L xs s s.heap) (hbl : b < s.heap.size) (hK : va_K D vwCl (hwT K) s) (hO : hwO (hwT K) s) (hL : L ≤ 2048) {i k qa qm cl0 sl0 : Nat} {X : hwW} {H : Heap} {locs : List Loc} {ls : Array Slot} (hi : i + 3 < L) (hk : k ≤ 512) (hcc : cl0 + 10 ≤ 659988) (hss : sl0 + 1300 ≤ 7122284) (hZ : hwZ D vwCl (fun q : Nat => s.heap.size ≤ q) s.heap X H locs) (hl : lv_has ls 4 [(3, .int (nI i)), (2, .ref qm), (1, .ref qa), (0, .ref b)]) (hI : lwI K X qa qm k) (kk : ∀ (Y : hwW) (H1 : Heap) (locs1 : List Loc), hwZ D vwCl (fun q : Nat => s.heap.size ≤ q) s.heap Y H1 locs1 → lwI K Y qa qm (k + 1) → W p l e room_1 s m #[Value.ref b] below meth c H1 locs1 (cl0 + 10) (sl0 + 1300) Q (F0 m 509 ls [])) : W p l e room_1 s m #[Value.ref b] below meth c H locs cl0 sl0 Q (F0 m 248 ls []) := by
  obtain ⟨its, fs, lg, qw, qo, qs, ss, hs, sg, st, sd, f0, f1, hR⟩ := hI
  have ok := hR.okS (by omega)
  have okm := hR.okM (by omega)
  have hA : ∀ q : Nat, s.heap.size ≤ q → (fun q : Nat => s.heap.size ≤ q) q := fun _ h => h
  have hbA : ¬ (fun q : Nat => s.heap.size ≤ q) b := Nat.not_le.mpr hbl
  have hR2 := hR.near (by omega) (xs (i + 1)) (xs (i + 2))
  have hn30 := hR2.n30
  refine lv_aload_n hx hb dLaw_law_248 rfl (lv_at hl 2 rfl) ?_
  refine lv_aload_n hx hb dLaw_law_249 rfl (lv_at hl 3 rfl) ?_
  refine lv_iload_n hx hb dLaw_law_250 rfl (lv_at hl 0 rfl) ?_
  refine lv_iconst (v := nI 1) hx hb dLaw_law_251 (by decide) ?_
  refine lv_iadd hx hb dLaw_law_252 ?_
  refine hw_topi (nI_add i 1) ?_
  refine va_sld hx hb hX0 hbl hbA hZ.2.2 (vp_in_nI (show i + 1 < L by omega) (by omega)) dLaw_law_253 ?_
  refine hw_topi (congrArg xs (nI_clamp (show i + 1 < 2 ^ 31 by omega))) ?_
  refine lv_aload_n hx hb dLaw_law_254 rfl (lv_at hl 3 rfl) ?_
  refine lv_iload_n hx hb dLaw_law_255 rfl (lv_at hl 0 rfl) ?_
  refine lv_iconst (v := nI 2) hx hb dLaw_law_256 (by decide) ?_
  refine lv_iadd hx hb dLaw_law_257 ?_
  refine hw_topi (nI_add i 2) ?_
  refine va_sld hx hb hX0 hbl hbA hZ.2.2 (vp_in_nI (show i + 2 < L by omega) (by omega)) dLaw_law_258 ?_
  refine hw_topi (congrArg xs (nI_clamp (show i + 2 < 2 ^ 31 by omega))) ?_
  refine hw_calli (va_runV (As := [.int (xs (i + 1)), .int (xs (i + 2))]) (rest := []) ⟨hx, hb, hml, hown, hts⟩ (p_near l D K X H.size qa its fs lg qw qo qs ss hs (xs (i + 1)) (xs (i + 2)) f0 ok) (cwV 2 hts (hwGood (hw_4 mm_537 mm_538 mm_539 mm_188 (hwAll mm_536))) rfl rfl rfl (by decide +kernel) ⟨Nat.le_of_ble_eq_true rfl, Nat.le_of_ble_eq_true rfl⟩) (hw_preV hK hO hZ (ixAt.ob f0) rfl) rfl rfl hl.1 rfl (lv_room (Nat.le_of_ble_eq_true rfl)) dLaw_law_259 ⟨(show cl0 + 1 ≤ 659988 by omega), (show sl0 + 3 ≤ 7122284 by omega)⟩) hZ hA (fun r1 X1 H1 lc1 hp hZ => ?_)
  obtain ⟨hr1, hF, hN⟩ := hp
  have f1 := moAt.fr hF (fun M hM hM2 hNS => by ((try dsimp only at hNS); omega)) f1
  have f0 := hN
  refine lv_aload_n hx hb dLaw_law_262 rfl (lv_at hl 1 rfl) ?_
  refine lv_aload_n hx hb dLaw_law_263 rfl (lv_at hl 3 rfl) ?_
  refine lv_iload_n hx hb dLaw_law_264 rfl (lv_at hl 0 rfl) ?_
  refine lv_iconst (v := nI 1) hx hb dLaw_law_265 (by decide) ?_
  refine lv_iadd hx hb dLaw_law_266 ?_
  refine hw_topi (nI_add i 1) ?_
  refine va_sld hx hb hX0 hbl hbA hZ.2.2 (vp_in_nI (show i + 1 < L by omega) (by omega)) dLaw_law_267 ?_
  refine hw_topi (congrArg xs (nI_clamp (show i + 1 < 2 ^ 31 by omega))) ?_
  refine lv_aload_n hx hb dLaw_law_268 rfl (lv_at hl 3 rfl) ?_
  refine lv_iload_n hx hb dLaw_law_269 rfl (lv_at hl 0 rfl) ?_
  refine lv_iconst (v := nI 2) hx hb dLaw_law_270 (by decide) ?_
  refine lv_iadd hx hb dLaw_law_271 ?_
  refine hw_topi (nI_add i 2) ?_
  refine va_sld hx hb hX0 hbl hbA hZ.2.2 (vp_in_nI (show i + 2 < L by omega) (by omega)) dLaw_law_272 ?_
  refine hw_topi (congrArg xs (nI_clamp (show i + 2 < 2 ^ 31 by omega))) ?_
  refine hw_calli (va_runV (As := [.int (xs (i + 1)), .int (xs (i + 2))]) (rest := [.int r1]) ⟨hx, hb, hml, hown, hts⟩ (q_near l D K X1 H1.size qm its sg lg st sd hs (xs (i + 1)) (xs (i + 2)) f1 okm) (cwV 2 hts (hwGood (hw_4 mm_541 mm_542 mm_543 mm_365 (hwAll mm_540))) rfl rfl rfl (by decide +kernel) ⟨Nat.le_of_ble_eq_true rfl, Nat.le_of_ble_eq_true rfl⟩) (hw_preV hK hO hZ (moAt.ob f1) rfl) rfl rfl hl.1 rfl (lv_room (Nat.le_of_ble_eq_true rfl)) dLaw_law_273 ⟨(show (cl0 + 1) + 0 ≤ 659988 by omega), (show (sl0 + 3) + 0 ≤ 7122284 by omega)⟩) hZ hA (fun r2 X2 H2 lc2 hp hZ => ?_)
  obtain ⟨hr2, hF, hN⟩ := hp
  have f0 := ixAt.fr hF (fun M hM hNS => by ((try dsimp only at hNS); omega)) hn30 f0
  have f1 := hN
  have eA : askS (fun j => hsN ((tkF sd).1.map (trm (lg j) st)) (xs (i + 2)) (Tf its lg st j) its.length) (xs (i + 1)) = askS (fun j => hsN (qw.map (trm (lg j) ss)) (xs (i + 2)) (Tf its lg ss j) its.length) (xs (i + 1)) := by simp only [hR.etr, hR.eTf, hR.tq]
  rw [eA] at f1 hr2
  refine lv_icmp_eq (tgt := 509) hx hb dLaw_law_276 (by decide) (fun _ => ?_) (fun c9 => absurd (hr1.trans hr2.symm) c9)
  refine W.widen (k := cl0 + 10) (n := sl0 + 1300) (by omega) (by omega) ?_
  exact kk _ _ _ hZ ⟨_, _, _, _, _, _, _, _, _, _, _, f0, f1, hR2⟩
set_option maxHeartbeats 4000000 in
set_option maxRecDepth 100000 in
theorem law_c7 {p : Program} {l : Launch} {e : Env} {s : State} {m : MethodId} {below : List Frame} {meth : Method} {c : Code} {D : va_G} {K : Nat → ClassId} {b L : Nat} {xs : Nat → Int32} {Q : State → Prop} (hx : p.tables.exec = Jvm.exec) (hb : c.code = code) (hml : c.maxLocals = 4) (hown : s.vm.findClass RLaw = some m.cls) (hts : ∀ w ∈ lw0 :: hwG, w.before #[Value.ref b] s = true) (hX0 : va_X b L xs s s.heap) (hbl : b < s.heap.size) (hK : va_K D vwCl (hwT K) s) (hO : hwO (hwT K) s) (hL : L ≤ 2048) {i k qa qm cl0 sl0 : Nat} {X : hwW} {H : Heap} {locs : List Loc} {ls : Array Slot} (hi : i + 3 < L) (hk : k ≤ 512) (hcc : cl0 + 10 ≤ 659988) (hss : sl0 + 1300 ≤ 7122284) (hZ : hwZ D vwCl (fun q : Nat => s.heap.size ≤ q) s.heap X H locs) (hl : lv_has ls 4 [(3, .int (nI i)), (2, .ref qm), (1, .ref qa), (0, .ref b)]) (hI : lwI K X qa qm k) (kk : ∀ (Y : hwW) (H1 : Heap) (locs1 : List Loc), hwZ D vwCl (fun q : Nat => s.heap.size ≤ q) s.heap Y H1 locs1 → lwI K Y qa qm (k + 1) → W p l e room_1 s m #[Value.ref b] below meth c H1 locs1 (cl0 + 10) (sl0 + 1300) Q (F0 m 509 ls [])) : W p l e room_1 s m #[Value.ref b] below meth c H locs cl0 sl0 Q (F0 m 281 ls []) := by
  obtain ⟨its, fs, lg, qw, qo, qs, ss, hs, sg, st, sd, f0, f1, hR⟩ := hI
  have ok := hR.okS (by omega)
  have okm := hR.okM (by omega)
  have hA : ∀ q : Nat, s.heap.size ≤ q → (fun q : Nat => s.heap.size ≤ q) q := fun _ h => h
  have hbA : ¬ (fun q : Nat => s.heap.size ≤ q) b := Nat.not_le.mpr hbl
  by_cases hz : xs (i + 2) = 0
  · have hR2 := hR.wild (by omega) (xs (i + 1)) false
    have hn30 := hR2.n30
    refine lv_aload_n hx hb dLaw_law_281 rfl (lv_at hl 2 rfl) ?_
    refine lv_aload_n hx hb dLaw_law_282 rfl (lv_at hl 3 rfl) ?_
    refine lv_iload_n hx hb dLaw_law_283 rfl (lv_at hl 0 rfl) ?_
    refine lv_iconst (v := nI 1) hx hb dLaw_law_284 (by decide) ?_
    refine lv_iadd hx hb dLaw_law_285 ?_
    refine hw_topi (nI_add i 1) ?_
    refine va_sld hx hb hX0 hbl hbA hZ.2.2 (vp_in_nI (show i + 1 < L by omega) (by omega)) dLaw_law_286 ?_
    refine hw_topi (congrArg xs (nI_clamp (show i + 1 < 2 ^ 31 by omega))) ?_
    refine lv_aload_n hx hb dLaw_law_287 rfl (lv_at hl 3 rfl) ?_
    refine lv_iload_n hx hb dLaw_law_288 rfl (lv_at hl 0 rfl) ?_
    refine lv_iconst (v := nI 2) hx hb dLaw_law_289 (by decide) ?_
    refine lv_iadd hx hb dLaw_law_290 ?_
    refine hw_topi (nI_add i 2) ?_
    refine va_sld hx hb hX0 hbl hbA hZ.2.2 (vp_in_nI (show i + 2 < L by omega) (by omega)) dLaw_law_291 ?_
    refine hw_topi (congrArg xs (nI_clamp (show i + 2 < 2 ^ 31 by omega))) ?_
    refine lv_if_eq (tgt := 299) hx hb dLaw_law_292 (by decide) (fun _ => ?_) (fun h => absurd hz h)
    refine lv_iconst (v := nI 0) hx hb dLaw_law_299 (by decide) ?_
    refine hw_topi (show nI 0 = bI false from rfl) ?_
    refine hw_calli (va_runV (As := [.int (xs (i + 1)), .int (bI false)]) (rest := []) ⟨hx, hb, hml, hown, hts⟩ (p_wild l D K X H.size qa its fs lg qw qo qs ss hs (xs (i + 1)) false f0 ok) (cwV 2 hts (hwGood (hw_4 mm_545 mm_546 mm_547 mm_188 (hwAll mm_544))) rfl rfl rfl (by decide +kernel) ⟨Nat.le_of_ble_eq_true rfl, Nat.le_of_ble_eq_true rfl⟩) (hw_preV hK hO hZ (ixAt.ob f0) rfl) rfl rfl hl.1 rfl (lv_room (Nat.le_of_ble_eq_true rfl)) dLaw_law_300 ⟨(show cl0 + 1 ≤ 659988 by omega), (show sl0 + 2 ≤ 7122284 by omega)⟩) hZ hA (fun r1 X1 H1 lc1 hp hZ => ?_)
    obtain ⟨hr1, hF, hN⟩ := hp
    have f1 := moAt.fr hF (fun M hM hM2 hNS => by ((try dsimp only at hNS); omega)) f1
    have f0 := hN
    refine lv_aload_n hx hb dLaw_law_303 rfl (lv_at hl 1 rfl) ?_
    refine lv_aload_n hx hb dLaw_law_304 rfl (lv_at hl 3 rfl) ?_
    refine lv_iload_n hx hb dLaw_law_305 rfl (lv_at hl 0 rfl) ?_
    refine lv_iconst (v := nI 1) hx hb dLaw_law_306 (by decide) ?_
    refine lv_iadd hx hb dLaw_law_307 ?_
    refine hw_topi (nI_add i 1) ?_
    refine va_sld hx hb hX0 hbl hbA hZ.2.2 (vp_in_nI (show i + 1 < L by omega) (by omega)) dLaw_law_308 ?_
    refine hw_topi (congrArg xs (nI_clamp (show i + 1 < 2 ^ 31 by omega))) ?_
    refine lv_aload_n hx hb dLaw_law_309 rfl (lv_at hl 3 rfl) ?_
    refine lv_iload_n hx hb dLaw_law_310 rfl (lv_at hl 0 rfl) ?_
    refine lv_iconst (v := nI 2) hx hb dLaw_law_311 (by decide) ?_
    refine lv_iadd hx hb dLaw_law_312 ?_
    refine hw_topi (nI_add i 2) ?_
    refine va_sld hx hb hX0 hbl hbA hZ.2.2 (vp_in_nI (show i + 2 < L by omega) (by omega)) dLaw_law_313 ?_
    refine hw_topi (congrArg xs (nI_clamp (show i + 2 < 2 ^ 31 by omega))) ?_
    refine lv_if_eq (tgt := 321) hx hb dLaw_law_314 (by decide) (fun _ => ?_) (fun h => absurd hz h)
    refine lv_iconst (v := nI 0) hx hb dLaw_law_321 (by decide) ?_
    refine hw_topi (show nI 0 = bI false from rfl) ?_
    refine hw_calli (va_runV (As := [.int (xs (i + 1)), .int (bI false)]) (rest := [.int r1]) ⟨hx, hb, hml, hown, hts⟩ (q_wild l D K X1 H1.size qm its sg lg st sd hs (xs (i + 1)) false f1 okm) (cwV 2 hts (hwGood (hw_4 mm_549 mm_550 mm_551 mm_365 (hwAll mm_548))) rfl rfl rfl (by decide +kernel) ⟨Nat.le_of_ble_eq_true rfl, Nat.le_of_ble_eq_true rfl⟩) (hw_preV hK hO hZ (moAt.ob f1) rfl) rfl rfl hl.1 rfl (lv_room (Nat.le_of_ble_eq_true rfl)) dLaw_law_322 ⟨(show (cl0 + 1) + 0 ≤ 659988 by omega), (show (sl0 + 2) + 0 ≤ 7122284 by omega)⟩) hZ hA (fun r2 X2 H2 lc2 hp hZ => ?_)
    obtain ⟨hr2, hF, hN⟩ := hp
    have f0 := ixAt.fr hF (fun M hM hNS => by ((try dsimp only at hNS); omega)) hn30 f0
    have f1 := hN
    have eA : askS (fun j => hsW ((tkF sd).1.getD 0 []) false (Tf its lg st j) its.length) (xs (i + 1)) = askS (fun j => hsW (qw.getD 0 []) false (Tf its lg ss j) its.length) (xs (i + 1)) := by simp only [hR.etr, hR.eTf, hR.tq]
    rw [eA] at f1 hr2
    refine lv_icmp_eq (tgt := 509) hx hb dLaw_law_325 (by decide) (fun _ => ?_) (fun c9 => absurd (hr1.trans hr2.symm) c9)
    refine W.widen (k := cl0 + 10) (n := sl0 + 1300) (by omega) (by omega) ?_
    exact kk _ _ _ hZ ⟨_, _, _, _, _, _, _, _, _, _, _, f0, f1, hR2⟩
  · have hR2 := hR.wild (by omega) (xs (i + 1)) true
    have hn30 := hR2.n30
    refine lv_aload_n hx hb dLaw_law_281 rfl (lv_at hl 2 rfl) ?_
    refine lv_aload_n hx hb dLaw_law_282 rfl (lv_at hl 3 rfl) ?_
    refine lv_iload_n hx hb dLaw_law_283 rfl (lv_at hl 0 rfl) ?_
    refine lv_iconst (v := nI 1) hx hb dLaw_law_284 (by decide) ?_
    refine lv_iadd hx hb dLaw_law_285 ?_
    refine hw_topi (nI_add i 1) ?_
    refine va_sld hx hb hX0 hbl hbA hZ.2.2 (vp_in_nI (show i + 1 < L by omega) (by omega)) dLaw_law_286 ?_
    refine hw_topi (congrArg xs (nI_clamp (show i + 1 < 2 ^ 31 by omega))) ?_
    refine lv_aload_n hx hb dLaw_law_287 rfl (lv_at hl 3 rfl) ?_
    refine lv_iload_n hx hb dLaw_law_288 rfl (lv_at hl 0 rfl) ?_
    refine lv_iconst (v := nI 2) hx hb dLaw_law_289 (by decide) ?_
    refine lv_iadd hx hb dLaw_law_290 ?_
    refine hw_topi (nI_add i 2) ?_
    refine va_sld hx hb hX0 hbl hbA hZ.2.2 (vp_in_nI (show i + 2 < L by omega) (by omega)) dLaw_law_291 ?_
    refine hw_topi (congrArg xs (nI_clamp (show i + 2 < 2 ^ 31 by omega))) ?_
    refine lv_if_eq (tgt := 299) hx hb dLaw_law_292 (by decide) (fun h => absurd h hz) (fun _ => ?_)
    refine lv_iconst (v := nI 1) hx hb dLaw_law_295 (by decide) ?_
    refine lv_goto (tgt := 300) hx hb dLaw_law_296 (by decide) ?_
    refine hw_topi (show nI 1 = bI true from rfl) ?_
    refine hw_calli (va_runV (As := [.int (xs (i + 1)), .int (bI true)]) (rest := []) ⟨hx, hb, hml, hown, hts⟩ (p_wild l D K X H.size qa its fs lg qw qo qs ss hs (xs (i + 1)) true f0 ok) (cwV 2 hts (hwGood (hw_4 mm_545 mm_546 mm_547 mm_188 (hwAll mm_544))) rfl rfl rfl (by decide +kernel) ⟨Nat.le_of_ble_eq_true rfl, Nat.le_of_ble_eq_true rfl⟩) (hw_preV hK hO hZ (ixAt.ob f0) rfl) rfl rfl hl.1 rfl (lv_room (Nat.le_of_ble_eq_true rfl)) dLaw_law_300 ⟨(show cl0 + 1 ≤ 659988 by omega), (show sl0 + 2 ≤ 7122284 by omega)⟩) hZ hA (fun r1 X1 H1 lc1 hp hZ => ?_)
    obtain ⟨hr1, hF, hN⟩ := hp
    have f1 := moAt.fr hF (fun M hM hM2 hNS => by ((try dsimp only at hNS); omega)) f1
    have f0 := hN
    refine lv_aload_n hx hb dLaw_law_303 rfl (lv_at hl 1 rfl) ?_
    refine lv_aload_n hx hb dLaw_law_304 rfl (lv_at hl 3 rfl) ?_
    refine lv_iload_n hx hb dLaw_law_305 rfl (lv_at hl 0 rfl) ?_
    refine lv_iconst (v := nI 1) hx hb dLaw_law_306 (by decide) ?_
    refine lv_iadd hx hb dLaw_law_307 ?_
    refine hw_topi (nI_add i 1) ?_
    refine va_sld hx hb hX0 hbl hbA hZ.2.2 (vp_in_nI (show i + 1 < L by omega) (by omega)) dLaw_law_308 ?_
    refine hw_topi (congrArg xs (nI_clamp (show i + 1 < 2 ^ 31 by omega))) ?_
    refine lv_aload_n hx hb dLaw_law_309 rfl (lv_at hl 3 rfl) ?_
    refine lv_iload_n hx hb dLaw_law_310 rfl (lv_at hl 0 rfl) ?_
    refine lv_iconst (v := nI 2) hx hb dLaw_law_311 (by decide) ?_
    refine lv_iadd hx hb dLaw_law_312 ?_
    refine hw_topi (nI_add i 2) ?_
    refine va_sld hx hb hX0 hbl hbA hZ.2.2 (vp_in_nI (show i + 2 < L by omega) (by omega)) dLaw_law_313 ?_
    refine hw_topi (congrArg xs (nI_clamp (show i + 2 < 2 ^ 31 by omega))) ?_
    refine lv_if_eq (tgt := 321) hx hb dLaw_law_314 (by decide) (fun h => absurd h hz) (fun _ => ?_)
    refine lv_iconst (v := nI 1) hx hb dLaw_law_317 (by decide) ?_
    refine lv_goto (tgt := 322) hx hb dLaw_law_318 (by decide) ?_
    refine hw_topi (show nI 1 = bI true from rfl) ?_
    refine hw_calli (va_runV (As := [.int (xs (i + 1)), .int (bI true)]) (rest := [.int r1]) ⟨hx, hb, hml, hown, hts⟩ (q_wild l D K X1 H1.size qm its sg lg st sd hs (xs (i + 1)) true f1 okm) (cwV 2 hts (hwGood (hw_4 mm_549 mm_550 mm_551 mm_365 (hwAll mm_548))) rfl rfl rfl (by decide +kernel) ⟨Nat.le_of_ble_eq_true rfl, Nat.le_of_ble_eq_true rfl⟩) (hw_preV hK hO hZ (moAt.ob f1) rfl) rfl rfl hl.1 rfl (lv_room (Nat.le_of_ble_eq_true rfl)) dLaw_law_322 ⟨(show (cl0 + 1) + 0 ≤ 659988 by omega), (show (sl0 + 2) + 0 ≤ 7122284 by omega)⟩) hZ hA (fun r2 X2 H2 lc2 hp hZ => ?_)
    obtain ⟨hr2, hF, hN⟩ := hp
    have f0 := ixAt.fr hF (fun M hM hNS => by ((try dsimp only at hNS); omega)) hn30 f0
    have f1 := hN
    have eA : askS (fun j => hsW ((tkF sd).1.getD 0 []) true (Tf its lg st j) its.length) (xs (i + 1)) = askS (fun j => hsW (qw.getD 0 []) true (Tf its lg ss j) its.length) (xs (i + 1)) := by simp only [hR.etr, hR.eTf, hR.tq]
    rw [eA] at f1 hr2
    refine lv_icmp_eq (tgt := 509) hx hb dLaw_law_325 (by decide) (fun _ => ?_) (fun c9 => absurd (hr1.trans hr2.symm) c9)
    refine W.widen (k := cl0 + 10) (n := sl0 + 1300) (by omega) (by omega) ?_
    exact kk _ _ _ hZ ⟨_, _, _, _, _, _, _, _, _, _, _, f0, f1, hR2⟩
