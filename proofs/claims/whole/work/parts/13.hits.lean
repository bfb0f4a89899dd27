theorem dHits_isHit_0 : decode cHits_isHit 0 = .ok (.iload_n 1, 1) := by decide +kernel
theorem dHits_isHit_1 : decode cHits_isHit 1 = .ok (.ifCond .lt 21, 3) := by decide +kernel
theorem dHits_isHit_4 : decode cHits_isHit 4 = .ok (.iload_n 1, 1) := by decide +kernel
theorem dHits_isHit_5 : decode cHits_isHit 5 = .ok (.aload_n 0, 1) := by decide +kernel
theorem dHits_isHit_6 : decode cHits_isHit 6 = .ok (.getfield 21, 3) := by decide +kernel
theorem dHits_isHit_9 : decode cHits_isHit 9 = .ok (.if_icmp .ge 13, 3) := by decide +kernel
theorem dHits_isHit_12 : decode cHits_isHit 12 = .ok (.iload_n 1, 1) := by decide +kernel
theorem dHits_isHit_13 : decode cHits_isHit 13 = .ok (.bipush 30, 2) := by decide +kernel
theorem dHits_isHit_15 : decode cHits_isHit 15 = .ok (.if_icmp .ge 7, 3) := by decide +kernel
theorem dHits_isHit_18 : decode cHits_isHit 18 = .ok (.iconst 1, 1) := by decide +kernel
theorem dHits_isHit_19 : decode cHits_isHit 19 = .ok (.goto 4, 3) := by decide +kernel
theorem dHits_isHit_22 : decode cHits_isHit 22 = .ok (.iconst 0, 1) := by decide +kernel
theorem dHits_isHit_23 : decode cHits_isHit 23 = .ok (.ireturn, 1) := by decide +kernel
theorem dHits_size_0 : decode cHits_size 0 = .ok (.aload_n 0, 1) := by decide +kernel
theorem dHits_size_1 : decode cHits_size 1 = .ok (.getfield 21, 3) := by decide +kernel
theorem dHits_size_4 : decode cHits_size 4 = .ok (.ireturn, 1) := by decide +kernel
theorem dHits_clear_0 : decode cHits_clear 0 = .ok (.aload_n 0, 1) := by decide +kernel
theorem dHits_clear_1 : decode cHits_clear 1 = .ok (.iconst 0, 1) := by decide +kernel
theorem dHits_clear_2 : decode cHits_clear 2 = .ok (.putfield 21, 3) := by decide +kernel
theorem dHits_clear_5 : decode cHits_clear 5 = .ok (.return_, 1) := by decide +kernel
theorem dHits_numberAt_0 : decode cHits_numberAt 0 = .ok (.aload_n 0, 1) := by decide +kernel
theorem dHits_numberAt_1 : decode cHits_numberAt 1 = .ok (.iload_n 1, 1) := by decide +kernel
theorem dHits_numberAt_2 : decode cHits_numberAt 2 = .ok (.invokevirtual 25, 3) := by decide +kernel
theorem dHits_numberAt_5 : decode cHits_numberAt 5 = .ok (.ifCond .eq 12, 3) := by decide +kernel
theorem dHits_numberAt_8 : decode cHits_numberAt 8 = .ok (.aload_n 0, 1) := by decide +kernel
theorem dHits_numberAt_9 : decode cHits_numberAt 9 = .ok (.getfield 9, 3) := by decide +kernel
theorem dHits_numberAt_12 : decode cHits_numberAt 12 = .ok (.iload_n 1, 1) := by decide +kernel
theorem dHits_numberAt_13 : decode cHits_numberAt 13 = .ok (.iaload, 1) := by decide +kernel
theorem dHits_numberAt_14 : decode cHits_numberAt 14 = .ok (.goto 4, 3) := by decide +kernel
theorem dHits_numberAt_17 : decode cHits_numberAt 17 = .ok (.iconst 0, 1) := by decide +kernel
theorem dHits_numberAt_18 : decode cHits_numberAt 18 = .ok (.ireturn, 1) := by decide +kernel
theorem dHits_countAt_0 : decode cHits_countAt 0 = .ok (.aload_n 0, 1) := by decide +kernel
theorem dHits_countAt_1 : decode cHits_countAt 1 = .ok (.iload_n 1, 1) := by decide +kernel
theorem dHits_countAt_2 : decode cHits_countAt 2 = .ok (.invokevirtual 25, 3) := by decide +kernel
theorem dHits_countAt_5 : decode cHits_countAt 5 = .ok (.ifCond .eq 12, 3) := by decide +kernel
theorem dHits_countAt_8 : decode cHits_countAt 8 = .ok (.aload_n 0, 1) := by decide +kernel
theorem dHits_countAt_9 : decode cHits_countAt 9 = .ok (.getfield 15, 3) := by decide +kernel
theorem dHits_countAt_12 : decode cHits_countAt 12 = .ok (.iload_n 1, 1) := by decide +kernel
theorem dHits_countAt_13 : decode cHits_countAt 13 = .ok (.iaload, 1) := by decide +kernel
theorem dHits_countAt_14 : decode cHits_countAt 14 = .ok (.goto 4, 3) := by decide +kernel
theorem dHits_countAt_17 : decode cHits_countAt 17 = .ok (.iconst 0, 1) := by decide +kernel
theorem dHits_countAt_18 : decode cHits_countAt 18 = .ok (.ireturn, 1) := by decide +kernel
theorem dHits_sizeAt_0 : decode cHits_sizeAt 0 = .ok (.aload_n 0, 1) := by decide +kernel
theorem dHits_sizeAt_1 : decode cHits_sizeAt 1 = .ok (.iload_n 1, 1) := by decide +kernel
theorem dHits_sizeAt_2 : decode cHits_sizeAt 2 = .ok (.invokevirtual 25, 3) := by decide +kernel
theorem dHits_sizeAt_5 : decode cHits_sizeAt 5 = .ok (.ifCond .eq 12, 3) := by decide +kernel
theorem dHits_sizeAt_8 : decode cHits_sizeAt 8 = .ok (.aload_n 0, 1) := by decide +kernel
theorem dHits_sizeAt_9 : decode cHits_sizeAt 9 = .ok (.getfield 18, 3) := by decide +kernel
theorem dHits_sizeAt_12 : decode cHits_sizeAt 12 = .ok (.iload_n 1, 1) := by decide +kernel
theorem dHits_sizeAt_13 : decode cHits_sizeAt 13 = .ok (.iaload, 1) := by decide +kernel
theorem dHits_sizeAt_14 : decode cHits_sizeAt 14 = .ok (.goto 4, 3) := by decide +kernel
theorem dHits_sizeAt_17 : decode cHits_sizeAt 17 = .ok (.iconst 0, 1) := by decide +kernel
theorem dHits_sizeAt_18 : decode cHits_sizeAt 18 = .ok (.ireturn, 1) := by decide +kernel
theorem dHits_isGreater_0 : decode cHits_isGreater 0 = .ok (.iload_n 1, 1) := by decide +kernel
theorem dHits_isGreater_1 : decode cHits_isGreater 1 = .ok (.i2l, 1) := by decide +kernel
theorem dHits_isGreater_2 : decode cHits_isGreater 2 = .ok (.aload_n 0, 1) := by decide +kernel
theorem dHits_isGreater_3 : decode cHits_isGreater 3 = .ok (.iload_n 3, 1) := by decide +kernel
theorem dHits_isGreater_4 : decode cHits_isGreater 4 = .ok (.invokevirtual 33, 3) := by decide +kernel
theorem dHits_isGreater_7 : decode cHits_isGreater 7 = .ok (.i2l, 1) := by decide +kernel
theorem dHits_isGreater_8 : decode cHits_isGreater 8 = .ok (.lmul, 1) := by decide +kernel
theorem dHits_isGreater_9 : decode cHits_isGreater 9 = .ok (.aload_n 0, 1) := by decide +kernel
theorem dHits_isGreater_10 : decode cHits_isGreater 10 = .ok (.iload_n 3, 1) := by decide +kernel
theorem dHits_isGreater_11 : decode cHits_isGreater 11 = .ok (.invokevirtual 37, 3) := by decide +kernel
theorem dHits_isGreater_14 : decode cHits_isGreater 14 = .ok (.i2l, 1) := by decide +kernel
theorem dHits_isGreater_15 : decode cHits_isGreater 15 = .ok (.iload_n 2, 1) := by decide +kernel
theorem dHits_isGreater_16 : decode cHits_isGreater 16 = .ok (.i2l, 1) := by decide +kernel
theorem dHits_isGreater_17 : decode cHits_isGreater 17 = .ok (.lmul, 1) := by decide +kernel
theorem dHits_isGreater_18 : decode cHits_isGreater 18 = .ok (.lcmp, 1) := by decide +kernel
theorem dHits_isGreater_19 : decode cHits_isGreater 19 = .ok (.ifCond .le 7, 3) := by decide +kernel
theorem dHits_isGreater_22 : decode cHits_isGreater 22 = .ok (.iconst 1, 1) := by decide +kernel
theorem dHits_isGreater_23 : decode cHits_isGreater 23 = .ok (.goto 4, 3) := by decide +kernel
theorem dHits_isGreater_26 : decode cHits_isGreater 26 = .ok (.iconst 0, 1) := by decide +kernel
theorem dHits_isGreater_27 : decode cHits_isGreater 27 = .ok (.ireturn, 1) := by decide +kernel
theorem mm_90 : (.fieldLink RHits 21 RHits "count" "I" : Cond) ∈ hwG := hwIx 102 (by decide +kernel) (by decide +kernel)
theorem mm_91 : (.code yHits_isHit cHits_isHit 2 (some .boolean) : Cond) ∈ hwG := hwIx 420 (by decide +kernel) (by decide +kernel)
theorem mm_92 : (.methodLink RHits 25 yHits_isHit : Cond) ∈ hwG := hwIx 417 (by decide +kernel) (by decide +kernel)
theorem mm_93 : (.instanceMethod yHits_isHit : Cond) ∈ hwG := hwIx 419 (by decide +kernel) (by decide +kernel)
theorem mm_94 : (.selects RHits yHits_isHit yHits_isHit : Cond) ∈ hwG := hwIx 11 (by decide +kernel) (by decide +kernel)
theorem mm_95 : (.initialized RHits : Cond) ∈ hwG := hwIx 37 (by decide +kernel) (by decide +kernel)
theorem mm_96 : (.fieldLink RHits 9 RHits "numbers" "[I" : Cond) ∈ hwG := hwIx 99 (by decide +kernel) (by decide +kernel)
theorem mm_97 : (.fieldLink RHits 15 RHits "counts" "[I" : Cond) ∈ hwG := hwIx 100 (by decide +kernel) (by decide +kernel)
theorem mm_98 : (.fieldLink RHits 18 RHits "sizes" "[I" : Cond) ∈ hwG := hwIx 101 (by decide +kernel) (by decide +kernel)
theorem mm_99 : (.code yHits_sizeAt cHits_sizeAt 2 (some .int) : Cond) ∈ hwG := hwIx 416 (by decide +kernel) (by decide +kernel)
theorem mm_100 : (.methodLink RHits 33 yHits_sizeAt : Cond) ∈ hwG := hwIx 413 (by decide +kernel) (by decide +kernel)
theorem mm_101 : (.instanceMethod yHits_sizeAt : Cond) ∈ hwG := hwIx 414 (by decide +kernel) (by decide +kernel)
theorem mm_102 : (.selects RHits yHits_sizeAt yHits_sizeAt : Cond) ∈ hwG := hwIx 415 (by decide +kernel) (by decide +kernel)
theorem mm_103 : (.code yHits_countAt cHits_countAt 2 (some .int) : Cond) ∈ hwG := hwIx 424 (by decide +kernel) (by decide +kernel)
theorem mm_104 : (.methodLink RHits 37 yHits_countAt : Cond) ∈ hwG := hwIx 421 (by decide +kernel) (by decide +kernel)
theorem mm_105 : (.instanceMethod yHits_countAt : Cond) ∈ hwG := hwIx 422 (by decide +kernel) (by decide +kernel)
theorem mm_106 : (.selects RHits yHits_countAt yHits_countAt : Cond) ∈ hwG := hwIx 423 (by decide +kernel) (by decide +kernel)
set_option maxHeartbeats 4000000 in
set_option maxRecDepth 100000 in
theorem c_Hi_is (l : Launch) (D : va_G) (K : Nat → ClassId) (X : hwW) (sz : Nat) (a : Nat) (L : Nat) (q1 : Nat) (q2 : Nat) (q3 : Nat) (n : Nat) (j : Nat) (f0_ : hwH X a L (.inr (0, [.ref q1, .ref q2, .ref q3, .int (nI n)]))) (hn : n ≤ 30) (hj : j < 2147483648) : Met l yHits_isHit (.code yHits_isHit cHits_isHit 2 (some .boolean) :: hwG) ({ frames := 0, cells := 0, slots := 0, locals := 0 } : Room) (hwPc D vwCl (hwT K) [.ref a, .int (nI j)] X sz) (hwQi D vwCl X sz (fun r Y => r = bI (decide (j < n)) ∧ X = Y)) 0 0 (va_A X.1 sz) := by
  refine hwMetz (cc := cHits_isHit) (maxL := 2) (by decide) rfl (Nat.le_of_ble_eq_true rfl) (fun p e s m args below meth c ls A Q hx hb hml hown hts hname hret hK hO hZ hA hl => ?_)
  have hl : lv_has ls 2 [(0, .ref a), (1, .int (nI j))] := hl
  refine lv_iload_n hx hb dHits_isHit_0 rfl (lv_at hl 1 rfl) ?_
  refine hw_if_lt (a := j) (tgt := 22) hx hb dHits_isHit_1 (by decide) (by omega) (fun cq_1 => by exfalso; omega) (fun cq_1 => ?_)
  refine lv_iload_n hx hb dHits_isHit_4 rfl (lv_at hl 1 rfl) ?_
  refine lv_aload_n hx hb dHits_isHit_5 rfl (lv_at hl 0 rfl) ?_
  refine hw_get hx hb hts (hwInn inHits) hown hK hZ f0_ rfl 3 (by decide) (hts (.fieldLink RHits 21 RHits "count" "I") (hwMem mm_90)) (fun _ h => h) rfl dHits_isHit_6 ?_
  refine hw_ic_ge (a := j) (b := n) (tgt := 22) hx hb dHits_isHit_9 (by decide) (by omega) (by omega) (fun cq_2 => ?_) (fun cq_2 => ?_)
  · refine lv_iconst (v := nI 0) hx hb dHits_isHit_22 (by decide) ?_
    exact hret (by decide) hZ ⟨by rw [decide_eq_false (by omega : ¬ j < n)]; rfl, rfl⟩ dHits_isHit_23
  · refine lv_iload_n hx hb dHits_isHit_12 rfl (lv_at hl 1 rfl) ?_
    refine lv_bipush (v := nI 30) hx hb dHits_isHit_13 (by decide) ?_
    refine hw_ic_ge (a := j) (b := 30) (tgt := 22) hx hb dHits_isHit_15 (by decide) (by omega) (by omega) (fun cq_3 => by exfalso; omega) (fun cq_3 => ?_)
    refine lv_iconst (v := nI 1) hx hb dHits_isHit_18 (by decide) ?_
    refine lv_goto (tgt := 23) hx hb dHits_isHit_19 (by decide) ?_
    exact hret (by decide) hZ ⟨by rw [decide_eq_true (by omega : j < n)]; rfl, rfl⟩ dHits_isHit_23
set_option maxHeartbeats 4000000 in
set_option maxRecDepth 100000 in
theorem c_Hi_isN (l : Launch) (D : va_G) (K : Nat → ClassId) (X : hwW) (sz : Nat) (a : Nat) (L : Nat) (q1 : Nat) (q2 : Nat) (q3 : Nat) (n : Nat) (i : Int32) (f0_ : hwH X a L (.inr (0, [.ref q1, .ref q2, .ref q3, .int (nI n)]))) (hi : i < 0) : Met l yHits_isHit (.code yHits_isHit cHits_isHit 2 (some .boolean) :: hwG) ({ frames := 0, cells := 0, slots := 0, locals := 0 } : Room) (hwPc D vwCl (hwT K) [.ref a, .int i] X sz) (hwQi D vwCl X sz (fun r Y => r = bI false ∧ X = Y)) 0 0 (va_A X.1 sz) := by
  refine hwMetz (cc := cHits_isHit) (maxL := 2) (by decide) rfl (Nat.le_of_ble_eq_true rfl) (fun p e s m args below meth c ls A Q hx hb hml hown hts hname hret hK hO hZ hA hl => ?_)
  have hl : lv_has ls 2 [(0, .ref a), (1, .int i)] := hl
  refine lv_iload_n hx hb dHits_isHit_0 rfl (lv_at hl 1 rfl) ?_
  refine lv_if_lt (tgt := 22) hx hb dHits_isHit_1 (by decide) (fun cq_1 => ?_) (fun cq_1 => absurd hi cq_1)
  refine lv_iconst (v := nI 0) hx hb dHits_isHit_22 (by decide) ?_
  exact hret (by decide) hZ ⟨rfl, rfl⟩ dHits_isHit_23
set_option maxHeartbeats 4000000 in
set_option maxRecDepth 100000 in
theorem c_Hi_size (l : Launch) (D : va_G) (K : Nat → ClassId) (X : hwW) (sz : Nat) (a : Nat) (L : Nat) (q1 : Nat) (q2 : Nat) (q3 : Nat) (n : Nat) (f0_ : hwH X a L (.inr (0, [.ref q1, .ref q2, .ref q3, .int (nI n)]))) : Met l yHits_size (.code yHits_size cHits_size 1 (some .int) :: hwG) ({ frames := 0, cells := 0, slots := 0, locals := 0 } : Room) (hwPc D vwCl (hwT K) [.ref a] X sz) (hwQi D vwCl X sz (fun r Y => r = nI n ∧ X = Y)) 0 0 (va_A X.1 sz) := by
  refine hwMeti (cc := cHits_size) (maxL := 1) (by decide) rfl (Nat.le_of_ble_eq_true rfl) (fun p e s m args below meth c ls A Q hx hb hml hown hts hname hret hK hO hZ hA hl => ?_)
  have hl : lv_has ls 1 [(0, .ref a)] := hl
  refine lv_aload_n hx hb dHits_size_0 rfl (lv_at hl 0 rfl) ?_
  refine hw_get hx hb hts (hwInn inHits) hown hK hZ f0_ rfl 3 (by decide) (hts (.fieldLink RHits 21 RHits "count" "I") (hwMem mm_90)) (fun _ h => h) rfl dHits_size_1 ?_
  exact hret hZ ⟨rfl, rfl⟩ dHits_size_4
set_option maxHeartbeats 4000000 in
set_option maxRecDepth 100000 in
theorem c_Hi_clear (l : Launch) (D : va_G) (K : Nat → ClassId) (X : hwW) (sz : Nat) (a : Nat) (L : Nat) (q1 : Nat) (q2 : Nat) (q3 : Nat) (n : Nat) (f0_ : hwH X a L (.inr (0, [.ref q1, .ref q2, .ref q3, .int (nI n)]))) : Met l yHits_clear (.code yHits_clear cHits_clear 1 none :: hwG) ({ frames := 0, cells := 0, slots := 0, locals := 0 } : Room) (hwPc D vwCl (hwT K) [.ref a] X sz) (hwQv D vwCl X sz (fun Y => hwF X Y (fun M => M = L) ∧ hwH Y a L (.inr (0, [.ref q1, .ref q2, .ref q3, .int (nI 0)])))) 0 0 (va_A X.1 sz) := by
  refine hwMetv (cc := cHits_clear) (maxL := 1) (by decide) rfl (Nat.le_of_ble_eq_true rfl) (fun p e s m args below meth c ls A Q hx hb hml hown hts hname hret hK hO hZ hA hl => ?_)
  have hl : lv_has ls 1 [(0, .ref a)] := hl
  have hFr : hwF X X (fun M => M = L) := hwF.rf
  refine lv_aload_n hx hb dHits_clear_0 rfl (lv_at hl 0 rfl) ?_
  refine lv_iconst (v := nI 0) hx hb dHits_clear_1 (by decide) ?_
  refine hw_put (ty := .int) (fs' := [.ref q1, .ref q2, .ref q3, .int (nI 0)]) hx hb hts (hwInn inHits) tyHits tyHits_ok nmHits hown hK hZ f0_ rfl 3 (by decide) (hts (.fieldLink RHits 21 RHits "count" "I") (hwMem mm_90)) (fun _ h => h) rfl (by decide +kernel) rfl rfl (Nat.le_of_ble_eq_true rfl) rfl dHits_clear_2 (fun X_1 H_2 lc_3 hZ hF hNw => ?_)
  have hFr := hwF.tr hFr hF (fun _ h => h) (fun M h => by first | exact False.elim h | ((try dsimp only at h ⊢); omega))
  have f0_ := hNw
  exact hret hZ ⟨hFr, f0_⟩ dHits_clear_5
set_option maxHeartbeats 4000000 in
set_option maxRecDepth 100000 in
theorem c_Hi_num (l : Launch) (D : va_G) (K : Nat → ClassId) (X : hwW) (sz : Nat) (a : Nat) (L : Nat) (q1 : Nat) (q2 : Nat) (q3 : Nat) (n : Nat) (L1 : Nat) (f1 : Nat → Int32) (j : Nat) (f0_ : hwH X a L (.inr (0, [.ref q1, .ref q2, .ref q3, .int (nI n)]))) (f1_ : hwH X q1 L1 (.inl (K 0, 30, .inl f1))) (hn : n ≤ 30) (hj : j < 2147483648) : Met l yHits_numberAt (.code yHits_numberAt cHits_numberAt 2 (some .int) :: hwG) ({ frames := 1, cells := 0, slots := 0, locals := 21 } : Room) (hwPc D vwCl (hwT K) [.ref a, .int (nI j)] X sz) (hwQi D vwCl X sz (fun r Y => r = (if j < n then f1 j else nI 0) ∧ X = Y)) 0 0 (va_A X.1 sz) := by
  refine hwMeti (cc := cHits_numberAt) (maxL := 2) (by decide) rfl (Nat.le_of_ble_eq_true rfl) (fun p e s m args below meth c ls A Q hx hb hml hown hts hname hret hK hO hZ hA hl => ?_)
  have hl : lv_has ls 2 [(0, .ref a), (1, .int (nI j))] := hl
  refine lv_aload_n hx hb dHits_numberAt_0 rfl (lv_at hl 0 rfl) ?_
  refine lv_iload_n hx hb dHits_numberAt_1 rfl (lv_at hl 1 rfl) ?_
  refine hw_calli (va_runV (As := [.int (nI j)]) (rest := []) ⟨hx, hb, hml, hown, hts⟩ (c_Hi_is l D K X s.heap.size (a := a) (L := L) (q1 := q1) (q2 := q2) (q3 := q3) (n := n) (j := j) f0_ (by omega) (by omega)) (cwV 1 hts (hwGood (hw_4 mm_92 mm_93 mm_94 mm_95 (hwAll mm_91))) rfl rfl rfl (by decide +kernel) ⟨Nat.le_of_ble_eq_true rfl, Nat.le_of_ble_eq_true rfl⟩) (hw_preV hK hO hZ (⟨_, _, f0_⟩) rfl) rfl rfl hl.1 rfl (lv_room (Nat.le_of_ble_eq_true rfl)) dHits_numberAt_2 ⟨(show 0 + 0 ≤ 0 by omega), (show 0 + 0 ≤ 0 by omega)⟩) hZ hA (fun r X_1 H_2 lc_3 hp hZ => ?_)
  obtain ⟨hr, hy⟩ := hp
  subst hy
  refine hw_topi hr ?_
  refine hw_bz_eq (tgt := 17) hx hb dHits_numberAt_5 (by decide) (fun cq_4 => ?_) (fun cq_4 => ?_)
  · refine lv_iconst (v := nI 0) hx hb dHits_numberAt_17 (by decide) ?_
    exact hret hZ ⟨by rw [if_neg (of_decide_eq_false cq_4)], rfl⟩ dHits_numberAt_18
  · have hj2 := of_decide_eq_true cq_4
    refine lv_aload_n hx hb dHits_numberAt_8 rfl (lv_at hl 0 rfl) ?_
    refine hw_get hx hb hts (hwInn inHits) hown hK hZ f0_ rfl 0 (by decide) (hts (.fieldLink RHits 9 RHits "numbers" "[I") (hwMem mm_96)) (fun _ h => h) rfl dHits_numberAt_9 ?_
    refine lv_iload_n hx hb dHits_numberAt_12 rfl (lv_at hl 1 rfl) ?_
    refine hw_iald hx hb hK hZ 0 f1_ rfl (j := j) (by omega) (by omega) dHits_numberAt_13 ?_
    refine lv_goto (tgt := 18) hx hb dHits_numberAt_14 (by decide) ?_
    exact hret hZ ⟨by rw [if_pos hj2], rfl⟩ dHits_numberAt_18
set_option maxHeartbeats 4000000 in
set_option maxRecDepth 100000 in
theorem c_Hi_numN (l : Launch) (D : va_G) (K : Nat → ClassId) (X : hwW) (sz : Nat) (a : Nat) (L : Nat) (q1 : Nat) (q2 : Nat) (q3 : Nat) (n : Nat) (i : Int32) (f0_ : hwH X a L (.inr (0, [.ref q1, .ref q2, .ref q3, .int (nI n)]))) (hi : i < 0) : Met l yHits_numberAt (.code yHits_numberAt cHits_numberAt 2 (some .int) :: hwG) ({ frames := 1, cells := 0, slots := 0, locals := 21 } : Room) (hwPc D vwCl (hwT K) [.ref a, .int i] X sz) (hwQi D vwCl X sz (fun r Y => r = nI 0 ∧ X = Y)) 0 0 (va_A X.1 sz) := by
  refine hwMeti (cc := cHits_numberAt) (maxL := 2) (by decide) rfl (Nat.le_of_ble_eq_true rfl) (fun p e s m args below meth c ls A Q hx hb hml hown hts hname hret hK hO hZ hA hl => ?_)
  have hl : lv_has ls 2 [(0, .ref a), (1, .int i)] := hl
  refine lv_aload_n hx hb dHits_numberAt_0 rfl (lv_at hl 0 rfl) ?_
  refine lv_iload_n hx hb dHits_numberAt_1 rfl (lv_at hl 1 rfl) ?_
  refine hw_calli (va_runV (As := [.int i]) (rest := []) ⟨hx, hb, hml, hown, hts⟩ (c_Hi_isN l D K X s.heap.size (a := a) (L := L) (q1 := q1) (q2 := q2) (q3 := q3) (n := n) (i := i) f0_ (by assumption)) (cwV 1 hts (hwGood (hw_4 mm_92 mm_93 mm_94 mm_95 (hwAll mm_91))) rfl rfl rfl (by decide +kernel) ⟨Nat.le_of_ble_eq_true rfl, Nat.le_of_ble_eq_true rfl⟩) (hw_preV hK hO hZ (⟨_, _, f0_⟩) rfl) rfl rfl hl.1 rfl (lv_room (Nat.le_of_ble_eq_true rfl)) dHits_numberAt_2 ⟨(show 0 + 0 ≤ 0 by omega), (show 0 + 0 ≤ 0 by omega)⟩) hZ hA (fun r X_1 H_2 lc_3 hp hZ => ?_)
  obtain ⟨hr, hy⟩ := hp
  subst hy
  refine hw_topi hr ?_
  refine hw_bz_eqT (tgt := 17) hx hb dHits_numberAt_5 (by decide) rfl ?_
  refine lv_iconst (v := nI 0) hx hb dHits_numberAt_17 (by decide) ?_
  exact hret hZ ⟨rfl, rfl⟩ dHits_numberAt_18
set_option maxHeartbeats 4000000 in
set_option maxRecDepth 100000 in
theorem c_Hi_cnt (l : Launch) (D : va_G) (K : Nat → ClassId) (X : hwW) (sz : Nat) (a : Nat) (L : Nat) (q1 : Nat) (q2 : Nat) (q3 : Nat) (n : Nat) (L1 : Nat) (f1 : Nat → Int32) (j : Nat) (f0_ : hwH X a L (.inr (0, [.ref q1, .ref q2, .ref q3, .int (nI n)]))) (f1_ : hwH X q2 L1 (.inl (K 0, 30, .inl f1))) (hn : n ≤ 30) (hj : j < 2147483648) : Met l yHits_countAt (.code yHits_countAt cHits_countAt 2 (some .int) :: hwG) ({ frames := 1, cells := 0, slots := 0, locals := 21 } : Room) (hwPc D vwCl (hwT K) [.ref a, .int (nI j)] X sz) (hwQi D vwCl X sz (fun r Y => r = (if j < n then f1 j else nI 0) ∧ X = Y)) 0 0 (va_A X.1 sz) := by
  refine hwMeti (cc := cHits_countAt) (maxL := 2) (by decide) rfl (Nat.le_of_ble_eq_true rfl) (fun p e s m args below meth c ls A Q hx hb hml hown hts hname hret hK hO hZ hA hl => ?_)
  have hl : lv_has ls 2 [(0, .ref a), (1, .int (nI j))] := hl
  refine lv_aload_n hx hb dHits_countAt_0 rfl (lv_at hl 0 rfl) ?_
  refine lv_iload_n hx hb dHits_countAt_1 rfl (lv_at hl 1 rfl) ?_
  refine hw_calli (va_runV (As := [.int (nI j)]) (rest := []) ⟨hx, hb, hml, hown, hts⟩ (c_Hi_is l D K X s.heap.size (a := a) (L := L) (q1 := q1) (q2 := q2) (q3 := q3) (n := n) (j := j) f0_ (by omega) (by omega)) (cwV 1 hts (hwGood (hw_4 mm_92 mm_93 mm_94 mm_95 (hwAll mm_91))) rfl rfl rfl (by decide +kernel) ⟨Nat.le_of_ble_eq_true rfl, Nat.le_of_ble_eq_true rfl⟩) (hw_preV hK hO hZ (⟨_, _, f0_⟩) rfl) rfl rfl hl.1 rfl (lv_room (Nat.le_of_ble_eq_true rfl)) dHits_countAt_2 ⟨(show 0 + 0 ≤ 0 by omega), (show 0 + 0 ≤ 0 by omega)⟩) hZ hA (fun r X_1 H_2 lc_3 hp hZ => ?_)
  obtain ⟨hr, hy⟩ := hp
  subst hy
  refine hw_topi hr ?_
  refine hw_bz_eq (tgt := 17) hx hb dHits_countAt_5 (by decide) (fun cq_4 => ?_) (fun cq_4 => ?_)
  · refine lv_iconst (v := nI 0) hx hb dHits_countAt_17 (by decide) ?_
    exact hret hZ ⟨by rw [if_neg (of_decide_eq_false cq_4)], rfl⟩ dHits_countAt_18
  · have hj2 := of_decide_eq_true cq_4
    refine lv_aload_n hx hb dHits_countAt_8 rfl (lv_at hl 0 rfl) ?_
    refine hw_get hx hb hts (hwInn inHits) hown hK hZ f0_ rfl 1 (by decide) (hts (.fieldLink RHits 15 RHits "counts" "[I") (hwMem mm_97)) (fun _ h => h) rfl dHits_countAt_9 ?_
    refine lv_iload_n hx hb dHits_countAt_12 rfl (lv_at hl 1 rfl) ?_
    refine hw_iald hx hb hK hZ 0 f1_ rfl (j := j) (by omega) (by omega) dHits_countAt_13 ?_
    refine lv_goto (tgt := 18) hx hb dHits_countAt_14 (by decide) ?_
    exact hret hZ ⟨by rw [if_pos hj2], rfl⟩ dHits_countAt_18
set_option maxHeartbeats 4000000 in
set_option maxRecDepth 100000 in
theorem c_Hi_cntN (l : Launch) (D : va_G) (K : Nat → ClassId) (X : hwW) (sz : Nat) (a : Nat) (L : Nat) (q1 : Nat) (q2 : Nat) (q3 : Nat) (n : Nat) (i : Int32) (f0_ : hwH X a L (.inr (0, [.ref q1, .ref q2, .ref q3, .int (nI n)]))) (hi : i < 0) : Met l yHits_countAt (.code yHits_countAt cHits_countAt 2 (some .int) :: hwG) ({ frames := 1, cells := 0, slots := 0, locals := 21 } : Room) (hwPc D vwCl (hwT K) [.ref a, .int i] X sz) (hwQi D vwCl X sz (fun r Y => r = nI 0 ∧ X = Y)) 0 0 (va_A X.1 sz) := by
  refine hwMeti (cc := cHits_countAt) (maxL := 2) (by decide) rfl (Nat.le_of_ble_eq_true rfl) (fun p e s m args below meth c ls A Q hx hb hml hown hts hname hret hK hO hZ hA hl => ?_)
  have hl : lv_has ls 2 [(0, .ref a), (1, .int i)] := hl
  refine lv_aload_n hx hb dHits_countAt_0 rfl (lv_at hl 0 rfl) ?_
  refine lv_iload_n hx hb dHits_countAt_1 rfl (lv_at hl 1 rfl) ?_
  refine hw_calli (va_runV (As := [.int i]) (rest := []) ⟨hx, hb, hml, hown, hts⟩ (c_Hi_isN l D K X s.heap.size (a := a) (L := L) (q1 := q1) (q2 := q2) (q3 := q3) (n := n) (i := i) f0_ (by assumption)) (cwV 1 hts (hwGood (hw_4 mm_92 mm_93 mm_94 mm_95 (hwAll mm_91))) rfl rfl rfl (by decide +kernel) ⟨Nat.le_of_ble_eq_true rfl, Nat.le_of_ble_eq_true rfl⟩) (hw_preV hK hO hZ (⟨_, _, f0_⟩) rfl) rfl rfl hl.1 rfl (lv_room (Nat.le_of_ble_eq_true rfl)) dHits_countAt_2 ⟨(show 0 + 0 ≤ 0 by omega), (show 0 + 0 ≤ 0 by omega)⟩) hZ hA (fun r X_1 H_2 lc_3 hp hZ => ?_)
  obtain ⟨hr, hy⟩ := hp
  subst hy
  refine hw_topi hr ?_
  refine hw_bz_eqT (tgt := 17) hx hb dHits_countAt_5 (by decide) rfl ?_
  refine lv_iconst (v := nI 0) hx hb dHits_countAt_17 (by decide) ?_
  exact hret hZ ⟨rfl, rfl⟩ dHits_countAt_18
set_option maxHeartbeats 4000000 in
set_option maxRecDepth 100000 in
theorem c_Hi_siz (l : Launch) (D : va_G) (K : Nat → ClassId) (X : hwW) (sz : Nat) (a : Nat) (L : Nat) (q1 : Nat) (q2 : Nat) (q3 : Nat) (n : Nat) (L1 : Nat) (f1 : Nat → Int32) (j : Nat) (f0_ : hwH X a L (.inr (0, [.ref q1, .ref q2, .ref q3, .int (nI n)]))) (f1_ : hwH X q3 L1 (.inl (K 0, 30, .inl f1))) (hn : n ≤ 30) (hj : j < 2147483648) : Met l yHits_sizeAt (.code yHits_sizeAt cHits_sizeAt 2 (some .int) :: hwG) ({ frames := 1, cells := 0, slots := 0, locals := 21 } : Room) (hwPc D vwCl (hwT K) [.ref a, .int (nI j)] X sz) (hwQi D vwCl X sz (fun r Y => r = (if j < n then f1 j else nI 0) ∧ X = Y)) 0 0 (va_A X.1 sz) := by
  refine hwMeti (cc := cHits_sizeAt) (maxL := 2) (by decide) rfl (Nat.le_of_ble_eq_true rfl) (fun p e s m args below meth c ls A Q hx hb hml hown hts hname hret hK hO hZ hA hl => ?_)
  have hl : lv_has ls 2 [(0, .ref a), (1, .int (nI j))] := hl
  refine lv_aload_n hx hb dHits_sizeAt_0 rfl (lv_at hl 0 rfl) ?_
  refine lv_iload_n hx hb dHits_sizeAt_1 rfl (lv_at hl 1 rfl) ?_
  refine hw_calli (va_runV (As := [.int (nI j)]) (rest := []) ⟨hx, hb, hml, hown, hts⟩ (c_Hi_is l D K X s.heap.size (a := a) (L := L) (q1 := q1) (q2 := q2) (q3 := q3) (n := n) (j := j) f0_ (by omega) (by omega)) (cwV 1 hts (hwGood (hw_4 mm_92 mm_93 mm_94 mm_95 (hwAll mm_91))) rfl rfl rfl (by decide +kernel) ⟨Nat.le_of_ble_eq_true rfl, Nat.le_of_ble_eq_true rfl⟩) (hw_preV hK hO hZ (⟨_, _, f0_⟩) rfl) rfl rfl hl.1 rfl (lv_room (Nat.le_of_ble_eq_true rfl)) dHits_sizeAt_2 ⟨(show 0 + 0 ≤ 0 by omega), (show 0 + 0 ≤ 0 by omega)⟩) hZ hA (fun r X_1 H_2 lc_3 hp hZ => ?_)
  obtain ⟨hr, hy⟩ := hp
  subst hy
  refine hw_topi hr ?_
  refine hw_bz_eq (tgt := 17) hx hb dHits_sizeAt_5 (by decide) (fun cq_4 => ?_) (fun cq_4 => ?_)
  · refine lv_iconst (v := nI 0) hx hb dHits_sizeAt_17 (by decide) ?_
    exact hret hZ ⟨by rw [if_neg (of_decide_eq_false cq_4)], rfl⟩ dHits_sizeAt_18
  · have hj2 := of_decide_eq_true cq_4
    refine lv_aload_n hx hb dHits_sizeAt_8 rfl (lv_at hl 0 rfl) ?_
    refine hw_get hx hb hts (hwInn inHits) hown hK hZ f0_ rfl 2 (by decide) (hts (.fieldLink RHits 18 RHits "sizes" "[I") (hwMem mm_98)) (fun _ h => h) rfl dHits_sizeAt_9 ?_
    refine lv_iload_n hx hb dHits_sizeAt_12 rfl (lv_at hl 1 rfl) ?_
    refine hw_iald hx hb hK hZ 0 f1_ rfl (j := j) (by omega) (by omega) dHits_sizeAt_13 ?_
    refine lv_goto (tgt := 18) hx hb dHits_sizeAt_14 (by decide) ?_
    exact hret hZ ⟨by rw [if_pos hj2], rfl⟩ dHits_sizeAt_18
set_option maxHeartbeats 4000000 in
set_option maxRecDepth 100000 in
theorem c_Hi_sizN (l : Launch) (D : va_G) (K : Nat → ClassId) (X : hwW) (sz : Nat) (a : Nat) (L : Nat) (q1 : Nat) (q2 : Nat) (q3 : Nat) (n : Nat) (i : Int32) (f0_ : hwH X a L (.inr (0, [.ref q1, .ref q2, .ref q3, .int (nI n)]))) (hi : i < 0) : Met l yHits_sizeAt (.code yHits_sizeAt cHits_sizeAt 2 (some .int) :: hwG) ({ frames := 1, cells := 0, slots := 0, locals := 21 } : Room) (hwPc D vwCl (hwT K) [.ref a, .int i] X sz) (hwQi D vwCl X sz (fun r Y => r = nI 0 ∧ X = Y)) 0 0 (va_A X.1 sz) := by
  refine hwMeti (cc := cHits_sizeAt) (maxL := 2) (by decide) rfl (Nat.le_of_ble_eq_true rfl) (fun p e s m args below meth c ls A Q hx hb hml hown hts hname hret hK hO hZ hA hl => ?_)
  have hl : lv_has ls 2 [(0, .ref a), (1, .int i)] := hl
  refine lv_aload_n hx hb dHits_sizeAt_0 rfl (lv_at hl 0 rfl) ?_
  refine lv_iload_n hx hb dHits_sizeAt_1 rfl (lv_at hl 1 rfl) ?_
  refine hw_calli (va_runV (As := [.int i]) (rest := []) ⟨hx, hb, hml, hown, hts⟩ (c_Hi_isN l D K X s.heap.size (a := a) (L := L) (q1 := q1) (q2 := q2) (q3 := q3) (n := n) (i := i) f0_ (by assumption)) (cwV 1 hts (hwGood (hw_4 mm_92 mm_93 mm_94 mm_95 (hwAll mm_91))) rfl rfl rfl (by decide +kernel) ⟨Nat.le_of_ble_eq_true rfl, Nat.le_of_ble_eq_true rfl⟩) (hw_preV hK hO hZ (⟨_, _, f0_⟩) rfl) rfl rfl hl.1 rfl (lv_room (Nat.le_of_ble_eq_true rfl)) dHits_sizeAt_2 ⟨(show 0 + 0 ≤ 0 by omega), (show 0 + 0 ≤ 0 by omega)⟩) hZ hA (fun r X_1 H_2 lc_3 hp hZ => ?_)
  obtain ⟨hr, hy⟩ := hp
  subst hy
  refine hw_topi hr ?_
  refine hw_bz_eqT (tgt := 17) hx hb dHits_sizeAt_5 (by decide) rfl ?_
  refine lv_iconst (v := nI 0) hx hb dHits_sizeAt_17 (by decide) ?_
  exact hret hZ ⟨rfl, rfl⟩ dHits_sizeAt_18
set_option maxHeartbeats 4000000 in
set_option maxRecDepth 100000 in
theorem c_Hi_gr (l : Launch) (D : va_G) (K : Nat → ClassId) (X : hwW) (sz : Nat) (a : Nat) (L : Nat) (q1 : Nat) (q2 : Nat) (q3 : Nat) (n : Nat) (L2 : Nat) (f2 : Nat → Int32) (L3 : Nat) (f3 : Nat → Int32) (c0 : Nat) (z0 : Nat) (j : Nat) (cj : Nat) (zj : Nat) (f0_ : hwH X a L (.inr (0, [.ref q1, .ref q2, .ref q3, .int (nI n)]))) (f1_ : hwH X q2 L2 (.inl (K 0, 30, .inl f2))) (f2_ : hwH X q3 L3 (.inl (K 0, 30, .inl f3))) (hn : n ≤ 30) (hj : j < n) (h2 : f2 j = nI cj) (h3 : f3 j = nI zj) (hc : c0 ≤ 1000) (hz : z0 ≤ 1000) (hcj : cj ≤ 1000) (hzj : zj ≤ 1000) : Met l yHits_isGreater (.code yHits_isGreater cHits_isGreater 4 (some .boolean) :: hwG) ({ frames := 2, cells := 0, slots := 0, locals := 42 } : Room) (hwPc D vwCl (hwT K) [.ref a, .int (nI c0), .int (nI z0), .int (nI j)] X sz) (hwQi D vwCl X sz (fun r Y => r = bI (decide (cj * z0 < c0 * zj)) ∧ X = Y)) 0 0 (va_A X.1 sz) := by
  refine hwMetz (cc := cHits_isGreater) (maxL := 4) (by decide) rfl (Nat.le_of_ble_eq_true rfl) (fun p e s m args below meth c ls A Q hx hb hml hown hts hname hret hK hO hZ hA hl => ?_)
  have hl : lv_has ls 4 [(0, .ref a), (1, .int (nI c0)), (2, .int (nI z0)), (3, .int (nI j))] := hl
  refine lv_iload_n hx hb dHits_isGreater_0 rfl (lv_at hl 1 rfl) ?_
  refine lv_i2l hx hb dHits_isGreater_1 (nI_l (n := c0) (by omega)) ?_
  refine lv_aload_n hx hb dHits_isGreater_2 rfl (lv_at hl 0 rfl) ?_
  refine lv_iload_n hx hb dHits_isGreater_3 rfl (lv_at hl 3 rfl) ?_
  refine hw_calli (va_runV (As := [.int (nI j)]) (rest := [.long (lN c0)]) ⟨hx, hb, hml, hown, hts⟩ (c_Hi_siz l D K X s.heap.size (a := a) (L := L) (q1 := q1) (q2 := q2) (q3 := q3) (n := n) (L1 := L3) (f1 := f3) (j := j) f0_ f2_ (by omega) (by omega)) (cwV 1 hts (hwGood (hw_4 mm_100 mm_101 mm_102 mm_95 (hwAll mm_99))) rfl rfl rfl (by decide +kernel) ⟨Nat.le_of_ble_eq_true rfl, Nat.le_of_ble_eq_true rfl⟩) (hw_preV hK hO hZ (⟨_, _, f0_⟩) rfl) rfl rfl hl.1 rfl (lv_room (Nat.le_of_ble_eq_true rfl)) dHits_isGreater_4 ⟨(show 0 + 0 ≤ 0 by omega), (show 0 + 0 ≤ 0 by omega)⟩) hZ hA (fun r X_1 H_2 lc_3 hp hZ => ?_)
  obtain ⟨hr, hy⟩ := hp
  subst hy
  refine hw_topi hr ?_
  refine hw_topi ((if_pos hj).trans h3) ?_
  refine lv_i2l hx hb dHits_isGreater_7 (nI_l (n := zj) (by omega)) ?_
  refine lv_lmul hx hb dHits_isGreater_8 ?_
  refine hw_topl (lN_mul c0 zj) ?_
  refine lv_aload_n hx hb dHits_isGreater_9 rfl (lv_at hl 0 rfl) ?_
  refine lv_iload_n hx hb dHits_isGreater_10 rfl (lv_at hl 3 rfl) ?_
  refine hw_calli (va_runV (As := [.int (nI j)]) (rest := [.long (lN (c0 * zj))]) ⟨hx, hb, hml, hown, hts⟩ (c_Hi_cnt l D K X H_2.size (a := a) (L := L) (q1 := q1) (q2 := q2) (q3 := q3) (n := n) (L1 := L2) (f1 := f2) (j := j) f0_ f1_ (by omega) (by omega)) (cwV 1 hts (hwGood (hw_4 mm_104 mm_105 mm_106 mm_95 (hwAll mm_103))) rfl rfl rfl (by decide +kernel) ⟨Nat.le_of_ble_eq_true rfl, Nat.le_of_ble_eq_true rfl⟩) (hw_preV hK hO hZ (⟨_, _, f0_⟩) rfl) rfl rfl hl.1 rfl (lv_room (Nat.le_of_ble_eq_true rfl)) dHits_isGreater_11 ⟨(show 0 + 0 ≤ 0 by omega), (show 0 + 0 ≤ 0 by omega)⟩) hZ hA (fun r X_4 H_5 lc_6 hp hZ => ?_)
  obtain ⟨hr, hy⟩ := hp
  subst hy
  refine hw_topi hr ?_
  refine hw_topi ((if_pos hj).trans h2) ?_
  refine lv_i2l hx hb dHits_isGreater_14 (nI_l (n := cj) (by omega)) ?_
  refine lv_iload_n hx hb dHits_isGreater_15 rfl (lv_at hl 2 rfl) ?_
  refine lv_i2l hx hb dHits_isGreater_16 (nI_l (n := z0) (by omega)) ?_
  refine lv_lmul hx hb dHits_isGreater_17 ?_
  refine hw_topl (lN_mul cj z0) ?_
  refine hw_lc_le (a := c0 * zj) (b := cj * z0) (tgt := 26) hx hb dHits_isGreater_18 dHits_isGreater_19 (by decide) (hw_mul63 (by omega) (by omega)) (hw_mul63 (by omega) (by omega)) (fun cq_7 => ?_) (fun cq_7 => ?_)
  · refine lv_iconst (v := nI 0) hx hb dHits_isGreater_26 (by decide) ?_
    exact hret (by decide) hZ ⟨by rw [decide_eq_false (Nat.not_lt.mpr cq_7)]; rfl, rfl⟩ dHits_isGreater_27
  · refine lv_iconst (v := nI 1) hx hb dHits_isGreater_22 (by decide) ?_
    refine lv_goto (tgt := 27) hx hb dHits_isGreater_23 (by decide) ?_
    exact hret (by decide) hZ ⟨by rw [decide_eq_true cq_7]; rfl, rfl⟩ dHits_isGreater_27
