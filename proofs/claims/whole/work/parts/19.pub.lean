theorem dIx_record_0 : decode cIx_record 0 = .ok (.aload_n 0, 1) := by decide +kernel
theorem dIx_record_1 : decode cIx_record 1 = .ok (.getfield 58, 3) := by decide +kernel
theorem dIx_record_4 : decode cIx_record 4 = .ok (.ifCond .lt 15, 3) := by decide +kernel
theorem dIx_record_7 : decode cIx_record 7 = .ok (.aload_n 0, 1) := by decide +kernel
theorem dIx_record_8 : decode cIx_record 8 = .ok (.getfield 58, 3) := by decide +kernel
theorem dIx_record_11 : decode cIx_record 11 = .ok (.aload_n 0, 1) := by decide +kernel
theorem dIx_record_12 : decode cIx_record 12 = .ok (.getfield 11, 3) := by decide +kernel
theorem dIx_record_15 : decode cIx_record 15 = .ok (.arraylength, 1) := by decide +kernel
theorem dIx_record_16 : decode cIx_record 16 = .ok (.if_icmp .lt 5, 3) := by decide +kernel
theorem dIx_record_19 : decode cIx_record 19 = .ok (.iconst 0, 1) := by decide +kernel
theorem dIx_record_20 : decode cIx_record 20 = .ok (.ireturn, 1) := by decide +kernel
theorem dIx_record_21 : decode cIx_record 21 = .ok (.aload_n 0, 1) := by decide +kernel
theorem dIx_record_22 : decode cIx_record 22 = .ok (.getfield 11, 3) := by decide +kernel
theorem dIx_record_25 : decode cIx_record 25 = .ok (.aload_n 0, 1) := by decide +kernel
theorem dIx_record_26 : decode cIx_record 26 = .ok (.getfield 58, 3) := by decide +kernel
theorem dIx_record_29 : decode cIx_record 29 = .ok (.new 9, 3) := by decide +kernel
theorem dIx_record_32 : decode cIx_record 32 = .ok (.dup, 1) := by decide +kernel
theorem dIx_record_33 : decode cIx_record 33 = .ok (.invokespecial 62, 3) := by decide +kernel
theorem dIx_record_36 : decode cIx_record 36 = .ok (.aastore, 1) := by decide +kernel
theorem dIx_record_37 : decode cIx_record 37 = .ok (.aload_n 0, 1) := by decide +kernel
theorem dIx_record_38 : decode cIx_record 38 = .ok (.dup, 1) := by decide +kernel
theorem dIx_record_39 : decode cIx_record 39 = .ok (.getfield 58, 3) := by decide +kernel
theorem dIx_record_42 : decode cIx_record 42 = .ok (.iconst 1, 1) := by decide +kernel
theorem dIx_record_43 : decode cIx_record 43 = .ok (.iadd, 1) := by decide +kernel
theorem dIx_record_44 : decode cIx_record 44 = .ok (.putfield 58, 3) := by decide +kernel
theorem dIx_record_47 : decode cIx_record 47 = .ok (.aload_n 0, 1) := by decide +kernel
theorem dIx_record_48 : decode cIx_record 48 = .ok (.getfield 58, 3) := by decide +kernel
theorem dIx_record_51 : decode cIx_record 51 = .ok (.ireturn, 1) := by decide +kernel
theorem dIx_field_0 : decode cIx_field 0 = .ok (.aload_n 0, 1) := by decide +kernel
theorem dIx_field_1 : decode cIx_field 1 = .ok (.iload_n 1, 1) := by decide +kernel
theorem dIx_field_2 : decode cIx_field 2 = .ok (.iload_n 2, 1) := by decide +kernel
theorem dIx_field_3 : decode cIx_field 3 = .ok (.invokevirtual 63, 3) := by decide +kernel
theorem dIx_field_6 : decode cIx_field 6 = .ok (.astore 4, 2) := by decide +kernel
theorem dIx_field_8 : decode cIx_field 8 = .ok (.aload 4, 2) := by decide +kernel
theorem dIx_field_10 : decode cIx_field 10 = .ok (.ifnull 13, 3) := by decide +kernel
theorem dIx_field_13 : decode cIx_field 13 = .ok (.aload_n 0, 1) := by decide +kernel
theorem dIx_field_14 : decode cIx_field 14 = .ok (.getfield 67, 3) := by decide +kernel
theorem dIx_field_17 : decode cIx_field 17 = .ok (.sipush 1500, 3) := by decide +kernel
theorem dIx_field_20 : decode cIx_field 20 = .ok (.if_icmp .lt 4, 3) := by decide +kernel
theorem dIx_field_23 : decode cIx_field 23 = .ok (.return_, 1) := by decide +kernel
theorem dIx_field_24 : decode cIx_field 24 = .ok (.aload 4, 2) := by decide +kernel
theorem dIx_field_26 : decode cIx_field 26 = .ok (.iload_n 3, 1) := by decide +kernel
theorem dIx_field_27 : decode cIx_field 27 = .ok (.invokevirtual 70, 3) := by decide +kernel
theorem dIx_field_30 : decode cIx_field 30 = .ok (.aload_n 0, 1) := by decide +kernel
theorem dIx_field_31 : decode cIx_field 31 = .ok (.dup, 1) := by decide +kernel
theorem dIx_field_32 : decode cIx_field 32 = .ok (.getfield 67, 3) := by decide +kernel
theorem dIx_field_35 : decode cIx_field 35 = .ok (.iconst 1, 1) := by decide +kernel
theorem dIx_field_36 : decode cIx_field 36 = .ok (.iadd, 1) := by decide +kernel
theorem dIx_field_37 : decode cIx_field 37 = .ok (.putfield 67, 3) := by decide +kernel
theorem dIx_field_40 : decode cIx_field 40 = .ok (.return_, 1) := by decide +kernel
theorem dIx_remove_0 : decode cIx_remove 0 = .ok (.aload_n 0, 1) := by decide +kernel
theorem dIx_remove_1 : decode cIx_remove 1 = .ok (.iload_n 1, 1) := by decide +kernel
theorem dIx_remove_2 : decode cIx_remove 2 = .ok (.invokevirtual 73, 3) := by decide +kernel
theorem dIx_remove_5 : decode cIx_remove 5 = .ok (.astore_n 2, 1) := by decide +kernel
theorem dIx_remove_6 : decode cIx_remove 6 = .ok (.aload_n 2, 1) := by decide +kernel
theorem dIx_remove_7 : decode cIx_remove 7 = .ok (.ifnonnull 5, 3) := by decide +kernel
theorem dIx_remove_10 : decode cIx_remove 10 = .ok (.iconst 0, 1) := by decide +kernel
theorem dIx_remove_11 : decode cIx_remove 11 = .ok (.ireturn, 1) := by decide +kernel
theorem dIx_remove_12 : decode cIx_remove 12 = .ok (.aload_n 2, 1) := by decide +kernel
theorem dIx_remove_13 : decode cIx_remove 13 = .ok (.iconst 0, 1) := by decide +kernel
theorem dIx_remove_14 : decode cIx_remove 14 = .ok (.putfield 77, 3) := by decide +kernel
theorem dIx_remove_17 : decode cIx_remove 17 = .ok (.iconst 1, 1) := by decide +kernel
theorem dIx_remove_18 : decode cIx_remove 18 = .ok (.ireturn, 1) := by decide +kernel
theorem dIx_sign_0 : decode cIx_sign 0 = .ok (.aload_n 0, 1) := by decide +kernel
theorem dIx_sign_1 : decode cIx_sign 1 = .ok (.getfield 81, 3) := by decide +kernel
theorem dIx_sign_4 : decode cIx_sign 4 = .ok (.bipush 100, 2) := by decide +kernel
theorem dIx_sign_6 : decode cIx_sign 6 = .ok (.if_icmp .ge 21, 3) := by decide +kernel
theorem dIx_sign_9 : decode cIx_sign 9 = .ok (.aload_n 0, 1) := by decide +kernel
theorem dIx_sign_10 : decode cIx_sign 10 = .ok (.getfield 22, 3) := by decide +kernel
theorem dIx_sign_13 : decode cIx_sign 13 = .ok (.iload_n 1, 1) := by decide +kernel
theorem dIx_sign_14 : decode cIx_sign 14 = .ok (.invokevirtual 70, 3) := by decide +kernel
theorem dIx_sign_17 : decode cIx_sign 17 = .ok (.aload_n 0, 1) := by decide +kernel
theorem dIx_sign_18 : decode cIx_sign 18 = .ok (.dup, 1) := by decide +kernel
theorem dIx_sign_19 : decode cIx_sign 19 = .ok (.getfield 81, 3) := by decide +kernel
theorem dIx_sign_22 : decode cIx_sign 22 = .ok (.iconst 1, 1) := by decide +kernel
theorem dIx_sign_23 : decode cIx_sign 23 = .ok (.iadd, 1) := by decide +kernel
theorem dIx_sign_24 : decode cIx_sign 24 = .ok (.putfield 81, 3) := by decide +kernel
theorem dIx_sign_27 : decode cIx_sign 27 = .ok (.return_, 1) := by decide +kernel
theorem mm_278 : (.classLink RIx 9 RItem : Cond) ∈ hwG := hwIx 57 (by decide +kernel) (by decide +kernel)
theorem mm_279 : (.instantiable RItem 2 : Cond) ∈ hwG := hwIx 167 (by decide +kernel) (by decide +kernel)
theorem mm_280 : (.code yItem_init cItem_init 2 none : Cond) ∈ hwG := hwIx 170 (by decide +kernel) (by decide +kernel)
theorem mm_281 : (.methodLink RIx 62 yItem_init : Cond) ∈ hwG := hwIx 168 (by decide +kernel) (by decide +kernel)
theorem mm_282 : (.instanceMethod yItem_init : Cond) ∈ hwG := hwIx 169 (by decide +kernel) (by decide +kernel)
theorem mm_283 : (.fieldLink RIx 67 RIx "fieldSigns" "I" : Cond) ∈ hwG := hwIx 128 (by decide +kernel) (by decide +kernel)
theorem mm_284 : (.code yText_take cText_take 4 none : Cond) ∈ hwG := hwIx 202 (by decide +kernel) (by decide +kernel)
theorem mm_285 : (.methodLink RIx 70 yText_take : Cond) ∈ hwG := hwIx 199 (by decide +kernel) (by decide +kernel)
theorem mm_286 : (.instanceMethod yText_take : Cond) ∈ hwG := hwIx 200 (by decide +kernel) (by decide +kernel)
theorem mm_287 : (.selects RText yText_take yText_take : Cond) ∈ hwG := hwIx 201 (by decide +kernel) (by decide +kernel)
set_option maxHeartbeats 4000000 in
set_option maxRecDepth 100000 in
theorem p_record (l : Launch) (D : va_G) (K : Nat → ClassId) (X : hwW) (sz : Nat) (a : Nat) (its : hwIt) (fs : Nat) (lg : Nat → Nat) (qw : List (List Nat)) (qo : Nat) (qs : Nat) (ss : List (List Nat)) (hs : List (Nat × Nat × Nat)) (f0_ : ixAt K X a its fs lg qw qo qs ss hs) (ok : okS its fs lg qw qo qs ss) : Met l yIx_record (.code yIx_record cIx_record 1 (some .int) :: hwG) ({ frames := 3, cells := 10, slots := 34, locals := 61 } : Room) (hwPc D vwCl (hwT K) [.ref a] X sz) (hwQi D vwCl X sz (fun r Y => r = nI (if its.length < 30 then its.length + 1 else 0) ∧ hwF X Y (fun M => M < 1000) ∧ ixAt K Y a (recP its) fs lg qw qo qs ss hs)) 10 34 (va_A X.1 sz) := by
  refine hwMeti (cc := cIx_record) (maxL := 1) (by decide) rfl (Nat.le_of_ble_eq_true rfl) (fun p e s m args below meth c ls A Q hx hb hml hown hts hname hret hK hO hZ hA hl => ?_)
  have hl : lv_has ls 1 [(0, .ref a)] := hl
  have hFr : hwF X X (fun M => M < 1000) := hwF.rf
  obtain ⟨hni3, hTG, hfs, hlg, hsss, hqG, hq2, hqs⟩ := ok
  have hok := okIt_of hTG hfs
  have hq50 : qw.length ≤ 50 := by split at hq2 <;> omega
  have hne := hqG.1
  obtain ⟨b0, b1, b2, b3, b4, b5, b6, b7, b8, fi, fl, ta, tf, tl, fc, gx, gi, gt, gl, hfl, gq, gs, gh, ga, gf, gk, gc⟩ := f0_
  have hQ2 := fun j => okWs.at (txAt.oks gq) j
  have hQ0 := (hQ2 0).1
  refine lv_aload_n hx hb dIx_record_0 rfl (lv_at hl 0 rfl) ?_
  refine hw_get hx hb hts (hwInn inIx) hown hK hZ gx rfl 1 (by decide) (hts (.fieldLink RIx 58 RIx "itemCount" "I") (hwMem mm_182)) (fun _ h => h) rfl dIx_record_1 ?_
  refine hw_if_lt (a := its.length) (tgt := 19) hx hb dIx_record_4 (by decide) (by omega) (fun cq_1 => by exfalso; omega) (fun cq_1 => ?_)
  refine lv_aload_n hx hb dIx_record_7 rfl (lv_at hl 0 rfl) ?_
  refine hw_get hx hb hts (hwInn inIx) hown hK hZ gx rfl 1 (by decide) (hts (.fieldLink RIx 58 RIx "itemCount" "I") (hwMem mm_182)) (fun _ h => h) rfl dIx_record_8 ?_
  refine lv_aload_n hx hb dIx_record_11 rfl (lv_at hl 0 rfl) ?_
  refine hw_get hx hb hts (hwInn inIx) hown hK hZ gx rfl 0 (by decide) (hts (.fieldLink RIx 11 RIx "items" "[LWordIndex2$Item;") (hwMem mm_183)) (fun _ h => h) rfl dIx_record_12 ?_
  refine hw_alen hx hb hK hZ 4 gi rfl dIx_record_15 ?_
  refine hw_ic_lt (a := its.length) (b := 30) (tgt := 21) hx hb dIx_record_16 (by decide) (by omega) (by omega) (fun cq_2 => ?_) (fun cq_2 => ?_)
  · refine lv_aload_n hx hb dIx_record_21 rfl (lv_at hl 0 rfl) ?_
    refine hw_get hx hb hts (hwInn inIx) hown hK hZ gx rfl 0 (by decide) (hts (.fieldLink RIx 11 RIx "items" "[LWordIndex2$Item;") (hwMem mm_183)) (fun _ h => h) rfl dIx_record_22 ?_
    refine lv_aload_n hx hb dIx_record_25 rfl (lv_at hl 0 rfl) ?_
    refine hw_get hx hb hts (hwInn inIx) hown hK hZ gx rfl 1 (by decide) (hts (.fieldLink RIx 58 RIx "itemCount" "I") (hwMem mm_182)) (fun _ h => h) rfl dIx_record_26 ?_
    refine hw_new (ci := 1) (fs := [.null, .int (nI 0)]) hx hb hts (hwInn inItem) tyItem tyItem_ok hown (hts (.classLink RIx 9 RItem) (hwMem mm_278)) (hts (.instantiable RItem 2) (hwMem mm_279)) (hts (.initialized RItem) (hwMem mm_193)) hK hZ hA rfl (fun j hj => by rcases (show j = 0 ∨ j = 1 by omega) with rfl | rfl <;> rfl) (show 0 + 1 ≤ 10 by omega) (show 0 + 2 ≤ 34 by omega) dIx_record_29 (100 + 20 * its.length) (fun qq_3 X_4 H_5 hZ hF hNw => ?_)
    have hFr := hwF.tr hFr hF (fun _ h => h) (fun M h => by first | exact False.elim h | ((try dsimp only at h ⊢); omega))
    have gx := hF _ _ _ (by intro hNS; first | exact False.elim hNS | ((try dsimp only at hNS); omega)) gx
    have gi := hF _ _ _ (by intro hNS; first | exact False.elim hNS | ((try dsimp only at hNS); omega)) gi
    have gt := itsAt.fr hF (fun M h1 h2 hNS => by first | exact False.elim hNS | ((try dsimp only at hNS); omega)) gt
    have gl := hF _ _ _ (by intro hNS; first | exact False.elim hNS | ((try dsimp only at hNS); omega)) gl
    have gq := txAt.fr hF (by intro hNS; first | exact False.elim hNS | ((try dsimp only at hNS); omega)) (by intro hNS; first | exact False.elim hNS | ((try dsimp only at hNS); omega)) gq
    have gs := seAt.fr hF (by intro hNS; first | exact False.elim hNS | ((try dsimp only at hNS); omega)) (by intro hNS; first | exact False.elim hNS | ((try dsimp only at hNS); omega)) gs
    have gh := hiAt.fr hF (by intro hNS; first | exact False.elim hNS | ((try dsimp only at hNS); omega)) (by intro hNS; first | exact False.elim hNS | ((try dsimp only at hNS); omega)) (by intro hNS; first | exact False.elim hNS | ((try dsimp only at hNS); omega)) (by intro hNS; first | exact False.elim hNS | ((try dsimp only at hNS); omega)) gh
    have ga := tmAt.fr hF (by intro hNS; first | exact False.elim hNS | ((try dsimp only at hNS); omega)) (by intro hNS; first | exact False.elim hNS | ((try dsimp only at hNS); omega)) ga
    have gf := tmAt.fr hF (by intro hNS; first | exact False.elim hNS | ((try dsimp only at hNS); omega)) (by intro hNS; first | exact False.elim hNS | ((try dsimp only at hNS); omega)) gf
    have gk := seAt.fr hF (by intro hNS; first | exact False.elim hNS | ((try dsimp only at hNS); omega)) (by intro hNS; first | exact False.elim hNS | ((try dsimp only at hNS); omega)) gk
    have gc := hF _ _ _ (by intro hNS; first | exact False.elim hNS | ((try dsimp only at hNS); omega)) gc
    have ff_7 := hNw
    refine lv_dup hx hb dIx_record_32 rfl ?_
    refine hw_callv (va_runI (As := []) (rest := [.ref qq_3, .int (nI its.length), .ref b0]) ⟨hx, hb, hml, hown, hts⟩ (c_It_init l D K X_4 H_5.size (a := qq_3) (i := its.length) ff_7) (cwI 0 hts (hwGood (hwAll mm_280)) rfl rfl rfl (hts (.initialized RItem) (hwMem mm_193)) (hts (.methodLink RIx 62 yItem_init) (hwMem mm_281)) (hts (.instanceMethod yItem_init) (hwMem mm_282)) rfl (by decide +kernel) ⟨Nat.le_of_ble_eq_true rfl, Nat.le_of_ble_eq_true rfl⟩) (hw_preS hK hO hZ) rfl rfl hl.1 rfl (lv_room (Nat.le_of_ble_eq_true rfl)) dIx_record_33 ⟨(show 1 + 9 ≤ 10 by omega), (show (0 + 2) + 32 ≤ 34 by omega)⟩) hZ hA (fun X_8 H_9 lc_10 hp hZ => ?_)
    obtain ⟨hF, hN_11⟩ := hp
    have hFr := hwF.tr hFr hF (fun _ h => h) (fun M h => by first | exact False.elim h | ((try dsimp only at h ⊢); omega))
    have gx := hF _ _ _ (by intro hNS; first | exact False.elim hNS | ((try dsimp only at hNS); omega)) gx
    have gi := hF _ _ _ (by intro hNS; first | exact False.elim hNS | ((try dsimp only at hNS); omega)) gi
    have gt := itsAt.fr hF (fun M h1 h2 hNS => by first | exact False.elim hNS | ((try dsimp only at hNS); omega)) gt
    have gl := hF _ _ _ (by intro hNS; first | exact False.elim hNS | ((try dsimp only at hNS); omega)) gl
    have gq := txAt.fr hF (by intro hNS; first | exact False.elim hNS | ((try dsimp only at hNS); omega)) (by intro hNS; first | exact False.elim hNS | ((try dsimp only at hNS); omega)) gq
    have gs := seAt.fr hF (by intro hNS; first | exact False.elim hNS | ((try dsimp only at hNS); omega)) (by intro hNS; first | exact False.elim hNS | ((try dsimp only at hNS); omega)) gs
    have gh := hiAt.fr hF (by intro hNS; first | exact False.elim hNS | ((try dsimp only at hNS); omega)) (by intro hNS; first | exact False.elim hNS | ((try dsimp only at hNS); omega)) (by intro hNS; first | exact False.elim hNS | ((try dsimp only at hNS); omega)) (by intro hNS; first | exact False.elim hNS | ((try dsimp only at hNS); omega)) gh
    have ga := tmAt.fr hF (by intro hNS; first | exact False.elim hNS | ((try dsimp only at hNS); omega)) (by intro hNS; first | exact False.elim hNS | ((try dsimp only at hNS); omega)) ga
    have gf := tmAt.fr hF (by intro hNS; first | exact False.elim hNS | ((try dsimp only at hNS); omega)) (by intro hNS; first | exact False.elim hNS | ((try dsimp only at hNS); omega)) gf
    have gk := seAt.fr hF (by intro hNS; first | exact False.elim hNS | ((try dsimp only at hNS); omega)) (by intro hNS; first | exact False.elim hNS | ((try dsimp only at hNS); omega)) gk
    have gc := hF _ _ _ (by intro hNS; first | exact False.elim hNS | ((try dsimp only at hNS); omega)) gc
    have ff_12 := hN_11
    obtain ⟨_, _, hob⟩ := itAt.ob ff_12
    refine hw_astq hx hb hK hZ 4 1 gi rfl hob rfl (j := its.length) (by omega) (by omega) dIx_record_36 (fun X_13 H_14 lc_15 hZ hF hNw => ?_)
    have hFr := hwF.tr hFr hF (fun _ h => h) (fun M h => by first | exact False.elim h | ((try dsimp only at h ⊢); omega))
    have gx := hF _ _ _ (by intro hNS; first | exact False.elim hNS | ((try dsimp only at hNS); omega)) gx
    have gi := hNw
    have gt := itsAt.fr hF (fun M h1 h2 hNS => by first | exact False.elim hNS | ((try dsimp only at hNS); omega)) gt
    have gl := hF _ _ _ (by intro hNS; first | exact False.elim hNS | ((try dsimp only at hNS); omega)) gl
    have gq := txAt.fr hF (by intro hNS; first | exact False.elim hNS | ((try dsimp only at hNS); omega)) (by intro hNS; first | exact False.elim hNS | ((try dsimp only at hNS); omega)) gq
    have gs := seAt.fr hF (by intro hNS; first | exact False.elim hNS | ((try dsimp only at hNS); omega)) (by intro hNS; first | exact False.elim hNS | ((try dsimp only at hNS); omega)) gs
    have gh := hiAt.fr hF (by intro hNS; first | exact False.elim hNS | ((try dsimp only at hNS); omega)) (by intro hNS; first | exact False.elim hNS | ((try dsimp only at hNS); omega)) (by intro hNS; first | exact False.elim hNS | ((try dsimp only at hNS); omega)) (by intro hNS; first | exact False.elim hNS | ((try dsimp only at hNS); omega)) gh
    have ga := tmAt.fr hF (by intro hNS; first | exact False.elim hNS | ((try dsimp only at hNS); omega)) (by intro hNS; first | exact False.elim hNS | ((try dsimp only at hNS); omega)) ga
    have gf := tmAt.fr hF (by intro hNS; first | exact False.elim hNS | ((try dsimp only at hNS); omega)) (by intro hNS; first | exact False.elim hNS | ((try dsimp only at hNS); omega)) gf
    have gk := seAt.fr hF (by intro hNS; first | exact False.elim hNS | ((try dsimp only at hNS); omega)) (by intro hNS; first | exact False.elim hNS | ((try dsimp only at hNS); omega)) gk
    have gc := hF _ _ _ (by intro hNS; first | exact False.elim hNS | ((try dsimp only at hNS); omega)) gc
    have ff_12 := itAt.fr hF (fun M h1 h2 hNS => by first | exact False.elim hNS | ((try dsimp only at hNS); omega)) ff_12
    refine lv_aload_n hx hb dIx_record_37 rfl (lv_at hl 0 rfl) ?_
    refine lv_dup hx hb dIx_record_38 rfl ?_
    refine hw_get hx hb hts (hwInn inIx) hown hK hZ gx rfl 1 (by decide) (hts (.fieldLink RIx 58 RIx "itemCount" "I") (hwMem mm_182)) (fun _ h => h) rfl dIx_record_39 ?_
    refine lv_iconst (v := nI 1) hx hb dIx_record_42 (by decide) ?_
    refine lv_iadd hx hb dIx_record_43 ?_
    refine hw_topi (nI_add its.length 1) ?_
    refine hw_put (ty := .int) (fs' := [.ref b0, .int (nI (its.length + 1)), .int (nI fs), .ref b1, .ref b2, .int (nI qs), .ref b3, .ref b4, .ref b5, .ref b6, .ref b7, .ref b8]) hx hb hts (hwInn inIx) tyIx tyIx_ok nmIx hown hK hZ gx rfl 1 (by decide) (hts (.fieldLink RIx 58 RIx "itemCount" "I") (hwMem mm_182)) (fun _ h => h) rfl (by decide +kernel) rfl rfl (Nat.le_of_ble_eq_true rfl) rfl dIx_record_44 (fun X_16 H_17 lc_18 hZ hF hNw => ?_)
    have hFr := hwF.tr hFr hF (fun _ h => h) (fun M h => by first | exact False.elim h | ((try dsimp only at h ⊢); omega))
    have gx := hNw
    have gi := hF _ _ _ (by intro hNS; first | exact False.elim hNS | ((try dsimp only at hNS); omega)) gi
    have gt := itsAt.fr hF (fun M h1 h2 hNS => by first | exact False.elim hNS | ((try dsimp only at hNS); omega)) gt
    have gl := hF _ _ _ (by intro hNS; first | exact False.elim hNS | ((try dsimp only at hNS); omega)) gl
    have gq := txAt.fr hF (by intro hNS; first | exact False.elim hNS | ((try dsimp only at hNS); omega)) (by intro hNS; first | exact False.elim hNS | ((try dsimp only at hNS); omega)) gq
    have gs := seAt.fr hF (by intro hNS; first | exact False.elim hNS | ((try dsimp only at hNS); omega)) (by intro hNS; first | exact False.elim hNS | ((try dsimp only at hNS); omega)) gs
    have gh := hiAt.fr hF (by intro hNS; first | exact False.elim hNS | ((try dsimp only at hNS); omega)) (by intro hNS; first | exact False.elim hNS | ((try dsimp only at hNS); omega)) (by intro hNS; first | exact False.elim hNS | ((try dsimp only at hNS); omega)) (by intro hNS; first | exact False.elim hNS | ((try dsimp only at hNS); omega)) gh
    have ga := tmAt.fr hF (by intro hNS; first | exact False.elim hNS | ((try dsimp only at hNS); omega)) (by intro hNS; first | exact False.elim hNS | ((try dsimp only at hNS); omega)) ga
    have gf := tmAt.fr hF (by intro hNS; first | exact False.elim hNS | ((try dsimp only at hNS); omega)) (by intro hNS; first | exact False.elim hNS | ((try dsimp only at hNS); omega)) gf
    have gk := seAt.fr hF (by intro hNS; first | exact False.elim hNS | ((try dsimp only at hNS); omega)) (by intro hNS; first | exact False.elim hNS | ((try dsimp only at hNS); omega)) gk
    have gc := hF _ _ _ (by intro hNS; first | exact False.elim hNS | ((try dsimp only at hNS); omega)) gc
    have ff_12 := itAt.fr hF (fun M h1 h2 hNS => by first | exact False.elim hNS | ((try dsimp only at hNS); omega)) ff_12
    refine lv_aload_n hx hb dIx_record_47 rfl (lv_at hl 0 rfl) ?_
    refine hw_get hx hb hts (hwInn inIx) hown hK hZ gx rfl 1 (by decide) (hts (.fieldLink RIx 58 RIx "itemCount" "I") (hwMem mm_182)) (fun _ h => h) rfl dIx_record_48 ?_
    refine W.widen (k := 10) (n := 34) (by omega) (by omega) ?_
    exact hret hZ (by unfold recP; rw [if_pos (by omega), if_pos (by omega)]; exact ⟨rfl, hFr, ⟨_, _, _, _, _, _, _, _, _, _, _, _, _, _, _, (by rw [List.length_append]; exact gx), gi, (itsAt.push gt (v := (true, fun _ => ([], 0))) ff_12), gl, hfl, gq, gs, gh, ga, gf, gk, gc⟩⟩) dIx_record_51
  · refine lv_iconst (v := nI 0) hx hb dIx_record_19 (by decide) ?_
    refine W.widen (k := 10) (n := 34) (by omega) (by omega) ?_
    exact hret hZ (by unfold recP; rw [if_neg (by omega), if_neg (by omega)]; exact ⟨rfl, hFr, ⟨_, _, _, _, _, _, _, _, _, _, _, _, _, _, _, gx, gi, gt, gl, hfl, gq, gs, gh, ga, gf, gk, gc⟩⟩) dIx_record_20
set_option maxHeartbeats 4000000 in
set_option maxRecDepth 100000 in
theorem p_field (l : Launch) (D : va_G) (K : Nat → ClassId) (X : hwW) (sz : Nat) (a : Nat) (its : hwIt) (fs : Nat) (lg : Nat → Nat) (qw : List (List Nat)) (qo : Nat) (qs : Nat) (ss : List (List Nat)) (hs : List (Nat × Nat × Nat)) (rr : Int32) (kk : Int32) (cc0 : Int32) (f0_ : ixAt K X a its fs lg qw qo qs ss hs) (ok : okS its fs lg qw qo qs ss) : Met l yIx_field (.code yIx_field cIx_field 5 none :: hwG) ({ frames := 4, cells := 1, slots := 1300, locals := 91 } : Room) (hwPc D vwCl (hwT K) [.ref a, .int rr, .int kk, .int cc0] X sz) (hwQv D vwCl X sz (fun Y => hwF X Y (fun M => M < 1000) ∧ ixAt K Y a (fldP its fs rr kk cc0).1 (fldP its fs rr kk cc0).2 lg qw qo qs ss hs)) 1 1300 (va_A X.1 sz) := by
  refine hwMetv (cc := cIx_field) (maxL := 5) (by decide) rfl (Nat.le_of_ble_eq_true rfl) (fun p e s m args below meth c ls A Q hx hb hml hown hts hname hret hK hO hZ hA hl => ?_)
  have hl : lv_has ls 5 [(0, .ref a), (1, .int rr), (2, .int kk), (3, .int cc0)] := hl
  have hFr : hwF X X (fun M => M < 1000) := hwF.rf
  obtain ⟨hni3, hTG, hfs, hlg, hsss, hqG, hq2, hqs⟩ := ok
  have hok := okIt_of hTG hfs
  have hq50 : qw.length ≤ 50 := by split at hq2 <;> omega
  have hne := hqG.1
  obtain ⟨b0, b1, b2, b3, b4, b5, b6, b7, b8, fi, fl, ta, tf, tl, fc, gx, gi, gt, gl, hfl, gq, gs, gh, ga, gf, gk, gc⟩ := f0_
  have hQ2 := fun j => okWs.at (txAt.oks gq) j
  have hQ0 := (hQ2 0).1
  rcases rN_cases its.length (by omega) rr with hx9 | ⟨n, hn1, hn2, rfl⟩
  · refine lv_aload_n hx hb dIx_field_0 rfl (lv_at hl 0 rfl) ?_
    refine lv_iload_n hx hb dIx_field_1 rfl (lv_at hl 1 rfl) ?_
    refine lv_iload_n hx hb dIx_field_2 rfl (lv_at hl 2 rfl) ?_
    refine hw_callq (va_runV (As := [.int rr, .int kk]) (rest := []) ⟨hx, hb, hml, hown, hts⟩ (c_Ix_textB l D K X s.heap.size (a := a) (b0 := b0) (b1 := b1) (b2 := b2) (b3 := b3) (b4 := b4) (b5 := b5) (b6 := b6) (b7 := b7) (b8 := b8) (ni := its.length) (fs := fs) (qs := qs) (fi := fi) (x := rr) (kind := kk) gx gi (by omega) (by assumption)) (cwV 2 hts (hwGood (hw_4 mm_201 mm_202 mm_203 mm_188 (hwAll mm_200))) rfl rfl rfl (by decide +kernel) ⟨Nat.le_of_ble_eq_true rfl, Nat.le_of_ble_eq_true rfl⟩) (hw_preV hK hO hZ (⟨_, _, gx⟩) rfl) rfl rfl hl.1 rfl (lv_room (Nat.le_of_ble_eq_true rfl)) dIx_field_3 ⟨(show 0 + 0 ≤ 1 by omega), (show 0 + 0 ≤ 1300 by omega)⟩) hZ hA (fun r X_1 H_2 lc_3 hp hZ => ?_)
    obtain ⟨hr, hy⟩ := hp
    subst hy
    refine hw_top (y := .null) (by rw [hr]; rfl) ?_
    refine lv_astoreN (lv' := [(4, .null), (0, .ref a), (1, .int rr), (2, .int kk), (3, .int cc0)]) hx hb dIx_field_6 hl (by decide) rfl (fun ls hl => ?_)
    refine lv_aloadN hx hb dIx_field_8 (lv_at hl 0 rfl) ?_
    refine lv_ifnullN (tgt := 23) hx hb dIx_field_10 (by decide) ?_
    refine W.widen (k := 1) (n := 1300) (by omega) (by omega) ?_
    exact hret hZ (by rw [fldP_r (rN_bad (by omega) hx9)]; exact ⟨hFr, ⟨_, _, _, _, _, _, _, _, _, _, _, _, _, _, _, gx, gi, gt, gl, hfl, gq, gs, gh, ga, gf, gk, gc⟩⟩) dIx_field_23
  · cases hth : (its.getD (n - 1) hwIt0).1
    · have hpi := itsAt.pi gt (i := n - 1) (by omega)
      rw [hth] at hpi
      refine lv_aload_n hx hb dIx_field_0 rfl (lv_at hl 0 rfl) ?_
      refine lv_iload_n hx hb dIx_field_1 rfl (lv_at hl 1 rfl) ?_
      refine lv_iload_n hx hb dIx_field_2 rfl (lv_at hl 2 rfl) ?_
      refine hw_callq (va_runV (As := [.int (nI n), .int kk]) (rest := []) ⟨hx, hb, hml, hown, hts⟩ (c_Ix_textF l D K X s.heap.size (a := a) (b0 := b0) (b1 := b1) (b2 := b2) (b3 := b3) (b4 := b4) (b5 := b5) (b6 := b6) (b7 := b7) (b8 := b8) (ni := its.length) (fs := fs) (qs := qs) (fi := fi) (n := n) (kind := kk) (th := false) gx gi (by omega) (by omega) (by omega) (by assumption) rfl) (cwV 2 hts (hwGood (hw_4 mm_201 mm_202 mm_203 mm_188 (hwAll mm_200))) rfl rfl rfl (by decide +kernel) ⟨Nat.le_of_ble_eq_true rfl, Nat.le_of_ble_eq_true rfl⟩) (hw_preV hK hO hZ (⟨_, _, gx⟩) rfl) rfl rfl hl.1 rfl (lv_room (Nat.le_of_ble_eq_true rfl)) dIx_field_3 ⟨(show 0 + 0 ≤ 1 by omega), (show 0 + 0 ≤ 1300 by omega)⟩) hZ hA (fun r X_4 H_5 lc_6 hp hZ => ?_)
      obtain ⟨hr, hy⟩ := hp
      subst hy
      refine hw_top (y := .null) (by rw [hr]; rfl) ?_
      refine lv_astoreN (lv' := [(4, .null), (0, .ref a), (1, .int (nI n)), (2, .int kk), (3, .int cc0)]) hx hb dIx_field_6 hl (by decide) rfl (fun ls hl => ?_)
      refine lv_aloadN hx hb dIx_field_8 (lv_at hl 0 rfl) ?_
      refine lv_ifnullN (tgt := 23) hx hb dIx_field_10 (by decide) ?_
      refine W.widen (k := 1) (n := 1300) (by omega) (by omega) ?_
      exact hret hZ (by rw [fldP_g (rN_nI hn1 hn2 (by omega)) hth]; exact ⟨hFr, ⟨_, _, _, _, _, _, _, _, _, _, _, _, _, _, _, gx, gi, gt, gl, hfl, gq, gs, gh, ga, gf, gk, gc⟩⟩) dIx_field_23
    · rcases kN_cases kk with hk | ⟨j, hj, rfl⟩
      · obtain ⟨t, hpt, htx⟩ := itsAt.pt gt (i := n - 1) (j := 0) (by omega) (by omega)
        rw [hth] at hpt
        refine lv_aload_n hx hb dIx_field_0 rfl (lv_at hl 0 rfl) ?_
        refine lv_iload_n hx hb dIx_field_1 rfl (lv_at hl 1 rfl) ?_
        refine lv_iload_n hx hb dIx_field_2 rfl (lv_at hl 2 rfl) ?_
        refine hw_callq (va_runV (As := [.int (nI n), .int kk]) (rest := []) ⟨hx, hb, hml, hown, hts⟩ (c_Ix_textK l D K X s.heap.size (a := a) (b0 := b0) (b1 := b1) (b2 := b2) (b3 := b3) (b4 := b4) (b5 := b5) (b6 := b6) (b7 := b7) (b8 := b8) (ni := its.length) (fs := fs) (qs := qs) (fi := fi) (n := n) (kind := kk) (th := true) (t := t) gx gi (by omega) (by omega) (by omega) (by assumption) rfl (by assumption)) (cwV 2 hts (hwGood (hw_4 mm_201 mm_202 mm_203 mm_188 (hwAll mm_200))) rfl rfl rfl (by decide +kernel) ⟨Nat.le_of_ble_eq_true rfl, Nat.le_of_ble_eq_true rfl⟩) (hw_preV hK hO hZ (⟨_, _, gx⟩) rfl) rfl rfl hl.1 rfl (lv_room (Nat.le_of_ble_eq_true rfl)) dIx_field_3 ⟨(show 0 + 0 ≤ 1 by omega), (show 0 + 0 ≤ 1300 by omega)⟩) hZ hA (fun r X_7 H_8 lc_9 hp hZ => ?_)
        obtain ⟨hr, hy⟩ := hp
        subst hy
        refine hw_top (y := .null) (by rw [hr]; rfl) ?_
        refine lv_astoreN (lv' := [(4, .null), (0, .ref a), (1, .int (nI n)), (2, .int kk), (3, .int cc0)]) hx hb dIx_field_6 hl (by decide) rfl (fun ls hl => ?_)
        refine lv_aloadN hx hb dIx_field_8 (lv_at hl 0 rfl) ?_
        refine lv_ifnullN (tgt := 23) hx hb dIx_field_10 (by decide) ?_
        refine W.widen (k := 1) (n := 1300) (by omega) (by omega) ?_
        exact hret hZ (by rw [fldP_k (kN_bad hk)]; exact ⟨hFr, ⟨_, _, _, _, _, _, _, _, _, _, _, _, _, _, _, gx, gi, gt, gl, hfl, gq, gs, gh, ga, gf, gk, gc⟩⟩) dIx_field_23
      · obtain ⟨t, hpt, htx⟩ := itsAt.pt gt (i := n - 1) (j := j) (by omega) (by omega)
        rw [hth] at hpt
        refine lv_aload_n hx hb dIx_field_0 rfl (lv_at hl 0 rfl) ?_
        refine lv_iload_n hx hb dIx_field_1 rfl (lv_at hl 1 rfl) ?_
        refine lv_iload_n hx hb dIx_field_2 rfl (lv_at hl 2 rfl) ?_
        refine hw_callq (va_runV (As := [.int (nI n), .int (nI j)]) (rest := []) ⟨hx, hb, hml, hown, hts⟩ (c_Ix_text l D K X s.heap.size (a := a) (b0 := b0) (b1 := b1) (b2 := b2) (b3 := b3) (b4 := b4) (b5 := b5) (b6 := b6) (b7 := b7) (b8 := b8) (ni := its.length) (fs := fs) (qs := qs) (fi := fi) (n := n) (j := j) (th := true) (t := t) gx gi (by omega) (by omega) (by omega) (by omega) (by assumption) rfl) (cwV 2 hts (hwGood (hw_4 mm_201 mm_202 mm_203 mm_188 (hwAll mm_200))) rfl rfl rfl (by decide +kernel) ⟨Nat.le_of_ble_eq_true rfl, Nat.le_of_ble_eq_true rfl⟩) (hw_preV hK hO hZ (⟨_, _, gx⟩) rfl) rfl rfl hl.1 rfl (lv_room (Nat.le_of_ble_eq_true rfl)) dIx_field_3 ⟨(show 0 + 0 ≤ 1 by omega), (show 0 + 0 ≤ 1300 by omega)⟩) hZ hA (fun r X_10 H_11 lc_12 hp hZ => ?_)
        obtain ⟨hr, hy⟩ := hp
        subst hy
        refine hw_top (y := .ref t) (by rw [hr]; rfl) ?_
        refine lv_astore (lv' := [(4, .ref t), (0, .ref a), (1, .int (nI n)), (2, .int (nI j)), (3, .int cc0)]) hx hb dIx_field_6 hl (by decide) rfl (fun ls hl => ?_)
        refine lv_aload hx hb dIx_field_8 (lv_at hl 0 rfl) ?_
        refine lv_ifnull hx hb dIx_field_10 ?_
        refine lv_aload_n hx hb dIx_field_13 rfl (lv_at hl 1 rfl) ?_
        refine hw_get hx hb hts (hwInn inIx) hown hK hZ gx rfl 2 (by decide) (hts (.fieldLink RIx 67 RIx "fieldSigns" "I") (hwMem mm_283)) (fun _ h => h) rfl dIx_field_14 ?_
        refine lv_sipush (v := nI 1500) hx hb dIx_field_17 (by decide) ?_
        refine hw_ic_lt (a := fs) (b := 1500) (tgt := 24) hx hb dIx_field_20 (by decide) (by omega) (by omega) (fun cq_13 => ?_) (fun cq_13 => by exfalso; omega)
        have hZ0 := hZ
        have hgt0 := gt
        refine lv_aload hx hb dIx_field_24 (lv_at hl 0 rfl) ?_
        refine lv_iload_n hx hb dIx_field_26 rfl (lv_at hl 4 rfl) ?_
        refine hw_callv (va_runV (As := [.int cc0]) (rest := []) ⟨hx, hb, hml, hown, hts⟩ (c_Tx_take l D K X H_11.size (a := t) (k := 55 + 10 * (n - 1) + j) (ws := ((its.getD (n - 1) hwIt0).2 j).1) (o := ((its.getD (n - 1) hwIt0).2 j).2) (c0 := cc0) htx (Nat.le_trans (hTG (n - 1) j).2 hfs) (hTG (n - 1) j).1) (cwV 1 hts (hwGood (hw_4 mm_285 mm_286 mm_287 mm_45 (hwAll mm_284))) rfl rfl rfl (by decide +kernel) ⟨Nat.le_of_ble_eq_true rfl, Nat.le_of_ble_eq_true rfl⟩) (hw_preV hK hO hZ (txAt.ob htx) rfl) rfl rfl hl.1 rfl (lv_room (Nat.le_of_ble_eq_true rfl)) dIx_field_27 ⟨(show 0 + 1 ≤ 1 by omega), (show 0 + 1300 ≤ 1300 by omega)⟩) hZ hA (fun X_14 H_15 lc_16 hp hZ => ?_)
        obtain ⟨hF, hN_17⟩ := hp
        have hFr := hwF.tr hFr hF (fun _ h => h) (fun M h => by first | exact False.elim h | ((try dsimp only at h ⊢); omega))
        have gx := hF _ _ _ (by intro hNS; first | exact False.elim hNS | ((try dsimp only at hNS); omega)) gx
        have gi := hF _ _ _ (by intro hNS; first | exact False.elim hNS | ((try dsimp only at hNS); omega)) gi
        have gl := hF _ _ _ (by intro hNS; first | exact False.elim hNS | ((try dsimp only at hNS); omega)) gl
        have gq := txAt.fr hF (by intro hNS; first | exact False.elim hNS | ((try dsimp only at hNS); omega)) (by intro hNS; first | exact False.elim hNS | ((try dsimp only at hNS); omega)) gq
        have gs := seAt.fr hF (by intro hNS; first | exact False.elim hNS | ((try dsimp only at hNS); omega)) (by intro hNS; first | exact False.elim hNS | ((try dsimp only at hNS); omega)) gs
        have gh := hiAt.fr hF (by intro hNS; first | exact False.elim hNS | ((try dsimp only at hNS); omega)) (by intro hNS; first | exact False.elim hNS | ((try dsimp only at hNS); omega)) (by intro hNS; first | exact False.elim hNS | ((try dsimp only at hNS); omega)) (by intro hNS; first | exact False.elim hNS | ((try dsimp only at hNS); omega)) gh
        have ga := tmAt.fr hF (by intro hNS; first | exact False.elim hNS | ((try dsimp only at hNS); omega)) (by intro hNS; first | exact False.elim hNS | ((try dsimp only at hNS); omega)) ga
        have gf := tmAt.fr hF (by intro hNS; first | exact False.elim hNS | ((try dsimp only at hNS); omega)) (by intro hNS; first | exact False.elim hNS | ((try dsimp only at hNS); omega)) gf
        have gk := seAt.fr hF (by intro hNS; first | exact False.elim hNS | ((try dsimp only at hNS); omega)) (by intro hNS; first | exact False.elim hNS | ((try dsimp only at hNS); omega)) gk
        have gc := hF _ _ _ (by intro hNS; first | exact False.elim hNS | ((try dsimp only at hNS); omega)) gc
        have ff_18 := hN_17
        have gt := itsAt.upd hZ0 hgt0 (by omega) hj hpt hF ff_18
        refine lv_aload_n hx hb dIx_field_30 rfl (lv_at hl 1 rfl) ?_
        refine lv_dup hx hb dIx_field_31 rfl ?_
        refine hw_get hx hb hts (hwInn inIx) hown hK hZ gx rfl 2 (by decide) (hts (.fieldLink RIx 67 RIx "fieldSigns" "I") (hwMem mm_283)) (fun _ h => h) rfl dIx_field_32 ?_
        refine lv_iconst (v := nI 1) hx hb dIx_field_35 (by decide) ?_
        refine lv_iadd hx hb dIx_field_36 ?_
        refine hw_topi (nI_add fs 1) ?_
        refine hw_put (ty := .int) (fs' := [.ref b0, .int (nI its.length), .int (nI (fs + 1)), .ref b1, .ref b2, .int (nI qs), .ref b3, .ref b4, .ref b5, .ref b6, .ref b7, .ref b8]) hx hb hts (hwInn inIx) tyIx tyIx_ok nmIx hown hK hZ gx rfl 2 (by decide) (hts (.fieldLink RIx 67 RIx "fieldSigns" "I") (hwMem mm_283)) (fun _ h => h) rfl (by decide +kernel) rfl rfl (Nat.le_of_ble_eq_true rfl) rfl dIx_field_37 (fun X_19 H_20 lc_21 hZ hF hNw => ?_)
        have hFr := hwF.tr hFr hF (fun _ h => h) (fun M h => by first | exact False.elim h | ((try dsimp only at h ⊢); omega))
        have gx := hNw
        have gi := hF _ _ _ (by intro hNS; first | exact False.elim hNS | ((try dsimp only at hNS); omega)) gi
        have gl := hF _ _ _ (by intro hNS; first | exact False.elim hNS | ((try dsimp only at hNS); omega)) gl
        have gq := txAt.fr hF (by intro hNS; first | exact False.elim hNS | ((try dsimp only at hNS); omega)) (by intro hNS; first | exact False.elim hNS | ((try dsimp only at hNS); omega)) gq
        have gs := seAt.fr hF (by intro hNS; first | exact False.elim hNS | ((try dsimp only at hNS); omega)) (by intro hNS; first | exact False.elim hNS | ((try dsimp only at hNS); omega)) gs
        have gh := hiAt.fr hF (by intro hNS; first | exact False.elim hNS | ((try dsimp only at hNS); omega)) (by intro hNS; first | exact False.elim hNS | ((try dsimp only at hNS); omega)) (by intro hNS; first | exact False.elim hNS | ((try dsimp only at hNS); omega)) (by intro hNS; first | exact False.elim hNS | ((try dsimp only at hNS); omega)) gh
        have ga := tmAt.fr hF (by intro hNS; first | exact False.elim hNS | ((try dsimp only at hNS); omega)) (by intro hNS; first | exact False.elim hNS | ((try dsimp only at hNS); omega)) ga
        have gf := tmAt.fr hF (by intro hNS; first | exact False.elim hNS | ((try dsimp only at hNS); omega)) (by intro hNS; first | exact False.elim hNS | ((try dsimp only at hNS); omega)) gf
        have gk := seAt.fr hF (by intro hNS; first | exact False.elim hNS | ((try dsimp only at hNS); omega)) (by intro hNS; first | exact False.elim hNS | ((try dsimp only at hNS); omega)) gk
        have gc := hF _ _ _ (by intro hNS; first | exact False.elim hNS | ((try dsimp only at hNS); omega)) gc
        have gt := itsAt.fr hF (fun M h1 h2 hNS => by first | exact False.elim hNS | ((try dsimp only at hNS); omega)) gt
        refine W.widen (k := 1) (n := 1300) (by omega) (by omega) ?_
        exact hret hZ (by rw [fldP_y (rN_nI hn1 hn2 (by omega)) (kN_nI hj) hth]; exact ⟨hFr, ⟨_, _, _, _, _, _, _, _, _, _, _, _, _, _, _, (by rw [List.length_set]; exact gx), gi, gt, gl, hfl, gq, gs, gh, ga, gf, gk, gc⟩⟩) dIx_field_40
set_option maxHeartbeats 4000000 in
set_option maxRecDepth 100000 in
theorem p_remove (l : Launch) (D : va_G) (K : Nat → ClassId) (X : hwW) (sz : Nat) (a : Nat) (its : hwIt) (fs : Nat) (lg : Nat → Nat) (qw : List (List Nat)) (qo : Nat) (qs : Nat) (ss : List (List Nat)) (hs : List (Nat × Nat × Nat)) (rr : Int32) (f0_ : ixAt K X a its fs lg qw qo qs ss hs) (ok : okS its fs lg qw qo qs ss) : Met l yIx_remove (.code yIx_remove cIx_remove 3 (some .int) :: hwG) ({ frames := 1, cells := 0, slots := 0, locals := 22 } : Room) (hwPc D vwCl (hwT K) [.ref a, .int rr] X sz) (hwQi D vwCl X sz (fun r Y => r = nI (remP its rr).2 ∧ hwF X Y (fun M => M < 1000) ∧ ixAt K Y a (remP its rr).1 fs lg qw qo qs ss hs)) 0 0 (va_A X.1 sz) := by
  refine hwMeti (cc := cIx_remove) (maxL := 3) (by decide) rfl (Nat.le_of_ble_eq_true rfl) (fun p e s m args below meth c ls A Q hx hb hml hown hts hname hret hK hO hZ hA hl => ?_)
  have hl : lv_has ls 3 [(0, .ref a), (1, .int rr)] := hl
  have hFr : hwF X X (fun M => M < 1000) := hwF.rf
  obtain ⟨hni3, hTG, hfs, hlg, hsss, hqG, hq2, hqs⟩ := ok
  have hok := okIt_of hTG hfs
  have hq50 : qw.length ≤ 50 := by split at hq2 <;> omega
  have hne := hqG.1
  obtain ⟨b0, b1, b2, b3, b4, b5, b6, b7, b8, fi, fl, ta, tf, tl, fc, gx, gi, gt, gl, hfl, gq, gs, gh, ga, gf, gk, gc⟩ := f0_
  have hQ2 := fun j => okWs.at (txAt.oks gq) j
  have hQ0 := (hQ2 0).1
  rcases rN_cases its.length (by omega) rr with hx9 | ⟨n, hn1, hn2, rfl⟩
  · refine lv_aload_n hx hb dIx_remove_0 rfl (lv_at hl 0 rfl) ?_
    refine lv_iload_n hx hb dIx_remove_1 rfl (lv_at hl 1 rfl) ?_
    refine hw_callq (va_runV (As := [.int rr]) (rest := []) ⟨hx, hb, hml, hown, hts⟩ (c_Ix_thereB l D K X s.heap.size (a := a) (b0 := b0) (b1 := b1) (b2 := b2) (b3 := b3) (b4 := b4) (b5 := b5) (b6 := b6) (b7 := b7) (b8 := b8) (ni := its.length) (fs := fs) (qs := qs) (fi := fi) (x := rr) gx gi (by omega) (by assumption)) (cwV 1 hts (hwGood (hw_4 mm_185 mm_186 mm_187 mm_188 (hwAll mm_184))) rfl rfl rfl (by decide +kernel) ⟨Nat.le_of_ble_eq_true rfl, Nat.le_of_ble_eq_true rfl⟩) (hw_preV hK hO hZ (⟨_, _, gx⟩) rfl) rfl rfl hl.1 rfl (lv_room (Nat.le_of_ble_eq_true rfl)) dIx_remove_2 ⟨(show 0 + 0 ≤ 0 by omega), (show 0 + 0 ≤ 0 by omega)⟩) hZ hA (fun r X_1 H_2 lc_3 hp hZ => ?_)
    obtain ⟨hr, hy⟩ := hp
    subst hy
    refine hw_top (y := .null) (by rw [hr]; rfl) ?_
    refine lv_astore_nN (lv' := [(2, .null), (0, .ref a), (1, .int rr)]) hx hb dIx_remove_5 rfl hl (by decide) rfl (fun ls hl => ?_)
    refine lv_aload_nN hx hb dIx_remove_6 rfl (lv_at hl 0 rfl) ?_
    refine lv_ifnonnullN hx hb dIx_remove_7 ?_
    refine lv_iconst (v := nI 0) hx hb dIx_remove_10 (by decide) ?_
    exact hret hZ (by rw [remP_r (rN_bad (by omega) hx9)]; exact ⟨rfl, hFr, ⟨_, _, _, _, _, _, _, _, _, _, _, _, _, _, _, gx, gi, gt, gl, hfl, gq, gs, gh, ga, gf, gk, gc⟩⟩) dIx_remove_11
  · obtain ⟨b, hfb, q, f, gb, gq2, hg2⟩ := gt (n - 1) (by omega)
    cases hth : (its.getD (n - 1) hwIt0).1
    · rw [hth] at gb
      refine lv_aload_n hx hb dIx_remove_0 rfl (lv_at hl 0 rfl) ?_
      refine lv_iload_n hx hb dIx_remove_1 rfl (lv_at hl 1 rfl) ?_
      refine hw_callq (va_runV (As := [.int (nI n)]) (rest := []) ⟨hx, hb, hml, hown, hts⟩ (c_Ix_thereF l D K X s.heap.size (a := a) (b0 := b0) (b1 := b1) (b2 := b2) (b3 := b3) (b4 := b4) (b5 := b5) (b6 := b6) (b7 := b7) (b8 := b8) (ni := its.length) (fs := fs) (qs := qs) (fi := fi) (n := n) (th := false) (b := b) (q := q) gx gi gb (by omega) (by omega) (by omega) (by assumption) rfl) (cwV 1 hts (hwGood (hw_4 mm_185 mm_186 mm_187 mm_188 (hwAll mm_184))) rfl rfl rfl (by decide +kernel) ⟨Nat.le_of_ble_eq_true rfl, Nat.le_of_ble_eq_true rfl⟩) (hw_preV hK hO hZ (⟨_, _, gx⟩) rfl) rfl rfl hl.1 rfl (lv_room (Nat.le_of_ble_eq_true rfl)) dIx_remove_2 ⟨(show 0 + 0 ≤ 0 by omega), (show 0 + 0 ≤ 0 by omega)⟩) hZ hA (fun r X_4 H_5 lc_6 hp hZ => ?_)
      obtain ⟨hr, hy⟩ := hp
      subst hy
      refine hw_top (y := .null) (by rw [hr]; rfl) ?_
      refine lv_astore_nN (lv' := [(2, .null), (0, .ref a), (1, .int (nI n))]) hx hb dIx_remove_5 rfl hl (by decide) rfl (fun ls hl => ?_)
      refine lv_aload_nN hx hb dIx_remove_6 rfl (lv_at hl 0 rfl) ?_
      refine lv_ifnonnullN hx hb dIx_remove_7 ?_
      refine lv_iconst (v := nI 0) hx hb dIx_remove_10 (by decide) ?_
      exact hret hZ (by rw [remP_g (rN_nI hn1 hn2 (by omega)) hth]; exact ⟨rfl, hFr, ⟨_, _, _, _, _, _, _, _, _, _, _, _, _, _, _, gx, gi, gt, gl, hfl, gq, gs, gh, ga, gf, gk, gc⟩⟩) dIx_remove_11
    · rw [hth] at gb
      refine lv_aload_n hx hb dIx_remove_0 rfl (lv_at hl 0 rfl) ?_
      refine lv_iload_n hx hb dIx_remove_1 rfl (lv_at hl 1 rfl) ?_
      refine hw_callq (va_runV (As := [.int (nI n)]) (rest := []) ⟨hx, hb, hml, hown, hts⟩ (c_Ix_there l D K X s.heap.size (a := a) (b0 := b0) (b1 := b1) (b2 := b2) (b3 := b3) (b4 := b4) (b5 := b5) (b6 := b6) (b7 := b7) (b8 := b8) (ni := its.length) (fs := fs) (qs := qs) (fi := fi) (n := n) (th := true) (b := b) (q := q) gx gi gb (by omega) (by omega) (by omega) (by assumption) rfl) (cwV 1 hts (hwGood (hw_4 mm_185 mm_186 mm_187 mm_188 (hwAll mm_184))) rfl rfl rfl (by decide +kernel) ⟨Nat.le_of_ble_eq_true rfl, Nat.le_of_ble_eq_true rfl⟩) (hw_preV hK hO hZ (⟨_, _, gx⟩) rfl) rfl rfl hl.1 rfl (lv_room (Nat.le_of_ble_eq_true rfl)) dIx_remove_2 ⟨(show 0 + 0 ≤ 0 by omega), (show 0 + 0 ≤ 0 by omega)⟩) hZ hA (fun r X_7 H_8 lc_9 hp hZ => ?_)
      obtain ⟨hr, hy⟩ := hp
      subst hy
      refine hw_top (y := .ref b) (by rw [hr]; rfl) ?_
      refine lv_astore_n (lv' := [(2, .ref b), (0, .ref a), (1, .int (nI n))]) hx hb dIx_remove_5 rfl hl (by decide) rfl (fun ls hl => ?_)
      refine lv_aload_n hx hb dIx_remove_6 rfl (lv_at hl 0 rfl) ?_
      refine lv_ifnonnull (tgt := 12) hx hb dIx_remove_7 (by decide) ?_
      have hgt0 := gt
      refine lv_aload_n hx hb dIx_remove_12 rfl (lv_at hl 0 rfl) ?_
      refine lv_iconst (v := nI 0) hx hb dIx_remove_13 (by decide) ?_
      refine hw_putN (ty := .boolean) (fs' := [.ref q, .int (nI 0)]) hx hb hts (hwInn inItem) tyItem tyItem_ok nmItem hown hK hZ gb rfl 1 (by decide) (hO.2 _ (List.mem_of_getElem? (i := 3) rfl)) (fun _ h => h) rfl (by decide +kernel) (by decide) (by decide) (Nat.le_of_ble_eq_true rfl) rfl dIx_remove_14 (fun X_10 H_11 lc_12 hZ hF hNw => ?_)
      have hFr := hwF.tr hFr hF (fun _ h => h) (fun M h => by first | exact False.elim h | ((try dsimp only at h ⊢); omega))
      have gx := hF _ _ _ (by intro hNS; first | exact False.elim hNS | ((try dsimp only at hNS); omega)) gx
      have gi := hF _ _ _ (by intro hNS; first | exact False.elim hNS | ((try dsimp only at hNS); omega)) gi
      have gl := hF _ _ _ (by intro hNS; first | exact False.elim hNS | ((try dsimp only at hNS); omega)) gl
      have gq := txAt.fr hF (by intro hNS; first | exact False.elim hNS | ((try dsimp only at hNS); omega)) (by intro hNS; first | exact False.elim hNS | ((try dsimp only at hNS); omega)) gq
      have gs := seAt.fr hF (by intro hNS; first | exact False.elim hNS | ((try dsimp only at hNS); omega)) (by intro hNS; first | exact False.elim hNS | ((try dsimp only at hNS); omega)) gs
      have gh := hiAt.fr hF (by intro hNS; first | exact False.elim hNS | ((try dsimp only at hNS); omega)) (by intro hNS; first | exact False.elim hNS | ((try dsimp only at hNS); omega)) (by intro hNS; first | exact False.elim hNS | ((try dsimp only at hNS); omega)) (by intro hNS; first | exact False.elim hNS | ((try dsimp only at hNS); omega)) gh
      have ga := tmAt.fr hF (by intro hNS; first | exact False.elim hNS | ((try dsimp only at hNS); omega)) (by intro hNS; first | exact False.elim hNS | ((try dsimp only at hNS); omega)) ga
      have gf := tmAt.fr hF (by intro hNS; first | exact False.elim hNS | ((try dsimp only at hNS); omega)) (by intro hNS; first | exact False.elim hNS | ((try dsimp only at hNS); omega)) gf
      have gk := seAt.fr hF (by intro hNS; first | exact False.elim hNS | ((try dsimp only at hNS); omega)) (by intro hNS; first | exact False.elim hNS | ((try dsimp only at hNS); omega)) gk
      have gc := hF _ _ _ (by intro hNS; first | exact False.elim hNS | ((try dsimp only at hNS); omega)) gc
      have gb := hNw
      have gt := itsAt.rem hgt0 (by omega) hfb gq2 hg2 hF gb
      refine lv_iconst (v := nI 1) hx hb dIx_remove_17 (by decide) ?_
      exact hret hZ (by rw [remP_y (rN_nI hn1 hn2 (by omega)) hth]; exact ⟨rfl, hFr, ⟨_, _, _, _, _, _, _, _, _, _, _, _, _, _, _, (by rw [List.length_set]; exact gx), gi, gt, gl, hfl, gq, gs, gh, ga, gf, gk, gc⟩⟩) dIx_remove_18
set_option maxHeartbeats 4000000 in
set_option maxRecDepth 100000 in
theorem p_sign (l : Launch) (D : va_G) (K : Nat → ClassId) (X : hwW) (sz : Nat) (a : Nat) (its : hwIt) (fs : Nat) (lg : Nat → Nat) (qw : List (List Nat)) (qo : Nat) (qs : Nat) (ss : List (List Nat)) (hs : List (Nat × Nat × Nat)) (cc0 : Int32) (f0_ : ixAt K X a its fs lg qw qo qs ss hs) (ok : okS its fs lg qw qo qs ss) : Met l yIx_sign (.code yIx_sign cIx_sign 2 none :: hwG) ({ frames := 4, cells := 1, slots := 1300, locals := 91 } : Room) (hwPc D vwCl (hwT K) [.ref a, .int cc0] X sz) (hwQv D vwCl X sz (fun Y => hwF X Y (fun M => M < 1000) ∧ ixAt K Y a its fs lg (sgnP qw qo qs cc0).1.1 (sgnP qw qo qs cc0).1.2 (sgnP qw qo qs cc0).2 ss hs)) 1 1300 (va_A X.1 sz) := by
  refine hwMetv (cc := cIx_sign) (maxL := 2) (by decide) rfl (Nat.le_of_ble_eq_true rfl) (fun p e s m args below meth c ls A Q hx hb hml hown hts hname hret hK hO hZ hA hl => ?_)
  have hl : lv_has ls 2 [(0, .ref a), (1, .int cc0)] := hl
  have hFr : hwF X X (fun M => M < 1000) := hwF.rf
  obtain ⟨hni3, hTG, hfs, hlg, hsss, hqG, hq2, hqs⟩ := ok
  have hok := okIt_of hTG hfs
  have hq50 : qw.length ≤ 50 := by split at hq2 <;> omega
  have hne := hqG.1
  obtain ⟨b0, b1, b2, b3, b4, b5, b6, b7, b8, fi, fl, ta, tf, tl, fc, gx, gi, gt, gl, hfl, gq, gs, gh, ga, gf, gk, gc⟩ := f0_
  have hQ2 := fun j => okWs.at (txAt.oks gq) j
  have hQ0 := (hQ2 0).1
  refine lv_aload_n hx hb dIx_sign_0 rfl (lv_at hl 0 rfl) ?_
  refine hw_get hx hb hts (hwInn inIx) hown hK hZ gx rfl 5 (by decide) (hts (.fieldLink RIx 81 RIx "questionSigns" "I") (hwMem mm_199)) (fun _ h => h) rfl dIx_sign_1 ?_
  refine lv_bipush (v := nI 100) hx hb dIx_sign_4 (by decide) ?_
  refine hw_ic_ge (a := qs) (b := 100) (tgt := 27) hx hb dIx_sign_6 (by decide) (by omega) (by omega) (fun cq_1 => ?_) (fun cq_1 => ?_)
  · refine W.widen (k := 1) (n := 1300) (by omega) (by omega) ?_
    exact hret hZ (by unfold sgnP; rw [if_neg (by omega)]; exact ⟨hFr, ⟨_, _, _, _, _, _, _, _, _, _, _, _, _, _, _, gx, gi, gt, gl, hfl, gq, gs, gh, ga, gf, gk, gc⟩⟩) dIx_sign_27
  · refine lv_aload_n hx hb dIx_sign_9 rfl (lv_at hl 0 rfl) ?_
    refine hw_get hx hb hts (hwInn inIx) hown hK hZ gx rfl 4 (by decide) (hts (.fieldLink RIx 22 RIx "question" "LWordIndex2$Text;") (hwMem mm_194)) (fun _ h => h) rfl dIx_sign_10 ?_
    refine lv_iload_n hx hb dIx_sign_13 rfl (lv_at hl 1 rfl) ?_
    refine hw_callv (va_runV (As := [.int cc0]) (rest := []) ⟨hx, hb, hml, hown, hts⟩ (c_Tx_take l D K X s.heap.size (a := b2) (k := 5) (ws := qw) (o := qo) (c0 := cc0) gq (by omega) hqG) (cwV 1 hts (hwGood (hw_4 mm_285 mm_286 mm_287 mm_45 (hwAll mm_284))) rfl rfl rfl (by decide +kernel) ⟨Nat.le_of_ble_eq_true rfl, Nat.le_of_ble_eq_true rfl⟩) (hw_preV hK hO hZ (txAt.ob gq) rfl) rfl rfl hl.1 rfl (lv_room (Nat.le_of_ble_eq_true rfl)) dIx_sign_14 ⟨(show 0 + 1 ≤ 1 by omega), (show 0 + 1300 ≤ 1300 by omega)⟩) hZ hA (fun X_2 H_3 lc_4 hp hZ => ?_)
    obtain ⟨hF, hN_5⟩ := hp
    have hFr := hwF.tr hFr hF (fun _ h => h) (fun M h => by first | exact False.elim h | ((try dsimp only at h ⊢); omega))
    have gx := hF _ _ _ (by intro hNS; first | exact False.elim hNS | ((try dsimp only at hNS); omega)) gx
    have gi := hF _ _ _ (by intro hNS; first | exact False.elim hNS | ((try dsimp only at hNS); omega)) gi
    have gt := itsAt.fr hF (fun M h1 h2 hNS => by first | exact False.elim hNS | ((try dsimp only at hNS); omega)) gt
    have gl := hF _ _ _ (by intro hNS; first | exact False.elim hNS | ((try dsimp only at hNS); omega)) gl
    have gs := seAt.fr hF (by intro hNS; first | exact False.elim hNS | ((try dsimp only at hNS); omega)) (by intro hNS; first | exact False.elim hNS | ((try dsimp only at hNS); omega)) gs
    have gh := hiAt.fr hF (by intro hNS; first | exact False.elim hNS | ((try dsimp only at hNS); omega)) (by intro hNS; first | exact False.elim hNS | ((try dsimp only at hNS); omega)) (by intro hNS; first | exact False.elim hNS | ((try dsimp only at hNS); omega)) (by intro hNS; first | exact False.elim hNS | ((try dsimp only at hNS); omega)) gh
    have ga := tmAt.fr hF (by intro hNS; first | exact False.elim hNS | ((try dsimp only at hNS); omega)) (by intro hNS; first | exact False.elim hNS | ((try dsimp only at hNS); omega)) ga
    have gf := tmAt.fr hF (by intro hNS; first | exact False.elim hNS | ((try dsimp only at hNS); omega)) (by intro hNS; first | exact False.elim hNS | ((try dsimp only at hNS); omega)) gf
    have gk := seAt.fr hF (by intro hNS; first | exact False.elim hNS | ((try dsimp only at hNS); omega)) (by intro hNS; first | exact False.elim hNS | ((try dsimp only at hNS); omega)) gk
    have gc := hF _ _ _ (by intro hNS; first | exact False.elim hNS | ((try dsimp only at hNS); omega)) gc
    have ff_6 := hN_5
    refine lv_aload_n hx hb dIx_sign_17 rfl (lv_at hl 0 rfl) ?_
    refine lv_dup hx hb dIx_sign_18 rfl ?_
    refine hw_get hx hb hts (hwInn inIx) hown hK hZ gx rfl 5 (by decide) (hts (.fieldLink RIx 81 RIx "questionSigns" "I") (hwMem mm_199)) (fun _ h => h) rfl dIx_sign_19 ?_
    refine lv_iconst (v := nI 1) hx hb dIx_sign_22 (by decide) ?_
    refine lv_iadd hx hb dIx_sign_23 ?_
    refine hw_topi (nI_add qs 1) ?_
    refine hw_put (ty := .int) (fs' := [.ref b0, .int (nI its.length), .int (nI fs), .ref b1, .ref b2, .int (nI (qs + 1)), .ref b3, .ref b4, .ref b5, .ref b6, .ref b7, .ref b8]) hx hb hts (hwInn inIx) tyIx tyIx_ok nmIx hown hK hZ gx rfl 5 (by decide) (hts (.fieldLink RIx 81 RIx "questionSigns" "I") (hwMem mm_199)) (fun _ h => h) rfl (by decide +kernel) rfl rfl (Nat.le_of_ble_eq_true rfl) rfl dIx_sign_24 (fun X_7 H_8 lc_9 hZ hF hNw => ?_)
    have hFr := hwF.tr hFr hF (fun _ h => h) (fun M h => by first | exact False.elim h | ((try dsimp only at h ⊢); omega))
    have gx := hNw
    have gi := hF _ _ _ (by intro hNS; first | exact False.elim hNS | ((try dsimp only at hNS); omega)) gi
    have gt := itsAt.fr hF (fun M h1 h2 hNS => by first | exact False.elim hNS | ((try dsimp only at hNS); omega)) gt
    have gl := hF _ _ _ (by intro hNS; first | exact False.elim hNS | ((try dsimp only at hNS); omega)) gl
    have gs := seAt.fr hF (by intro hNS; first | exact False.elim hNS | ((try dsimp only at hNS); omega)) (by intro hNS; first | exact False.elim hNS | ((try dsimp only at hNS); omega)) gs
    have gh := hiAt.fr hF (by intro hNS; first | exact False.elim hNS | ((try dsimp only at hNS); omega)) (by intro hNS; first | exact False.elim hNS | ((try dsimp only at hNS); omega)) (by intro hNS; first | exact False.elim hNS | ((try dsimp only at hNS); omega)) (by intro hNS; first | exact False.elim hNS | ((try dsimp only at hNS); omega)) gh
    have ga := tmAt.fr hF (by intro hNS; first | exact False.elim hNS | ((try dsimp only at hNS); omega)) (by intro hNS; first | exact False.elim hNS | ((try dsimp only at hNS); omega)) ga
    have gf := tmAt.fr hF (by intro hNS; first | exact False.elim hNS | ((try dsimp only at hNS); omega)) (by intro hNS; first | exact False.elim hNS | ((try dsimp only at hNS); omega)) gf
    have gk := seAt.fr hF (by intro hNS; first | exact False.elim hNS | ((try dsimp only at hNS); omega)) (by intro hNS; first | exact False.elim hNS | ((try dsimp only at hNS); omega)) gk
    have gc := hF _ _ _ (by intro hNS; first | exact False.elim hNS | ((try dsimp only at hNS); omega)) gc
    have ff_6 := txAt.fr hF (by intro hNS; first | exact False.elim hNS | ((try dsimp only at hNS); omega)) (by intro hNS; first | exact False.elim hNS | ((try dsimp only at hNS); omega)) ff_6
    refine W.widen (k := 1) (n := 1300) (by omega) (by omega) ?_
    exact hret hZ (by unfold sgnP; rw [if_pos (by omega)]; exact ⟨hFr, ⟨_, _, _, _, _, _, _, _, _, _, _, _, _, _, _, gx, gi, gt, gl, hfl, ff_6, gs, gh, ga, gf, gk, gc⟩⟩) dIx_sign_27
