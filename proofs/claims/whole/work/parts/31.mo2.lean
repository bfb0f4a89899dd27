theorem any_succ {l : List (List Nat)} {P : List Nat → Bool} {i : Nat} (h : i < l.length) : (l.take (i + 1)).any P = ((l.take i).any P || P (l.getD i [])) := by
  rw [take_succ_getD h, List.any_append]
  simp only [List.any_cons, List.any_nil, Bool.or_false]
theorem all_succ {l : List (List Nat)} {P : List Nat → Bool} {i : Nat} (h : i < l.length) : (l.take (i + 1)).all P = ((l.take i).all P && P (l.getD i [])) := by
  rw [take_succ_getD h, List.all_append]
  simp only [List.all_cons, List.all_nil, Bool.and_true]
theorem any_t1 {l : List (List Nat)} {P : List Nat → Bool} {i : Nat} {b : Bool} (hi : i < l.length) (hb : b = (l.take i).any P) (h : b = true) : true = (l.take (i + 1)).any P := by rw [any_succ hi, ← hb, h]; rfl
theorem any_t2 {l : List (List Nat)} {P : List Nat → Bool} {i : Nat} (hi : i < l.length) (h : P (l.getD i []) = true) : true = (l.take (i + 1)).any P := by rw [any_succ hi, h, Bool.or_true]
theorem any_f {l : List (List Nat)} {P : List Nat → Bool} {i : Nat} {b : Bool} (hi : i < l.length) (hb : b = (l.take i).any P) (h : b = false) (h2 : P (l.getD i []) = false) : false = (l.take (i + 1)).any P := by rw [any_succ hi, ← hb, h, h2]; rfl
theorem all_t {l : List (List Nat)} {P : List Nat → Bool} {i : Nat} {b : Bool} (hi : i < l.length) (hb : b = (l.take i).all P) (h : b = true) (h2 : P (l.getD i []) = true) : true = (l.take (i + 1)).all P := by rw [all_succ hi, ← hb, h, h2]; rfl
theorem all_f1 {l : List (List Nat)} {P : List Nat → Bool} {i : Nat} {b : Bool} (hi : i < l.length) (hb : b = (l.take i).all P) (h : b = false) : false = (l.take (i + 1)).all P := by rw [all_succ hi, ← hb, h]; rfl
theorem all_f2 {l : List (List Nat)} {P : List Nat → Bool} {i : Nat} (hi : i < l.length) (h : P (l.getD i []) = false) : false = (l.take (i + 1)).all P := by rw [all_succ hi, h, Bool.and_false]
theorem any_end {l : List (List Nat)} {P : List Nat → Bool} {i : Nat} {b : Bool} (hi : l.length ≤ i) (hb : b = (l.take i).any P) : b = l.any P := by rw [hb, List.take_of_length_le hi]
theorem all_end {l : List (List Nat)} {P : List Nat → Bool} {i : Nat} {b : Bool} (hi : l.length ≤ i) (hb : b = (l.take i).all P) : b = l.all P := by rw [hb, List.take_of_length_le hi]
theorem any_mem {l : List (List Nat)} {w : List Nat} : l.any (fun t => decide (t = w)) = decide (w ∈ l) := by
  by_cases h : w ∈ l
  · rw [decide_eq_true h]; exact List.any_eq_true.mpr ⟨w, h, decide_eq_true rfl⟩
  · rw [decide_eq_false h]; exact List.any_eq_false.mpr (fun t ht => by simp; exact fun e => h (e ▸ ht))
theorem rW_d1 {w : List Nat} (h : okL w) (hn : 1 ≤ w.length) : rW w / 2 ^ 5 = rW (w.take (w.length - 1)) := rW_div h (k := 1) hn
theorem rW_d2 {w : List Nat} (h : okL w) (hn : 2 ≤ w.length) : rW w / 2 ^ 10 = rW (w.take (w.length - 2)) := rW_div h (k := 2) hn
theorem take_last {w : List Nat} (h : 2 ≤ w.length) : (w.take (w.length - 1)).getD ((w.take (w.length - 1)).length - 1) 0 = w.getD (w.length - 2) 0 := by
  have hl : (w.take (w.length - 1)).length = w.length - 1 := by rw [List.length_take]; omega
  rw [hl, show w.length - 1 - 1 = w.length - 2 by omega]
  simp [List.getD, List.getElem?_take, show w.length - 2 < w.length - 1 by omega]
  rw [List.getElem?_eq_getElem (by omega)]; rfl
def ltL (l : List (Nat × Nat)) (p : Nat) : List Nat := (l.filter (fun z => decide (z.1 = p))).map (fun z => z.2)
theorem getD_app_lastN {us : List Nat} {w : Nat} : (us ++ [w]).getD us.length 0 = w := by simp [List.getD]
theorem takeN_succ {l : List Nat} {i : Nat} (h : i < l.length) : l.take (i + 1) = l.take i ++ [l.getD i 0] := by
  rw [List.take_succ]
  simp [List.getD, h]
theorem takeP_succ {l : List (Nat × Nat)} {i : Nat} (h : i < l.length) : l.take (i + 1) = l.take i ++ [l.getD i (0, 0)] := by
  rw [List.take_succ]
  simp [List.getD, h]
theorem ltL_y {l : List (Nat × Nat)} {i p : Nat} (h : i < l.length) (hp : (l.getD i (0, 0)).1 = p) : ltL (l.take (i + 1)) p = ltL (l.take i) p ++ [(l.getD i (0, 0)).2] := by
  unfold ltL
  rw [takeP_succ h, List.filter_append, List.map_append]
  congr 1
  rw [List.filter_cons, decide_eq_true hp]
  rfl
theorem ltL_n {l : List (Nat × Nat)} {i p : Nat} (h : i < l.length) (hp : (l.getD i (0, 0)).1 ≠ p) : ltL (l.take (i + 1)) p = ltL (l.take i) p := by
  unfold ltL
  rw [takeP_succ h, List.filter_append, List.map_append, List.filter_cons, decide_eq_false hp]
  simp
theorem tkF_len (l : List Nat) : (tkF l).1.length ≤ l.length := by
  have key : ∀ (l : List Nat) (s : List (List Nat) × Nat), (l.foldl tk s).1.length ≤ s.1.length + l.length := by
    intro l
    induction l with
    | nil => intro s; exact Nat.le_refl _
    | cons x xs ih =>
      intro s
      have h1 := ih (tk s x)
      have h2 := tk_len (ws := s.1) (o := s.2) (x := x)
      show (xs.foldl tk (tk s x)).1.length ≤ _
      rw [List.length_cons]
      have e : tk (s.1, s.2) x = tk s x := rfl
      rw [e] at h2
      omega
  have := key l ([], 0)
  simpa [tkF] using this
theorem ltL_len (l : List (Nat × Nat)) (p : Nat) : (ltL l p).length ≤ l.length := by
  unfold ltL
  rw [List.length_map]
  exact List.length_filter_le _ _
/-- the state of a walk through letters: words, open letters, whether a word goes on -/
def wkS (ws : List (List Nat)) (o : Nat) (g : Bool) (l : List Nat) : Prop := tkF l = (ws, o) ∧ txG ws o ∧ g = decide (o ≠ 0)
theorem wkS.nil : wkS [] 0 false [] := ⟨rfl, ⟨fun _ h => absurd h List.not_mem_nil, Or.inl rfl⟩, rfl⟩
theorem wkS.no {ws : List (List Nat)} {o : Nat} {g : Bool} {l : List Nat} {x : Nat} (h : wkS ws o g l) (hx : x = 0) : wkS ws 0 false (l ++ [x]) := by
  refine ⟨by rw [tkF_snoc, h.1, tk_0 _ _ hx], ⟨h.2.1.1, Or.inl rfl⟩, rfl⟩
theorem wkS.A {ws : List (List Nat)} {g : Bool} {l : List Nat} {x : Nat} (h : wkS ws 0 g l) (hok : okWs ws) (hx : x ≠ 0) : wkS (ws ++ [[x]]) 1 true (l ++ [x]) := by
  have e : tkF (l ++ [x]) = (ws ++ [[x]], 1) := by rw [tkF_snoc, h.1, tk_A _ hx]
  refine ⟨e, ?_, rfl⟩
  have := txG_tk (x := x) h.2.1 hok
  rw [tk_A _ hx] at this
  exact this
theorem wkS.B {us : List (List Nat)} {w : List Nat} {g : Bool} {l : List Nat} {x : Nat} (h : wkS (us ++ [w]) w.length g l) (hok : okWs (us ++ [w])) (hx : x ≠ 0) : wkS (us ++ [layW w x]) (layW w x).length true (l ++ [x]) := by
  have hw1 := h.2.1.1 w (by simp)
  have e : tkF (l ++ [x]) = (us ++ [layW w x], (layW w x).length) := by rw [tkF_snoc, h.1, tk_L hok.init.2 hx (by omega)]
  refine ⟨e, ?_, ?_⟩
  · have := txG_tk (x := x) h.2.1 hok
    rw [tk_L hok.init.2 hx (by omega)] at this
    exact this
  · have : 1 ≤ (layW w x).length := by
      unfold layW
      split
      · exact hw1
      · rw [List.length_append]; simp
    rw [decide_eq_true (by omega)]
theorem wkS.gA {ws : List (List Nat)} {g : Bool} {l : List Nat} (h : wkS ws 0 g l) : g = false := by rw [h.2.2]; rfl
theorem wkS.gB {us : List (List Nat)} {w : List Nat} {g : Bool} {l : List Nat} (h : wkS (us ++ [w]) w.length g l) : g = true := by
  have hw1 := h.2.1.1 w (by simp)
  rw [h.2.2, decide_eq_true (by omega)]
theorem dMo_isStop_0 : decode cMo_isStop 0 = .ok (.iconst 0, 1) := by decide +kernel
theorem dMo_isStop_1 : decode cMo_isStop 1 = .ok (.istore_n 3, 1) := by decide +kernel
theorem dMo_isStop_2 : decode cMo_isStop 2 = .ok (.iconst 0, 1) := by decide +kernel
theorem dMo_isStop_3 : decode cMo_isStop 3 = .ok (.istore 4, 2) := by decide +kernel
theorem dMo_isStop_5 : decode cMo_isStop 5 = .ok (.iload 4, 2) := by decide +kernel
theorem dMo_isStop_7 : decode cMo_isStop 7 = .ok (.aload_n 0, 1) := by decide +kernel
theorem dMo_isStop_8 : decode cMo_isStop 8 = .ok (.getfield 101, 3) := by decide +kernel
theorem dMo_isStop_11 : decode cMo_isStop 11 = .ok (.if_icmp .ge 31, 3) := by decide +kernel
theorem dMo_isStop_14 : decode cMo_isStop 14 = .ok (.iload_n 3, 1) := by decide +kernel
theorem dMo_isStop_15 : decode cMo_isStop 15 = .ok (.ifCond .ne 15, 3) := by decide +kernel
theorem dMo_isStop_18 : decode cMo_isStop 18 = .ok (.aload_n 0, 1) := by decide +kernel
theorem dMo_isStop_19 : decode cMo_isStop 19 = .ok (.getfield 24, 3) := by decide +kernel
theorem dMo_isStop_22 : decode cMo_isStop 22 = .ok (.iload 4, 2) := by decide +kernel
theorem dMo_isStop_24 : decode cMo_isStop 24 = .ok (.laload, 1) := by decide +kernel
theorem dMo_isStop_25 : decode cMo_isStop 25 = .ok (.lload_n 1, 1) := by decide +kernel
theorem dMo_isStop_26 : decode cMo_isStop 26 = .ok (.lcmp, 1) := by decide +kernel
theorem dMo_isStop_27 : decode cMo_isStop 27 = .ok (.ifCond .ne 7, 3) := by decide +kernel
theorem dMo_isStop_30 : decode cMo_isStop 30 = .ok (.iconst 1, 1) := by decide +kernel
theorem dMo_isStop_31 : decode cMo_isStop 31 = .ok (.goto 4, 3) := by decide +kernel
theorem dMo_isStop_34 : decode cMo_isStop 34 = .ok (.iconst 0, 1) := by decide +kernel
theorem dMo_isStop_35 : decode cMo_isStop 35 = .ok (.istore_n 3, 1) := by decide +kernel
theorem dMo_isStop_36 : decode cMo_isStop 36 = .ok (.iinc 4 1, 3) := by decide +kernel
theorem dMo_isStop_39 : decode cMo_isStop 39 = .ok (.goto (-34), 3) := by decide +kernel
theorem dMo_isStop_42 : decode cMo_isStop 42 = .ok (.iload_n 3, 1) := by decide +kernel
theorem dMo_isStop_43 : decode cMo_isStop 43 = .ok (.ireturn, 1) := by decide +kernel
theorem dMo_stemOf_0 : decode cMo_stemOf 0 = .ok (.lload_n 1, 1) := by decide +kernel
theorem dMo_stemOf_1 : decode cMo_stemOf 1 = .ok (.invokestatic 77, 3) := by decide +kernel
theorem dMo_stemOf_4 : decode cMo_stemOf 4 = .ok (.istore 4, 2) := by decide +kernel
theorem dMo_stemOf_6 : decode cMo_stemOf 6 = .ok (.aload_n 0, 1) := by decide +kernel
theorem dMo_stemOf_7 : decode cMo_stemOf 7 = .ok (.lload_n 1, 1) := by decide +kernel
theorem dMo_stemOf_8 : decode cMo_stemOf 8 = .ok (.invokevirtual 104, 3) := by decide +kernel
theorem dMo_stemOf_11 : decode cMo_stemOf 11 = .ok (.ifCond .eq 5, 3) := by decide +kernel
theorem dMo_stemOf_14 : decode cMo_stemOf 14 = .ok (.lconst 0, 1) := by decide +kernel
theorem dMo_stemOf_15 : decode cMo_stemOf 15 = .ok (.lreturn, 1) := by decide +kernel
theorem dMo_stemOf_16 : decode cMo_stemOf 16 = .ok (.aload_n 0, 1) := by decide +kernel
theorem dMo_stemOf_17 : decode cMo_stemOf 17 = .ok (.getfield 21, 3) := by decide +kernel
theorem dMo_stemOf_20 : decode cMo_stemOf 20 = .ok (.iload_n 3, 1) := by decide +kernel
theorem dMo_stemOf_21 : decode cMo_stemOf 21 = .ok (.iaload, 1) := by decide +kernel
theorem dMo_stemOf_22 : decode cMo_stemOf 22 = .ok (.iconst 1, 1) := by decide +kernel
theorem dMo_stemOf_23 : decode cMo_stemOf 23 = .ok (.if_icmp .ne 26, 3) := by decide +kernel
theorem dMo_stemOf_26 : decode cMo_stemOf 26 = .ok (.lload_n 1, 1) := by decide +kernel
theorem dMo_stemOf_27 : decode cMo_stemOf 27 = .ok (.invokestatic 108, 3) := by decide +kernel
theorem dMo_stemOf_30 : decode cMo_stemOf 30 = .ok (.bipush 19, 2) := by decide +kernel
theorem dMo_stemOf_32 : decode cMo_stemOf 32 = .ok (.if_icmp .ne 15, 3) := by decide +kernel
theorem dMo_stemOf_35 : decode cMo_stemOf 35 = .ok (.iload 4, 2) := by decide +kernel
theorem dMo_stemOf_37 : decode cMo_stemOf 37 = .ok (.iconst 3, 1) := by decide +kernel
theorem dMo_stemOf_38 : decode cMo_stemOf 38 = .ok (.if_icmp .le 9, 3) := by decide +kernel
theorem dMo_stemOf_41 : decode cMo_stemOf 41 = .ok (.lload_n 1, 1) := by decide +kernel
theorem dMo_stemOf_42 : decode cMo_stemOf 42 = .ok (.iconst 5, 1) := by decide +kernel
theorem dMo_stemOf_43 : decode cMo_stemOf 43 = .ok (.lshr, 1) := by decide +kernel
theorem dMo_stemOf_44 : decode cMo_stemOf 44 = .ok (.goto 4, 3) := by decide +kernel
theorem dMo_stemOf_47 : decode cMo_stemOf 47 = .ok (.lload_n 1, 1) := by decide +kernel
theorem dMo_stemOf_48 : decode cMo_stemOf 48 = .ok (.lreturn, 1) := by decide +kernel
theorem dMo_stemOf_49 : decode cMo_stemOf 49 = .ok (.aload_n 0, 1) := by decide +kernel
theorem dMo_stemOf_50 : decode cMo_stemOf 50 = .ok (.getfield 21, 3) := by decide +kernel
theorem dMo_stemOf_53 : decode cMo_stemOf 53 = .ok (.iload_n 3, 1) := by decide +kernel
theorem dMo_stemOf_54 : decode cMo_stemOf 54 = .ok (.iaload, 1) := by decide +kernel
theorem dMo_stemOf_55 : decode cMo_stemOf 55 = .ok (.iconst 2, 1) := by decide +kernel
theorem dMo_stemOf_56 : decode cMo_stemOf 56 = .ok (.if_icmp .ne 55, 3) := by decide +kernel
theorem dMo_stemOf_59 : decode cMo_stemOf 59 = .ok (.lload_n 1, 1) := by decide +kernel
theorem dMo_stemOf_60 : decode cMo_stemOf 60 = .ok (.invokestatic 108, 3) := by decide +kernel
theorem dMo_stemOf_63 : decode cMo_stemOf 63 = .ok (.bipush 14, 2) := by decide +kernel
theorem dMo_stemOf_65 : decode cMo_stemOf 65 = .ok (.if_icmp .ne 24, 3) := by decide +kernel
theorem dMo_stemOf_68 : decode cMo_stemOf 68 = .ok (.lload_n 1, 1) := by decide +kernel
theorem dMo_stemOf_69 : decode cMo_stemOf 69 = .ok (.iconst 5, 1) := by decide +kernel
theorem dMo_stemOf_70 : decode cMo_stemOf 70 = .ok (.lshr, 1) := by decide +kernel
theorem dMo_stemOf_71 : decode cMo_stemOf 71 = .ok (.invokestatic 108, 3) := by decide +kernel
theorem dMo_stemOf_74 : decode cMo_stemOf 74 = .ok (.iconst 5, 1) := by decide +kernel
theorem dMo_stemOf_75 : decode cMo_stemOf 75 = .ok (.if_icmp .ne 14, 3) := by decide +kernel
theorem dMo_stemOf_78 : decode cMo_stemOf 78 = .ok (.iload 4, 2) := by decide +kernel
theorem dMo_stemOf_80 : decode cMo_stemOf 80 = .ok (.iconst 4, 1) := by decide +kernel
theorem dMo_stemOf_81 : decode cMo_stemOf 81 = .ok (.if_icmp .le 8, 3) := by decide +kernel
theorem dMo_stemOf_84 : decode cMo_stemOf 84 = .ok (.lload_n 1, 1) := by decide +kernel
theorem dMo_stemOf_85 : decode cMo_stemOf 85 = .ok (.bipush 10, 2) := by decide +kernel
theorem dMo_stemOf_87 : decode cMo_stemOf 87 = .ok (.lshr, 1) := by decide +kernel
theorem dMo_stemOf_88 : decode cMo_stemOf 88 = .ok (.lreturn, 1) := by decide +kernel
theorem dMo_stemOf_89 : decode cMo_stemOf 89 = .ok (.lload_n 1, 1) := by decide +kernel
theorem dMo_stemOf_90 : decode cMo_stemOf 90 = .ok (.invokestatic 108, 3) := by decide +kernel
theorem dMo_stemOf_93 : decode cMo_stemOf 93 = .ok (.iconst 5, 1) := by decide +kernel
theorem dMo_stemOf_94 : decode cMo_stemOf 94 = .ok (.if_icmp .ne 15, 3) := by decide +kernel
theorem dMo_stemOf_97 : decode cMo_stemOf 97 = .ok (.iload 4, 2) := by decide +kernel
theorem dMo_stemOf_99 : decode cMo_stemOf 99 = .ok (.iconst 3, 1) := by decide +kernel
theorem dMo_stemOf_100 : decode cMo_stemOf 100 = .ok (.if_icmp .le 9, 3) := by decide +kernel
theorem dMo_stemOf_103 : decode cMo_stemOf 103 = .ok (.lload_n 1, 1) := by decide +kernel
theorem dMo_stemOf_104 : decode cMo_stemOf 104 = .ok (.iconst 5, 1) := by decide +kernel
theorem dMo_stemOf_105 : decode cMo_stemOf 105 = .ok (.lshr, 1) := by decide +kernel
theorem dMo_stemOf_106 : decode cMo_stemOf 106 = .ok (.goto 4, 3) := by decide +kernel
theorem dMo_stemOf_109 : decode cMo_stemOf 109 = .ok (.lload_n 1, 1) := by decide +kernel
theorem dMo_stemOf_110 : decode cMo_stemOf 110 = .ok (.lreturn, 1) := by decide +kernel
theorem dMo_stemOf_111 : decode cMo_stemOf 111 = .ok (.lload_n 1, 1) := by decide +kernel
theorem dMo_stemOf_112 : decode cMo_stemOf 112 = .ok (.lreturn, 1) := by decide +kernel
theorem mm_367 : (.fieldLink RMo 101 RMo "stopCount" "I" : Cond) ∈ hwG := hwIx 563 (by decide +kernel) (by decide +kernel)
theorem mm_368 : (.fieldLink RMo 24 RMo "stops" "[J" : Cond) ∈ hwG := hwIx 562 (by decide +kernel) (by decide +kernel)
theorem mm_369 : (.code yMo_isStop cMo_isStop 5 (some .boolean) : Cond) ∈ hwG := hwIx 678 (by decide +kernel) (by decide +kernel)
theorem mm_370 : (.methodLink RMo 104 yMo_isStop : Cond) ∈ hwG := hwIx 675 (by decide +kernel) (by decide +kernel)
theorem mm_371 : (.instanceMethod yMo_isStop : Cond) ∈ hwG := hwIx 677 (by decide +kernel) (by decide +kernel)
theorem mm_372 : (.selects RMo yMo_isStop yMo_isStop : Cond) ∈ hwG := hwIx 17 (by decide +kernel) (by decide +kernel)
theorem mm_373 : (.fieldLink RMo 21 RMo "languages" "[I" : Cond) ∈ hwG := hwIx 561 (by decide +kernel) (by decide +kernel)
theorem mm_374 : (.code yMo_last cMo_last 2 (some .int) : Cond) ∈ hwG := hwIx 681 (by decide +kernel) (by decide +kernel)
theorem mm_375 : (.static yMo_last : Cond) ∈ hwG := hwIx 680 (by decide +kernel) (by decide +kernel)
theorem mm_376 : (.methodLink RMo 108 yMo_last : Cond) ∈ hwG := hwIx 679 (by decide +kernel) (by decide +kernel)
set_option maxHeartbeats 4000000 in
set_option maxRecDepth 100000 in
theorem m_isStop (l : Launch) (D : va_G) (K : Nat → ClassId) (X : hwW) (sz : Nat) (a : Nat) (r1 : Nat) (r2 : Nat) (r3 : Nat) (r4 : Nat) (r5 : Nat) (r6 : Nat) (r7 : Nat) (r8 : Nat) (r9 : Nat) (r10 : Nat) (r11 : Nat) (r12 : Nat) (r13 : Nat) (r14 : Nat) (r15 : Nat) (tz : Nat) (nr : Nat) (ng : Nat) (ns : Nat) (nz : Nat) (na : Nat) (nw : Nat) (nh : Nat) (nt : Nat) (st : List (List Nat)) (w : List Nat) (f0_ : hwH X a 1000 (.inr (10, [.int (nI tz), .int (nI nr), .ref r1, .int (nI ng), .ref r2, .ref r3, .ref r4, .ref r5, .int (nI ns), .ref r6, .int (nI nz), .ref r7, .int (nI na), .ref r8, .ref r9, .ref r10, .int (nI nw), .int (nI nh), .ref r11, .ref r12, .ref r13, .ref r14, .int (nI nt), .ref r15]))) (f1_ : rwAt K X r5 1005 40 st) (hns : ns = st.length) (hw : okW w) : Met l yMo_isStop (.code yMo_isStop cMo_isStop 5 (some .boolean) :: hwG) ({ frames := 0, cells := 0, slots := 0, locals := 0 } : Room) (hwPc D vwCl (hwT K) [.ref a, .long (lN (rW w))] X sz) (hwQi D vwCl X sz (fun r Y => r = bI (decide (w ∈ st)) ∧ X = Y)) 0 0 (va_A X.1 sz) := by
  refine hwMetz (cc := cMo_isStop) (maxL := 5) (by decide) rfl (Nat.le_of_ble_eq_true rfl) (fun p e s m args below meth c ls A Q hx hb hml hown hts hname hret hK hO hZ hA hl => ?_)
  have hl : lv_has ls 5 [(0, .ref a), (1, .long (lN (rW w)))] := hl
  obtain ⟨f, g, hN, hv, hk⟩ := f1_
  have hR2 := fun j => okWs.at hk j
  refine lv_iconst (v := nI 0) hx hb dMo_isStop_0 (by decide) ?_
  refine lv_istore_n (lv' := [(3, .int (nI 0)), (0, .ref a), (1, .long (lN (rW w)))]) hx hb dMo_isStop_1 rfl hl (by decide) rfl (fun ls hl => ?_)
  refine lv_iconst (v := nI 0) hx hb dMo_isStop_2 (by decide) ?_
  refine lv_istore (lv' := [(4, .int (nI 0)), (3, .int (nI 0)), (0, .ref a), (1, .long (lN (rW w)))]) hx hb dMo_isStop_3 hl (by decide) rfl (fun ls hl => ?_)
  have loop5 : ∀ (fuel : Nat) (i : Nat) (b : Bool) (Hh : Heap) (lcs : List Loc) (ls : Array Slot), st.length - i < fuel → (i ≤ st.length) → (b = (st.take i).any (fun t => decide (t = w))) → hwZ D vwCl A s.heap X Hh lcs → lv_has ls 5 [(4, .int (nI i)), (3, .int (bI b)), (0, .ref a), (1, .long (lN (rW w)))] → W p l e ({ frames := 0, cells := 0, slots := 0, locals := 0 } : Room) s m args below meth c Hh lcs 0 0 Q (F0 m 5 ls []) := by
    intro fuel; induction fuel with
    | zero => intro i b Hh lcs ls hfu; exact absurd hfu (Nat.not_lt_zero _)
    | succ fuel ih5 =>
      intro i b Hh lcs ls hfu5 hi hbb hZ hl
      refine lv_iload hx hb dMo_isStop_5 (lv_at hl 0 rfl) ?_
      refine lv_aload_n hx hb dMo_isStop_7 rfl (lv_at hl 2 rfl) ?_
      refine hw_get hx hb hts (hwInn inMo) hown hK hZ f0_ rfl 8 (by decide) (hts (.fieldLink RMo 101 RMo "stopCount" "I") (hwMem mm_367)) (fun _ h => h) rfl dMo_isStop_8 ?_
      refine hw_ic_ge (a := i) (b := ns) (tgt := 42) hx hb dMo_isStop_11 (by decide) (by omega) (by omega) (fun cq_1 => ?_) (fun cq_1 => ?_)
      · refine lv_iload_n hx hb dMo_isStop_42 rfl (lv_at hl 1 rfl) ?_
        exact hret (hw_nb _) hZ ⟨by rw [any_end (by omega) hbb, any_mem], rfl⟩ dMo_isStop_43
      · refine lv_iload_n hx hb dMo_isStop_14 rfl (lv_at hl 1 rfl) ?_
        refine hw_bz_ne (tgt := 30) hx hb dMo_isStop_15 (by decide) (fun cq_2 => ?_) (fun cq_2 => ?_)
        · refine lv_iconst (v := nI 1) hx hb dMo_isStop_30 (by decide) ?_
          refine lv_goto (tgt := 35) hx hb dMo_isStop_31 (by decide) ?_
          refine lv_istore_n (lv' := [(3, .int (nI 1)), (4, .int (nI i)), (0, .ref a), (1, .long (lN (rW w)))]) hx hb dMo_isStop_35 rfl hl (by decide) rfl (fun ls hl => ?_)
          refine lv_iinc (v := nI (i + 1)) (lv' := [(4, .int (nI (i + 1))), (3, .int (nI 1)), (0, .ref a), (1, .long (lN (rW w)))]) hx hb dMo_isStop_36 hl (k := 1) rfl (nI_add _ 1) (by decide) rfl (fun ls hl => ?_)
          refine lv_goto (tgt := 5) hx hb dMo_isStop_39 (by decide) ?_
          exact ih5 (i + 1) true _ _ _ (by omega) (by omega) (any_t1 (by omega) hbb cq_2)  hZ (lv_sub hl [0, 1, 2, 3] rfl)
        · refine lv_aload_n hx hb dMo_isStop_18 rfl (lv_at hl 2 rfl) ?_
          refine hw_get hx hb hts (hwInn inMo) hown hK hZ f0_ rfl 7 (by decide) (hts (.fieldLink RMo 24 RMo "stops" "[J") (hwMem mm_368)) (fun _ h => h) rfl dMo_isStop_19 ?_
          refine lv_iload hx hb dMo_isStop_22 (lv_at hl 0 rfl) ?_
          refine hw_lald hx hb hK hZ 1 g rfl (j := i) (by omega) (by omega) dMo_isStop_24 ?_
          refine hw_topl (hv i (by omega)) ?_
          refine lv_lload_n hx hb dMo_isStop_25 rfl (lv_at hl 3 rfl) ?_
          refine hw_lc_ne (a := rW (st.getD i [])) (b := rW w) (tgt := 34) hx hb dMo_isStop_26 dMo_isStop_27 (by decide) (by first | exact rW_lt63 (by assumption) | exact rW_lt63 (hR2 _) | exact rW_lt63 (hS2 _) | decide) (by first | exact rW_lt63 (by assumption) | exact rW_lt63 (hR2 _) | exact rW_lt63 (hS2 _) | decide) (fun cq_3 => ?_) (fun cq_3 => ?_)
          · refine lv_iconst (v := nI 0) hx hb dMo_isStop_34 (by decide) ?_
            refine lv_istore_n (lv' := [(3, .int (nI 0)), (4, .int (nI i)), (0, .ref a), (1, .long (lN (rW w)))]) hx hb dMo_isStop_35 rfl hl (by decide) rfl (fun ls hl => ?_)
            refine lv_iinc (v := nI (i + 1)) (lv' := [(4, .int (nI (i + 1))), (3, .int (nI 0)), (0, .ref a), (1, .long (lN (rW w)))]) hx hb dMo_isStop_36 hl (k := 1) rfl (nI_add _ 1) (by decide) rfl (fun ls hl => ?_)
            refine lv_goto (tgt := 5) hx hb dMo_isStop_39 (by decide) ?_
            exact ih5 (i + 1) false _ _ _ (by omega) (by omega) (any_f (by omega) hbb cq_2 (decide_eq_false (fun h => cq_3 ((rW_inj (hR2 _) hw).mpr h))))  hZ (lv_sub hl [0, 1, 2, 3] rfl)
          · refine lv_iconst (v := nI 1) hx hb dMo_isStop_30 (by decide) ?_
            refine lv_goto (tgt := 35) hx hb dMo_isStop_31 (by decide) ?_
            refine lv_istore_n (lv' := [(3, .int (nI 1)), (4, .int (nI i)), (0, .ref a), (1, .long (lN (rW w)))]) hx hb dMo_isStop_35 rfl hl (by decide) rfl (fun ls hl => ?_)
            refine lv_iinc (v := nI (i + 1)) (lv' := [(4, .int (nI (i + 1))), (3, .int (nI 1)), (0, .ref a), (1, .long (lN (rW w)))]) hx hb dMo_isStop_36 hl (k := 1) rfl (nI_add _ 1) (by decide) rfl (fun ls hl => ?_)
            refine lv_goto (tgt := 5) hx hb dMo_isStop_39 (by decide) ?_
            exact ih5 (i + 1) true _ _ _ (by omega) (by omega) (any_t2 (by omega) (decide_eq_true ((rW_inj (hR2 _) hw).mp cq_3)))  hZ (lv_sub hl [0, 1, 2, 3] rfl)
  exact loop5 (st.length - 0 + 1) 0 false _ _ _ (by omega) (by omega) (by rw [List.take_zero]; rfl)  hZ (lv_sub hl [0, 1, 2, 3] rfl)
set_option maxHeartbeats 4000000 in
set_option maxRecDepth 100000 in
theorem m_stem (l : Launch) (D : va_G) (K : Nat → ClassId) (X : hwW) (sz : Nat) (a : Nat) (r1 : Nat) (r2 : Nat) (r3 : Nat) (r4 : Nat) (r5 : Nat) (r6 : Nat) (r7 : Nat) (r8 : Nat) (r9 : Nat) (r10 : Nat) (r11 : Nat) (r12 : Nat) (r13 : Nat) (r14 : Nat) (r15 : Nat) (tz : Nat) (nr : Nat) (ng : Nat) (ns : Nat) (nz : Nat) (na : Nat) (nw : Nat) (nh : Nat) (nt : Nat) (st : List (List Nat)) (fl : Nat → Int32) (w : List Nat) (j : Nat) (g : Nat) (f0_ : hwH X a 1000 (.inr (10, [.int (nI tz), .int (nI nr), .ref r1, .int (nI ng), .ref r2, .ref r3, .ref r4, .ref r5, .int (nI ns), .ref r6, .int (nI nz), .ref r7, .int (nI na), .ref r8, .ref r9, .ref r10, .int (nI nw), .int (nI nh), .ref r11, .ref r12, .ref r13, .ref r14, .int (nI nt), .ref r15]))) (f1_ : rwAt K X r5 1005 40 st) (f2_ : hwH X r4 1004 (.inl (K 0, 4, .inl fl))) (hns : ns = st.length) (hw : okW w) (hn : 1 ≤ w.length) (hj : j < 4) (hfj : fl j = nI g) (hg : g < 3) : Met l yMo_stemOf (.code yMo_stemOf cMo_stemOf 5 (some .long) :: hwG) ({ frames := 1, cells := 0, slots := 0, locals := 24 } : Room) (hwPc D vwCl (hwT K) [.ref a, .long (lN (rW w)), .int (nI j)] X sz) (hwQl D vwCl X sz (fun r Y => r = lN (rW (trm g st w)) ∧ X = Y)) 0 0 (va_A X.1 sz) := by
  refine hwMetl (cc := cMo_stemOf) (maxL := 5) (by decide) rfl (Nat.le_of_ble_eq_true rfl) (fun p e s m args below meth c ls A Q hx hb hml hown hts hname hret hK hO hZ hA hl => ?_)
  have hl : lv_has ls 5 [(0, .ref a), (1, .long (lN (rW w))), (3, .int (nI j))] := hl
  have hw12 := hw.1
  rcases Nat.lt_or_ge w.length 2 with h2 | h2
  · refine lv_lload_n hx hb dMo_stemOf_0 rfl (lv_at hl 1 rfl) ?_
    refine hw_calli (va_runS (As := [.long (lN (rW w))]) (rest := []) ⟨hx, hb, hml, hown, hts⟩ (m_length l D K X s.heap.size (w := w) (by assumption)) (va_cwS 1 hts (hwGood (hw_3 mm_364 mm_363 mm_365 (hwAll mm_362))) rfl rfl rfl (by decide +kernel) ⟨Nat.le_of_ble_eq_true rfl, Nat.le_of_ble_eq_true rfl⟩) (hw_preS hK hO hZ) rfl rfl hl.1 rfl (lv_room (Nat.le_of_ble_eq_true rfl)) dMo_stemOf_1 ⟨(show 0 + 0 ≤ 0 by omega), (show 0 + 0 ≤ 0 by omega)⟩) hZ hA (fun r X_1 H_2 lc_3 hp hZ => ?_)
    obtain ⟨hr, hy, xx_4⟩ := hp
    subst hy
    refine hw_topi hr ?_
    refine lv_istore (lv' := [(4, .int (nI w.length)), (0, .ref a), (1, .long (lN (rW w))), (3, .int (nI j))]) hx hb dMo_stemOf_4 hl (by decide) rfl (fun ls hl => ?_)
    refine lv_aload_n hx hb dMo_stemOf_6 rfl (lv_at hl 1 rfl) ?_
    refine lv_lload_n hx hb dMo_stemOf_7 rfl (lv_at hl 2 rfl) ?_
    refine hw_calli (va_runV (As := [.long (lN (rW w))]) (rest := []) ⟨hx, hb, hml, hown, hts⟩ (m_isStop l D K X H_2.size (a := a) (r1 := r1) (r2 := r2) (r3 := r3) (r4 := r4) (r5 := r5) (r6 := r6) (r7 := r7) (r8 := r8) (r9 := r9) (r10 := r10) (r11 := r11) (r12 := r12) (r13 := r13) (r14 := r14) (r15 := r15) (tz := tz) (nr := nr) (ng := ng) (ns := ns) (nz := nz) (na := na) (nw := nw) (nh := nh) (nt := nt) (st := st) (w := w) f0_ f1_ (by omega) (by assumption)) (cwV 1 hts (hwGood (hw_4 mm_370 mm_371 mm_372 mm_365 (hwAll mm_369))) rfl rfl rfl (by decide +kernel) ⟨Nat.le_of_ble_eq_true rfl, Nat.le_of_ble_eq_true rfl⟩) (hw_preV hK hO hZ (⟨_, _, f0_⟩) rfl) rfl rfl hl.1 rfl (lv_room (Nat.le_of_ble_eq_true rfl)) dMo_stemOf_8 ⟨(show 0 + 0 ≤ 0 by omega), (show 0 + 0 ≤ 0 by omega)⟩) hZ hA (fun r X_5 H_6 lc_7 hp hZ => ?_)
    obtain ⟨hr, hy⟩ := hp
    subst hy
    refine hw_topi hr ?_
    refine hw_bz_eq (tgt := 16) hx hb dMo_stemOf_11 (by decide) (fun cq_8 => ?_) (fun cq_8 => ?_)
    · refine lv_aload_n hx hb dMo_stemOf_16 rfl (lv_at hl 1 rfl) ?_
      refine hw_get hx hb hts (hwInn inMo) hown hK hZ f0_ rfl 6 (by decide) (hts (.fieldLink RMo 21 RMo "languages" "[I") (hwMem mm_373)) (fun _ h => h) rfl dMo_stemOf_17 ?_
      refine lv_iload_n hx hb dMo_stemOf_20 rfl (lv_at hl 3 rfl) ?_
      refine hw_iald hx hb hK hZ 0 f2_ rfl (j := j) (by omega) (by omega) dMo_stemOf_21 ?_
      refine hw_topi (y := nI (g)) hfj ?_
      refine lv_iconst (v := nI 1) hx hb dMo_stemOf_22 (by decide) ?_
      refine hw_ic_ne (a := g) (b := 1) (tgt := 49) hx hb dMo_stemOf_23 (by decide) (by omega) (by omega) (fun cq_9 => ?_) (fun cq_9 => ?_)
      · refine lv_aload_n hx hb dMo_stemOf_49 rfl (lv_at hl 1 rfl) ?_
        refine hw_get hx hb hts (hwInn inMo) hown hK hZ f0_ rfl 6 (by decide) (hts (.fieldLink RMo 21 RMo "languages" "[I") (hwMem mm_373)) (fun _ h => h) rfl dMo_stemOf_50 ?_
        refine lv_iload_n hx hb dMo_stemOf_53 rfl (lv_at hl 3 rfl) ?_
        refine hw_iald hx hb hK hZ 0 f2_ rfl (j := j) (by omega) (by omega) dMo_stemOf_54 ?_
        refine hw_topi (y := nI (g)) hfj ?_
        refine lv_iconst (v := nI 2) hx hb dMo_stemOf_55 (by decide) ?_
        refine hw_ic_ne (a := g) (b := 2) (tgt := 111) hx hb dMo_stemOf_56 (by decide) (by omega) (by omega) (fun cq_10 => ?_) (fun cq_10 => ?_)
        · refine lv_lload_n hx hb dMo_stemOf_111 rfl (lv_at hl 2 rfl) ?_
          exact hret hZ ⟨congrArg lN (by exact congrArg rW (by unfold trm; rw [if_neg (of_decide_eq_false cq_8)]; unfold stemL; simp_all (config := { decide := true }); try omega)), rfl⟩ dMo_stemOf_112
        · refine lv_lload_n hx hb dMo_stemOf_59 rfl (lv_at hl 2 rfl) ?_
          refine hw_calli (va_runS (As := [.long (lN (rW w))]) (rest := []) ⟨hx, hb, hml, hown, hts⟩ (m_last l D K X H_6.size (w := w) (by assumption) (by omega)) (va_cwS 1 hts (hwGood (hw_3 mm_376 mm_375 mm_365 (hwAll mm_374))) rfl rfl rfl (by decide +kernel) ⟨Nat.le_of_ble_eq_true rfl, Nat.le_of_ble_eq_true rfl⟩) (hw_preS hK hO hZ) rfl rfl hl.1 rfl (lv_room (Nat.le_of_ble_eq_true rfl)) dMo_stemOf_60 ⟨(show 0 + 0 ≤ 0 by omega), (show 0 + 0 ≤ 0 by omega)⟩) hZ hA (fun r X_11 H_12 lc_13 hp hZ => ?_)
          obtain ⟨hr, hy, xx_14⟩ := hp
          subst hy
          refine hw_topi hr ?_
          refine lv_bipush (v := nI 14) hx hb dMo_stemOf_63 (by decide) ?_
          refine hw_ic_ne (a := w.getD (w.length - 1) 0) (b := 14) (tgt := 89) hx hb dMo_stemOf_65 (by decide) (by omega) (by omega) (fun cq_15 => ?_) (fun cq_15 => ?_)
          · refine lv_lload_n hx hb dMo_stemOf_89 rfl (lv_at hl 2 rfl) ?_
            refine hw_calli (va_runS (As := [.long (lN (rW w))]) (rest := []) ⟨hx, hb, hml, hown, hts⟩ (m_last l D K X H_12.size (w := w) (by assumption) (by omega)) (va_cwS 1 hts (hwGood (hw_3 mm_376 mm_375 mm_365 (hwAll mm_374))) rfl rfl rfl (by decide +kernel) ⟨Nat.le_of_ble_eq_true rfl, Nat.le_of_ble_eq_true rfl⟩) (hw_preS hK hO hZ) rfl rfl hl.1 rfl (lv_room (Nat.le_of_ble_eq_true rfl)) dMo_stemOf_90 ⟨(show 0 + 0 ≤ 0 by omega), (show 0 + 0 ≤ 0 by omega)⟩) hZ hA (fun r X_16 H_17 lc_18 hp hZ => ?_)
            obtain ⟨hr, hy, xx_19⟩ := hp
            subst hy
            refine hw_topi hr ?_
            refine lv_iconst (v := nI 5) hx hb dMo_stemOf_93 (by decide) ?_
            refine hw_ic_ne (a := w.getD (w.length - 1) 0) (b := 5) (tgt := 109) hx hb dMo_stemOf_94 (by decide) (by omega) (by omega) (fun cq_20 => ?_) (fun cq_20 => ?_)
            · refine lv_lload_n hx hb dMo_stemOf_109 rfl (lv_at hl 2 rfl) ?_
              exact hret hZ ⟨congrArg lN (by exact congrArg rW (by unfold trm; rw [if_neg (of_decide_eq_false cq_8)]; unfold stemL; simp_all (config := { decide := true }); try omega)), rfl⟩ dMo_stemOf_110
            · refine lv_iload hx hb dMo_stemOf_97 (lv_at hl 0 rfl) ?_
              refine lv_iconst (v := nI 3) hx hb dMo_stemOf_99 (by decide) ?_
              refine hw_ic_le (a := w.length) (b := 3) (tgt := 109) hx hb dMo_stemOf_100 (by decide) (by omega) (by omega) (fun cq_21 => ?_) (fun cq_21 => by exfalso; omega)
              refine lv_lload_n hx hb dMo_stemOf_109 rfl (lv_at hl 2 rfl) ?_
              exact hret hZ ⟨congrArg lN (by exact congrArg rW (by unfold trm; rw [if_neg (of_decide_eq_false cq_8)]; unfold stemL; simp_all (config := { decide := true }); try omega)), rfl⟩ dMo_stemOf_110
          · refine lv_lload_n hx hb dMo_stemOf_68 rfl (lv_at hl 2 rfl) ?_
            refine lv_iconst (v := nI 5) hx hb dMo_stemOf_69 (by decide) ?_
            refine lv_lshr hx hb dMo_stemOf_70 (hw_lshr (n := rW w) (k := 5) (by first | exact rW_lt62 (by assumption) | exact rW_lt62 (hR2 _) | omega) (by omega)) ?_
            refine hw_topl (congrArg lN (rW_div0 hw.2 (k := 1) (by omega))) ?_
            have hz0 : okW [] := okW_nil
            refine hw_topl (show lN 0 = lN (rW []) from rfl) ?_
            refine hw_calli (va_runS (As := [.long (lN (rW []))]) (rest := []) ⟨hx, hb, hml, hown, hts⟩ (m_last0 l D K X H_12.size  ) (va_cwS 1 hts (hwGood (hw_3 mm_376 mm_375 mm_365 (hwAll mm_374))) rfl rfl rfl (by decide +kernel) ⟨Nat.le_of_ble_eq_true rfl, Nat.le_of_ble_eq_true rfl⟩) (hw_preS hK hO hZ) rfl rfl hl.1 rfl (lv_room (Nat.le_of_ble_eq_true rfl)) dMo_stemOf_71 ⟨(show 0 + 0 ≤ 0 by omega), (show 0 + 0 ≤ 0 by omega)⟩) hZ hA (fun r X_22 H_23 lc_24 hp hZ => ?_)
            obtain ⟨hr, hy⟩ := hp
            subst hy
            refine hw_topi hr ?_
            refine lv_iconst (v := nI 5) hx hb dMo_stemOf_74 (by decide) ?_
            refine hw_ic_ne (a := 0) (b := 5) (tgt := 89) hx hb dMo_stemOf_75 (by decide) (by omega) (by omega) (fun cq_25 => ?_) (fun cq_25 => by exfalso; omega)
            refine lv_lload_n hx hb dMo_stemOf_89 rfl (lv_at hl 2 rfl) ?_
            refine hw_calli (va_runS (As := [.long (lN (rW w))]) (rest := []) ⟨hx, hb, hml, hown, hts⟩ (m_last l D K X H_23.size (w := w) (by assumption) (by omega)) (va_cwS 1 hts (hwGood (hw_3 mm_376 mm_375 mm_365 (hwAll mm_374))) rfl rfl rfl (by decide +kernel) ⟨Nat.le_of_ble_eq_true rfl, Nat.le_of_ble_eq_true rfl⟩) (hw_preS hK hO hZ) rfl rfl hl.1 rfl (lv_room (Nat.le_of_ble_eq_true rfl)) dMo_stemOf_90 ⟨(show 0 + 0 ≤ 0 by omega), (show 0 + 0 ≤ 0 by omega)⟩) hZ hA (fun r X_26 H_27 lc_28 hp hZ => ?_)
            obtain ⟨hr, hy, xx_29⟩ := hp
            subst hy
            refine hw_topi hr ?_
            refine lv_iconst (v := nI 5) hx hb dMo_stemOf_93 (by decide) ?_
            refine hw_ic_ne (a := w.getD (w.length - 1) 0) (b := 5) (tgt := 109) hx hb dMo_stemOf_94 (by decide) (by omega) (by omega) (fun cq_30 => ?_) (fun cq_30 => by exfalso; omega)
            refine lv_lload_n hx hb dMo_stemOf_109 rfl (lv_at hl 2 rfl) ?_
            exact hret hZ ⟨congrArg lN (by exact congrArg rW (by unfold trm; rw [if_neg (of_decide_eq_false cq_8)]; unfold stemL; simp_all (config := { decide := true }); try omega)), rfl⟩ dMo_stemOf_110
      · refine lv_lload_n hx hb dMo_stemOf_26 rfl (lv_at hl 2 rfl) ?_
        refine hw_calli (va_runS (As := [.long (lN (rW w))]) (rest := []) ⟨hx, hb, hml, hown, hts⟩ (m_last l D K X H_6.size (w := w) (by assumption) (by omega)) (va_cwS 1 hts (hwGood (hw_3 mm_376 mm_375 mm_365 (hwAll mm_374))) rfl rfl rfl (by decide +kernel) ⟨Nat.le_of_ble_eq_true rfl, Nat.le_of_ble_eq_true rfl⟩) (hw_preS hK hO hZ) rfl rfl hl.1 rfl (lv_room (Nat.le_of_ble_eq_true rfl)) dMo_stemOf_27 ⟨(show 0 + 0 ≤ 0 by omega), (show 0 + 0 ≤ 0 by omega)⟩) hZ hA (fun r X_31 H_32 lc_33 hp hZ => ?_)
        obtain ⟨hr, hy, xx_34⟩ := hp
        subst hy
        refine hw_topi hr ?_
        refine lv_bipush (v := nI 19) hx hb dMo_stemOf_30 (by decide) ?_
        refine hw_ic_ne (a := w.getD (w.length - 1) 0) (b := 19) (tgt := 47) hx hb dMo_stemOf_32 (by decide) (by omega) (by omega) (fun cq_35 => ?_) (fun cq_35 => ?_)
        · refine lv_lload_n hx hb dMo_stemOf_47 rfl (lv_at hl 2 rfl) ?_
          exact hret hZ ⟨congrArg lN (by exact congrArg rW (by unfold trm; rw [if_neg (of_decide_eq_false cq_8)]; unfold stemL; simp_all (config := { decide := true }); try omega)), rfl⟩ dMo_stemOf_48
        · refine lv_iload hx hb dMo_stemOf_35 (lv_at hl 0 rfl) ?_
          refine lv_iconst (v := nI 3) hx hb dMo_stemOf_37 (by decide) ?_
          refine hw_ic_le (a := w.length) (b := 3) (tgt := 47) hx hb dMo_stemOf_38 (by decide) (by omega) (by omega) (fun cq_36 => ?_) (fun cq_36 => by exfalso; omega)
          refine lv_lload_n hx hb dMo_stemOf_47 rfl (lv_at hl 2 rfl) ?_
          exact hret hZ ⟨congrArg lN (by exact congrArg rW (by unfold trm; rw [if_neg (of_decide_eq_false cq_8)]; unfold stemL; simp_all (config := { decide := true }); try omega)), rfl⟩ dMo_stemOf_48
    · refine lv_lconst (v := lN 0) hx hb dMo_stemOf_14 rfl ?_
      exact hret hZ ⟨by unfold trm; rw [if_pos (of_decide_eq_true cq_8)]; rfl, rfl⟩ dMo_stemOf_15
  · refine lv_lload_n hx hb dMo_stemOf_0 rfl (lv_at hl 1 rfl) ?_
    refine hw_calli (va_runS (As := [.long (lN (rW w))]) (rest := []) ⟨hx, hb, hml, hown, hts⟩ (m_length l D K X s.heap.size (w := w) (by assumption)) (va_cwS 1 hts (hwGood (hw_3 mm_364 mm_363 mm_365 (hwAll mm_362))) rfl rfl rfl (by decide +kernel) ⟨Nat.le_of_ble_eq_true rfl, Nat.le_of_ble_eq_true rfl⟩) (hw_preS hK hO hZ) rfl rfl hl.1 rfl (lv_room (Nat.le_of_ble_eq_true rfl)) dMo_stemOf_1 ⟨(show 0 + 0 ≤ 0 by omega), (show 0 + 0 ≤ 0 by omega)⟩) hZ hA (fun r X_37 H_38 lc_39 hp hZ => ?_)
    obtain ⟨hr, hy, xx_40⟩ := hp
    subst hy
    refine hw_topi hr ?_
    refine lv_istore (lv' := [(4, .int (nI w.length)), (0, .ref a), (1, .long (lN (rW w))), (3, .int (nI j))]) hx hb dMo_stemOf_4 hl (by decide) rfl (fun ls hl => ?_)
    refine lv_aload_n hx hb dMo_stemOf_6 rfl (lv_at hl 1 rfl) ?_
    refine lv_lload_n hx hb dMo_stemOf_7 rfl (lv_at hl 2 rfl) ?_
    refine hw_calli (va_runV (As := [.long (lN (rW w))]) (rest := []) ⟨hx, hb, hml, hown, hts⟩ (m_isStop l D K X H_38.size (a := a) (r1 := r1) (r2 := r2) (r3 := r3) (r4 := r4) (r5 := r5) (r6 := r6) (r7 := r7) (r8 := r8) (r9 := r9) (r10 := r10) (r11 := r11) (r12 := r12) (r13 := r13) (r14 := r14) (r15 := r15) (tz := tz) (nr := nr) (ng := ng) (ns := ns) (nz := nz) (na := na) (nw := nw) (nh := nh) (nt := nt) (st := st) (w := w) f0_ f1_ (by omega) (by assumption)) (cwV 1 hts (hwGood (hw_4 mm_370 mm_371 mm_372 mm_365 (hwAll mm_369))) rfl rfl rfl (by decide +kernel) ⟨Nat.le_of_ble_eq_true rfl, Nat.le_of_ble_eq_true rfl⟩) (hw_preV hK hO hZ (⟨_, _, f0_⟩) rfl) rfl rfl hl.1 rfl (lv_room (Nat.le_of_ble_eq_true rfl)) dMo_stemOf_8 ⟨(show 0 + 0 ≤ 0 by omega), (show 0 + 0 ≤ 0 by omega)⟩) hZ hA (fun r X_41 H_42 lc_43 hp hZ => ?_)
    obtain ⟨hr, hy⟩ := hp
    subst hy
    refine hw_topi hr ?_
    refine hw_bz_eq (tgt := 16) hx hb dMo_stemOf_11 (by decide) (fun cq_44 => ?_) (fun cq_44 => ?_)
    · refine lv_aload_n hx hb dMo_stemOf_16 rfl (lv_at hl 1 rfl) ?_
      refine hw_get hx hb hts (hwInn inMo) hown hK hZ f0_ rfl 6 (by decide) (hts (.fieldLink RMo 21 RMo "languages" "[I") (hwMem mm_373)) (fun _ h => h) rfl dMo_stemOf_17 ?_
      refine lv_iload_n hx hb dMo_stemOf_20 rfl (lv_at hl 3 rfl) ?_
      refine hw_iald hx hb hK hZ 0 f2_ rfl (j := j) (by omega) (by omega) dMo_stemOf_21 ?_
      refine hw_topi (y := nI (g)) hfj ?_
      refine lv_iconst (v := nI 1) hx hb dMo_stemOf_22 (by decide) ?_
      refine hw_ic_ne (a := g) (b := 1) (tgt := 49) hx hb dMo_stemOf_23 (by decide) (by omega) (by omega) (fun cq_45 => ?_) (fun cq_45 => ?_)
      · refine lv_aload_n hx hb dMo_stemOf_49 rfl (lv_at hl 1 rfl) ?_
        refine hw_get hx hb hts (hwInn inMo) hown hK hZ f0_ rfl 6 (by decide) (hts (.fieldLink RMo 21 RMo "languages" "[I") (hwMem mm_373)) (fun _ h => h) rfl dMo_stemOf_50 ?_
        refine lv_iload_n hx hb dMo_stemOf_53 rfl (lv_at hl 3 rfl) ?_
        refine hw_iald hx hb hK hZ 0 f2_ rfl (j := j) (by omega) (by omega) dMo_stemOf_54 ?_
        refine hw_topi (y := nI (g)) hfj ?_
        refine lv_iconst (v := nI 2) hx hb dMo_stemOf_55 (by decide) ?_
        refine hw_ic_ne (a := g) (b := 2) (tgt := 111) hx hb dMo_stemOf_56 (by decide) (by omega) (by omega) (fun cq_46 => ?_) (fun cq_46 => ?_)
        · refine lv_lload_n hx hb dMo_stemOf_111 rfl (lv_at hl 2 rfl) ?_
          exact hret hZ ⟨congrArg lN (by exact congrArg rW (by unfold trm; rw [if_neg (of_decide_eq_false cq_44)]; unfold stemL; simp_all (config := { decide := true }); try omega)), rfl⟩ dMo_stemOf_112
        · refine lv_lload_n hx hb dMo_stemOf_59 rfl (lv_at hl 2 rfl) ?_
          refine hw_calli (va_runS (As := [.long (lN (rW w))]) (rest := []) ⟨hx, hb, hml, hown, hts⟩ (m_last l D K X H_42.size (w := w) (by assumption) (by omega)) (va_cwS 1 hts (hwGood (hw_3 mm_376 mm_375 mm_365 (hwAll mm_374))) rfl rfl rfl (by decide +kernel) ⟨Nat.le_of_ble_eq_true rfl, Nat.le_of_ble_eq_true rfl⟩) (hw_preS hK hO hZ) rfl rfl hl.1 rfl (lv_room (Nat.le_of_ble_eq_true rfl)) dMo_stemOf_60 ⟨(show 0 + 0 ≤ 0 by omega), (show 0 + 0 ≤ 0 by omega)⟩) hZ hA (fun r X_47 H_48 lc_49 hp hZ => ?_)
          obtain ⟨hr, hy, xx_50⟩ := hp
          subst hy
          refine hw_topi hr ?_
          refine lv_bipush (v := nI 14) hx hb dMo_stemOf_63 (by decide) ?_
          refine hw_ic_ne (a := w.getD (w.length - 1) 0) (b := 14) (tgt := 89) hx hb dMo_stemOf_65 (by decide) (by omega) (by omega) (fun cq_51 => ?_) (fun cq_51 => ?_)
          · refine lv_lload_n hx hb dMo_stemOf_89 rfl (lv_at hl 2 rfl) ?_
            refine hw_calli (va_runS (As := [.long (lN (rW w))]) (rest := []) ⟨hx, hb, hml, hown, hts⟩ (m_last l D K X H_48.size (w := w) (by assumption) (by omega)) (va_cwS 1 hts (hwGood (hw_3 mm_376 mm_375 mm_365 (hwAll mm_374))) rfl rfl rfl (by decide +kernel) ⟨Nat.le_of_ble_eq_true rfl, Nat.le_of_ble_eq_true rfl⟩) (hw_preS hK hO hZ) rfl rfl hl.1 rfl (lv_room (Nat.le_of_ble_eq_true rfl)) dMo_stemOf_90 ⟨(show 0 + 0 ≤ 0 by omega), (show 0 + 0 ≤ 0 by omega)⟩) hZ hA (fun r X_52 H_53 lc_54 hp hZ => ?_)
            obtain ⟨hr, hy, xx_55⟩ := hp
            subst hy
            refine hw_topi hr ?_
            refine lv_iconst (v := nI 5) hx hb dMo_stemOf_93 (by decide) ?_
            refine hw_ic_ne (a := w.getD (w.length - 1) 0) (b := 5) (tgt := 109) hx hb dMo_stemOf_94 (by decide) (by omega) (by omega) (fun cq_56 => ?_) (fun cq_56 => ?_)
            · refine lv_lload_n hx hb dMo_stemOf_109 rfl (lv_at hl 2 rfl) ?_
              exact hret hZ ⟨congrArg lN (by exact congrArg rW (by unfold trm; rw [if_neg (of_decide_eq_false cq_44)]; unfold stemL; simp_all (config := { decide := true }); try omega)), rfl⟩ dMo_stemOf_110
            · refine lv_iload hx hb dMo_stemOf_97 (lv_at hl 0 rfl) ?_
              refine lv_iconst (v := nI 3) hx hb dMo_stemOf_99 (by decide) ?_
              refine hw_ic_le (a := w.length) (b := 3) (tgt := 109) hx hb dMo_stemOf_100 (by decide) (by omega) (by omega) (fun cq_57 => ?_) (fun cq_57 => ?_)
              · refine lv_lload_n hx hb dMo_stemOf_109 rfl (lv_at hl 2 rfl) ?_
                exact hret hZ ⟨congrArg lN (by exact congrArg rW (by unfold trm; rw [if_neg (of_decide_eq_false cq_44)]; unfold stemL; simp_all (config := { decide := true }); try omega)), rfl⟩ dMo_stemOf_110
              · refine lv_lload_n hx hb dMo_stemOf_103 rfl (lv_at hl 2 rfl) ?_
                refine lv_iconst (v := nI 5) hx hb dMo_stemOf_104 (by decide) ?_
                refine lv_lshr hx hb dMo_stemOf_105 (hw_lshr (n := rW w) (k := 5) (by first | exact rW_lt62 (by assumption) | exact rW_lt62 (hR2 _) | omega) (by omega)) ?_
                refine lv_goto (tgt := 110) hx hb dMo_stemOf_106 (by decide) ?_
                exact hret hZ ⟨congrArg lN (by rw [rW_d1 hw.2 (by omega)]; exact congrArg rW (by unfold trm; rw [if_neg (of_decide_eq_false cq_44)]; unfold stemL; simp_all (config := { decide := true }); try omega)), rfl⟩ dMo_stemOf_110
          · refine lv_lload_n hx hb dMo_stemOf_68 rfl (lv_at hl 2 rfl) ?_
            refine lv_iconst (v := nI 5) hx hb dMo_stemOf_69 (by decide) ?_
            refine lv_lshr hx hb dMo_stemOf_70 (hw_lshr (n := rW w) (k := 5) (by first | exact rW_lt62 (by assumption) | exact rW_lt62 (hR2 _) | omega) (by omega)) ?_
            refine hw_topl (congrArg lN (rW_d1 hw.2 (by omega))) ?_
            have hlt : (w.take (w.length - 1)).length = w.length - 1 := by rw [List.length_take]; omega
            refine hw_calli (va_runS (As := [.long (lN (rW (w.take (w.length - 1))))]) (rest := []) ⟨hx, hb, hml, hown, hts⟩ (m_last l D K X H_48.size (w := (w.take (w.length - 1))) (hw.take _) (by omega)) (va_cwS 1 hts (hwGood (hw_3 mm_376 mm_375 mm_365 (hwAll mm_374))) rfl rfl rfl (by decide +kernel) ⟨Nat.le_of_ble_eq_true rfl, Nat.le_of_ble_eq_true rfl⟩) (hw_preS hK hO hZ) rfl rfl hl.1 rfl (lv_room (Nat.le_of_ble_eq_true rfl)) dMo_stemOf_71 ⟨(show 0 + 0 ≤ 0 by omega), (show 0 + 0 ≤ 0 by omega)⟩) hZ hA (fun r X_58 H_59 lc_60 hp hZ => ?_)
            obtain ⟨hr, hy, xx_61⟩ := hp
            subst hy
            refine hw_topi hr ?_
            refine hw_topi (congrArg nI (take_last (by omega))) ?_
            have hl2 := getD_le hw.2 (w.length - 2)
            refine lv_iconst (v := nI 5) hx hb dMo_stemOf_74 (by decide) ?_
            refine hw_ic_ne (a := w.getD (w.length - 2) 0) (b := 5) (tgt := 89) hx hb dMo_stemOf_75 (by decide) (by omega) (by omega) (fun cq_62 => ?_) (fun cq_62 => ?_)
            · refine lv_lload_n hx hb dMo_stemOf_89 rfl (lv_at hl 2 rfl) ?_
              refine hw_calli (va_runS (As := [.long (lN (rW w))]) (rest := []) ⟨hx, hb, hml, hown, hts⟩ (m_last l D K X H_59.size (w := w) (by assumption) (by omega)) (va_cwS 1 hts (hwGood (hw_3 mm_376 mm_375 mm_365 (hwAll mm_374))) rfl rfl rfl (by decide +kernel) ⟨Nat.le_of_ble_eq_true rfl, Nat.le_of_ble_eq_true rfl⟩) (hw_preS hK hO hZ) rfl rfl hl.1 rfl (lv_room (Nat.le_of_ble_eq_true rfl)) dMo_stemOf_90 ⟨(show 0 + 0 ≤ 0 by omega), (show 0 + 0 ≤ 0 by omega)⟩) hZ hA (fun r X_63 H_64 lc_65 hp hZ => ?_)
              obtain ⟨hr, hy, xx_66⟩ := hp
              subst hy
              refine hw_topi hr ?_
              refine lv_iconst (v := nI 5) hx hb dMo_stemOf_93 (by decide) ?_
              refine hw_ic_ne (a := w.getD (w.length - 1) 0) (b := 5) (tgt := 109) hx hb dMo_stemOf_94 (by decide) (by omega) (by omega) (fun cq_67 => ?_) (fun cq_67 => by exfalso; omega)
              refine lv_lload_n hx hb dMo_stemOf_109 rfl (lv_at hl 2 rfl) ?_
              exact hret hZ ⟨congrArg lN (by exact congrArg rW (by unfold trm; rw [if_neg (of_decide_eq_false cq_44)]; unfold stemL; simp_all (config := { decide := true }); try omega)), rfl⟩ dMo_stemOf_110
            · refine lv_iload hx hb dMo_stemOf_78 (lv_at hl 0 rfl) ?_
              refine lv_iconst (v := nI 4) hx hb dMo_stemOf_80 (by decide) ?_
              refine hw_ic_le (a := w.length) (b := 4) (tgt := 89) hx hb dMo_stemOf_81 (by decide) (by omega) (by omega) (fun cq_68 => ?_) (fun cq_68 => ?_)
              · refine lv_lload_n hx hb dMo_stemOf_89 rfl (lv_at hl 2 rfl) ?_
                refine hw_calli (va_runS (As := [.long (lN (rW w))]) (rest := []) ⟨hx, hb, hml, hown, hts⟩ (m_last l D K X H_59.size (w := w) (by assumption) (by omega)) (va_cwS 1 hts (hwGood (hw_3 mm_376 mm_375 mm_365 (hwAll mm_374))) rfl rfl rfl (by decide +kernel) ⟨Nat.le_of_ble_eq_true rfl, Nat.le_of_ble_eq_true rfl⟩) (hw_preS hK hO hZ) rfl rfl hl.1 rfl (lv_room (Nat.le_of_ble_eq_true rfl)) dMo_stemOf_90 ⟨(show 0 + 0 ≤ 0 by omega), (show 0 + 0 ≤ 0 by omega)⟩) hZ hA (fun r X_69 H_70 lc_71 hp hZ => ?_)
                obtain ⟨hr, hy, xx_72⟩ := hp
                subst hy
                refine hw_topi hr ?_
                refine lv_iconst (v := nI 5) hx hb dMo_stemOf_93 (by decide) ?_
                refine hw_ic_ne (a := w.getD (w.length - 1) 0) (b := 5) (tgt := 109) hx hb dMo_stemOf_94 (by decide) (by omega) (by omega) (fun cq_73 => ?_) (fun cq_73 => by exfalso; omega)
                refine lv_lload_n hx hb dMo_stemOf_109 rfl (lv_at hl 2 rfl) ?_
                exact hret hZ ⟨congrArg lN (by exact congrArg rW (by unfold trm; rw [if_neg (of_decide_eq_false cq_44)]; unfold stemL; simp_all (config := { decide := true }); try omega)), rfl⟩ dMo_stemOf_110
              · refine lv_lload_n hx hb dMo_stemOf_84 rfl (lv_at hl 2 rfl) ?_
                refine lv_bipush (v := nI 10) hx hb dMo_stemOf_85 (by decide) ?_
                refine lv_lshr hx hb dMo_stemOf_87 (hw_lshr (n := rW w) (k := 10) (by first | exact rW_lt62 (by assumption) | exact rW_lt62 (hR2 _) | omega) (by omega)) ?_
                exact hret hZ ⟨congrArg lN (by rw [rW_d2 hw.2 (by omega)]; exact congrArg rW (by unfold trm; rw [if_neg (of_decide_eq_false cq_44)]; unfold stemL; simp_all (config := { decide := true }); try omega)), rfl⟩ dMo_stemOf_88
      · refine lv_lload_n hx hb dMo_stemOf_26 rfl (lv_at hl 2 rfl) ?_
        refine hw_calli (va_runS (As := [.long (lN (rW w))]) (rest := []) ⟨hx, hb, hml, hown, hts⟩ (m_last l D K X H_42.size (w := w) (by assumption) (by omega)) (va_cwS 1 hts (hwGood (hw_3 mm_376 mm_375 mm_365 (hwAll mm_374))) rfl rfl rfl (by decide +kernel) ⟨Nat.le_of_ble_eq_true rfl, Nat.le_of_ble_eq_true rfl⟩) (hw_preS hK hO hZ) rfl rfl hl.1 rfl (lv_room (Nat.le_of_ble_eq_true rfl)) dMo_stemOf_27 ⟨(show 0 + 0 ≤ 0 by omega), (show 0 + 0 ≤ 0 by omega)⟩) hZ hA (fun r X_74 H_75 lc_76 hp hZ => ?_)
        obtain ⟨hr, hy, xx_77⟩ := hp
        subst hy
        refine hw_topi hr ?_
        refine lv_bipush (v := nI 19) hx hb dMo_stemOf_30 (by decide) ?_
        refine hw_ic_ne (a := w.getD (w.length - 1) 0) (b := 19) (tgt := 47) hx hb dMo_stemOf_32 (by decide) (by omega) (by omega) (fun cq_78 => ?_) (fun cq_78 => ?_)
        · refine lv_lload_n hx hb dMo_stemOf_47 rfl (lv_at hl 2 rfl) ?_
          exact hret hZ ⟨congrArg lN (by exact congrArg rW (by unfold trm; rw [if_neg (of_decide_eq_false cq_44)]; unfold stemL; simp_all (config := { decide := true }); try omega)), rfl⟩ dMo_stemOf_48
        · refine lv_iload hx hb dMo_stemOf_35 (lv_at hl 0 rfl) ?_
          refine lv_iconst (v := nI 3) hx hb dMo_stemOf_37 (by decide) ?_
          refine hw_ic_le (a := w.length) (b := 3) (tgt := 47) hx hb dMo_stemOf_38 (by decide) (by omega) (by omega) (fun cq_79 => ?_) (fun cq_79 => ?_)
          · refine lv_lload_n hx hb dMo_stemOf_47 rfl (lv_at hl 2 rfl) ?_
            exact hret hZ ⟨congrArg lN (by exact congrArg rW (by unfold trm; rw [if_neg (of_decide_eq_false cq_44)]; unfold stemL; simp_all (config := { decide := true }); try omega)), rfl⟩ dMo_stemOf_48
          · refine lv_lload_n hx hb dMo_stemOf_41 rfl (lv_at hl 2 rfl) ?_
            refine lv_iconst (v := nI 5) hx hb dMo_stemOf_42 (by decide) ?_
            refine lv_lshr hx hb dMo_stemOf_43 (hw_lshr (n := rW w) (k := 5) (by first | exact rW_lt62 (by assumption) | exact rW_lt62 (hR2 _) | omega) (by omega)) ?_
            refine lv_goto (tgt := 48) hx hb dMo_stemOf_44 (by decide) ?_
            exact hret hZ ⟨congrArg lN (by rw [rW_d1 hw.2 (by omega)]; exact congrArg rW (by unfold trm; rw [if_neg (of_decide_eq_false cq_44)]; unfold stemL; simp_all (config := { decide := true }); try omega)), rfl⟩ dMo_stemOf_48
    · refine lv_lconst (v := lN 0) hx hb dMo_stemOf_14 rfl ?_
      exact hret hZ ⟨by unfold trm; rw [if_pos (of_decide_eq_true cq_44)]; rfl, rfl⟩ dMo_stemOf_15
