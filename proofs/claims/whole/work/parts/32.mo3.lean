theorem layW_pos {w : List Nat} {x : Nat} (h : 1 ≤ w.length) : 1 ≤ (layW w x).length := by
  unfold layW
  split
  · exact h
  · rw [List.length_append]; simp
theorem app1_len (ws : List (List Nat)) (v : List Nat) : (ws ++ [v]).length = ws.length + 1 := by simp
theorem rvec_map {f : Nat → Int64} {ws : List (List Nat)} {φ : List Nat → List Nat} (h : ∀ p, p < ws.length → f p = lN (rW (φ (ws.getD p [])))) : rvec f (ws.map φ) := by
  intro p hp
  rw [List.length_map] at hp
  rw [getD_map hp]
  exact h p hp
theorem okWs_map {ws : List (List Nat)} (h : okWs ws) (g : Nat) (ss : List (List Nat)) : okWs (ws.map (trm g ss)) := fun v hv => by
  obtain ⟨u, hu, rfl⟩ := List.mem_map.mp hv
  exact okW_trm (h u hu) g ss
theorem rwAt.clr {K : Nat → ClassId} {X : hwW} {q L N : Nat} {ws : List (List Nat)} (h : rwAt K X q L N ws) : rwAt K X q L N [] := by
  obtain ⟨f, g, -⟩ := h
  exact ⟨f, g, Nat.zero_le _, rvec.nil, okWs.nil⟩
theorem range_all_succ {n : Nat} {P : Nat → Bool} : (List.range (n + 1)).all P = ((List.range n).all P && P n) := by
  rw [List.range_succ, List.all_append]
  simp only [List.all_cons, List.all_nil, Bool.and_true]
def stQ (ta tb : List (List Nat)) (n k : Nat) : Bool := (List.range k).all (fun i => decide (ta.getD i [] = [] ∨ ta.getD i [] = tb.getD (n + i) []))
theorem stQ_t {ta tb : List (List Nat)} {n k : Nat} (h : stQ ta tb n k = true) (h2 : ta.getD k [] = [] ∨ ta.getD k [] = tb.getD (n + k) []) : true = stQ ta tb n (k + 1) := by
  unfold stQ at h ⊢
  rw [range_all_succ, h, decide_eq_true h2]; rfl
theorem stQ_f {ta tb : List (List Nat)} {n k : Nat} (h2 : ¬ (ta.getD k [] = [] ∨ ta.getD k [] = tb.getD (n + k) [])) : false = stQ ta tb n (k + 1) := by
  unfold stQ
  rw [range_all_succ, decide_eq_false h2, Bool.and_false]
theorem stQ_end {ta tb : List (List Nat)} {n k : Nat} {b : Bool} (hb : b = stQ ta tb n k) (hk : k ≤ ta.length) (h : k = ta.length ∨ b = false) : b = stL ta tb n := by
  rcases h with h | h
  · rw [hb, h]; rfl
  · rw [h]
    rw [h] at hb
    symm
    unfold stQ at hb
    obtain ⟨i, hi, hp⟩ := List.all_eq_false.mp hb.symm
    exact stL_false (p := i) (by have := List.mem_range.mp hi; omega) (by simpa using hp)
theorem nd_sym (a b : Nat) : nd a b = nd b a := by unfold nd; omega
theorem nd_ge {a b : Nat} (h : b ≤ a) : a - b = nd a b := by unfold nd; omega
theorem nd_lt {a b : Nat} (h : a < b) : b - a = nd a b := by unfold nd; omega
theorem near_no {rt : List (List Nat)} {u v : List Nat} {dd i : Nat} (h : ∀ q, q < rt.length → ¬ (i ≠ q ∧ nd i q ≤ dd ∧ rt.getD i [] = u ∧ rt.getD q [] = v)) : ¬ (rt.getD i [] = u ∧ beL rt v dd i = true) := by
  intro hh
  obtain ⟨q, hq, hp⟩ := List.any_eq_true.mp hh.2
  have h3 := of_decide_eq_true hp
  exact h q (List.mem_range.mp hq) ⟨fun e => h3.1 e.symm, by rw [nd_sym]; exact h3.2.1, hh.1, h3.2.2⟩
theorem dMo_take_0 : decode cMo_take 0 = .ok (.aload_n 0, 1) := by decide +kernel
theorem dMo_take_1 : decode cMo_take 1 = .ok (.iconst 0, 1) := by decide +kernel
theorem dMo_take_2 : decode cMo_take 2 = .ok (.putfield 83, 3) := by decide +kernel
theorem dMo_take_5 : decode cMo_take 5 = .ok (.iconst 0, 1) := by decide +kernel
theorem dMo_take_6 : decode cMo_take 6 = .ok (.istore_n 1, 1) := by decide +kernel
theorem dMo_take_7 : decode cMo_take 7 = .ok (.iconst 0, 1) := by decide +kernel
theorem dMo_take_8 : decode cMo_take 8 = .ok (.istore_n 2, 1) := by decide +kernel
theorem dMo_take_9 : decode cMo_take 9 = .ok (.iload_n 2, 1) := by decide +kernel
theorem dMo_take_10 : decode cMo_take 10 = .ok (.aload_n 0, 1) := by decide +kernel
theorem dMo_take_11 : decode cMo_take 11 = .ok (.getfield 72, 3) := by decide +kernel
theorem dMo_take_14 : decode cMo_take 14 = .ok (.if_icmp .ge 57, 3) := by decide +kernel
theorem dMo_take_17 : decode cMo_take 17 = .ok (.aload_n 0, 1) := by decide +kernel
theorem dMo_take_18 : decode cMo_take 18 = .ok (.getfield 28, 3) := by decide +kernel
theorem dMo_take_21 : decode cMo_take 21 = .ok (.iload_n 2, 1) := by decide +kernel
theorem dMo_take_22 : decode cMo_take 22 = .ok (.baload, 1) := by decide +kernel
theorem dMo_take_23 : decode cMo_take 23 = .ok (.invokestatic 86, 3) := by decide +kernel
theorem dMo_take_26 : decode cMo_take 26 = .ok (.istore_n 3, 1) := by decide +kernel
theorem dMo_take_27 : decode cMo_take 27 = .ok (.aload_n 0, 1) := by decide +kernel
theorem dMo_take_28 : decode cMo_take 28 = .ok (.iload_n 3, 1) := by decide +kernel
theorem dMo_take_29 : decode cMo_take 29 = .ok (.ifCond .le 19, 3) := by decide +kernel
theorem dMo_take_32 : decode cMo_take 32 = .ok (.aload_n 0, 1) := by decide +kernel
theorem dMo_take_33 : decode cMo_take 33 = .ok (.getfield 31, 3) := by decide +kernel
theorem dMo_take_36 : decode cMo_take 36 = .ok (.aload_n 0, 1) := by decide +kernel
theorem dMo_take_37 : decode cMo_take 37 = .ok (.getfield 83, 3) := by decide +kernel
theorem dMo_take_40 : decode cMo_take 40 = .ok (.iload_n 1, 1) := by decide +kernel
theorem dMo_take_41 : decode cMo_take 41 = .ok (.iload_n 3, 1) := by decide +kernel
theorem dMo_take_42 : decode cMo_take 42 = .ok (.invokestatic 90, 3) := by decide +kernel
theorem dMo_take_45 : decode cMo_take 45 = .ok (.goto 7, 3) := by decide +kernel
theorem dMo_take_48 : decode cMo_take 48 = .ok (.aload_n 0, 1) := by decide +kernel
theorem dMo_take_49 : decode cMo_take 49 = .ok (.getfield 83, 3) := by decide +kernel
theorem dMo_take_52 : decode cMo_take 52 = .ok (.putfield 83, 3) := by decide +kernel
theorem dMo_take_55 : decode cMo_take 55 = .ok (.iload_n 3, 1) := by decide +kernel
theorem dMo_take_56 : decode cMo_take 56 = .ok (.ifCond .le 7, 3) := by decide +kernel
theorem dMo_take_59 : decode cMo_take 59 = .ok (.iconst 1, 1) := by decide +kernel
theorem dMo_take_60 : decode cMo_take 60 = .ok (.goto 4, 3) := by decide +kernel
theorem dMo_take_63 : decode cMo_take 63 = .ok (.iconst 0, 1) := by decide +kernel
theorem dMo_take_64 : decode cMo_take 64 = .ok (.istore_n 1, 1) := by decide +kernel
theorem dMo_take_65 : decode cMo_take 65 = .ok (.iinc 2 1, 3) := by decide +kernel
theorem dMo_take_68 : decode cMo_take 68 = .ok (.goto (-59), 3) := by decide +kernel
theorem dMo_take_71 : decode cMo_take 71 = .ok (.aload_n 0, 1) := by decide +kernel
theorem dMo_take_72 : decode cMo_take 72 = .ok (.iconst 0, 1) := by decide +kernel
theorem dMo_take_73 : decode cMo_take 73 = .ok (.putfield 72, 3) := by decide +kernel
theorem dMo_take_76 : decode cMo_take 76 = .ok (.return_, 1) := by decide +kernel
theorem dMo_gather_0 : decode cMo_gather 0 = .ok (.aload_n 0, 1) := by decide +kernel
theorem dMo_gather_1 : decode cMo_gather 1 = .ok (.iconst 0, 1) := by decide +kernel
theorem dMo_gather_2 : decode cMo_gather 2 = .ok (.putfield 94, 3) := by decide +kernel
theorem dMo_gather_5 : decode cMo_gather 5 = .ok (.iconst 0, 1) := by decide +kernel
theorem dMo_gather_6 : decode cMo_gather 6 = .ok (.istore_n 3, 1) := by decide +kernel
theorem dMo_gather_7 : decode cMo_gather 7 = .ok (.iconst 0, 1) := by decide +kernel
theorem dMo_gather_8 : decode cMo_gather 8 = .ok (.istore 4, 2) := by decide +kernel
theorem dMo_gather_10 : decode cMo_gather 10 = .ok (.iload 4, 2) := by decide +kernel
theorem dMo_gather_12 : decode cMo_gather 12 = .ok (.aload_n 0, 1) := by decide +kernel
theorem dMo_gather_13 : decode cMo_gather 13 = .ok (.getfield 69, 3) := by decide +kernel
theorem dMo_gather_16 : decode cMo_gather 16 = .ok (.if_icmp .ge 77, 3) := by decide +kernel
theorem dMo_gather_19 : decode cMo_gather 19 = .ok (.aload_n 0, 1) := by decide +kernel
theorem dMo_gather_20 : decode cMo_gather 20 = .ok (.getfield 17, 3) := by decide +kernel
theorem dMo_gather_23 : decode cMo_gather 23 = .ok (.iload 4, 2) := by decide +kernel
theorem dMo_gather_25 : decode cMo_gather 25 = .ok (.iaload, 1) := by decide +kernel
theorem dMo_gather_26 : decode cMo_gather 26 = .ok (.iconst 4, 1) := by decide +kernel
theorem dMo_gather_27 : decode cMo_gather 27 = .ok (.iload_n 1, 1) := by decide +kernel
theorem dMo_gather_28 : decode cMo_gather 28 = .ok (.imul, 1) := by decide +kernel
theorem dMo_gather_29 : decode cMo_gather 29 = .ok (.iload_n 2, 1) := by decide +kernel
theorem dMo_gather_30 : decode cMo_gather 30 = .ok (.iadd, 1) := by decide +kernel
theorem dMo_gather_31 : decode cMo_gather 31 = .ok (.if_icmp .ne 56, 3) := by decide +kernel
theorem dMo_gather_34 : decode cMo_gather 34 = .ok (.aload_n 0, 1) := by decide +kernel
theorem dMo_gather_35 : decode cMo_gather 35 = .ok (.getfield 13, 3) := by decide +kernel
theorem dMo_gather_38 : decode cMo_gather 38 = .ok (.iload 4, 2) := by decide +kernel
theorem dMo_gather_40 : decode cMo_gather 40 = .ok (.baload, 1) := by decide +kernel
theorem dMo_gather_41 : decode cMo_gather 41 = .ok (.invokestatic 86, 3) := by decide +kernel
theorem dMo_gather_44 : decode cMo_gather 44 = .ok (.istore 5, 2) := by decide +kernel
theorem dMo_gather_46 : decode cMo_gather 46 = .ok (.aload_n 0, 1) := by decide +kernel
theorem dMo_gather_47 : decode cMo_gather 47 = .ok (.iload 5, 2) := by decide +kernel
theorem dMo_gather_49 : decode cMo_gather 49 = .ok (.ifCond .le 20, 3) := by decide +kernel
theorem dMo_gather_52 : decode cMo_gather 52 = .ok (.aload_n 0, 1) := by decide +kernel
theorem dMo_gather_53 : decode cMo_gather 53 = .ok (.getfield 34, 3) := by decide +kernel
theorem dMo_gather_56 : decode cMo_gather 56 = .ok (.aload_n 0, 1) := by decide +kernel
theorem dMo_gather_57 : decode cMo_gather 57 = .ok (.getfield 94, 3) := by decide +kernel
theorem dMo_gather_60 : decode cMo_gather 60 = .ok (.iload_n 3, 1) := by decide +kernel
theorem dMo_gather_61 : decode cMo_gather 61 = .ok (.iload 5, 2) := by decide +kernel
theorem dMo_gather_63 : decode cMo_gather 63 = .ok (.invokestatic 90, 3) := by decide +kernel
theorem dMo_gather_66 : decode cMo_gather 66 = .ok (.goto 7, 3) := by decide +kernel
theorem dMo_gather_69 : decode cMo_gather 69 = .ok (.aload_n 0, 1) := by decide +kernel
theorem dMo_gather_70 : decode cMo_gather 70 = .ok (.getfield 94, 3) := by decide +kernel
theorem dMo_gather_73 : decode cMo_gather 73 = .ok (.putfield 94, 3) := by decide +kernel
theorem dMo_gather_76 : decode cMo_gather 76 = .ok (.iload 5, 2) := by decide +kernel
theorem dMo_gather_78 : decode cMo_gather 78 = .ok (.ifCond .le 7, 3) := by decide +kernel
theorem dMo_gather_81 : decode cMo_gather 81 = .ok (.iconst 1, 1) := by decide +kernel
theorem dMo_gather_82 : decode cMo_gather 82 = .ok (.goto 4, 3) := by decide +kernel
theorem dMo_gather_85 : decode cMo_gather 85 = .ok (.iconst 0, 1) := by decide +kernel
theorem dMo_gather_86 : decode cMo_gather 86 = .ok (.istore_n 3, 1) := by decide +kernel
theorem dMo_gather_87 : decode cMo_gather 87 = .ok (.iinc 4 1, 3) := by decide +kernel
theorem dMo_gather_90 : decode cMo_gather 90 = .ok (.goto (-80), 3) := by decide +kernel
theorem dMo_gather_93 : decode cMo_gather 93 = .ok (.iconst 0, 1) := by decide +kernel
theorem dMo_gather_94 : decode cMo_gather 94 = .ok (.istore 4, 2) := by decide +kernel
theorem dMo_gather_96 : decode cMo_gather 96 = .ok (.iload 4, 2) := by decide +kernel
theorem dMo_gather_98 : decode cMo_gather 98 = .ok (.aload_n 0, 1) := by decide +kernel
theorem dMo_gather_99 : decode cMo_gather 99 = .ok (.getfield 94, 3) := by decide +kernel
theorem dMo_gather_102 : decode cMo_gather 102 = .ok (.if_icmp .ge 28, 3) := by decide +kernel
theorem dMo_gather_105 : decode cMo_gather 105 = .ok (.aload_n 0, 1) := by decide +kernel
theorem dMo_gather_106 : decode cMo_gather 106 = .ok (.getfield 37, 3) := by decide +kernel
theorem dMo_gather_109 : decode cMo_gather 109 = .ok (.iload 4, 2) := by decide +kernel
theorem dMo_gather_111 : decode cMo_gather 111 = .ok (.aload_n 0, 1) := by decide +kernel
theorem dMo_gather_112 : decode cMo_gather 112 = .ok (.aload_n 0, 1) := by decide +kernel
theorem dMo_gather_113 : decode cMo_gather 113 = .ok (.getfield 34, 3) := by decide +kernel
theorem dMo_gather_116 : decode cMo_gather 116 = .ok (.iload 4, 2) := by decide +kernel
theorem dMo_gather_118 : decode cMo_gather 118 = .ok (.laload, 1) := by decide +kernel
theorem dMo_gather_119 : decode cMo_gather 119 = .ok (.iload_n 2, 1) := by decide +kernel
theorem dMo_gather_120 : decode cMo_gather 120 = .ok (.invokevirtual 97, 3) := by decide +kernel
theorem dMo_gather_123 : decode cMo_gather 123 = .ok (.lastore, 1) := by decide +kernel
theorem dMo_gather_124 : decode cMo_gather 124 = .ok (.iinc 4 1, 3) := by decide +kernel
theorem dMo_gather_127 : decode cMo_gather 127 = .ok (.goto (-31), 3) := by decide +kernel
theorem dMo_gather_130 : decode cMo_gather 130 = .ok (.return_, 1) := by decide +kernel
theorem dMo_hasTerm_0 : decode cMo_hasTerm 0 = .ok (.iconst 0, 1) := by decide +kernel
theorem dMo_hasTerm_1 : decode cMo_hasTerm 1 = .ok (.istore_n 3, 1) := by decide +kernel
theorem dMo_hasTerm_2 : decode cMo_hasTerm 2 = .ok (.iconst 0, 1) := by decide +kernel
theorem dMo_hasTerm_3 : decode cMo_hasTerm 3 = .ok (.istore 4, 2) := by decide +kernel
theorem dMo_hasTerm_5 : decode cMo_hasTerm 5 = .ok (.iload 4, 2) := by decide +kernel
theorem dMo_hasTerm_7 : decode cMo_hasTerm 7 = .ok (.aload_n 0, 1) := by decide +kernel
theorem dMo_hasTerm_8 : decode cMo_hasTerm 8 = .ok (.getfield 94, 3) := by decide +kernel
theorem dMo_hasTerm_11 : decode cMo_hasTerm 11 = .ok (.if_icmp .ge 31, 3) := by decide +kernel
theorem dMo_hasTerm_14 : decode cMo_hasTerm 14 = .ok (.iload_n 3, 1) := by decide +kernel
theorem dMo_hasTerm_15 : decode cMo_hasTerm 15 = .ok (.ifCond .ne 15, 3) := by decide +kernel
theorem dMo_hasTerm_18 : decode cMo_hasTerm 18 = .ok (.aload_n 0, 1) := by decide +kernel
theorem dMo_hasTerm_19 : decode cMo_hasTerm 19 = .ok (.getfield 37, 3) := by decide +kernel
theorem dMo_hasTerm_22 : decode cMo_hasTerm 22 = .ok (.iload 4, 2) := by decide +kernel
theorem dMo_hasTerm_24 : decode cMo_hasTerm 24 = .ok (.laload, 1) := by decide +kernel
theorem dMo_hasTerm_25 : decode cMo_hasTerm 25 = .ok (.lload_n 1, 1) := by decide +kernel
theorem dMo_hasTerm_26 : decode cMo_hasTerm 26 = .ok (.lcmp, 1) := by decide +kernel
theorem dMo_hasTerm_27 : decode cMo_hasTerm 27 = .ok (.ifCond .ne 7, 3) := by decide +kernel
theorem dMo_hasTerm_30 : decode cMo_hasTerm 30 = .ok (.iconst 1, 1) := by decide +kernel
theorem dMo_hasTerm_31 : decode cMo_hasTerm 31 = .ok (.goto 4, 3) := by decide +kernel
theorem dMo_hasTerm_34 : decode cMo_hasTerm 34 = .ok (.iconst 0, 1) := by decide +kernel
theorem dMo_hasTerm_35 : decode cMo_hasTerm 35 = .ok (.istore_n 3, 1) := by decide +kernel
theorem dMo_hasTerm_36 : decode cMo_hasTerm 36 = .ok (.iinc 4 1, 3) := by decide +kernel
theorem dMo_hasTerm_39 : decode cMo_hasTerm 39 = .ok (.goto (-34), 3) := by decide +kernel
theorem dMo_hasTerm_42 : decode cMo_hasTerm 42 = .ok (.iload_n 3, 1) := by decide +kernel
theorem dMo_hasTerm_43 : decode cMo_hasTerm 43 = .ok (.ireturn, 1) := by decide +kernel
theorem dMo_hasAny_0 : decode cMo_hasAny 0 = .ok (.iconst 0, 1) := by decide +kernel
theorem dMo_hasAny_1 : decode cMo_hasAny 1 = .ok (.istore_n 1, 1) := by decide +kernel
theorem dMo_hasAny_2 : decode cMo_hasAny 2 = .ok (.iconst 0, 1) := by decide +kernel
theorem dMo_hasAny_3 : decode cMo_hasAny 3 = .ok (.istore_n 2, 1) := by decide +kernel
theorem dMo_hasAny_4 : decode cMo_hasAny 4 = .ok (.iload_n 2, 1) := by decide +kernel
theorem dMo_hasAny_5 : decode cMo_hasAny 5 = .ok (.aload_n 0, 1) := by decide +kernel
theorem dMo_hasAny_6 : decode cMo_hasAny 6 = .ok (.getfield 83, 3) := by decide +kernel
theorem dMo_hasAny_9 : decode cMo_hasAny 9 = .ok (.if_icmp .ge 30, 3) := by decide +kernel
theorem dMo_hasAny_12 : decode cMo_hasAny 12 = .ok (.iload_n 1, 1) := by decide +kernel
theorem dMo_hasAny_13 : decode cMo_hasAny 13 = .ok (.ifCond .ne 14, 3) := by decide +kernel
theorem dMo_hasAny_16 : decode cMo_hasAny 16 = .ok (.aload_n 0, 1) := by decide +kernel
theorem dMo_hasAny_17 : decode cMo_hasAny 17 = .ok (.getfield 40, 3) := by decide +kernel
theorem dMo_hasAny_20 : decode cMo_hasAny 20 = .ok (.iload_n 2, 1) := by decide +kernel
theorem dMo_hasAny_21 : decode cMo_hasAny 21 = .ok (.laload, 1) := by decide +kernel
theorem dMo_hasAny_22 : decode cMo_hasAny 22 = .ok (.lconst 0, 1) := by decide +kernel
theorem dMo_hasAny_23 : decode cMo_hasAny 23 = .ok (.lcmp, 1) := by decide +kernel
theorem dMo_hasAny_24 : decode cMo_hasAny 24 = .ok (.ifCond .eq 7, 3) := by decide +kernel
theorem dMo_hasAny_27 : decode cMo_hasAny 27 = .ok (.iconst 1, 1) := by decide +kernel
theorem dMo_hasAny_28 : decode cMo_hasAny 28 = .ok (.goto 4, 3) := by decide +kernel
theorem dMo_hasAny_31 : decode cMo_hasAny 31 = .ok (.iconst 0, 1) := by decide +kernel
theorem dMo_hasAny_32 : decode cMo_hasAny 32 = .ok (.istore_n 1, 1) := by decide +kernel
theorem dMo_hasAny_33 : decode cMo_hasAny 33 = .ok (.iinc 2 1, 3) := by decide +kernel
theorem dMo_hasAny_36 : decode cMo_hasAny 36 = .ok (.goto (-32), 3) := by decide +kernel
theorem dMo_hasAny_39 : decode cMo_hasAny 39 = .ok (.iload_n 1, 1) := by decide +kernel
theorem dMo_hasAny_40 : decode cMo_hasAny 40 = .ok (.ireturn, 1) := by decide +kernel
theorem dMo_isAsked_0 : decode cMo_isAsked 0 = .ok (.iconst 0, 1) := by decide +kernel
theorem dMo_isAsked_1 : decode cMo_isAsked 1 = .ok (.istore 4, 2) := by decide +kernel
theorem dMo_isAsked_3 : decode cMo_isAsked 3 = .ok (.iconst 0, 1) := by decide +kernel
theorem dMo_isAsked_4 : decode cMo_isAsked 4 = .ok (.istore 5, 2) := by decide +kernel
theorem dMo_isAsked_6 : decode cMo_isAsked 6 = .ok (.iload 5, 2) := by decide +kernel
theorem dMo_isAsked_8 : decode cMo_isAsked 8 = .ok (.iload_n 3, 1) := by decide +kernel
theorem dMo_isAsked_9 : decode cMo_isAsked 9 = .ok (.if_icmp .ge 39, 3) := by decide +kernel
theorem dMo_isAsked_12 : decode cMo_isAsked 12 = .ok (.iload 4, 2) := by decide +kernel
theorem dMo_isAsked_14 : decode cMo_isAsked 14 = .ok (.ifCond .ne 21, 3) := by decide +kernel
theorem dMo_isAsked_17 : decode cMo_isAsked 17 = .ok (.lload_n 1, 1) := by decide +kernel
theorem dMo_isAsked_18 : decode cMo_isAsked 18 = .ok (.lconst 0, 1) := by decide +kernel
theorem dMo_isAsked_19 : decode cMo_isAsked 19 = .ok (.lcmp, 1) := by decide +kernel
theorem dMo_isAsked_20 : decode cMo_isAsked 20 = .ok (.ifCond .eq 19, 3) := by decide +kernel
theorem dMo_isAsked_23 : decode cMo_isAsked 23 = .ok (.aload_n 0, 1) := by decide +kernel
theorem dMo_isAsked_24 : decode cMo_isAsked 24 = .ok (.getfield 40, 3) := by decide +kernel
theorem dMo_isAsked_27 : decode cMo_isAsked 27 = .ok (.iload 5, 2) := by decide +kernel
theorem dMo_isAsked_29 : decode cMo_isAsked 29 = .ok (.laload, 1) := by decide +kernel
theorem dMo_isAsked_30 : decode cMo_isAsked 30 = .ok (.lload_n 1, 1) := by decide +kernel
theorem dMo_isAsked_31 : decode cMo_isAsked 31 = .ok (.lcmp, 1) := by decide +kernel
theorem dMo_isAsked_32 : decode cMo_isAsked 32 = .ok (.ifCond .ne 7, 3) := by decide +kernel
theorem dMo_isAsked_35 : decode cMo_isAsked 35 = .ok (.iconst 1, 1) := by decide +kernel
theorem dMo_isAsked_36 : decode cMo_isAsked 36 = .ok (.goto 4, 3) := by decide +kernel
theorem dMo_isAsked_39 : decode cMo_isAsked 39 = .ok (.iconst 0, 1) := by decide +kernel
theorem dMo_isAsked_40 : decode cMo_isAsked 40 = .ok (.istore 4, 2) := by decide +kernel
theorem dMo_isAsked_42 : decode cMo_isAsked 42 = .ok (.iinc 5 1, 3) := by decide +kernel
theorem dMo_isAsked_45 : decode cMo_isAsked 45 = .ok (.goto (-39), 3) := by decide +kernel
theorem dMo_isAsked_48 : decode cMo_isAsked 48 = .ok (.iload 4, 2) := by decide +kernel
theorem dMo_isAsked_50 : decode cMo_isAsked 50 = .ok (.ireturn, 1) := by decide +kernel
theorem dMo_count_0 : decode cMo_count 0 = .ok (.iconst 0, 1) := by decide +kernel
theorem dMo_count_1 : decode cMo_count 1 = .ok (.istore_n 2, 1) := by decide +kernel
theorem dMo_count_2 : decode cMo_count 2 = .ok (.iconst 0, 1) := by decide +kernel
theorem dMo_count_3 : decode cMo_count 3 = .ok (.istore_n 3, 1) := by decide +kernel
theorem dMo_count_4 : decode cMo_count 4 = .ok (.iload_n 3, 1) := by decide +kernel
theorem dMo_count_5 : decode cMo_count 5 = .ok (.aload_n 0, 1) := by decide +kernel
theorem dMo_count_6 : decode cMo_count 6 = .ok (.getfield 94, 3) := by decide +kernel
theorem dMo_count_9 : decode cMo_count 9 = .ok (.if_icmp .ge 31, 3) := by decide +kernel
theorem dMo_count_12 : decode cMo_count 12 = .ok (.iload_n 2, 1) := by decide +kernel
theorem dMo_count_13 : decode cMo_count 13 = .ok (.aload_n 0, 1) := by decide +kernel
theorem dMo_count_14 : decode cMo_count 14 = .ok (.aload_n 0, 1) := by decide +kernel
theorem dMo_count_15 : decode cMo_count 15 = .ok (.getfield 37, 3) := by decide +kernel
theorem dMo_count_18 : decode cMo_count 18 = .ok (.iload_n 3, 1) := by decide +kernel
theorem dMo_count_19 : decode cMo_count 19 = .ok (.laload, 1) := by decide +kernel
theorem dMo_count_20 : decode cMo_count 20 = .ok (.iload_n 1, 1) := by decide +kernel
theorem dMo_count_21 : decode cMo_count 21 = .ok (.invokevirtual 114, 3) := by decide +kernel
theorem dMo_count_24 : decode cMo_count 24 = .ok (.ifCond .eq 7, 3) := by decide +kernel
theorem dMo_count_27 : decode cMo_count 27 = .ok (.iconst 1, 1) := by decide +kernel
theorem dMo_count_28 : decode cMo_count 28 = .ok (.goto 4, 3) := by decide +kernel
theorem dMo_count_31 : decode cMo_count 31 = .ok (.iconst 0, 1) := by decide +kernel
theorem dMo_count_32 : decode cMo_count 32 = .ok (.iadd, 1) := by decide +kernel
theorem dMo_count_33 : decode cMo_count 33 = .ok (.istore_n 2, 1) := by decide +kernel
theorem dMo_count_34 : decode cMo_count 34 = .ok (.iinc 3 1, 3) := by decide +kernel
theorem dMo_count_37 : decode cMo_count 37 = .ok (.goto (-33), 3) := by decide +kernel
theorem dMo_count_40 : decode cMo_count 40 = .ok (.iload_n 2, 1) := by decide +kernel
theorem dMo_count_41 : decode cMo_count 41 = .ok (.ireturn, 1) := by decide +kernel
theorem dMo_wildCount_0 : decode cMo_wildCount 0 = .ok (.iconst 0, 1) := by decide +kernel
theorem dMo_wildCount_1 : decode cMo_wildCount 1 = .ok (.istore_n 2, 1) := by decide +kernel
theorem dMo_wildCount_2 : decode cMo_wildCount 2 = .ok (.iconst 0, 1) := by decide +kernel
theorem dMo_wildCount_3 : decode cMo_wildCount 3 = .ok (.istore_n 3, 1) := by decide +kernel
theorem dMo_wildCount_4 : decode cMo_wildCount 4 = .ok (.iload_n 3, 1) := by decide +kernel
theorem dMo_wildCount_5 : decode cMo_wildCount 5 = .ok (.aload_n 0, 1) := by decide +kernel
theorem dMo_wildCount_6 : decode cMo_wildCount 6 = .ok (.getfield 94, 3) := by decide +kernel
theorem dMo_wildCount_9 : decode cMo_wildCount 9 = .ok (.if_icmp .ge 47, 3) := by decide +kernel
theorem dMo_wildCount_12 : decode cMo_wildCount 12 = .ok (.iload_n 2, 1) := by decide +kernel
theorem dMo_wildCount_13 : decode cMo_wildCount 13 = .ok (.aload_n 0, 1) := by decide +kernel
theorem dMo_wildCount_14 : decode cMo_wildCount 14 = .ok (.getfield 37, 3) := by decide +kernel
theorem dMo_wildCount_17 : decode cMo_wildCount 17 = .ok (.iload_n 3, 1) := by decide +kernel
theorem dMo_wildCount_18 : decode cMo_wildCount 18 = .ok (.laload, 1) := by decide +kernel
theorem dMo_wildCount_19 : decode cMo_wildCount 19 = .ok (.lconst 0, 1) := by decide +kernel
theorem dMo_wildCount_20 : decode cMo_wildCount 20 = .ok (.lcmp, 1) := by decide +kernel
theorem dMo_wildCount_21 : decode cMo_wildCount 21 = .ok (.ifCond .eq 26, 3) := by decide +kernel
theorem dMo_wildCount_24 : decode cMo_wildCount 24 = .ok (.aload_n 0, 1) := by decide +kernel
theorem dMo_wildCount_25 : decode cMo_wildCount 25 = .ok (.getfield 37, 3) := by decide +kernel
theorem dMo_wildCount_28 : decode cMo_wildCount 28 = .ok (.iload_n 3, 1) := by decide +kernel
theorem dMo_wildCount_29 : decode cMo_wildCount 29 = .ok (.laload, 1) := by decide +kernel
theorem dMo_wildCount_30 : decode cMo_wildCount 30 = .ok (.aload_n 0, 1) := by decide +kernel
theorem dMo_wildCount_31 : decode cMo_wildCount 31 = .ok (.getfield 31, 3) := by decide +kernel
theorem dMo_wildCount_34 : decode cMo_wildCount 34 = .ok (.iconst 0, 1) := by decide +kernel
theorem dMo_wildCount_35 : decode cMo_wildCount 35 = .ok (.laload, 1) := by decide +kernel
theorem dMo_wildCount_36 : decode cMo_wildCount 36 = .ok (.iload_n 1, 1) := by decide +kernel
theorem dMo_wildCount_37 : decode cMo_wildCount 37 = .ok (.invokestatic 121, 3) := by decide +kernel
theorem dMo_wildCount_40 : decode cMo_wildCount 40 = .ok (.ifCond .eq 7, 3) := by decide +kernel
theorem dMo_wildCount_43 : decode cMo_wildCount 43 = .ok (.iconst 1, 1) := by decide +kernel
theorem dMo_wildCount_44 : decode cMo_wildCount 44 = .ok (.goto 4, 3) := by decide +kernel
theorem dMo_wildCount_47 : decode cMo_wildCount 47 = .ok (.iconst 0, 1) := by decide +kernel
theorem dMo_wildCount_48 : decode cMo_wildCount 48 = .ok (.iadd, 1) := by decide +kernel
theorem dMo_wildCount_49 : decode cMo_wildCount 49 = .ok (.istore_n 2, 1) := by decide +kernel
theorem dMo_wildCount_50 : decode cMo_wildCount 50 = .ok (.iinc 3 1, 3) := by decide +kernel
theorem dMo_wildCount_53 : decode cMo_wildCount 53 = .ok (.goto (-49), 3) := by decide +kernel
theorem dMo_wildCount_56 : decode cMo_wildCount 56 = .ok (.iload_n 2, 1) := by decide +kernel
theorem dMo_wildCount_57 : decode cMo_wildCount 57 = .ok (.ireturn, 1) := by decide +kernel
theorem mm_377 : (.fieldLink RMo 83 RMo "askedCount" "I" : Cond) ∈ hwG := hwIx 567 (by decide +kernel) (by decide +kernel)
theorem mm_378 : (.fieldLink RMo 72 RMo "size" "I" : Cond) ∈ hwG := hwIx 565 (by decide +kernel) (by decide +kernel)
theorem mm_379 : (.fieldLink RMo 28 RMo "said" "[B" : Cond) ∈ hwG := hwIx 564 (by decide +kernel) (by decide +kernel)
theorem mm_380 : (.code yMo_letter cMo_letter 1 (some .int) : Cond) ∈ hwG := hwIx 663 (by decide +kernel) (by decide +kernel)
theorem mm_381 : (.static yMo_letter : Cond) ∈ hwG := hwIx 662 (by decide +kernel) (by decide +kernel)
theorem mm_382 : (.methodLink RMo 86 yMo_letter : Cond) ∈ hwG := hwIx 661 (by decide +kernel) (by decide +kernel)
theorem mm_383 : (.fieldLink RMo 31 RMo "asked" "[J" : Cond) ∈ hwG := hwIx 566 (by decide +kernel) (by decide +kernel)
theorem mm_384 : (.code yMo_lay cMo_lay 6 (some .int) : Cond) ∈ hwG := hwIx 666 (by decide +kernel) (by decide +kernel)
theorem mm_385 : (.static yMo_lay : Cond) ∈ hwG := hwIx 665 (by decide +kernel) (by decide +kernel)
theorem mm_386 : (.methodLink RMo 90 yMo_lay : Cond) ∈ hwG := hwIx 664 (by decide +kernel) (by decide +kernel)
theorem mm_387 : (.fieldLink RMo 94 RMo "rowCount" "I" : Cond) ∈ hwG := hwIx 571 (by decide +kernel) (by decide +kernel)
theorem mm_388 : (.fieldLink RMo 69 RMo "signs" "I" : Cond) ∈ hwG := hwIx 558 (by decide +kernel) (by decide +kernel)
theorem mm_389 : (.fieldLink RMo 37 RMo "rowTerm" "[J" : Cond) ∈ hwG := hwIx 569 (by decide +kernel) (by decide +kernel)
theorem mm_390 : (.fieldLink RMo 34 RMo "row" "[J" : Cond) ∈ hwG := hwIx 568 (by decide +kernel) (by decide +kernel)
theorem mm_391 : (.code yMo_stemOf cMo_stemOf 5 (some .long) : Cond) ∈ hwG := hwIx 674 (by decide +kernel) (by decide +kernel)
theorem mm_392 : (.methodLink RMo 97 yMo_stemOf : Cond) ∈ hwG := hwIx 671 (by decide +kernel) (by decide +kernel)
theorem mm_393 : (.instanceMethod yMo_stemOf : Cond) ∈ hwG := hwIx 673 (by decide +kernel) (by decide +kernel)
theorem mm_394 : (.selects RMo yMo_stemOf yMo_stemOf : Cond) ∈ hwG := hwIx 16 (by decide +kernel) (by decide +kernel)
theorem mm_395 : (.fieldLink RMo 17 RMo "place" "[I" : Cond) ∈ hwG := hwIx 560 (by decide +kernel) (by decide +kernel)
theorem mm_396 : (.fieldLink RMo 13 RMo "sign" "[B" : Cond) ∈ hwG := hwIx 559 (by decide +kernel) (by decide +kernel)
theorem mm_397 : (.fieldLink RMo 40 RMo "askedTerm" "[J" : Cond) ∈ hwG := hwIx 570 (by decide +kernel) (by decide +kernel)
theorem mm_398 : (.code yMo_isAsked cMo_isAsked 6 (some .boolean) : Cond) ∈ hwG := hwIx 721 (by decide +kernel) (by decide +kernel)
theorem mm_399 : (.methodLink RMo 114 yMo_isAsked : Cond) ∈ hwG := hwIx 718 (by decide +kernel) (by decide +kernel)
theorem mm_400 : (.instanceMethod yMo_isAsked : Cond) ∈ hwG := hwIx 720 (by decide +kernel) (by decide +kernel)
theorem mm_401 : (.selects RMo yMo_isAsked yMo_isAsked : Cond) ∈ hwG := hwIx 26 (by decide +kernel) (by decide +kernel)
theorem mm_402 : (.code yMo_goesWith cMo_goesWith 6 (some .boolean) : Cond) ∈ hwG := hwIx 713 (by decide +kernel) (by decide +kernel)
theorem mm_403 : (.static yMo_goesWith : Cond) ∈ hwG := hwIx 712 (by decide +kernel) (by decide +kernel)
theorem mm_404 : (.methodLink RMo 121 yMo_goesWith : Cond) ∈ hwG := hwIx 711 (by decide +kernel) (by decide +kernel)
set_option maxHeartbeats 4000000 in
set_option maxRecDepth 100000 in
theorem m_take (l : Launch) (D : va_G) (K : Nat → ClassId) (X : hwW) (sz : Nat) (a : Nat) (r1 : Nat) (r2 : Nat) (r3 : Nat) (r4 : Nat) (r5 : Nat) (r6 : Nat) (r7 : Nat) (r8 : Nat) (r9 : Nat) (r10 : Nat) (r11 : Nat) (r12 : Nat) (r13 : Nat) (r14 : Nat) (r15 : Nat) (tz : Nat) (nr : Nat) (ng : Nat) (ns : Nat) (nz : Nat) (na : Nat) (nw : Nat) (nh : Nat) (nt : Nat) (fd : Nat → Int32) (qa : List (List Nat)) (sd : List Nat) (f0_ : hwH X a 1000 (.inr (10, [.int (nI tz), .int (nI nr), .ref r1, .int (nI ng), .ref r2, .ref r3, .ref r4, .ref r5, .int (nI ns), .ref r6, .int (nI nz), .ref r7, .int (nI na), .ref r8, .ref r9, .ref r10, .int (nI nw), .int (nI nh), .ref r11, .ref r12, .ref r13, .ref r14, .int (nI nt), .ref r15]))) (f1_ : hwH X r6 1006 (.inl (K 3, 100, .inl fd))) (f2_ : rwAt K X r7 1007 60 qa) (hnz : nz = sd.length) (hsd : sd.length ≤ 100) (hfd : ∀ k, k < sd.length → mL (fd k) = sd.getD k 0) : Met l yMo_take (.code yMo_take cMo_take 4 none :: hwG) ({ frames := 2, cells := 0, slots := 0, locals := 47 } : Room) (hwPc D vwCl (hwT K) [.ref a] X sz) (hwQv D vwCl X sz (fun Y => hwF X Y (fun M => M = 1000 ∨ M = 1007) ∧ hwH Y a 1000 (.inr (10, [.int (nI tz), .int (nI nr), .ref r1, .int (nI ng), .ref r2, .ref r3, .ref r4, .ref r5, .int (nI ns), .ref r6, .int (nI 0), .ref r7, .int (nI ((tkF sd).1.length)), .ref r8, .ref r9, .ref r10, .int (nI nw), .int (nI nh), .ref r11, .ref r12, .ref r13, .ref r14, .int (nI nt), .ref r15])) ∧ rwAt K Y r7 1007 60 (tkF sd).1)) 0 0 (va_A X.1 sz) := by
  refine hwMetv (cc := cMo_take) (maxL := 4) (by decide) rfl (Nat.le_of_ble_eq_true rfl) (fun p e s m args below meth c ls A Q hx hb hml hown hts hname hret hK hO hZ hA hl => ?_)
  have hl : lv_has ls 4 [(0, .ref a)] := hl
  have hFr : hwF X X (fun M => M = 1000 ∨ M = 1007) := hwF.rf
  refine lv_aload_n hx hb dMo_take_0 rfl (lv_at hl 0 rfl) ?_
  refine lv_iconst (v := nI 0) hx hb dMo_take_1 (by decide) ?_
  refine hw_put (ty := .int) (fs' := [.int (nI tz), .int (nI nr), .ref r1, .int (nI ng), .ref r2, .ref r3, .ref r4, .ref r5, .int (nI ns), .ref r6, .int (nI nz), .ref r7, .int (nI 0), .ref r8, .ref r9, .ref r10, .int (nI nw), .int (nI nh), .ref r11, .ref r12, .ref r13, .ref r14, .int (nI nt), .ref r15]) hx hb hts (hwInn inMo) tyMo tyMo_ok nmMo hown hK hZ f0_ rfl 12 (by decide) (hts (.fieldLink RMo 83 RMo "askedCount" "I") (hwMem mm_377)) (fun _ h => h) rfl (by decide +kernel) rfl rfl (Nat.le_of_ble_eq_true rfl) rfl dMo_take_2 (fun X_1 H_2 lc_3 hZ hF hNw => ?_)
  have hFr := hwF.tr hFr hF (fun _ h => h) (fun M h => by first | exact False.elim h | ((try dsimp only at h ⊢); omega))
  have f0_ := hNw
  have f1_ := hF _ _ _ (by intro hNS; first | exact False.elim hNS | ((try dsimp only at hNS); omega)) f1_
  have f2_ := rwAt.fr hF (by intro hNS; first | exact False.elim hNS | ((try dsimp only at hNS); omega)) f2_
  have f2_ := rwAt.clr f2_
  refine lv_iconst (v := nI 0) hx hb dMo_take_5 (by decide) ?_
  refine lv_istore_n (lv' := [(1, .int (nI 0)), (0, .ref a)]) hx hb dMo_take_6 rfl hl (by decide) rfl (fun ls hl => ?_)
  refine lv_iconst (v := nI 0) hx hb dMo_take_7 (by decide) ?_
  refine lv_istore_n (lv' := [(2, .int (nI 0)), (1, .int (nI 0)), (0, .ref a)]) hx hb dMo_take_8 rfl hl (by decide) rfl (fun ls hl => ?_)
  have loop9 : ∀ (fuel : Nat) (i : Nat) (ws : List (List Nat)) (o : Nat) (gb : Bool) (XL9 : hwW) (Hh : Heap) (lcs : List Loc) (ls : Array Slot), sd.length - i < fuel → (i ≤ sd.length) → (wkS ws o gb (sd.take i)) → (2 * ws.length ≤ i + 1) → (o = 0 → 2 * ws.length ≤ i) → (hwF X XL9 (fun M => M = 1000 ∨ M = 1007)) → (hwH XL9 a 1000 (.inr (10, [.int (nI tz), .int (nI nr), .ref r1, .int (nI ng), .ref r2, .ref r3, .ref r4, .ref r5, .int (nI ns), .ref r6, .int (nI nz), .ref r7, .int (nI ws.length), .ref r8, .ref r9, .ref r10, .int (nI nw), .int (nI nh), .ref r11, .ref r12, .ref r13, .ref r14, .int (nI nt), .ref r15]))) → (hwH XL9 r6 1006 (.inl (K 3, 100, .inl fd))) → (rwAt K XL9 r7 1007 60 ws) → hwZ D vwCl A s.heap XL9 Hh lcs → lv_has ls 4 [(2, .int (nI i)), (1, .int (bI gb)), (0, .ref a)] → W p l e ({ frames := 2, cells := 0, slots := 0, locals := 47 } : Room) s m args below meth c Hh lcs 0 0 Q (F0 m 9 ls []) := by
    intro fuel; induction fuel with
    | zero => intro i ws o gb XL9 Hh lcs ls hfu; exact absurd hfu (Nat.not_lt_zero _)
    | succ fuel ih9 =>
      intro i ws o gb XL9 Hh lcs ls hfu9 hi hwk hcap1 hcap0 hFr gx gd gq hZ hl
      have hok0 := rwAt.oks gq
      refine lv_iload_n hx hb dMo_take_9 rfl (lv_at hl 0 rfl) ?_
      refine lv_aload_n hx hb dMo_take_10 rfl (lv_at hl 2 rfl) ?_
      refine hw_get hx hb hts (hwInn inMo) hown hK hZ gx rfl 10 (by decide) (hts (.fieldLink RMo 72 RMo "size" "I") (hwMem mm_378)) (fun _ h => h) rfl dMo_take_11 ?_
      refine hw_ic_ge (a := i) (b := nz) (tgt := 71) hx hb dMo_take_14 (by decide) (by omega) (by omega) (fun cq_4 => ?_) (fun cq_4 => ?_)
      · refine lv_aload_n hx hb dMo_take_71 rfl (lv_at hl 2 rfl) ?_
        refine lv_iconst (v := nI 0) hx hb dMo_take_72 (by decide) ?_
        refine hw_put (ty := .int) (fs' := [.int (nI tz), .int (nI nr), .ref r1, .int (nI ng), .ref r2, .ref r3, .ref r4, .ref r5, .int (nI ns), .ref r6, .int (nI 0), .ref r7, .int (nI ws.length), .ref r8, .ref r9, .ref r10, .int (nI nw), .int (nI nh), .ref r11, .ref r12, .ref r13, .ref r14, .int (nI nt), .ref r15]) hx hb hts (hwInn inMo) tyMo tyMo_ok nmMo hown hK hZ gx rfl 10 (by decide) (hts (.fieldLink RMo 72 RMo "size" "I") (hwMem mm_378)) (fun _ h => h) rfl (by decide +kernel) rfl rfl (Nat.le_of_ble_eq_true rfl) rfl dMo_take_73 (fun X_5 H_6 lc_7 hZ hF hNw => ?_)
        have hFr := hwF.tr hFr hF (fun _ h => h) (fun M h => by first | exact False.elim h | ((try dsimp only at h ⊢); omega))
        have gx := hNw
        have gd := hF _ _ _ (by intro hNS; first | exact False.elim hNS | ((try dsimp only at hNS); omega)) gd
        have gq := rwAt.fr hF (by intro hNS; first | exact False.elim hNS | ((try dsimp only at hNS); omega)) gq
        exact hret hZ (by have hwe := hwk.1; rw [List.take_of_length_le (by omega)] at hwe; rw [hwe]; exact ⟨hFr, gx, gq⟩) dMo_take_76
      · refine lv_aload_n hx hb dMo_take_17 rfl (lv_at hl 2 rfl) ?_
        refine hw_get hx hb hts (hwInn inMo) hown hK hZ gx rfl 9 (by decide) (hts (.fieldLink RMo 28 RMo "said" "[B") (hwMem mm_379)) (fun _ h => h) rfl dMo_take_18 ?_
        refine lv_iload_n hx hb dMo_take_21 rfl (lv_at hl 0 rfl) ?_
        refine hw_bald hx hb hK hZ 3 gd rfl (j := i) (by omega) (by omega) dMo_take_22 ?_
        refine hw_calli (va_runS (As := [.int (fd i)]) (rest := []) ⟨hx, hb, hml, hown, hts⟩ (m_letter l D K XL9 Hh.size (x := fd i) ) (va_cwS 1 hts (hwGood (hw_3 mm_382 mm_381 mm_365 (hwAll mm_380))) rfl rfl rfl (by decide +kernel) ⟨Nat.le_of_ble_eq_true rfl, Nat.le_of_ble_eq_true rfl⟩) (hw_preS hK hO hZ) rfl rfl hl.1 rfl (lv_room (Nat.le_of_ble_eq_true rfl)) dMo_take_23 ⟨(show 0 + 0 ≤ 0 by omega), (show 0 + 0 ≤ 0 by omega)⟩) hZ hA (fun r X_8 H_9 lc_10 hp hZ => ?_)
        obtain ⟨hr, hy, xx_11⟩ := hp
        subst hy
        refine hw_topi hr ?_
        have hx26 := mL_le (fd i)
        rw [hfd i (by omega)] at hx26
        refine hw_topi (congrArg nI (hfd i (by omega))) ?_
        refine lv_istore_n (lv' := [(3, .int (nI (sd.getD i 0))), (2, .int (nI i)), (1, .int (bI gb)), (0, .ref a)]) hx hb dMo_take_26 rfl hl (by decide) rfl (fun ls hl => ?_)
        refine lv_aload_n hx hb dMo_take_27 rfl (lv_at hl 3 rfl) ?_
        refine lv_iload_n hx hb dMo_take_28 rfl (lv_at hl 0 rfl) ?_
        refine hw_if_le (a := sd.getD i 0) (tgt := 48) hx hb dMo_take_29 (by decide) (by omega) (fun cq_12 => ?_) (fun cq_12 => ?_)
        · refine lv_aload_n hx hb dMo_take_48 rfl (lv_at hl 3 rfl) ?_
          refine hw_get hx hb hts (hwInn inMo) hown hK hZ gx rfl 12 (by decide) (hts (.fieldLink RMo 83 RMo "askedCount" "I") (hwMem mm_377)) (fun _ h => h) rfl dMo_take_49 ?_
          refine hw_put (ty := .int) (fs' := [.int (nI tz), .int (nI nr), .ref r1, .int (nI ng), .ref r2, .ref r3, .ref r4, .ref r5, .int (nI ns), .ref r6, .int (nI nz), .ref r7, .int (nI ws.length), .ref r8, .ref r9, .ref r10, .int (nI nw), .int (nI nh), .ref r11, .ref r12, .ref r13, .ref r14, .int (nI nt), .ref r15]) hx hb hts (hwInn inMo) tyMo tyMo_ok nmMo hown hK hZ gx rfl 12 (by decide) (hts (.fieldLink RMo 83 RMo "askedCount" "I") (hwMem mm_377)) (fun _ h => h) rfl (by decide +kernel) rfl rfl (Nat.le_of_ble_eq_true rfl) rfl dMo_take_52 (fun X_13 H_14 lc_15 hZ hF hNw => ?_)
          have hFr := hwF.tr hFr hF (fun _ h => h) (fun M h => by first | exact False.elim h | ((try dsimp only at h ⊢); omega))
          have gx := hNw
          have gd := hF _ _ _ (by intro hNS; first | exact False.elim hNS | ((try dsimp only at hNS); omega)) gd
          have gq := rwAt.fr hF (by intro hNS; first | exact False.elim hNS | ((try dsimp only at hNS); omega)) gq
          refine lv_iload_n hx hb dMo_take_55 rfl (lv_at hl 0 rfl) ?_
          refine hw_if_le (a := sd.getD i 0) (tgt := 63) hx hb dMo_take_56 (by decide) (by omega) (fun cq_16 => ?_) (fun cq_16 => by exfalso; omega)
          refine lv_iconst (v := nI 0) hx hb dMo_take_63 (by decide) ?_
          refine lv_istore_n (lv' := [(1, .int (nI 0)), (3, .int (nI (sd.getD i 0))), (2, .int (nI i)), (0, .ref a)]) hx hb dMo_take_64 rfl hl (by decide) rfl (fun ls hl => ?_)
          refine lv_iinc (v := nI (i + 1)) (lv' := [(2, .int (nI (i + 1))), (1, .int (nI 0)), (3, .int (nI (sd.getD i 0))), (0, .ref a)]) hx hb dMo_take_65 hl (k := 2) rfl (nI_add _ 1) (by decide) rfl (fun ls hl => ?_)
          refine lv_goto (tgt := 9) hx hb dMo_take_68 (by decide) ?_
          exact ih9 (i + 1) ws 0 false _ _ _ _ (by omega) (by omega) (by rw [takeN_succ (by omega)]; exact hwk.no (by omega)) (by omega) (fun _ => by omega) hFr gx gd gq hZ (lv_sub hl [0, 1, 3] rfl)
        · rcases hwk.2.1.2 with rfl | ⟨us, w, rfl, rfl⟩
          · obtain rfl := hwk.gA
            have hc9 := hcap0 rfl
            refine lv_aload_n hx hb dMo_take_32 rfl (lv_at hl 3 rfl) ?_
            refine hw_get hx hb hts (hwInn inMo) hown hK hZ gx rfl 11 (by decide) (hts (.fieldLink RMo 31 RMo "asked" "[J") (hwMem mm_383)) (fun _ h => h) rfl dMo_take_33 ?_
            refine lv_aload_n hx hb dMo_take_36 rfl (lv_at hl 3 rfl) ?_
            refine hw_get hx hb hts (hwInn inMo) hown hK hZ gx rfl 12 (by decide) (hts (.fieldLink RMo 83 RMo "askedCount" "I") (hwMem mm_377)) (fun _ h => h) rfl dMo_take_37 ?_
            refine lv_iload_n hx hb dMo_take_40 rfl (lv_at hl 2 rfl) ?_
            refine lv_iload_n hx hb dMo_take_41 rfl (lv_at hl 0 rfl) ?_
            refine hw_calli (va_runS (As := [.ref r7, .int (nI ws.length), .int (bI false), .int (nI (sd.getD i 0))]) (rest := [.ref a]) ⟨hx, hb, hml, hown, hts⟩ (m_lay0 l D K XL9 H_9.size (q := r7) (L := 1007) (N := 60) (ws := ws) (x := sd.getD i 0) gq (by omega) (by omega) (by omega) (by omega)) (va_cwS 4 hts (hwGood (hw_3 mm_386 mm_385 mm_365 (hwAll mm_384))) rfl rfl rfl (by decide +kernel) ⟨Nat.le_of_ble_eq_true rfl, Nat.le_of_ble_eq_true rfl⟩) (hw_preS hK hO hZ) rfl rfl hl.1 rfl (lv_room (Nat.le_of_ble_eq_true rfl)) dMo_take_42 ⟨(show 0 + 0 ≤ 0 by omega), (show 0 + 0 ≤ 0 by omega)⟩) hZ hA (fun r X_17 H_18 lc_19 hp hZ => ?_)
            obtain ⟨hr, hF, hN_20⟩ := hp
            have hFr := hwF.tr hFr hF (fun _ h => h) (fun M h => by first | exact False.elim h | ((try dsimp only at h ⊢); omega))
            have gx := hF _ _ _ (by intro hNS; first | exact False.elim hNS | ((try dsimp only at hNS); omega)) gx
            have gd := hF _ _ _ (by intro hNS; first | exact False.elim hNS | ((try dsimp only at hNS); omega)) gd
            have ff_21 := hN_20
            refine hw_topi hr ?_
            refine lv_goto (tgt := 52) hx hb dMo_take_45 (by decide) ?_
            refine hw_put (ty := .int) (fs' := [.int (nI tz), .int (nI nr), .ref r1, .int (nI ng), .ref r2, .ref r3, .ref r4, .ref r5, .int (nI ns), .ref r6, .int (nI nz), .ref r7, .int (nI (ws.length + 1)), .ref r8, .ref r9, .ref r10, .int (nI nw), .int (nI nh), .ref r11, .ref r12, .ref r13, .ref r14, .int (nI nt), .ref r15]) hx hb hts (hwInn inMo) tyMo tyMo_ok nmMo hown hK hZ gx rfl 12 (by decide) (hts (.fieldLink RMo 83 RMo "askedCount" "I") (hwMem mm_377)) (fun _ h => h) rfl (by decide +kernel) rfl rfl (Nat.le_of_ble_eq_true rfl) rfl dMo_take_52 (fun X_22 H_23 lc_24 hZ hF hNw => ?_)
            have hFr := hwF.tr hFr hF (fun _ h => h) (fun M h => by first | exact False.elim h | ((try dsimp only at h ⊢); omega))
            have gx := hNw
            have gd := hF _ _ _ (by intro hNS; first | exact False.elim hNS | ((try dsimp only at hNS); omega)) gd
            have ff_21 := rwAt.fr hF (by intro hNS; first | exact False.elim hNS | ((try dsimp only at hNS); omega)) ff_21
            refine lv_iload_n hx hb dMo_take_55 rfl (lv_at hl 0 rfl) ?_
            refine hw_if_le (a := sd.getD i 0) (tgt := 63) hx hb dMo_take_56 (by decide) (by omega) (fun cq_25 => by exfalso; omega) (fun cq_25 => ?_)
            refine lv_iconst (v := nI 1) hx hb dMo_take_59 (by decide) ?_
            refine lv_goto (tgt := 64) hx hb dMo_take_60 (by decide) ?_
            refine lv_istore_n (lv' := [(1, .int (nI 1)), (3, .int (nI (sd.getD i 0))), (2, .int (nI i)), (0, .ref a)]) hx hb dMo_take_64 rfl hl (by decide) rfl (fun ls hl => ?_)
            refine lv_iinc (v := nI (i + 1)) (lv' := [(2, .int (nI (i + 1))), (1, .int (nI 1)), (3, .int (nI (sd.getD i 0))), (0, .ref a)]) hx hb dMo_take_65 hl (k := 2) rfl (nI_add _ 1) (by decide) rfl (fun ls hl => ?_)
            refine lv_goto (tgt := 9) hx hb dMo_take_68 (by decide) ?_
            rw [← app1_len ws [sd.getD i 0]] at gx
            exact ih9 (i + 1) (ws ++ [[sd.getD i 0]]) 1 true _ _ _ _ (by omega) (by omega) (by rw [takeN_succ (by omega)]; exact hwk.A hok0 (by omega)) (by rw [app1_len]; omega) (fun h => absurd h (by decide)) hFr gx gd ff_21 hZ (lv_sub hl [0, 1, 3] rfl)
          · obtain rfl := hwk.gB
            rw [app1_len] at gx
            have hwl := hwk.2.1.1 w (by simp)
            refine lv_aload_n hx hb dMo_take_32 rfl (lv_at hl 3 rfl) ?_
            refine hw_get hx hb hts (hwInn inMo) hown hK hZ gx rfl 11 (by decide) (hts (.fieldLink RMo 31 RMo "asked" "[J") (hwMem mm_383)) (fun _ h => h) rfl dMo_take_33 ?_
            refine lv_aload_n hx hb dMo_take_36 rfl (lv_at hl 3 rfl) ?_
            refine hw_get hx hb hts (hwInn inMo) hown hK hZ gx rfl 12 (by decide) (hts (.fieldLink RMo 83 RMo "askedCount" "I") (hwMem mm_377)) (fun _ h => h) rfl dMo_take_37 ?_
            refine lv_iload_n hx hb dMo_take_40 rfl (lv_at hl 2 rfl) ?_
            refine lv_iload_n hx hb dMo_take_41 rfl (lv_at hl 0 rfl) ?_
            refine hw_calli (va_runS (As := [.ref r7, .int (nI (us.length + 1)), .int (bI true), .int (nI (sd.getD i 0))]) (rest := [.ref a]) ⟨hx, hb, hml, hown, hts⟩ (m_lay1 l D K XL9 H_9.size (q := r7) (L := 1007) (N := 60) (us := us) (w := w) (x := sd.getD i 0) gq (by omega) (by omega) (by omega)) (va_cwS 4 hts (hwGood (hw_3 mm_386 mm_385 mm_365 (hwAll mm_384))) rfl rfl rfl (by decide +kernel) ⟨Nat.le_of_ble_eq_true rfl, Nat.le_of_ble_eq_true rfl⟩) (hw_preS hK hO hZ) rfl rfl hl.1 rfl (lv_room (Nat.le_of_ble_eq_true rfl)) dMo_take_42 ⟨(show 0 + 0 ≤ 0 by omega), (show 0 + 0 ≤ 0 by omega)⟩) hZ hA (fun r X_26 H_27 lc_28 hp hZ => ?_)
            obtain ⟨hr, hF, hN_29⟩ := hp
            have hFr := hwF.tr hFr hF (fun _ h => h) (fun M h => by first | exact False.elim h | ((try dsimp only at h ⊢); omega))
            have gx := hF _ _ _ (by intro hNS; first | exact False.elim hNS | ((try dsimp only at hNS); omega)) gx
            have gd := hF _ _ _ (by intro hNS; first | exact False.elim hNS | ((try dsimp only at hNS); omega)) gd
            have ff_30 := hN_29
            refine hw_topi hr ?_
            refine lv_goto (tgt := 52) hx hb dMo_take_45 (by decide) ?_
            refine hw_put (ty := .int) (fs' := [.int (nI tz), .int (nI nr), .ref r1, .int (nI ng), .ref r2, .ref r3, .ref r4, .ref r5, .int (nI ns), .ref r6, .int (nI nz), .ref r7, .int (nI (us.length + 1)), .ref r8, .ref r9, .ref r10, .int (nI nw), .int (nI nh), .ref r11, .ref r12, .ref r13, .ref r14, .int (nI nt), .ref r15]) hx hb hts (hwInn inMo) tyMo tyMo_ok nmMo hown hK hZ gx rfl 12 (by decide) (hts (.fieldLink RMo 83 RMo "askedCount" "I") (hwMem mm_377)) (fun _ h => h) rfl (by decide +kernel) rfl rfl (Nat.le_of_ble_eq_true rfl) rfl dMo_take_52 (fun X_31 H_32 lc_33 hZ hF hNw => ?_)
            have hFr := hwF.tr hFr hF (fun _ h => h) (fun M h => by first | exact False.elim h | ((try dsimp only at h ⊢); omega))
            have gx := hNw
            have gd := hF _ _ _ (by intro hNS; first | exact False.elim hNS | ((try dsimp only at hNS); omega)) gd
            have ff_30 := rwAt.fr hF (by intro hNS; first | exact False.elim hNS | ((try dsimp only at hNS); omega)) ff_30
            refine lv_iload_n hx hb dMo_take_55 rfl (lv_at hl 0 rfl) ?_
            refine hw_if_le (a := sd.getD i 0) (tgt := 63) hx hb dMo_take_56 (by decide) (by omega) (fun cq_34 => by exfalso; omega) (fun cq_34 => ?_)
            refine lv_iconst (v := nI 1) hx hb dMo_take_59 (by decide) ?_
            refine lv_goto (tgt := 64) hx hb dMo_take_60 (by decide) ?_
            refine lv_istore_n (lv' := [(1, .int (nI 1)), (3, .int (nI (sd.getD i 0))), (2, .int (nI i)), (0, .ref a)]) hx hb dMo_take_64 rfl hl (by decide) rfl (fun ls hl => ?_)
            refine lv_iinc (v := nI (i + 1)) (lv' := [(2, .int (nI (i + 1))), (1, .int (nI 1)), (3, .int (nI (sd.getD i 0))), (0, .ref a)]) hx hb dMo_take_65 hl (k := 2) rfl (nI_add _ 1) (by decide) rfl (fun ls hl => ?_)
            refine lv_goto (tgt := 9) hx hb dMo_take_68 (by decide) ?_
            rw [← app1_len us (layW w (sd.getD i 0))] at gx
            exact ih9 (i + 1) (us ++ [layW w (sd.getD i 0)]) ((layW w (sd.getD i 0)).length) true _ _ _ _ (by omega) (by omega) (by rw [takeN_succ (by omega)]; exact hwk.B hok0 (by omega)) (by rw [app1_len] at hcap1 ⊢; omega) (fun h => absurd h (by have := layW_pos (x := sd.getD i 0) hwl; omega)) hFr gx gd ff_30 hZ (lv_sub hl [0, 1, 3] rfl)
  exact loop9 (sd.length - 0 + 1) 0 ([]) 0 false _ _ _ _ (by omega) (by omega) (by rw [List.take_zero]; exact wkS.nil) (by simp) (fun _ => by simp) hFr f0_ f1_ f2_ hZ (lv_sub hl [0, 1, 2] rfl)
set_option maxHeartbeats 4000000 in
set_option maxRecDepth 100000 in
theorem m_gather (l : Launch) (D : va_G) (K : Nat → ClassId) (X : hwW) (sz : Nat) (a : Nat) (r1 : Nat) (r2 : Nat) (r3 : Nat) (r4 : Nat) (r5 : Nat) (r6 : Nat) (r7 : Nat) (r8 : Nat) (r9 : Nat) (r10 : Nat) (r11 : Nat) (r12 : Nat) (r13 : Nat) (r14 : Nat) (r15 : Nat) (tz : Nat) (nr : Nat) (ng : Nat) (ns : Nat) (nz : Nat) (na : Nat) (nw : Nat) (nh : Nat) (nt : Nat) (fg : Nat → Int32) (fp : Nat → Int32) (fl : Nat → Int32) (st : List (List Nat)) (rw0 : List (List Nat)) (rt0 : List (List Nat)) (sg : List (Nat × Nat)) (n : Nat) (j : Nat) (g : Nat) (f0_ : hwH X a 1000 (.inr (10, [.int (nI tz), .int (nI nr), .ref r1, .int (nI ng), .ref r2, .ref r3, .ref r4, .ref r5, .int (nI ns), .ref r6, .int (nI nz), .ref r7, .int (nI na), .ref r8, .ref r9, .ref r10, .int (nI nw), .int (nI nh), .ref r11, .ref r12, .ref r13, .ref r14, .int (nI nt), .ref r15]))) (f1_ : hwH X r2 1002 (.inl (K 3, 1500, .inl fg))) (f2_ : hwH X r3 1003 (.inl (K 0, 1500, .inl fp))) (f3_ : hwH X r4 1004 (.inl (K 0, 4, .inl fl))) (f4_ : rwAt K X r5 1005 40 st) (f5_ : rwAt K X r8 1008 800 rw0) (f6_ : rwAt K X r9 1009 800 rt0) (hns : ns = st.length) (hng : ng = sg.length) (hsl : sg.length ≤ 600) (hfg : ∀ k, k < sg.length → mL (fg k) = (sg.getD k (0, 0)).2) (hfp : ∀ k, k < sg.length → fp k = nI (sg.getD k (0, 0)).1) (hsb : ∀ k, (sg.getD k (0, 0)).1 ≤ 200) (hn : n ≤ 30) (hj : j < 4) (hfj : fl j = nI g) (hg : g < 3) : Met l yMo_gather (.code yMo_gather cMo_gather 6 none :: hwG) ({ frames := 2, cells := 0, slots := 0, locals := 48 } : Room) (hwPc D vwCl (hwT K) [.ref a, .int (nI n), .int (nI j)] X sz) (hwQv D vwCl X sz (fun Y => hwF X Y (fun M => M = 1000 ∨ M = 1008 ∨ M = 1009) ∧ hwH Y a 1000 (.inr (10, [.int (nI tz), .int (nI nr), .ref r1, .int (nI ng), .ref r2, .ref r3, .ref r4, .ref r5, .int (nI ns), .ref r6, .int (nI nz), .ref r7, .int (nI na), .ref r8, .ref r9, .ref r10, .int (nI ((tkF (ltL sg (4 * n + j))).1.length)), .int (nI nh), .ref r11, .ref r12, .ref r13, .ref r14, .int (nI nt), .ref r15])) ∧ rwAt K Y r8 1008 800 (tkF (ltL sg (4 * n + j))).1 ∧ rwAt K Y r9 1009 800 ((tkF (ltL sg (4 * n + j))).1.map (trm g st)))) 0 0 (va_A X.1 sz) := by
  refine hwMetv (cc := cMo_gather) (maxL := 6) (by decide) rfl (Nat.le_of_ble_eq_true rfl) (fun p e s m args below meth c ls A Q hx hb hml hown hts hname hret hK hO hZ hA hl => ?_)
  have hl : lv_has ls 6 [(0, .ref a), (1, .int (nI n)), (2, .int (nI j))] := hl
  have hFr : hwF X X (fun M => M = 1000 ∨ M = 1008 ∨ M = 1009) := hwF.rf
  refine lv_aload_n hx hb dMo_gather_0 rfl (lv_at hl 0 rfl) ?_
  refine lv_iconst (v := nI 0) hx hb dMo_gather_1 (by decide) ?_
  refine hw_put (ty := .int) (fs' := [.int (nI tz), .int (nI nr), .ref r1, .int (nI ng), .ref r2, .ref r3, .ref r4, .ref r5, .int (nI ns), .ref r6, .int (nI nz), .ref r7, .int (nI na), .ref r8, .ref r9, .ref r10, .int (nI 0), .int (nI nh), .ref r11, .ref r12, .ref r13, .ref r14, .int (nI nt), .ref r15]) hx hb hts (hwInn inMo) tyMo tyMo_ok nmMo hown hK hZ f0_ rfl 16 (by decide) (hts (.fieldLink RMo 94 RMo "rowCount" "I") (hwMem mm_387)) (fun _ h => h) rfl (by decide +kernel) rfl rfl (Nat.le_of_ble_eq_true rfl) rfl dMo_gather_2 (fun X_1 H_2 lc_3 hZ hF hNw => ?_)
  have hFr := hwF.tr hFr hF (fun _ h => h) (fun M h => by first | exact False.elim h | ((try dsimp only at h ⊢); omega))
  have f0_ := hNw
  have f1_ := hF _ _ _ (by intro hNS; first | exact False.elim hNS | ((try dsimp only at hNS); omega)) f1_
  have f2_ := hF _ _ _ (by intro hNS; first | exact False.elim hNS | ((try dsimp only at hNS); omega)) f2_
  have f3_ := hF _ _ _ (by intro hNS; first | exact False.elim hNS | ((try dsimp only at hNS); omega)) f3_
  have f4_ := rwAt.fr hF (by intro hNS; first | exact False.elim hNS | ((try dsimp only at hNS); omega)) f4_
  have f5_ := rwAt.fr hF (by intro hNS; first | exact False.elim hNS | ((try dsimp only at hNS); omega)) f5_
  have f6_ := rwAt.fr hF (by intro hNS; first | exact False.elim hNS | ((try dsimp only at hNS); omega)) f6_
  have f5_ := rwAt.clr f5_
  refine lv_iconst (v := nI 0) hx hb dMo_gather_5 (by decide) ?_
  refine lv_istore_n (lv' := [(3, .int (nI 0)), (0, .ref a), (1, .int (nI n)), (2, .int (nI j))]) hx hb dMo_gather_6 rfl hl (by decide) rfl (fun ls hl => ?_)
  refine lv_iconst (v := nI 0) hx hb dMo_gather_7 (by decide) ?_
  refine lv_istore (lv' := [(4, .int (nI 0)), (3, .int (nI 0)), (0, .ref a), (1, .int (nI n)), (2, .int (nI j))]) hx hb dMo_gather_8 hl (by decide) rfl (fun ls hl => ?_)
  have loop10 : ∀ (fuel : Nat) (i : Nat) (ws : List (List Nat)) (o : Nat) (gb : Bool) (XL10 : hwW) (Hh : Heap) (lcs : List Loc) (ls : Array Slot), sg.length - i < fuel → (i ≤ sg.length) → (wkS ws o gb (ltL (sg.take i) (4 * n + j))) → (ws.length ≤ i) → (o = 0 → ws.length ≤ i) → (hwF X XL10 (fun M => M = 1000 ∨ M = 1008 ∨ M = 1009)) → (hwH XL10 a 1000 (.inr (10, [.int (nI tz), .int (nI nr), .ref r1, .int (nI ng), .ref r2, .ref r3, .ref r4, .ref r5, .int (nI ns), .ref r6, .int (nI nz), .ref r7, .int (nI na), .ref r8, .ref r9, .ref r10, .int (nI ws.length), .int (nI nh), .ref r11, .ref r12, .ref r13, .ref r14, .int (nI nt), .ref r15]))) → (hwH XL10 r2 1002 (.inl (K 3, 1500, .inl fg))) → (hwH XL10 r3 1003 (.inl (K 0, 1500, .inl fp))) → (hwH XL10 r4 1004 (.inl (K 0, 4, .inl fl))) → (rwAt K XL10 r5 1005 40 st) → (rwAt K XL10 r8 1008 800 ws) → (rwAt K XL10 r9 1009 800 rt0) → hwZ D vwCl A s.heap XL10 Hh lcs → lv_has ls 6 [(4, .int (nI i)), (3, .int (bI gb)), (0, .ref a), (1, .int (nI n)), (2, .int (nI j))] → W p l e ({ frames := 2, cells := 0, slots := 0, locals := 48 } : Room) s m args below meth c Hh lcs 0 0 Q (F0 m 10 ls []) := by
    intro fuel; induction fuel with
    | zero => intro i ws o gb XL10 Hh lcs ls hfu; exact absurd hfu (Nat.not_lt_zero _)
    | succ fuel ih10 =>
      intro i ws o gb XL10 Hh lcs ls hfu10 hi hwk hcap1 hcap0 hFr gx gg gp gl gst gq gt hZ hl
      have hok0 := rwAt.oks gq
      refine lv_iload hx hb dMo_gather_10 (lv_at hl 0 rfl) ?_
      refine lv_aload_n hx hb dMo_gather_12 rfl (lv_at hl 2 rfl) ?_
      refine hw_get hx hb hts (hwInn inMo) hown hK hZ gx rfl 3 (by decide) (hts (.fieldLink RMo 69 RMo "signs" "I") (hwMem mm_388)) (fun _ h => h) rfl dMo_gather_13 ?_
      refine hw_ic_ge (a := i) (b := ng) (tgt := 93) hx hb dMo_gather_16 (by decide) (by omega) (by omega) (fun cq_4 => ?_) (fun cq_4 => ?_)
      · have hwe := hwk.1
        rw [List.take_of_length_le (by omega)] at hwe
        have hne := hwk.2.1.1
        obtain ⟨f8, g8, hN8, hv8, hk8⟩ := gq
        obtain ⟨f9, g9, hN9, hv9, hk9⟩ := gt
        have hR2 := fun j => okWs.at hk8 j
        have hw6 : ws.length ≤ 600 := by omega
        refine lv_iconst (v := nI 0) hx hb dMo_gather_93 (by decide) ?_
        refine lv_istore (lv' := [(4, .int (nI 0)), (3, .int (bI gb)), (0, .ref a), (1, .int (nI n)), (2, .int (nI j))]) hx hb dMo_gather_94 hl (by decide) rfl (fun ls hl => ?_)
        have loop96 : ∀ (fuel : Nat) (k : Nat) (y9 : Nat → Int64) (XL96 : hwW) (Hh : Heap) (lcs : List Loc) (ls : Array Slot), ws.length - k < fuel → (k ≤ ws.length) → (∀ p, p < k → y9 p = lN (rW (trm g st (ws.getD p [])))) → (hwF X XL96 (fun M => M = 1000 ∨ M = 1008 ∨ M = 1009)) → (hwH XL96 a 1000 (.inr (10, [.int (nI tz), .int (nI nr), .ref r1, .int (nI ng), .ref r2, .ref r3, .ref r4, .ref r5, .int (nI ns), .ref r6, .int (nI nz), .ref r7, .int (nI na), .ref r8, .ref r9, .ref r10, .int (nI ws.length), .int (nI nh), .ref r11, .ref r12, .ref r13, .ref r14, .int (nI nt), .ref r15]))) → (hwH XL96 r4 1004 (.inl (K 0, 4, .inl fl))) → (rwAt K XL96 r5 1005 40 st) → (hwH XL96 r8 1008 (.inl (K 1, 800, .inr (.inl f8)))) → (hwH XL96 r9 1009 (.inl (K 1, 800, .inr (.inl y9)))) → hwZ D vwCl A s.heap XL96 Hh lcs → lv_has ls 6 [(4, .int (nI k)), (0, .ref a), (1, .int (nI n)), (2, .int (nI j))] → W p l e ({ frames := 2, cells := 0, slots := 0, locals := 48 } : Room) s m args below meth c Hh lcs 0 0 Q (F0 m 96 ls []) := by
          intro fuel; induction fuel with
          | zero => intro k y9 XL96 Hh lcs ls hfu; exact absurd hfu (Nat.not_lt_zero _)
          | succ fuel ih96 =>
            intro k y9 XL96 Hh lcs ls hfu96 hk hy hFr gx gl gst g8 g9 hZ hl
            refine lv_iload hx hb dMo_gather_96 (lv_at hl 0 rfl) ?_
            refine lv_aload_n hx hb dMo_gather_98 rfl (lv_at hl 1 rfl) ?_
            refine hw_get hx hb hts (hwInn inMo) hown hK hZ gx rfl 16 (by decide) (hts (.fieldLink RMo 94 RMo "rowCount" "I") (hwMem mm_387)) (fun _ h => h) rfl dMo_gather_99 ?_
            refine hw_ic_ge (a := k) (b := ws.length) (tgt := 130) hx hb dMo_gather_102 (by decide) (by omega) (by omega) (fun cq_5 => ?_) (fun cq_5 => ?_)
            · exact hret hZ (by rw [hwe]; exact ⟨hFr, gx, ⟨f8, g8, hN8, hv8, hk8⟩, ⟨y9, g9, by rw [List.length_map]; omega, rvec_map (ws := ws) (φ := trm g st) (fun p hp => hy p (by omega)), okWs_map hk8 g st⟩⟩) dMo_gather_130
            · refine lv_aload_n hx hb dMo_gather_105 rfl (lv_at hl 1 rfl) ?_
              refine hw_get hx hb hts (hwInn inMo) hown hK hZ gx rfl 14 (by decide) (hts (.fieldLink RMo 37 RMo "rowTerm" "[J") (hwMem mm_389)) (fun _ h => h) rfl dMo_gather_106 ?_
              refine lv_iload hx hb dMo_gather_109 (lv_at hl 0 rfl) ?_
              refine lv_aload_n hx hb dMo_gather_111 rfl (lv_at hl 1 rfl) ?_
              refine lv_aload_n hx hb dMo_gather_112 rfl (lv_at hl 1 rfl) ?_
              refine hw_get hx hb hts (hwInn inMo) hown hK hZ gx rfl 13 (by decide) (hts (.fieldLink RMo 34 RMo "row" "[J") (hwMem mm_390)) (fun _ h => h) rfl dMo_gather_113 ?_
              refine lv_iload hx hb dMo_gather_116 (lv_at hl 0 rfl) ?_
              refine hw_lald hx hb hK hZ 1 g8 rfl (j := k) (by omega) (by omega) dMo_gather_118 ?_
              refine hw_topl (hv8 k (by omega)) ?_
              refine lv_iload_n hx hb dMo_gather_119 rfl (lv_at hl 3 rfl) ?_
              refine hw_calll (va_runV (As := [.long (lN (rW (ws.getD k []))), .int (nI j)]) (rest := [.int (nI k), .ref r9]) ⟨hx, hb, hml, hown, hts⟩ (m_stem l D K XL96 Hh.size (a := a) (r1 := r1) (r2 := r2) (r3 := r3) (r4 := r4) (r5 := r5) (r6 := r6) (r7 := r7) (r8 := r8) (r9 := r9) (r10 := r10) (r11 := r11) (r12 := r12) (r13 := r13) (r14 := r14) (r15 := r15) (tz := tz) (nr := nr) (ng := ng) (ns := ns) (nz := nz) (na := na) (nw := ws.length) (nh := nh) (nt := nt) (st := st) (fl := fl) (w := (ws.getD k [])) (j := j) (g := g) gx gst gl (by omega) (hR2 k) (ne_getD hne (by omega)) (by omega) (by assumption) (by omega)) (cwV 2 hts (hwGood (hw_4 mm_392 mm_393 mm_394 mm_365 (hwAll mm_391))) rfl rfl rfl (by decide +kernel) ⟨Nat.le_of_ble_eq_true rfl, Nat.le_of_ble_eq_true rfl⟩) (hw_preV hK hO hZ (⟨_, _, gx⟩) rfl) rfl rfl hl.1 rfl (lv_room (Nat.le_of_ble_eq_true rfl)) dMo_gather_120 ⟨(show 0 + 0 ≤ 0 by omega), (show 0 + 0 ≤ 0 by omega)⟩) hZ hA (fun r X_6 H_7 lc_8 hp hZ => ?_)
              obtain ⟨hr, hy⟩ := hp
              subst hy
              refine hw_topl hr ?_
              refine hw_last hx hb hK hZ 1 g9 rfl (j := k) (by omega) (by omega) dMo_gather_123 (fun X_9 H_10 lc_11 hZ hF hNw => ?_)
              have hFr := hwF.tr hFr hF (fun _ h => h) (fun M h => by first | exact False.elim h | ((try dsimp only at h ⊢); omega))
              have gx := hF _ _ _ (by intro hNS; first | exact False.elim hNS | ((try dsimp only at hNS); omega)) gx
              have gl := hF _ _ _ (by intro hNS; first | exact False.elim hNS | ((try dsimp only at hNS); omega)) gl
              have gst := rwAt.fr hF (by intro hNS; first | exact False.elim hNS | ((try dsimp only at hNS); omega)) gst
              have g8 := hF _ _ _ (by intro hNS; first | exact False.elim hNS | ((try dsimp only at hNS); omega)) g8
              have g9 := hNw
              refine lv_iinc (v := nI (k + 1)) (lv' := [(4, .int (nI (k + 1))), (0, .ref a), (1, .int (nI n)), (2, .int (nI j))]) hx hb dMo_gather_124 hl (k := 0) rfl (nI_add _ 1) (by decide) rfl (fun ls hl => ?_)
              refine lv_goto (tgt := 96) hx hb dMo_gather_127 (by decide) ?_
              exact ih96 (k + 1) (vp_updL y9 k (lN (rW (trm g st (ws.getD k []))))) _ _ _ _ (by omega) (by omega) (fun p hp => (Nat.lt_or_eq_of_le (Nat.le_of_lt_succ hp)).elim (fun z => by rw [pk_uLn (by omega)]; exact hy p z) (fun z => by subst z; rw [pk_uLs])) hFr gx gl gst g8 g9 hZ (lv_sub hl [0, 1, 2, 3] rfl)
        exact loop96 (ws.length - 0 + 1) 0 f9 _ _ _ _ (by omega) (by omega) (fun p hp => absurd hp (Nat.not_lt_zero _)) hFr gx gl gst g8 g9 hZ (lv_sub hl [0, 2, 3, 4] rfl)
      · refine lv_aload_n hx hb dMo_gather_19 rfl (lv_at hl 2 rfl) ?_
        refine hw_get hx hb hts (hwInn inMo) hown hK hZ gx rfl 5 (by decide) (hts (.fieldLink RMo 17 RMo "place" "[I") (hwMem mm_395)) (fun _ h => h) rfl dMo_gather_20 ?_
        refine lv_iload hx hb dMo_gather_23 (lv_at hl 0 rfl) ?_
        refine hw_iald hx hb hK hZ 0 gp rfl (j := i) (by omega) (by omega) dMo_gather_25 ?_
        refine hw_topi (hfp i (by omega)) ?_
        have hsb9 := hsb i
        refine lv_iconst (v := nI 4) hx hb dMo_gather_26 (by decide) ?_
        refine lv_iload_n hx hb dMo_gather_27 rfl (lv_at hl 3 rfl) ?_
        refine lv_imul hx hb dMo_gather_28 ?_
        refine hw_topi (pk_mul 4 n) ?_
        refine lv_iload_n hx hb dMo_gather_29 rfl (lv_at hl 4 rfl) ?_
        refine lv_iadd hx hb dMo_gather_30 ?_
        refine hw_topi (nI_add (4 * n) j) ?_
        refine hw_ic_ne (a := (sg.getD i (0, 0)).1) (b := 4 * n + j) (tgt := 87) hx hb dMo_gather_31 (by decide) (by omega) (by omega) (fun cq_12 => ?_) (fun cq_12 => ?_)
        · refine lv_iinc (v := nI (i + 1)) (lv' := [(4, .int (nI (i + 1))), (3, .int (bI gb)), (0, .ref a), (1, .int (nI n)), (2, .int (nI j))]) hx hb dMo_gather_87 hl (k := 0) rfl (nI_add _ 1) (by decide) rfl (fun ls hl => ?_)
          refine lv_goto (tgt := 10) hx hb dMo_gather_90 (by decide) ?_
          exact ih10 (i + 1) ws o gb _ _ _ _ (by omega) (by omega) (by rw [ltL_n (by omega) cq_12]; exact hwk) (by omega) (fun h => by have := hcap0 h; omega) hFr gx gg gp gl gst gq gt hZ (lv_sub hl [0, 1, 2, 3, 4] rfl)
        · refine lv_aload_n hx hb dMo_gather_34 rfl (lv_at hl 2 rfl) ?_
          refine hw_get hx hb hts (hwInn inMo) hown hK hZ gx rfl 4 (by decide) (hts (.fieldLink RMo 13 RMo "sign" "[B") (hwMem mm_396)) (fun _ h => h) rfl dMo_gather_35 ?_
          refine lv_iload hx hb dMo_gather_38 (lv_at hl 0 rfl) ?_
          refine hw_bald hx hb hK hZ 3 gg rfl (j := i) (by omega) (by omega) dMo_gather_40 ?_
          refine hw_calli (va_runS (As := [.int (fg i)]) (rest := []) ⟨hx, hb, hml, hown, hts⟩ (m_letter l D K XL10 Hh.size (x := fg i) ) (va_cwS 1 hts (hwGood (hw_3 mm_382 mm_381 mm_365 (hwAll mm_380))) rfl rfl rfl (by decide +kernel) ⟨Nat.le_of_ble_eq_true rfl, Nat.le_of_ble_eq_true rfl⟩) (hw_preS hK hO hZ) rfl rfl hl.1 rfl (lv_room (Nat.le_of_ble_eq_true rfl)) dMo_gather_41 ⟨(show 0 + 0 ≤ 0 by omega), (show 0 + 0 ≤ 0 by omega)⟩) hZ hA (fun r X_13 H_14 lc_15 hp hZ => ?_)
          obtain ⟨hr, hy, xx_16⟩ := hp
          subst hy
          refine hw_topi hr ?_
          have hx26 := mL_le (fg i)
          rw [hfg i (by omega)] at hx26
          refine hw_topi (congrArg nI (hfg i (by omega))) ?_
          refine lv_istore (lv' := [(5, .int (nI ((sg.getD i (0, 0)).2))), (4, .int (nI i)), (3, .int (bI gb)), (0, .ref a), (1, .int (nI n)), (2, .int (nI j))]) hx hb dMo_gather_44 hl (by decide) rfl (fun ls hl => ?_)
          refine lv_aload_n hx hb dMo_gather_46 rfl (lv_at hl 3 rfl) ?_
          refine lv_iload hx hb dMo_gather_47 (lv_at hl 0 rfl) ?_
          refine hw_if_le (a := (sg.getD i (0, 0)).2) (tgt := 69) hx hb dMo_gather_49 (by decide) (by omega) (fun cq_17 => ?_) (fun cq_17 => ?_)
          · refine lv_aload_n hx hb dMo_gather_69 rfl (lv_at hl 3 rfl) ?_
            refine hw_get hx hb hts (hwInn inMo) hown hK hZ gx rfl 16 (by decide) (hts (.fieldLink RMo 94 RMo "rowCount" "I") (hwMem mm_387)) (fun _ h => h) rfl dMo_gather_70 ?_
            refine hw_put (ty := .int) (fs' := [.int (nI tz), .int (nI nr), .ref r1, .int (nI ng), .ref r2, .ref r3, .ref r4, .ref r5, .int (nI ns), .ref r6, .int (nI nz), .ref r7, .int (nI na), .ref r8, .ref r9, .ref r10, .int (nI ws.length), .int (nI nh), .ref r11, .ref r12, .ref r13, .ref r14, .int (nI nt), .ref r15]) hx hb hts (hwInn inMo) tyMo tyMo_ok nmMo hown hK hZ gx rfl 16 (by decide) (hts (.fieldLink RMo 94 RMo "rowCount" "I") (hwMem mm_387)) (fun _ h => h) rfl (by decide +kernel) rfl rfl (Nat.le_of_ble_eq_true rfl) rfl dMo_gather_73 (fun X_18 H_19 lc_20 hZ hF hNw => ?_)
            have hFr := hwF.tr hFr hF (fun _ h => h) (fun M h => by first | exact False.elim h | ((try dsimp only at h ⊢); omega))
            have gx := hNw
            have gg := hF _ _ _ (by intro hNS; first | exact False.elim hNS | ((try dsimp only at hNS); omega)) gg
            have gp := hF _ _ _ (by intro hNS; first | exact False.elim hNS | ((try dsimp only at hNS); omega)) gp
            have gl := hF _ _ _ (by intro hNS; first | exact False.elim hNS | ((try dsimp only at hNS); omega)) gl
            have gst := rwAt.fr hF (by intro hNS; first | exact False.elim hNS | ((try dsimp only at hNS); omega)) gst
            have gq := rwAt.fr hF (by intro hNS; first | exact False.elim hNS | ((try dsimp only at hNS); omega)) gq
            have gt := rwAt.fr hF (by intro hNS; first | exact False.elim hNS | ((try dsimp only at hNS); omega)) gt
            refine lv_iload hx hb dMo_gather_76 (lv_at hl 0 rfl) ?_
            refine hw_if_le (a := (sg.getD i (0, 0)).2) (tgt := 85) hx hb dMo_gather_78 (by decide) (by omega) (fun cq_21 => ?_) (fun cq_21 => by exfalso; omega)
            refine lv_iconst (v := nI 0) hx hb dMo_gather_85 (by decide) ?_
            refine lv_istore_n (lv' := [(3, .int (nI 0)), (5, .int (nI ((sg.getD i (0, 0)).2))), (4, .int (nI i)), (0, .ref a), (1, .int (nI n)), (2, .int (nI j))]) hx hb dMo_gather_86 rfl hl (by decide) rfl (fun ls hl => ?_)
            refine lv_iinc (v := nI (i + 1)) (lv' := [(4, .int (nI (i + 1))), (3, .int (nI 0)), (5, .int (nI ((sg.getD i (0, 0)).2))), (0, .ref a), (1, .int (nI n)), (2, .int (nI j))]) hx hb dMo_gather_87 hl (k := 2) rfl (nI_add _ 1) (by decide) rfl (fun ls hl => ?_)
            refine lv_goto (tgt := 10) hx hb dMo_gather_90 (by decide) ?_
            exact ih10 (i + 1) ws 0 false _ _ _ _ (by omega) (by omega) (by rw [ltL_y (by omega) cq_12]; exact hwk.no (by omega)) (by omega) (fun _ => by omega) hFr gx gg gp gl gst gq gt hZ (lv_sub hl [0, 1, 3, 4, 5] rfl)
          · rcases hwk.2.1.2 with rfl | ⟨us, w, rfl, rfl⟩
            · obtain rfl := hwk.gA
              have hc9 := hcap0 rfl
              refine lv_aload_n hx hb dMo_gather_52 rfl (lv_at hl 3 rfl) ?_
              refine hw_get hx hb hts (hwInn inMo) hown hK hZ gx rfl 13 (by decide) (hts (.fieldLink RMo 34 RMo "row" "[J") (hwMem mm_390)) (fun _ h => h) rfl dMo_gather_53 ?_
              refine lv_aload_n hx hb dMo_gather_56 rfl (lv_at hl 3 rfl) ?_
              refine hw_get hx hb hts (hwInn inMo) hown hK hZ gx rfl 16 (by decide) (hts (.fieldLink RMo 94 RMo "rowCount" "I") (hwMem mm_387)) (fun _ h => h) rfl dMo_gather_57 ?_
              refine lv_iload_n hx hb dMo_gather_60 rfl (lv_at hl 2 rfl) ?_
              refine lv_iload hx hb dMo_gather_61 (lv_at hl 0 rfl) ?_
              refine hw_calli (va_runS (As := [.ref r8, .int (nI ws.length), .int (bI false), .int (nI ((sg.getD i (0, 0)).2))]) (rest := [.ref a]) ⟨hx, hb, hml, hown, hts⟩ (m_lay0 l D K XL10 H_14.size (q := r8) (L := 1008) (N := 800) (ws := ws) (x := (sg.getD i (0, 0)).2) gq (by omega) (by omega) (by omega) (by omega)) (va_cwS 4 hts (hwGood (hw_3 mm_386 mm_385 mm_365 (hwAll mm_384))) rfl rfl rfl (by decide +kernel) ⟨Nat.le_of_ble_eq_true rfl, Nat.le_of_ble_eq_true rfl⟩) (hw_preS hK hO hZ) rfl rfl hl.1 rfl (lv_room (Nat.le_of_ble_eq_true rfl)) dMo_gather_63 ⟨(show 0 + 0 ≤ 0 by omega), (show 0 + 0 ≤ 0 by omega)⟩) hZ hA (fun r X_22 H_23 lc_24 hp hZ => ?_)
              obtain ⟨hr, hF, hN_25⟩ := hp
              have hFr := hwF.tr hFr hF (fun _ h => h) (fun M h => by first | exact False.elim h | ((try dsimp only at h ⊢); omega))
              have gx := hF _ _ _ (by intro hNS; first | exact False.elim hNS | ((try dsimp only at hNS); omega)) gx
              have gg := hF _ _ _ (by intro hNS; first | exact False.elim hNS | ((try dsimp only at hNS); omega)) gg
              have gp := hF _ _ _ (by intro hNS; first | exact False.elim hNS | ((try dsimp only at hNS); omega)) gp
              have gl := hF _ _ _ (by intro hNS; first | exact False.elim hNS | ((try dsimp only at hNS); omega)) gl
              have gst := rwAt.fr hF (by intro hNS; first | exact False.elim hNS | ((try dsimp only at hNS); omega)) gst
              have gt := rwAt.fr hF (by intro hNS; first | exact False.elim hNS | ((try dsimp only at hNS); omega)) gt
              have ff_26 := hN_25
              refine hw_topi hr ?_
              refine lv_goto (tgt := 73) hx hb dMo_gather_66 (by decide) ?_
              refine hw_put (ty := .int) (fs' := [.int (nI tz), .int (nI nr), .ref r1, .int (nI ng), .ref r2, .ref r3, .ref r4, .ref r5, .int (nI ns), .ref r6, .int (nI nz), .ref r7, .int (nI na), .ref r8, .ref r9, .ref r10, .int (nI (ws.length + 1)), .int (nI nh), .ref r11, .ref r12, .ref r13, .ref r14, .int (nI nt), .ref r15]) hx hb hts (hwInn inMo) tyMo tyMo_ok nmMo hown hK hZ gx rfl 16 (by decide) (hts (.fieldLink RMo 94 RMo "rowCount" "I") (hwMem mm_387)) (fun _ h => h) rfl (by decide +kernel) rfl rfl (Nat.le_of_ble_eq_true rfl) rfl dMo_gather_73 (fun X_27 H_28 lc_29 hZ hF hNw => ?_)
              have hFr := hwF.tr hFr hF (fun _ h => h) (fun M h => by first | exact False.elim h | ((try dsimp only at h ⊢); omega))
              have gx := hNw
              have gg := hF _ _ _ (by intro hNS; first | exact False.elim hNS | ((try dsimp only at hNS); omega)) gg
              have gp := hF _ _ _ (by intro hNS; first | exact False.elim hNS | ((try dsimp only at hNS); omega)) gp
              have gl := hF _ _ _ (by intro hNS; first | exact False.elim hNS | ((try dsimp only at hNS); omega)) gl
              have gst := rwAt.fr hF (by intro hNS; first | exact False.elim hNS | ((try dsimp only at hNS); omega)) gst
              have gt := rwAt.fr hF (by intro hNS; first | exact False.elim hNS | ((try dsimp only at hNS); omega)) gt
              have ff_26 := rwAt.fr hF (by intro hNS; first | exact False.elim hNS | ((try dsimp only at hNS); omega)) ff_26
              refine lv_iload hx hb dMo_gather_76 (lv_at hl 0 rfl) ?_
              refine hw_if_le (a := (sg.getD i (0, 0)).2) (tgt := 85) hx hb dMo_gather_78 (by decide) (by omega) (fun cq_30 => by exfalso; omega) (fun cq_30 => ?_)
              refine lv_iconst (v := nI 1) hx hb dMo_gather_81 (by decide) ?_
              refine lv_goto (tgt := 86) hx hb dMo_gather_82 (by decide) ?_
              refine lv_istore_n (lv' := [(3, .int (nI 1)), (5, .int (nI ((sg.getD i (0, 0)).2))), (4, .int (nI i)), (0, .ref a), (1, .int (nI n)), (2, .int (nI j))]) hx hb dMo_gather_86 rfl hl (by decide) rfl (fun ls hl => ?_)
              refine lv_iinc (v := nI (i + 1)) (lv' := [(4, .int (nI (i + 1))), (3, .int (nI 1)), (5, .int (nI ((sg.getD i (0, 0)).2))), (0, .ref a), (1, .int (nI n)), (2, .int (nI j))]) hx hb dMo_gather_87 hl (k := 2) rfl (nI_add _ 1) (by decide) rfl (fun ls hl => ?_)
              refine lv_goto (tgt := 10) hx hb dMo_gather_90 (by decide) ?_
              rw [← app1_len ws [(sg.getD i (0, 0)).2]] at gx
              exact ih10 (i + 1) (ws ++ [[(sg.getD i (0, 0)).2]]) 1 true _ _ _ _ (by omega) (by omega) (by rw [ltL_y (by omega) cq_12]; exact hwk.A hok0 (by omega)) (by rw [app1_len]; omega) (fun h => absurd h (by decide)) hFr gx gg gp gl gst ff_26 gt hZ (lv_sub hl [0, 1, 3, 4, 5] rfl)
            · obtain rfl := hwk.gB
              rw [app1_len] at gx
              have hwl := hwk.2.1.1 w (by simp)
              refine lv_aload_n hx hb dMo_gather_52 rfl (lv_at hl 3 rfl) ?_
              refine hw_get hx hb hts (hwInn inMo) hown hK hZ gx rfl 13 (by decide) (hts (.fieldLink RMo 34 RMo "row" "[J") (hwMem mm_390)) (fun _ h => h) rfl dMo_gather_53 ?_
              refine lv_aload_n hx hb dMo_gather_56 rfl (lv_at hl 3 rfl) ?_
              refine hw_get hx hb hts (hwInn inMo) hown hK hZ gx rfl 16 (by decide) (hts (.fieldLink RMo 94 RMo "rowCount" "I") (hwMem mm_387)) (fun _ h => h) rfl dMo_gather_57 ?_
              refine lv_iload_n hx hb dMo_gather_60 rfl (lv_at hl 2 rfl) ?_
              refine lv_iload hx hb dMo_gather_61 (lv_at hl 0 rfl) ?_
              refine hw_calli (va_runS (As := [.ref r8, .int (nI (us.length + 1)), .int (bI true), .int (nI ((sg.getD i (0, 0)).2))]) (rest := [.ref a]) ⟨hx, hb, hml, hown, hts⟩ (m_lay1 l D K XL10 H_14.size (q := r8) (L := 1008) (N := 800) (us := us) (w := w) (x := (sg.getD i (0, 0)).2) gq (by omega) (by omega) (by omega)) (va_cwS 4 hts (hwGood (hw_3 mm_386 mm_385 mm_365 (hwAll mm_384))) rfl rfl rfl (by decide +kernel) ⟨Nat.le_of_ble_eq_true rfl, Nat.le_of_ble_eq_true rfl⟩) (hw_preS hK hO hZ) rfl rfl hl.1 rfl (lv_room (Nat.le_of_ble_eq_true rfl)) dMo_gather_63 ⟨(show 0 + 0 ≤ 0 by omega), (show 0 + 0 ≤ 0 by omega)⟩) hZ hA (fun r X_31 H_32 lc_33 hp hZ => ?_)
              obtain ⟨hr, hF, hN_34⟩ := hp
              have hFr := hwF.tr hFr hF (fun _ h => h) (fun M h => by first | exact False.elim h | ((try dsimp only at h ⊢); omega))
              have gx := hF _ _ _ (by intro hNS; first | exact False.elim hNS | ((try dsimp only at hNS); omega)) gx
              have gg := hF _ _ _ (by intro hNS; first | exact False.elim hNS | ((try dsimp only at hNS); omega)) gg
              have gp := hF _ _ _ (by intro hNS; first | exact False.elim hNS | ((try dsimp only at hNS); omega)) gp
              have gl := hF _ _ _ (by intro hNS; first | exact False.elim hNS | ((try dsimp only at hNS); omega)) gl
              have gst := rwAt.fr hF (by intro hNS; first | exact False.elim hNS | ((try dsimp only at hNS); omega)) gst
              have gt := rwAt.fr hF (by intro hNS; first | exact False.elim hNS | ((try dsimp only at hNS); omega)) gt
              have ff_35 := hN_34
              refine hw_topi hr ?_
              refine lv_goto (tgt := 73) hx hb dMo_gather_66 (by decide) ?_
              refine hw_put (ty := .int) (fs' := [.int (nI tz), .int (nI nr), .ref r1, .int (nI ng), .ref r2, .ref r3, .ref r4, .ref r5, .int (nI ns), .ref r6, .int (nI nz), .ref r7, .int (nI na), .ref r8, .ref r9, .ref r10, .int (nI (us.length + 1)), .int (nI nh), .ref r11, .ref r12, .ref r13, .ref r14, .int (nI nt), .ref r15]) hx hb hts (hwInn inMo) tyMo tyMo_ok nmMo hown hK hZ gx rfl 16 (by decide) (hts (.fieldLink RMo 94 RMo "rowCount" "I") (hwMem mm_387)) (fun _ h => h) rfl (by decide +kernel) rfl rfl (Nat.le_of_ble_eq_true rfl) rfl dMo_gather_73 (fun X_36 H_37 lc_38 hZ hF hNw => ?_)
              have hFr := hwF.tr hFr hF (fun _ h => h) (fun M h => by first | exact False.elim h | ((try dsimp only at h ⊢); omega))
              have gx := hNw
              have gg := hF _ _ _ (by intro hNS; first | exact False.elim hNS | ((try dsimp only at hNS); omega)) gg
              have gp := hF _ _ _ (by intro hNS; first | exact False.elim hNS | ((try dsimp only at hNS); omega)) gp
              have gl := hF _ _ _ (by intro hNS; first | exact False.elim hNS | ((try dsimp only at hNS); omega)) gl
              have gst := rwAt.fr hF (by intro hNS; first | exact False.elim hNS | ((try dsimp only at hNS); omega)) gst
              have gt := rwAt.fr hF (by intro hNS; first | exact False.elim hNS | ((try dsimp only at hNS); omega)) gt
              have ff_35 := rwAt.fr hF (by intro hNS; first | exact False.elim hNS | ((try dsimp only at hNS); omega)) ff_35
              refine lv_iload hx hb dMo_gather_76 (lv_at hl 0 rfl) ?_
              refine hw_if_le (a := (sg.getD i (0, 0)).2) (tgt := 85) hx hb dMo_gather_78 (by decide) (by omega) (fun cq_39 => by exfalso; omega) (fun cq_39 => ?_)
              refine lv_iconst (v := nI 1) hx hb dMo_gather_81 (by decide) ?_
              refine lv_goto (tgt := 86) hx hb dMo_gather_82 (by decide) ?_
              refine lv_istore_n (lv' := [(3, .int (nI 1)), (5, .int (nI ((sg.getD i (0, 0)).2))), (4, .int (nI i)), (0, .ref a), (1, .int (nI n)), (2, .int (nI j))]) hx hb dMo_gather_86 rfl hl (by decide) rfl (fun ls hl => ?_)
              refine lv_iinc (v := nI (i + 1)) (lv' := [(4, .int (nI (i + 1))), (3, .int (nI 1)), (5, .int (nI ((sg.getD i (0, 0)).2))), (0, .ref a), (1, .int (nI n)), (2, .int (nI j))]) hx hb dMo_gather_87 hl (k := 2) rfl (nI_add _ 1) (by decide) rfl (fun ls hl => ?_)
              refine lv_goto (tgt := 10) hx hb dMo_gather_90 (by decide) ?_
              rw [← app1_len us (layW w ((sg.getD i (0, 0)).2))] at gx
              exact ih10 (i + 1) (us ++ [layW w ((sg.getD i (0, 0)).2)]) ((layW w ((sg.getD i (0, 0)).2)).length) true _ _ _ _ (by omega) (by omega) (by rw [ltL_y (by omega) cq_12]; exact hwk.B hok0 (by omega)) (by rw [app1_len] at hcap1 ⊢; omega) (fun h => absurd h (by have := layW_pos (x := (sg.getD i (0, 0)).2) hwl; omega)) hFr gx gg gp gl gst ff_35 gt hZ (lv_sub hl [0, 1, 3, 4, 5] rfl)
  exact loop10 (sg.length - 0 + 1) 0 ([]) 0 false _ _ _ _ (by omega) (by omega) (by rw [List.take_zero]; exact wkS.nil) (by simp) (fun _ => by simp) hFr f0_ f1_ f2_ f3_ f4_ f5_ f6_ hZ (lv_sub hl [0, 1, 2, 3, 4] rfl)
set_option maxHeartbeats 4000000 in
set_option maxRecDepth 100000 in
theorem m_hasTerm (l : Launch) (D : va_G) (K : Nat → ClassId) (X : hwW) (sz : Nat) (a : Nat) (r1 : Nat) (r2 : Nat) (r3 : Nat) (r4 : Nat) (r5 : Nat) (r6 : Nat) (r7 : Nat) (r8 : Nat) (r9 : Nat) (r10 : Nat) (r11 : Nat) (r12 : Nat) (r13 : Nat) (r14 : Nat) (r15 : Nat) (tz : Nat) (nr : Nat) (ng : Nat) (ns : Nat) (nz : Nat) (na : Nat) (nw : Nat) (nh : Nat) (nt : Nat) (rt : List (List Nat)) (w : List Nat) (f0_ : hwH X a 1000 (.inr (10, [.int (nI tz), .int (nI nr), .ref r1, .int (nI ng), .ref r2, .ref r3, .ref r4, .ref r5, .int (nI ns), .ref r6, .int (nI nz), .ref r7, .int (nI na), .ref r8, .ref r9, .ref r10, .int (nI nw), .int (nI nh), .ref r11, .ref r12, .ref r13, .ref r14, .int (nI nt), .ref r15]))) (f1_ : rwAt K X r9 1009 800 rt) (hnr_ : nw = rt.length) (hw : okW w) : Met l yMo_hasTerm (.code yMo_hasTerm cMo_hasTerm 5 (some .boolean) :: hwG) ({ frames := 0, cells := 0, slots := 0, locals := 0 } : Room) (hwPc D vwCl (hwT K) [.ref a, .long (lN (rW w))] X sz) (hwQi D vwCl X sz (fun r Y => r = bI (decide (w ∈ rt)) ∧ X = Y)) 0 0 (va_A X.1 sz) := by
  refine hwMetz (cc := cMo_hasTerm) (maxL := 5) (by decide) rfl (Nat.le_of_ble_eq_true rfl) (fun p e s m args below meth c ls A Q hx hb hml hown hts hname hret hK hO hZ hA hl => ?_)
  have hl : lv_has ls 5 [(0, .ref a), (1, .long (lN (rW w)))] := hl
  obtain ⟨f9, g9, hN9, hv9, hk9⟩ := f1_
  have hR2 := fun j => okWs.at hk9 j
  refine lv_iconst (v := nI 0) hx hb dMo_hasTerm_0 (by decide) ?_
  refine lv_istore_n (lv' := [(3, .int (nI 0)), (0, .ref a), (1, .long (lN (rW w)))]) hx hb dMo_hasTerm_1 rfl hl (by decide) rfl (fun ls hl => ?_)
  refine lv_iconst (v := nI 0) hx hb dMo_hasTerm_2 (by decide) ?_
  refine lv_istore (lv' := [(4, .int (nI 0)), (3, .int (nI 0)), (0, .ref a), (1, .long (lN (rW w)))]) hx hb dMo_hasTerm_3 hl (by decide) rfl (fun ls hl => ?_)
  have loop5 : ∀ (fuel : Nat) (i : Nat) (b : Bool) (Hh : Heap) (lcs : List Loc) (ls : Array Slot), rt.length - i < fuel → (i ≤ rt.length) → (b = (rt.take i).any (fun t => decide (t = w))) → hwZ D vwCl A s.heap X Hh lcs → lv_has ls 5 [(4, .int (nI i)), (3, .int (bI b)), (0, .ref a), (1, .long (lN (rW w)))] → W p l e ({ frames := 0, cells := 0, slots := 0, locals := 0 } : Room) s m args below meth c Hh lcs 0 0 Q (F0 m 5 ls []) := by
    intro fuel; induction fuel with
    | zero => intro i b Hh lcs ls hfu; exact absurd hfu (Nat.not_lt_zero _)
    | succ fuel ih5 =>
      intro i b Hh lcs ls hfu5 hi hbb hZ hl
      refine lv_iload hx hb dMo_hasTerm_5 (lv_at hl 0 rfl) ?_
      refine lv_aload_n hx hb dMo_hasTerm_7 rfl (lv_at hl 2 rfl) ?_
      refine hw_get hx hb hts (hwInn inMo) hown hK hZ f0_ rfl 16 (by decide) (hts (.fieldLink RMo 94 RMo "rowCount" "I") (hwMem mm_387)) (fun _ h => h) rfl dMo_hasTerm_8 ?_
      refine hw_ic_ge (a := i) (b := nw) (tgt := 42) hx hb dMo_hasTerm_11 (by decide) (by omega) (by omega) (fun cq_1 => ?_) (fun cq_1 => ?_)
      · refine lv_iload_n hx hb dMo_hasTerm_42 rfl (lv_at hl 1 rfl) ?_
        exact hret (hw_nb _) hZ ⟨by rw [any_end (by omega) hbb, any_mem], rfl⟩ dMo_hasTerm_43
      · refine lv_iload_n hx hb dMo_hasTerm_14 rfl (lv_at hl 1 rfl) ?_
        refine hw_bz_ne (tgt := 30) hx hb dMo_hasTerm_15 (by decide) (fun cq_2 => ?_) (fun cq_2 => ?_)
        · refine lv_iconst (v := nI 1) hx hb dMo_hasTerm_30 (by decide) ?_
          refine lv_goto (tgt := 35) hx hb dMo_hasTerm_31 (by decide) ?_
          refine lv_istore_n (lv' := [(3, .int (nI 1)), (4, .int (nI i)), (0, .ref a), (1, .long (lN (rW w)))]) hx hb dMo_hasTerm_35 rfl hl (by decide) rfl (fun ls hl => ?_)
          refine lv_iinc (v := nI (i + 1)) (lv' := [(4, .int (nI (i + 1))), (3, .int (nI 1)), (0, .ref a), (1, .long (lN (rW w)))]) hx hb dMo_hasTerm_36 hl (k := 1) rfl (nI_add _ 1) (by decide) rfl (fun ls hl => ?_)
          refine lv_goto (tgt := 5) hx hb dMo_hasTerm_39 (by decide) ?_
          exact ih5 (i + 1) true _ _ _ (by omega) (by omega) (any_t1 (by omega) hbb cq_2)  hZ (lv_sub hl [0, 1, 2, 3] rfl)
        · refine lv_aload_n hx hb dMo_hasTerm_18 rfl (lv_at hl 2 rfl) ?_
          refine hw_get hx hb hts (hwInn inMo) hown hK hZ f0_ rfl 14 (by decide) (hts (.fieldLink RMo 37 RMo "rowTerm" "[J") (hwMem mm_389)) (fun _ h => h) rfl dMo_hasTerm_19 ?_
          refine lv_iload hx hb dMo_hasTerm_22 (lv_at hl 0 rfl) ?_
          refine hw_lald hx hb hK hZ 1 g9 rfl (j := i) (by omega) (by omega) dMo_hasTerm_24 ?_
          refine hw_topl (hv9 i (by omega)) ?_
          refine lv_lload_n hx hb dMo_hasTerm_25 rfl (lv_at hl 3 rfl) ?_
          refine hw_lc_ne (a := rW (rt.getD i [])) (b := rW w) (tgt := 34) hx hb dMo_hasTerm_26 dMo_hasTerm_27 (by decide) (by first | exact rW_lt63 (by assumption) | exact rW_lt63 (hR2 _) | exact rW_lt63 (hS2 _) | decide) (by first | exact rW_lt63 (by assumption) | exact rW_lt63 (hR2 _) | exact rW_lt63 (hS2 _) | decide) (fun cq_3 => ?_) (fun cq_3 => ?_)
          · refine lv_iconst (v := nI 0) hx hb dMo_hasTerm_34 (by decide) ?_
            refine lv_istore_n (lv' := [(3, .int (nI 0)), (4, .int (nI i)), (0, .ref a), (1, .long (lN (rW w)))]) hx hb dMo_hasTerm_35 rfl hl (by decide) rfl (fun ls hl => ?_)
            refine lv_iinc (v := nI (i + 1)) (lv' := [(4, .int (nI (i + 1))), (3, .int (nI 0)), (0, .ref a), (1, .long (lN (rW w)))]) hx hb dMo_hasTerm_36 hl (k := 1) rfl (nI_add _ 1) (by decide) rfl (fun ls hl => ?_)
            refine lv_goto (tgt := 5) hx hb dMo_hasTerm_39 (by decide) ?_
            exact ih5 (i + 1) false _ _ _ (by omega) (by omega) (any_f (by omega) hbb cq_2 (decide_eq_false (fun h => cq_3 ((rW_inj (hR2 _) hw).mpr h))))  hZ (lv_sub hl [0, 1, 2, 3] rfl)
          · refine lv_iconst (v := nI 1) hx hb dMo_hasTerm_30 (by decide) ?_
            refine lv_goto (tgt := 35) hx hb dMo_hasTerm_31 (by decide) ?_
            refine lv_istore_n (lv' := [(3, .int (nI 1)), (4, .int (nI i)), (0, .ref a), (1, .long (lN (rW w)))]) hx hb dMo_hasTerm_35 rfl hl (by decide) rfl (fun ls hl => ?_)
            refine lv_iinc (v := nI (i + 1)) (lv' := [(4, .int (nI (i + 1))), (3, .int (nI 1)), (0, .ref a), (1, .long (lN (rW w)))]) hx hb dMo_hasTerm_36 hl (k := 1) rfl (nI_add _ 1) (by decide) rfl (fun ls hl => ?_)
            refine lv_goto (tgt := 5) hx hb dMo_hasTerm_39 (by decide) ?_
            exact ih5 (i + 1) true _ _ _ (by omega) (by omega) (any_t2 (by omega) (decide_eq_true ((rW_inj (hR2 _) hw).mp cq_3)))  hZ (lv_sub hl [0, 1, 2, 3] rfl)
  exact loop5 (rt.length - 0 + 1) 0 false _ _ _ (by omega) (by omega) (by rw [List.take_zero]; rfl)  hZ (lv_sub hl [0, 1, 2, 3] rfl)
set_option maxHeartbeats 4000000 in
set_option maxRecDepth 100000 in
theorem m_hasAny (l : Launch) (D : va_G) (K : Nat → ClassId) (X : hwW) (sz : Nat) (a : Nat) (r1 : Nat) (r2 : Nat) (r3 : Nat) (r4 : Nat) (r5 : Nat) (r6 : Nat) (r7 : Nat) (r8 : Nat) (r9 : Nat) (r10 : Nat) (r11 : Nat) (r12 : Nat) (r13 : Nat) (r14 : Nat) (r15 : Nat) (tz : Nat) (nr : Nat) (ng : Nat) (ns : Nat) (nz : Nat) (na : Nat) (nw : Nat) (nh : Nat) (nt : Nat) (at_ : List (List Nat)) (f0_ : hwH X a 1000 (.inr (10, [.int (nI tz), .int (nI nr), .ref r1, .int (nI ng), .ref r2, .ref r3, .ref r4, .ref r5, .int (nI ns), .ref r6, .int (nI nz), .ref r7, .int (nI na), .ref r8, .ref r9, .ref r10, .int (nI nw), .int (nI nh), .ref r11, .ref r12, .ref r13, .ref r14, .int (nI nt), .ref r15]))) (f1_ : rwAt K X r10 1010 60 at_) (hna : na = at_.length) : Met l yMo_hasAny (.code yMo_hasAny cMo_hasAny 3 (some .boolean) :: hwG) ({ frames := 0, cells := 0, slots := 0, locals := 0 } : Room) (hwPc D vwCl (hwT K) [.ref a] X sz) (hwQi D vwCl X sz (fun r Y => r = bI (at_.any (fun t => decide (t ≠ []))) ∧ X = Y)) 0 0 (va_A X.1 sz) := by
  refine hwMetz (cc := cMo_hasAny) (maxL := 3) (by decide) rfl (Nat.le_of_ble_eq_true rfl) (fun p e s m args below meth c ls A Q hx hb hml hown hts hname hret hK hO hZ hA hl => ?_)
  have hl : lv_has ls 3 [(0, .ref a)] := hl
  obtain ⟨f10, g10, hN10, hv10, hk10⟩ := f1_
  have hS2 := fun j => okWs.at hk10 j
  refine lv_iconst (v := nI 0) hx hb dMo_hasAny_0 (by decide) ?_
  refine lv_istore_n (lv' := [(1, .int (nI 0)), (0, .ref a)]) hx hb dMo_hasAny_1 rfl hl (by decide) rfl (fun ls hl => ?_)
  refine lv_iconst (v := nI 0) hx hb dMo_hasAny_2 (by decide) ?_
  refine lv_istore_n (lv' := [(2, .int (nI 0)), (1, .int (nI 0)), (0, .ref a)]) hx hb dMo_hasAny_3 rfl hl (by decide) rfl (fun ls hl => ?_)
  have loop4 : ∀ (fuel : Nat) (i : Nat) (b : Bool) (Hh : Heap) (lcs : List Loc) (ls : Array Slot), at_.length - i < fuel → (i ≤ at_.length) → (b = (at_.take i).any (fun t => decide (t ≠ []))) → hwZ D vwCl A s.heap X Hh lcs → lv_has ls 3 [(2, .int (nI i)), (1, .int (bI b)), (0, .ref a)] → W p l e ({ frames := 0, cells := 0, slots := 0, locals := 0 } : Room) s m args below meth c Hh lcs 0 0 Q (F0 m 4 ls []) := by
    intro fuel; induction fuel with
    | zero => intro i b Hh lcs ls hfu; exact absurd hfu (Nat.not_lt_zero _)
    | succ fuel ih4 =>
      intro i b Hh lcs ls hfu4 hi hbb hZ hl
      refine lv_iload_n hx hb dMo_hasAny_4 rfl (lv_at hl 0 rfl) ?_
      refine lv_aload_n hx hb dMo_hasAny_5 rfl (lv_at hl 2 rfl) ?_
      refine hw_get hx hb hts (hwInn inMo) hown hK hZ f0_ rfl 12 (by decide) (hts (.fieldLink RMo 83 RMo "askedCount" "I") (hwMem mm_377)) (fun _ h => h) rfl dMo_hasAny_6 ?_
      refine hw_ic_ge (a := i) (b := na) (tgt := 39) hx hb dMo_hasAny_9 (by decide) (by omega) (by omega) (fun cq_1 => ?_) (fun cq_1 => ?_)
      · refine lv_iload_n hx hb dMo_hasAny_39 rfl (lv_at hl 1 rfl) ?_
        exact hret (hw_nb _) hZ ⟨by rw [any_end (by omega) hbb], rfl⟩ dMo_hasAny_40
      · refine lv_iload_n hx hb dMo_hasAny_12 rfl (lv_at hl 1 rfl) ?_
        refine hw_bz_ne (tgt := 27) hx hb dMo_hasAny_13 (by decide) (fun cq_2 => ?_) (fun cq_2 => ?_)
        · refine lv_iconst (v := nI 1) hx hb dMo_hasAny_27 (by decide) ?_
          refine lv_goto (tgt := 32) hx hb dMo_hasAny_28 (by decide) ?_
          refine lv_istore_n (lv' := [(1, .int (nI 1)), (2, .int (nI i)), (0, .ref a)]) hx hb dMo_hasAny_32 rfl hl (by decide) rfl (fun ls hl => ?_)
          refine lv_iinc (v := nI (i + 1)) (lv' := [(2, .int (nI (i + 1))), (1, .int (nI 1)), (0, .ref a)]) hx hb dMo_hasAny_33 hl (k := 1) rfl (nI_add _ 1) (by decide) rfl (fun ls hl => ?_)
          refine lv_goto (tgt := 4) hx hb dMo_hasAny_36 (by decide) ?_
          exact ih4 (i + 1) true _ _ _ (by omega) (by omega) (any_t1 (by omega) hbb cq_2)  hZ (lv_sub hl [0, 1, 2] rfl)
        · refine lv_aload_n hx hb dMo_hasAny_16 rfl (lv_at hl 2 rfl) ?_
          refine hw_get hx hb hts (hwInn inMo) hown hK hZ f0_ rfl 15 (by decide) (hts (.fieldLink RMo 40 RMo "askedTerm" "[J") (hwMem mm_397)) (fun _ h => h) rfl dMo_hasAny_17 ?_
          refine lv_iload_n hx hb dMo_hasAny_20 rfl (lv_at hl 0 rfl) ?_
          refine hw_lald hx hb hK hZ 1 g10 rfl (j := i) (by omega) (by omega) dMo_hasAny_21 ?_
          refine hw_topl (hv10 i (by omega)) ?_
          refine lv_lconst (v := lN 0) hx hb dMo_hasAny_22 rfl ?_
          refine hw_lc_eq (a := rW (at_.getD i [])) (b := 0) (tgt := 31) hx hb dMo_hasAny_23 dMo_hasAny_24 (by decide) (by first | exact rW_lt63 (by assumption) | exact rW_lt63 (hR2 _) | exact rW_lt63 (hS2 _) | decide) (by first | exact rW_lt63 (by assumption) | exact rW_lt63 (hR2 _) | exact rW_lt63 (hS2 _) | decide) (fun cq_3 => ?_) (fun cq_3 => ?_)
          · refine lv_iconst (v := nI 0) hx hb dMo_hasAny_31 (by decide) ?_
            refine lv_istore_n (lv' := [(1, .int (nI 0)), (2, .int (nI i)), (0, .ref a)]) hx hb dMo_hasAny_32 rfl hl (by decide) rfl (fun ls hl => ?_)
            refine lv_iinc (v := nI (i + 1)) (lv' := [(2, .int (nI (i + 1))), (1, .int (nI 0)), (0, .ref a)]) hx hb dMo_hasAny_33 hl (k := 1) rfl (nI_add _ 1) (by decide) rfl (fun ls hl => ?_)
            refine lv_goto (tgt := 4) hx hb dMo_hasAny_36 (by decide) ?_
            exact ih4 (i + 1) false _ _ _ (by omega) (by omega) (any_f (by omega) hbb cq_2 (decide_eq_false (fun h => h ((rW_zero (hS2 _)).mp cq_3))))  hZ (lv_sub hl [0, 1, 2] rfl)
          · refine lv_iconst (v := nI 1) hx hb dMo_hasAny_27 (by decide) ?_
            refine lv_goto (tgt := 32) hx hb dMo_hasAny_28 (by decide) ?_
            refine lv_istore_n (lv' := [(1, .int (nI 1)), (2, .int (nI i)), (0, .ref a)]) hx hb dMo_hasAny_32 rfl hl (by decide) rfl (fun ls hl => ?_)
            refine lv_iinc (v := nI (i + 1)) (lv' := [(2, .int (nI (i + 1))), (1, .int (nI 1)), (0, .ref a)]) hx hb dMo_hasAny_33 hl (k := 1) rfl (nI_add _ 1) (by decide) rfl (fun ls hl => ?_)
            refine lv_goto (tgt := 4) hx hb dMo_hasAny_36 (by decide) ?_
            exact ih4 (i + 1) true _ _ _ (by omega) (by omega) (any_t2 (by omega) (decide_eq_true (fun h => cq_3 ((rW_zero (hS2 _)).mpr h))))  hZ (lv_sub hl [0, 1, 2] rfl)
  exact loop4 (at_.length - 0 + 1) 0 false _ _ _ (by omega) (by omega) (by rw [List.take_zero]; rfl)  hZ (lv_sub hl [0, 1, 2] rfl)
set_option maxHeartbeats 4000000 in
set_option maxRecDepth 100000 in
theorem m_isAsked (l : Launch) (D : va_G) (K : Nat → ClassId) (X : hwW) (sz : Nat) (a : Nat) (r1 : Nat) (r2 : Nat) (r3 : Nat) (r4 : Nat) (r5 : Nat) (r6 : Nat) (r7 : Nat) (r8 : Nat) (r9 : Nat) (r10 : Nat) (r11 : Nat) (r12 : Nat) (r13 : Nat) (r14 : Nat) (r15 : Nat) (tz : Nat) (nr : Nat) (ng : Nat) (ns : Nat) (nz : Nat) (na : Nat) (nw : Nat) (nh : Nat) (nt : Nat) (at_ : List (List Nat)) (w : List Nat) (nn : Nat) (f0_ : hwH X a 1000 (.inr (10, [.int (nI tz), .int (nI nr), .ref r1, .int (nI ng), .ref r2, .ref r3, .ref r4, .ref r5, .int (nI ns), .ref r6, .int (nI nz), .ref r7, .int (nI na), .ref r8, .ref r9, .ref r10, .int (nI nw), .int (nI nh), .ref r11, .ref r12, .ref r13, .ref r14, .int (nI nt), .ref r15]))) (f1_ : rwAt K X r10 1010 60 at_) (hnn : nn ≤ at_.length) (hw : okW w) : Met l yMo_isAsked (.code yMo_isAsked cMo_isAsked 6 (some .boolean) :: hwG) ({ frames := 0, cells := 0, slots := 0, locals := 0 } : Room) (hwPc D vwCl (hwT K) [.ref a, .long (lN (rW w)), .int (nI nn)] X sz) (hwQi D vwCl X sz (fun r Y => r = bI ((at_.take nn).any (fun t => decide (w ≠ []) && decide (t = w))) ∧ X = Y)) 0 0 (va_A X.1 sz) := by
  refine hwMetz (cc := cMo_isAsked) (maxL := 6) (by decide) rfl (Nat.le_of_ble_eq_true rfl) (fun p e s m args below meth c ls A Q hx hb hml hown hts hname hret hK hO hZ hA hl => ?_)
  have hl : lv_has ls 6 [(0, .ref a), (1, .long (lN (rW w))), (3, .int (nI nn))] := hl
  obtain ⟨f10, g10, hN10, hv10, hk10⟩ := f1_
  have hS2 := fun j => okWs.at hk10 j
  refine lv_iconst (v := nI 0) hx hb dMo_isAsked_0 (by decide) ?_
  refine lv_istore (lv' := [(4, .int (nI 0)), (0, .ref a), (1, .long (lN (rW w))), (3, .int (nI nn))]) hx hb dMo_isAsked_1 hl (by decide) rfl (fun ls hl => ?_)
  refine lv_iconst (v := nI 0) hx hb dMo_isAsked_3 (by decide) ?_
  refine lv_istore (lv' := [(5, .int (nI 0)), (4, .int (nI 0)), (0, .ref a), (1, .long (lN (rW w))), (3, .int (nI nn))]) hx hb dMo_isAsked_4 hl (by decide) rfl (fun ls hl => ?_)
  have loop6 : ∀ (fuel : Nat) (i : Nat) (b : Bool) (Hh : Heap) (lcs : List Loc) (ls : Array Slot), nn - i < fuel → (i ≤ nn) → (b = (at_.take i).any (fun t => decide (w ≠ []) && decide (t = w))) → hwZ D vwCl A s.heap X Hh lcs → lv_has ls 6 [(5, .int (nI i)), (4, .int (bI b)), (0, .ref a), (1, .long (lN (rW w))), (3, .int (nI nn))] → W p l e ({ frames := 0, cells := 0, slots := 0, locals := 0 } : Room) s m args below meth c Hh lcs 0 0 Q (F0 m 6 ls []) := by
    intro fuel; induction fuel with
    | zero => intro i b Hh lcs ls hfu; exact absurd hfu (Nat.not_lt_zero _)
    | succ fuel ih6 =>
      intro i b Hh lcs ls hfu6 hi hbb hZ hl
      refine lv_iload hx hb dMo_isAsked_6 (lv_at hl 0 rfl) ?_
      refine lv_iload_n hx hb dMo_isAsked_8 rfl (lv_at hl 4 rfl) ?_
      refine hw_ic_ge (a := i) (b := nn) (tgt := 48) hx hb dMo_isAsked_9 (by decide) (by omega) (by omega) (fun cq_1 => ?_) (fun cq_1 => ?_)
      · refine lv_iload hx hb dMo_isAsked_48 (lv_at hl 1 rfl) ?_
        exact hret (hw_nb _) hZ ⟨by rw [hbb, show i = nn by omega], rfl⟩ dMo_isAsked_50
      · refine lv_iload hx hb dMo_isAsked_12 (lv_at hl 1 rfl) ?_
        refine hw_bz_ne (tgt := 35) hx hb dMo_isAsked_14 (by decide) (fun cq_2 => ?_) (fun cq_2 => ?_)
        · refine lv_iconst (v := nI 1) hx hb dMo_isAsked_35 (by decide) ?_
          refine lv_goto (tgt := 40) hx hb dMo_isAsked_36 (by decide) ?_
          refine lv_istore (lv' := [(4, .int (nI 1)), (5, .int (nI i)), (0, .ref a), (1, .long (lN (rW w))), (3, .int (nI nn))]) hx hb dMo_isAsked_40 hl (by decide) rfl (fun ls hl => ?_)
          refine lv_iinc (v := nI (i + 1)) (lv' := [(5, .int (nI (i + 1))), (4, .int (nI 1)), (0, .ref a), (1, .long (lN (rW w))), (3, .int (nI nn))]) hx hb dMo_isAsked_42 hl (k := 1) rfl (nI_add _ 1) (by decide) rfl (fun ls hl => ?_)
          refine lv_goto (tgt := 6) hx hb dMo_isAsked_45 (by decide) ?_
          exact ih6 (i + 1) true _ _ _ (by omega) (by omega) (any_t1 (by omega) hbb cq_2)  hZ (lv_sub hl [0, 1, 2, 3, 4] rfl)
        · refine lv_lload_n hx hb dMo_isAsked_17 rfl (lv_at hl 3 rfl) ?_
          refine lv_lconst (v := lN 0) hx hb dMo_isAsked_18 rfl ?_
          refine hw_lc_eq (a := rW w) (b := 0) (tgt := 39) hx hb dMo_isAsked_19 dMo_isAsked_20 (by decide) (by first | exact rW_lt63 (by assumption) | exact rW_lt63 (hR2 _) | exact rW_lt63 (hS2 _) | decide) (by first | exact rW_lt63 (by assumption) | exact rW_lt63 (hR2 _) | exact rW_lt63 (hS2 _) | decide) (fun cq_3 => ?_) (fun cq_3 => ?_)
          · refine lv_iconst (v := nI 0) hx hb dMo_isAsked_39 (by decide) ?_
            refine lv_istore (lv' := [(4, .int (nI 0)), (5, .int (nI i)), (0, .ref a), (1, .long (lN (rW w))), (3, .int (nI nn))]) hx hb dMo_isAsked_40 hl (by decide) rfl (fun ls hl => ?_)
            refine lv_iinc (v := nI (i + 1)) (lv' := [(5, .int (nI (i + 1))), (4, .int (nI 0)), (0, .ref a), (1, .long (lN (rW w))), (3, .int (nI nn))]) hx hb dMo_isAsked_42 hl (k := 1) rfl (nI_add _ 1) (by decide) rfl (fun ls hl => ?_)
            refine lv_goto (tgt := 6) hx hb dMo_isAsked_45 (by decide) ?_
            exact ih6 (i + 1) false _ _ _ (by omega) (by omega) (any_f (by omega) hbb cq_2 (cntP_f1 ((rW_zero hw).mp cq_3)))  hZ (lv_sub hl [0, 1, 2, 3, 4] rfl)
          · refine lv_aload_n hx hb dMo_isAsked_23 rfl (lv_at hl 2 rfl) ?_
            refine hw_get hx hb hts (hwInn inMo) hown hK hZ f0_ rfl 15 (by decide) (hts (.fieldLink RMo 40 RMo "askedTerm" "[J") (hwMem mm_397)) (fun _ h => h) rfl dMo_isAsked_24 ?_
            refine lv_iload hx hb dMo_isAsked_27 (lv_at hl 0 rfl) ?_
            refine hw_lald hx hb hK hZ 1 g10 rfl (j := i) (by omega) (by omega) dMo_isAsked_29 ?_
            refine hw_topl (hv10 i (by omega)) ?_
            refine lv_lload_n hx hb dMo_isAsked_30 rfl (lv_at hl 3 rfl) ?_
            refine hw_lc_ne (a := rW (at_.getD i [])) (b := rW w) (tgt := 39) hx hb dMo_isAsked_31 dMo_isAsked_32 (by decide) (by first | exact rW_lt63 (by assumption) | exact rW_lt63 (hR2 _) | exact rW_lt63 (hS2 _) | decide) (by first | exact rW_lt63 (by assumption) | exact rW_lt63 (hR2 _) | exact rW_lt63 (hS2 _) | decide) (fun cq_4 => ?_) (fun cq_4 => ?_)
            · refine lv_iconst (v := nI 0) hx hb dMo_isAsked_39 (by decide) ?_
              refine lv_istore (lv' := [(4, .int (nI 0)), (5, .int (nI i)), (0, .ref a), (1, .long (lN (rW w))), (3, .int (nI nn))]) hx hb dMo_isAsked_40 hl (by decide) rfl (fun ls hl => ?_)
              refine lv_iinc (v := nI (i + 1)) (lv' := [(5, .int (nI (i + 1))), (4, .int (nI 0)), (0, .ref a), (1, .long (lN (rW w))), (3, .int (nI nn))]) hx hb dMo_isAsked_42 hl (k := 1) rfl (nI_add _ 1) (by decide) rfl (fun ls hl => ?_)
              refine lv_goto (tgt := 6) hx hb dMo_isAsked_45 (by decide) ?_
              exact ih6 (i + 1) false _ _ _ (by omega) (by omega) (any_f (by omega) hbb cq_2 (cntP_f2 (decide_eq_false (fun h => cq_4 ((rW_inj (hS2 _) hw).mpr h)))))  hZ (lv_sub hl [0, 1, 2, 3, 4] rfl)
            · refine lv_iconst (v := nI 1) hx hb dMo_isAsked_35 (by decide) ?_
              refine lv_goto (tgt := 40) hx hb dMo_isAsked_36 (by decide) ?_
              refine lv_istore (lv' := [(4, .int (nI 1)), (5, .int (nI i)), (0, .ref a), (1, .long (lN (rW w))), (3, .int (nI nn))]) hx hb dMo_isAsked_40 hl (by decide) rfl (fun ls hl => ?_)
              refine lv_iinc (v := nI (i + 1)) (lv' := [(5, .int (nI (i + 1))), (4, .int (nI 1)), (0, .ref a), (1, .long (lN (rW w))), (3, .int (nI nn))]) hx hb dMo_isAsked_42 hl (k := 1) rfl (nI_add _ 1) (by decide) rfl (fun ls hl => ?_)
              refine lv_goto (tgt := 6) hx hb dMo_isAsked_45 (by decide) ?_
              exact ih6 (i + 1) true _ _ _ (by omega) (by omega) (any_t2 (by omega) (cntP_t (fun h => cq_3 ((rW_zero hw).mpr h)) (decide_eq_true ((rW_inj (hS2 _) hw).mp cq_4))))  hZ (lv_sub hl [0, 1, 2, 3, 4] rfl)
  exact loop6 (nn - 0 + 1) 0 false _ _ _ (by omega) (by omega) (by rw [List.take_zero]; rfl)  hZ (lv_sub hl [0, 1, 2, 3, 4] rfl)
set_option maxHeartbeats 4000000 in
set_option maxRecDepth 100000 in
theorem m_count (l : Launch) (D : va_G) (K : Nat → ClassId) (X : hwW) (sz : Nat) (a : Nat) (r1 : Nat) (r2 : Nat) (r3 : Nat) (r4 : Nat) (r5 : Nat) (r6 : Nat) (r7 : Nat) (r8 : Nat) (r9 : Nat) (r10 : Nat) (r11 : Nat) (r12 : Nat) (r13 : Nat) (r14 : Nat) (r15 : Nat) (tz : Nat) (nr : Nat) (ng : Nat) (ns : Nat) (nz : Nat) (na : Nat) (nw : Nat) (nh : Nat) (nt : Nat) (at_ : List (List Nat)) (rt : List (List Nat)) (nn : Nat) (f0_ : hwH X a 1000 (.inr (10, [.int (nI tz), .int (nI nr), .ref r1, .int (nI ng), .ref r2, .ref r3, .ref r4, .ref r5, .int (nI ns), .ref r6, .int (nI nz), .ref r7, .int (nI na), .ref r8, .ref r9, .ref r10, .int (nI nw), .int (nI nh), .ref r11, .ref r12, .ref r13, .ref r14, .int (nI nt), .ref r15]))) (f1_ : rwAt K X r10 1010 60 at_) (f2_ : rwAt K X r9 1009 800 rt) (hnr_ : nw = rt.length) (hnn : nn ≤ at_.length) : Met l yMo_count (.code yMo_count cMo_count 4 (some .int) :: hwG) ({ frames := 1, cells := 0, slots := 0, locals := 25 } : Room) (hwPc D vwCl (hwT K) [.ref a, .int (nI nn)] X sz) (hwQi D vwCl X sz (fun r Y => r = nI (rt.countP (fun w => (at_.take nn).any (fun t => decide (w ≠ []) && decide (t = w)))) ∧ X = Y ∧ rt.countP (fun w => (at_.take nn).any (fun t => decide (w ≠ []) && decide (t = w))) ≤ rt.length)) 0 0 (va_A X.1 sz) := by
  refine hwMeti (cc := cMo_count) (maxL := 4) (by decide) rfl (Nat.le_of_ble_eq_true rfl) (fun p e s m args below meth c ls A Q hx hb hml hown hts hname hret hK hO hZ hA hl => ?_)
  have hl : lv_has ls 4 [(0, .ref a), (1, .int (nI nn))] := hl
  obtain ⟨f9, g9, hN9, hv9, hk9⟩ := f2_
  have hR2 := fun j => okWs.at hk9 j
  refine lv_iconst (v := nI 0) hx hb dMo_count_0 (by decide) ?_
  refine lv_istore_n (lv' := [(2, .int (nI 0)), (0, .ref a), (1, .int (nI nn))]) hx hb dMo_count_1 rfl hl (by decide) rfl (fun ls hl => ?_)
  refine lv_iconst (v := nI 0) hx hb dMo_count_2 (by decide) ?_
  refine lv_istore_n (lv' := [(3, .int (nI 0)), (2, .int (nI 0)), (0, .ref a), (1, .int (nI nn))]) hx hb dMo_count_3 rfl hl (by decide) rfl (fun ls hl => ?_)
  have loop4 : ∀ (fuel : Nat) (i : Nat) (n : Nat) (Hh : Heap) (lcs : List Loc) (ls : Array Slot), rt.length - i < fuel → (i ≤ rt.length) → (n = (rt.take i).countP (fun w => (at_.take nn).any (fun t => decide (w ≠ []) && decide (t = w)))) → hwZ D vwCl A s.heap X Hh lcs → lv_has ls 4 [(3, .int (nI i)), (2, .int (nI n)), (0, .ref a), (1, .int (nI nn))] → W p l e ({ frames := 1, cells := 0, slots := 0, locals := 25 } : Room) s m args below meth c Hh lcs 0 0 Q (F0 m 4 ls []) := by
    intro fuel; induction fuel with
    | zero => intro i n Hh lcs ls hfu; exact absurd hfu (Nat.not_lt_zero _)
    | succ fuel ih4 =>
      intro i n Hh lcs ls hfu4 hi hc hZ hl
      have hnl := Nat.le_trans (Nat.le_of_eq hc) (Nat.le_trans List.countP_le_length (List.length_take_le _ _))
      refine lv_iload_n hx hb dMo_count_4 rfl (lv_at hl 0 rfl) ?_
      refine lv_aload_n hx hb dMo_count_5 rfl (lv_at hl 2 rfl) ?_
      refine hw_get hx hb hts (hwInn inMo) hown hK hZ f0_ rfl 16 (by decide) (hts (.fieldLink RMo 94 RMo "rowCount" "I") (hwMem mm_387)) (fun _ h => h) rfl dMo_count_6 ?_
      refine hw_ic_ge (a := i) (b := nw) (tgt := 40) hx hb dMo_count_9 (by decide) (by omega) (by omega) (fun cq_1 => ?_) (fun cq_1 => ?_)
      · refine lv_iload_n hx hb dMo_count_40 rfl (lv_at hl 1 rfl) ?_
        exact hret hZ ⟨by rw [hc, show rt.take i = rt from List.take_of_length_le (by omega)], rfl, List.countP_le_length⟩ dMo_count_41
      · refine lv_iload_n hx hb dMo_count_12 rfl (lv_at hl 1 rfl) ?_
        refine lv_aload_n hx hb dMo_count_13 rfl (lv_at hl 2 rfl) ?_
        refine lv_aload_n hx hb dMo_count_14 rfl (lv_at hl 2 rfl) ?_
        refine hw_get hx hb hts (hwInn inMo) hown hK hZ f0_ rfl 14 (by decide) (hts (.fieldLink RMo 37 RMo "rowTerm" "[J") (hwMem mm_389)) (fun _ h => h) rfl dMo_count_15 ?_
        refine lv_iload_n hx hb dMo_count_18 rfl (lv_at hl 0 rfl) ?_
        refine hw_lald hx hb hK hZ 1 g9 rfl (j := i) (by omega) (by omega) dMo_count_19 ?_
        refine hw_topl (hv9 i (by omega)) ?_
        refine lv_iload_n hx hb dMo_count_20 rfl (lv_at hl 3 rfl) ?_
        refine hw_calli (va_runV (As := [.long (lN (rW (rt.getD i []))), .int (nI nn)]) (rest := [.int (nI n)]) ⟨hx, hb, hml, hown, hts⟩ (m_isAsked l D K X Hh.size (a := a) (r1 := r1) (r2 := r2) (r3 := r3) (r4 := r4) (r5 := r5) (r6 := r6) (r7 := r7) (r8 := r8) (r9 := r9) (r10 := r10) (r11 := r11) (r12 := r12) (r13 := r13) (r14 := r14) (r15 := r15) (tz := tz) (nr := nr) (ng := ng) (ns := ns) (nz := nz) (na := na) (nw := nw) (nh := nh) (nt := nt) (at_ := at_) (w := (rt.getD i [])) (nn := nn) f0_ f1_ (by omega) (hR2 i)) (cwV 2 hts (hwGood (hw_4 mm_399 mm_400 mm_401 mm_365 (hwAll mm_398))) rfl rfl rfl (by decide +kernel) ⟨Nat.le_of_ble_eq_true rfl, Nat.le_of_ble_eq_true rfl⟩) (hw_preV hK hO hZ (⟨_, _, f0_⟩) rfl) rfl rfl hl.1 rfl (lv_room (Nat.le_of_ble_eq_true rfl)) dMo_count_21 ⟨(show 0 + 0 ≤ 0 by omega), (show 0 + 0 ≤ 0 by omega)⟩) hZ hA (fun r X_2 H_3 lc_4 hp hZ => ?_)
        obtain ⟨hr, hy⟩ := hp
        subst hy
        refine hw_topi hr ?_
        refine hw_bz_eq (tgt := 31) hx hb dMo_count_24 (by decide) (fun cq_5 => ?_) (fun cq_5 => ?_)
        · refine lv_iconst (v := nI 0) hx hb dMo_count_31 (by decide) ?_
          refine lv_iadd hx hb dMo_count_32 ?_
          refine hw_topi (nI_add n 0) ?_
          refine lv_istore_n (lv' := [(2, .int (nI (n + 0))), (3, .int (nI i)), (0, .ref a), (1, .int (nI nn))]) hx hb dMo_count_33 rfl hl (by decide) rfl (fun ls hl => ?_)
          refine lv_iinc (v := nI (i + 1)) (lv' := [(3, .int (nI (i + 1))), (2, .int (nI (n + 0))), (0, .ref a), (1, .int (nI nn))]) hx hb dMo_count_34 hl (k := 1) rfl (nI_add _ 1) (by decide) rfl (fun ls hl => ?_)
          refine lv_goto (tgt := 4) hx hb dMo_count_37 (by decide) ?_
          exact ih4 (i + 1) (n + 0) _ _ _ (by omega) (by omega) (cnt_stepF (by omega) hc cq_5)  hZ (lv_sub hl [0, 1, 2, 3] rfl)
        · refine lv_iconst (v := nI 1) hx hb dMo_count_27 (by decide) ?_
          refine lv_goto (tgt := 32) hx hb dMo_count_28 (by decide) ?_
          refine lv_iadd hx hb dMo_count_32 ?_
          refine hw_topi (nI_add n 1) ?_
          refine lv_istore_n (lv' := [(2, .int (nI (n + 1))), (3, .int (nI i)), (0, .ref a), (1, .int (nI nn))]) hx hb dMo_count_33 rfl hl (by decide) rfl (fun ls hl => ?_)
          refine lv_iinc (v := nI (i + 1)) (lv' := [(3, .int (nI (i + 1))), (2, .int (nI (n + 1))), (0, .ref a), (1, .int (nI nn))]) hx hb dMo_count_34 hl (k := 1) rfl (nI_add _ 1) (by decide) rfl (fun ls hl => ?_)
          refine lv_goto (tgt := 4) hx hb dMo_count_37 (by decide) ?_
          exact ih4 (i + 1) (n + 1) _ _ _ (by omega) (by omega) (cnt_stepT (by omega) hc cq_5)  hZ (lv_sub hl [0, 1, 2, 3] rfl)
  exact loop4 (rt.length - 0 + 1) 0 0 _ _ _ (by omega) (by omega) (by rw [List.take_zero]; rfl)  hZ (lv_sub hl [0, 1, 2, 3] rfl)
set_option maxHeartbeats 4000000 in
set_option maxRecDepth 100000 in
theorem m_wildC (l : Launch) (D : va_G) (K : Nat → ClassId) (X : hwW) (sz : Nat) (a : Nat) (r1 : Nat) (r2 : Nat) (r3 : Nat) (r4 : Nat) (r5 : Nat) (r6 : Nat) (r7 : Nat) (r8 : Nat) (r9 : Nat) (r10 : Nat) (r11 : Nat) (r12 : Nat) (r13 : Nat) (r14 : Nat) (r15 : Nat) (tz : Nat) (nr : Nat) (ng : Nat) (ns : Nat) (nz : Nat) (na : Nat) (nw : Nat) (nh : Nat) (nt : Nat) (qa : List (List Nat)) (rt : List (List Nat)) (u : List Nat) (be : Bool) (f0_ : hwH X a 1000 (.inr (10, [.int (nI tz), .int (nI nr), .ref r1, .int (nI ng), .ref r2, .ref r3, .ref r4, .ref r5, .int (nI ns), .ref r6, .int (nI nz), .ref r7, .int (nI na), .ref r8, .ref r9, .ref r10, .int (nI nw), .int (nI nh), .ref r11, .ref r12, .ref r13, .ref r14, .int (nI nt), .ref r15]))) (f1_ : rwAt K X r7 1007 60 qa) (f2_ : rwAt K X r9 1009 800 rt) (hnr_ : nw = rt.length) (hqa : 1 ≤ qa.length) (hu : u = qa.getD 0 []) (hun : 1 ≤ u.length) : Met l yMo_wildCount (.code yMo_wildCount cMo_wildCount 4 (some .int) :: hwG) ({ frames := 2, cells := 0, slots := 0, locals := 47 } : Room) (hwPc D vwCl (hwT K) [.ref a, .int (bI be)] X sz) (hwQi D vwCl X sz (fun r Y => r = nI (rt.countP (fun v => decide (v ≠ []) && (bif be then endL v u else begL v u))) ∧ X = Y ∧ rt.countP (fun v => decide (v ≠ []) && (bif be then endL v u else begL v u)) ≤ rt.length)) 0 0 (va_A X.1 sz) := by
  refine hwMeti (cc := cMo_wildCount) (maxL := 4) (by decide) rfl (Nat.le_of_ble_eq_true rfl) (fun p e s m args below meth c ls A Q hx hb hml hown hts hname hret hK hO hZ hA hl => ?_)
  have hl : lv_has ls 4 [(0, .ref a), (1, .int (bI be))] := hl
  obtain ⟨f9, g9, hN9, hv9, hk9⟩ := f2_
  obtain ⟨f7, g7, hN7, hv7, hk7⟩ := f1_
  have hR2 := fun j => okWs.at hk9 j
  have huo : okW u := hu ▸ okWs.at hk7 0
  refine lv_iconst (v := nI 0) hx hb dMo_wildCount_0 (by decide) ?_
  refine lv_istore_n (lv' := [(2, .int (nI 0)), (0, .ref a), (1, .int (bI be))]) hx hb dMo_wildCount_1 rfl hl (by decide) rfl (fun ls hl => ?_)
  refine lv_iconst (v := nI 0) hx hb dMo_wildCount_2 (by decide) ?_
  refine lv_istore_n (lv' := [(3, .int (nI 0)), (2, .int (nI 0)), (0, .ref a), (1, .int (bI be))]) hx hb dMo_wildCount_3 rfl hl (by decide) rfl (fun ls hl => ?_)
  have loop4 : ∀ (fuel : Nat) (i : Nat) (n : Nat) (Hh : Heap) (lcs : List Loc) (ls : Array Slot), rt.length - i < fuel → (i ≤ rt.length) → (n = (rt.take i).countP (fun v => decide (v ≠ []) && (bif be then endL v u else begL v u))) → hwZ D vwCl A s.heap X Hh lcs → lv_has ls 4 [(3, .int (nI i)), (2, .int (nI n)), (0, .ref a), (1, .int (bI be))] → W p l e ({ frames := 2, cells := 0, slots := 0, locals := 47 } : Room) s m args below meth c Hh lcs 0 0 Q (F0 m 4 ls []) := by
    intro fuel; induction fuel with
    | zero => intro i n Hh lcs ls hfu; exact absurd hfu (Nat.not_lt_zero _)
    | succ fuel ih4 =>
      intro i n Hh lcs ls hfu4 hi hc hZ hl
      have hnl := Nat.le_trans (Nat.le_of_eq hc) (Nat.le_trans List.countP_le_length (List.length_take_le _ _))
      refine lv_iload_n hx hb dMo_wildCount_4 rfl (lv_at hl 0 rfl) ?_
      refine lv_aload_n hx hb dMo_wildCount_5 rfl (lv_at hl 2 rfl) ?_
      refine hw_get hx hb hts (hwInn inMo) hown hK hZ f0_ rfl 16 (by decide) (hts (.fieldLink RMo 94 RMo "rowCount" "I") (hwMem mm_387)) (fun _ h => h) rfl dMo_wildCount_6 ?_
      refine hw_ic_ge (a := i) (b := nw) (tgt := 56) hx hb dMo_wildCount_9 (by decide) (by omega) (by omega) (fun cq_1 => ?_) (fun cq_1 => ?_)
      · refine lv_iload_n hx hb dMo_wildCount_56 rfl (lv_at hl 1 rfl) ?_
        exact hret hZ ⟨by rw [hc, List.take_of_length_le (by omega)], rfl, List.countP_le_length⟩ dMo_wildCount_57
      · refine lv_iload_n hx hb dMo_wildCount_12 rfl (lv_at hl 1 rfl) ?_
        refine lv_aload_n hx hb dMo_wildCount_13 rfl (lv_at hl 2 rfl) ?_
        refine hw_get hx hb hts (hwInn inMo) hown hK hZ f0_ rfl 14 (by decide) (hts (.fieldLink RMo 37 RMo "rowTerm" "[J") (hwMem mm_389)) (fun _ h => h) rfl dMo_wildCount_14 ?_
        refine lv_iload_n hx hb dMo_wildCount_17 rfl (lv_at hl 0 rfl) ?_
        refine hw_lald hx hb hK hZ 1 g9 rfl (j := i) (by omega) (by omega) dMo_wildCount_18 ?_
        refine hw_topl (hv9 i (by omega)) ?_
        refine lv_lconst (v := lN 0) hx hb dMo_wildCount_19 rfl ?_
        refine hw_lc_eq (a := rW (rt.getD i [])) (b := 0) (tgt := 47) hx hb dMo_wildCount_20 dMo_wildCount_21 (by decide) (by first | exact rW_lt63 (by assumption) | exact rW_lt63 (hR2 _) | exact rW_lt63 (hS2 _) | decide) (by first | exact rW_lt63 (by assumption) | exact rW_lt63 (hR2 _) | exact rW_lt63 (hS2 _) | decide) (fun cq_2 => ?_) (fun cq_2 => ?_)
        · refine lv_iconst (v := nI 0) hx hb dMo_wildCount_47 (by decide) ?_
          refine lv_iadd hx hb dMo_wildCount_48 ?_
          refine hw_topi (nI_add n 0) ?_
          refine lv_istore_n (lv' := [(2, .int (nI (n + 0))), (3, .int (nI i)), (0, .ref a), (1, .int (bI be))]) hx hb dMo_wildCount_49 rfl hl (by decide) rfl (fun ls hl => ?_)
          refine lv_iinc (v := nI (i + 1)) (lv' := [(3, .int (nI (i + 1))), (2, .int (nI (n + 0))), (0, .ref a), (1, .int (bI be))]) hx hb dMo_wildCount_50 hl (k := 1) rfl (nI_add _ 1) (by decide) rfl (fun ls hl => ?_)
          refine lv_goto (tgt := 4) hx hb dMo_wildCount_53 (by decide) ?_
          exact ih4 (i + 1) (n + 0) _ _ _ (by omega) (by omega) (cnt_stepF (by omega) hc (cntP_f1 ((rW_zero (hR2 _)).mp cq_2)))  hZ (lv_sub hl [0, 1, 2, 3] rfl)
        · refine lv_aload_n hx hb dMo_wildCount_24 rfl (lv_at hl 2 rfl) ?_
          refine hw_get hx hb hts (hwInn inMo) hown hK hZ f0_ rfl 14 (by decide) (hts (.fieldLink RMo 37 RMo "rowTerm" "[J") (hwMem mm_389)) (fun _ h => h) rfl dMo_wildCount_25 ?_
          refine lv_iload_n hx hb dMo_wildCount_28 rfl (lv_at hl 0 rfl) ?_
          refine hw_lald hx hb hK hZ 1 g9 rfl (j := i) (by omega) (by omega) dMo_wildCount_29 ?_
          refine hw_topl (hv9 i (by omega)) ?_
          refine lv_aload_n hx hb dMo_wildCount_30 rfl (lv_at hl 2 rfl) ?_
          refine hw_get hx hb hts (hwInn inMo) hown hK hZ f0_ rfl 11 (by decide) (hts (.fieldLink RMo 31 RMo "asked" "[J") (hwMem mm_383)) (fun _ h => h) rfl dMo_wildCount_31 ?_
          refine lv_iconst (v := nI 0) hx hb dMo_wildCount_34 (by decide) ?_
          refine hw_lald hx hb hK hZ 1 g7 rfl (j := 0) (by omega) (by omega) dMo_wildCount_35 ?_
          refine hw_topl ((hv7 0 (by omega)).trans (by rw [← hu])) ?_
          refine lv_iload_n hx hb dMo_wildCount_36 rfl (lv_at hl 3 rfl) ?_
          refine hw_calli (va_runS (As := [.long (lN (rW (rt.getD i []))), .long (lN (rW u)), .int (bI be)]) (rest := [.int (nI n)]) ⟨hx, hb, hml, hown, hts⟩ (m_goes l D K X Hh.size (w := (rt.getD i [])) (b := u) (be := be) (hR2 i) huo (by omega)) (va_cwS 3 hts (hwGood (hw_3 mm_404 mm_403 mm_365 (hwAll mm_402))) rfl rfl rfl (by decide +kernel) ⟨Nat.le_of_ble_eq_true rfl, Nat.le_of_ble_eq_true rfl⟩) (hw_preS hK hO hZ) rfl rfl hl.1 rfl (lv_room (Nat.le_of_ble_eq_true rfl)) dMo_wildCount_37 ⟨(show 0 + 0 ≤ 0 by omega), (show 0 + 0 ≤ 0 by omega)⟩) hZ hA (fun r X_3 H_4 lc_5 hp hZ => ?_)
          obtain ⟨hr, hy⟩ := hp
          subst hy
          refine hw_topi hr ?_
          refine hw_bz_eq (tgt := 47) hx hb dMo_wildCount_40 (by decide) (fun cq_6 => ?_) (fun cq_6 => ?_)
          · refine lv_iconst (v := nI 0) hx hb dMo_wildCount_47 (by decide) ?_
            refine lv_iadd hx hb dMo_wildCount_48 ?_
            refine hw_topi (nI_add n 0) ?_
            refine lv_istore_n (lv' := [(2, .int (nI (n + 0))), (3, .int (nI i)), (0, .ref a), (1, .int (bI be))]) hx hb dMo_wildCount_49 rfl hl (by decide) rfl (fun ls hl => ?_)
            refine lv_iinc (v := nI (i + 1)) (lv' := [(3, .int (nI (i + 1))), (2, .int (nI (n + 0))), (0, .ref a), (1, .int (bI be))]) hx hb dMo_wildCount_50 hl (k := 1) rfl (nI_add _ 1) (by decide) rfl (fun ls hl => ?_)
            refine lv_goto (tgt := 4) hx hb dMo_wildCount_53 (by decide) ?_
            exact ih4 (i + 1) (n + 0) _ _ _ (by omega) (by omega) (cnt_stepF (by omega) hc (cntP_f2 cq_6))  hZ (lv_sub hl [0, 1, 2, 3] rfl)
          · refine lv_iconst (v := nI 1) hx hb dMo_wildCount_43 (by decide) ?_
            refine lv_goto (tgt := 48) hx hb dMo_wildCount_44 (by decide) ?_
            refine lv_iadd hx hb dMo_wildCount_48 ?_
            refine hw_topi (nI_add n 1) ?_
            refine lv_istore_n (lv' := [(2, .int (nI (n + 1))), (3, .int (nI i)), (0, .ref a), (1, .int (bI be))]) hx hb dMo_wildCount_49 rfl hl (by decide) rfl (fun ls hl => ?_)
            refine lv_iinc (v := nI (i + 1)) (lv' := [(3, .int (nI (i + 1))), (2, .int (nI (n + 1))), (0, .ref a), (1, .int (bI be))]) hx hb dMo_wildCount_50 hl (k := 1) rfl (nI_add _ 1) (by decide) rfl (fun ls hl => ?_)
            refine lv_goto (tgt := 4) hx hb dMo_wildCount_53 (by decide) ?_
            exact ih4 (i + 1) (n + 1) _ _ _ (by omega) (by omega) (cnt_stepT (by omega) hc (cntP_t (fun h => cq_2 ((rW_zero (hR2 _)).mpr h)) cq_6))  hZ (lv_sub hl [0, 1, 2, 3] rfl)
  exact loop4 (rt.length - 0 + 1) 0 0 _ _ _ (by omega) (by omega) (by rw [List.take_zero]; rfl)  hZ (lv_sub hl [0, 1, 2, 3] rfl)
