theorem hw_5 {own C owner : String} {idx : Nat} {x y : MethodName} {ws : List Cond} (h1 : Cond.methodLink own idx x ∈ hwG) (h2 : Cond.sameMethod x.cls owner x.name x.desc ∈ hwG) (h3 : Cond.selects C x y ∈ hwG) (h4 : Cond.instanceMethod y ∈ hwG) (h5 : Cond.initialized y.cls ∈ hwG) (h : ∀ w ∈ ws, w ∈ hwG) : ∀ w ∈ va_wsU own idx C owner x y ws, w ∈ hwG := by
  intro w hw
  unfold va_wsU at hw
  rcases List.mem_append.mp hw with q | q
  · simp only [List.mem_cons, List.not_mem_nil, or_false] at q
    rcases q with rfl | rfl | rfl | rfl | rfl <;> assumption
  · exact h w q
/-- a phrase's TERMS stand at a place -/
def stL (ta tb : List (List Nat)) (n : Nat) : Bool := (List.range ta.length).all (fun i => decide (ta.getD i [] = [] ∨ ta.getD i [] = tb.getD (n + i) []))
def phL (ta tb : List (List Nat)) : Bool := (List.range (tb.length + 1 - ta.length)).any (fun n => stL ta tb n)
def nd (a b : Nat) : Nat := (a - b) + (b - a)
theorem nd_le (a b : Nat) : nd a b ≤ a + b := by unfold nd; omega
def beL (tb : List (List Nat)) (v : List Nat) (dd pl : Nat) : Bool := (List.range tb.length).any (fun p => decide (p ≠ pl ∧ nd p pl ≤ dd ∧ tb.getD p [] = v))
def neL (tb : List (List Nat)) (u v : List Nat) (dd : Nat) : Bool := (List.range tb.length).any (fun p => decide (tb.getD p [] = u ∧ beL tb v dd p = true))
theorem range_all {n : Nat} {P : Nat → Bool} (h : ∀ p, p < n → P p = true) : (List.range n).all P = true := List.all_eq_true.mpr (fun p hp => h p (List.mem_range.mp hp))
theorem range_all_f {n p : Nat} {P : Nat → Bool} (hp : p < n) (h : P p = false) : (List.range n).all P = false := List.all_eq_false.mpr ⟨p, List.mem_range.mpr hp, by simp [h]⟩
theorem range_any {n p : Nat} {P : Nat → Bool} (hp : p < n) (h : P p = true) : (List.range n).any P = true := List.any_eq_true.mpr ⟨p, List.mem_range.mpr hp, h⟩
theorem range_any_f {n : Nat} {P : Nat → Bool} (h : ∀ p, p < n → P p = false) : (List.range n).any P = false := List.any_eq_false.mpr (fun p hp => by simp [h p (List.mem_range.mp hp)])
theorem stL_true {ta tb : List (List Nat)} {n : Nat} (h : ∀ p, p < ta.length → ta.getD p [] = [] ∨ ta.getD p [] = tb.getD (n + p) []) : stL ta tb n = true := range_all (fun p hp => decide_eq_true (h p hp))
theorem stL_false {ta tb : List (List Nat)} {n p : Nat} (hp : p < ta.length) (h : ¬ (ta.getD p [] = [] ∨ ta.getD p [] = tb.getD (n + p) [])) : stL ta tb n = false := range_all_f hp (decide_eq_false h)
theorem phL_true {ta tb : List (List Nat)} {p : Nat} (hp : p < tb.length + 1 - ta.length) (h : stL ta tb p = true) : phL ta tb = true := range_any hp h
theorem phL_false {ta tb : List (List Nat)} (h : ∀ p, p < tb.length + 1 - ta.length → stL ta tb p = false) : phL ta tb = false := range_any_f h
theorem beL_true {tb : List (List Nat)} {v : List Nat} {dd pl p : Nat} (hp : p < tb.length) (h : p ≠ pl ∧ nd p pl ≤ dd ∧ tb.getD p [] = v) : beL tb v dd pl = true := range_any hp (decide_eq_true h)
theorem beL_false {tb : List (List Nat)} {v : List Nat} {dd pl : Nat} (h : ∀ p, p < tb.length → ¬ (p ≠ pl ∧ nd p pl ≤ dd ∧ tb.getD p [] = v)) : beL tb v dd pl = false := range_any_f (fun p hp => decide_eq_false (h p hp))
theorem neL_true {tb : List (List Nat)} {u v : List Nat} {dd p : Nat} (hp : p < tb.length) (h : tb.getD p [] = u ∧ beL tb v dd p = true) : neL tb u v dd = true := range_any hp (decide_eq_true h)
theorem neL_false {tb : List (List Nat)} {u v : List Nat} {dd : Nat} (h : ∀ p, p < tb.length → ¬ (tb.getD p [] = u ∧ beL tb v dd p = true)) : neL tb u v dd = false := range_any_f (fun p hp => decide_eq_false (h p hp))
theorem hw_nabs {a b : Nat} (ha : a < 2 ^ 30) (hb : b < 2 ^ 30) : (if 0 ≤ nI a - nI b then nI a - nI b else 0 - (nI a - nI b)) = nI (nd a b) := by
  rcases Nat.lt_or_ge a b with h | h
  · have h1 : ¬ (0 ≤ nI a - nI b) := by
      have := pk_sneg (a := a) hb h
      rw [Int32.le_iff_toInt_le]
      rw [Int32.lt_iff_toInt_lt] at this
      omega
    rw [if_neg h1]
    have e : nd a b = b - a := by unfold nd; omega
    rw [e, ← pk_sub (Nat.le_of_lt h), Int32.zero_sub, Int32.neg_sub]
  · have e : nd a b = a - b := by unfold nd; omega
    rw [pk_sub h, e, if_pos (nI_pos' (by omega))]
theorem dSearch_init_0 : decode cSearch_init 0 = .ok (.aload_n 0, 1) := by decide +kernel
theorem dSearch_init_1 : decode cSearch_init 1 = .ok (.invokespecial 1, 3) := by decide +kernel
theorem dSearch_init_4 : decode cSearch_init 4 = .ok (.return_, 1) := by decide +kernel
theorem dAllSearch_init_0 : decode cAllSearch_init 0 = .ok (.aload_n 0, 1) := by decide +kernel
theorem dAllSearch_init_1 : decode cAllSearch_init 1 = .ok (.invokespecial 1, 3) := by decide +kernel
theorem dAllSearch_init_4 : decode cAllSearch_init 4 = .ok (.aload_n 0, 1) := by decide +kernel
theorem dAllSearch_init_5 : decode cAllSearch_init 5 = .ok (.aload_n 1, 1) := by decide +kernel
theorem dAllSearch_init_6 : decode cAllSearch_init 6 = .ok (.putfield 7, 3) := by decide +kernel
theorem dAllSearch_init_9 : decode cAllSearch_init 9 = .ok (.return_, 1) := by decide +kernel
theorem dPhraseSearch_init_0 : decode cPhraseSearch_init 0 = .ok (.aload_n 0, 1) := by decide +kernel
theorem dPhraseSearch_init_1 : decode cPhraseSearch_init 1 = .ok (.invokespecial 1, 3) := by decide +kernel
theorem dPhraseSearch_init_4 : decode cPhraseSearch_init 4 = .ok (.aload_n 0, 1) := by decide +kernel
theorem dPhraseSearch_init_5 : decode cPhraseSearch_init 5 = .ok (.aload_n 1, 1) := by decide +kernel
theorem dPhraseSearch_init_6 : decode cPhraseSearch_init 6 = .ok (.putfield 7, 3) := by decide +kernel
theorem dPhraseSearch_init_9 : decode cPhraseSearch_init 9 = .ok (.return_, 1) := by decide +kernel
theorem dNearSearch_init_0 : decode cNearSearch_init 0 = .ok (.aload_n 0, 1) := by decide +kernel
theorem dNearSearch_init_1 : decode cNearSearch_init 1 = .ok (.invokespecial 1, 3) := by decide +kernel
theorem dNearSearch_init_4 : decode cNearSearch_init 4 = .ok (.aload_n 0, 1) := by decide +kernel
theorem dNearSearch_init_5 : decode cNearSearch_init 5 = .ok (.lload_n 1, 1) := by decide +kernel
theorem dNearSearch_init_6 : decode cNearSearch_init 6 = .ok (.putfield 7, 3) := by decide +kernel
theorem dNearSearch_init_9 : decode cNearSearch_init 9 = .ok (.aload_n 0, 1) := by decide +kernel
theorem dNearSearch_init_10 : decode cNearSearch_init 10 = .ok (.lload_n 3, 1) := by decide +kernel
theorem dNearSearch_init_11 : decode cNearSearch_init 11 = .ok (.putfield 13, 3) := by decide +kernel
theorem dNearSearch_init_14 : decode cNearSearch_init 14 = .ok (.aload_n 0, 1) := by decide +kernel
theorem dNearSearch_init_15 : decode cNearSearch_init 15 = .ok (.iload 5, 2) := by decide +kernel
theorem dNearSearch_init_17 : decode cNearSearch_init 17 = .ok (.putfield 16, 3) := by decide +kernel
theorem dNearSearch_init_20 : decode cNearSearch_init 20 = .ok (.return_, 1) := by decide +kernel
theorem dWildSearch_init_0 : decode cWildSearch_init 0 = .ok (.aload_n 0, 1) := by decide +kernel
theorem dWildSearch_init_1 : decode cWildSearch_init 1 = .ok (.invokespecial 1, 3) := by decide +kernel
theorem dWildSearch_init_4 : decode cWildSearch_init 4 = .ok (.aload_n 0, 1) := by decide +kernel
theorem dWildSearch_init_5 : decode cWildSearch_init 5 = .ok (.lload_n 1, 1) := by decide +kernel
theorem dWildSearch_init_6 : decode cWildSearch_init 6 = .ok (.putfield 7, 3) := by decide +kernel
theorem dWildSearch_init_9 : decode cWildSearch_init 9 = .ok (.aload_n 0, 1) := by decide +kernel
theorem dWildSearch_init_10 : decode cWildSearch_init 10 = .ok (.iload_n 3, 1) := by decide +kernel
theorem dWildSearch_init_11 : decode cWildSearch_init 11 = .ok (.putfield 13, 3) := by decide +kernel
theorem dWildSearch_init_14 : decode cWildSearch_init 14 = .ok (.return_, 1) := by decide +kernel
theorem dAllSearch_wants_0 : decode cAllSearch_wants 0 = .ok (.aload_n 0, 1) := by decide +kernel
theorem dAllSearch_wants_1 : decode cAllSearch_wants 1 = .ok (.getfield 7, 3) := by decide +kernel
theorem dAllSearch_wants_4 : decode cAllSearch_wants 4 = .ok (.lload_n 1, 1) := by decide +kernel
theorem dAllSearch_wants_5 : decode cAllSearch_wants 5 = .ok (.invokevirtual 23, 3) := by decide +kernel
theorem dAllSearch_wants_8 : decode cAllSearch_wants 8 = .ok (.ireturn, 1) := by decide +kernel
theorem dPhraseSearch_wants_0 : decode cPhraseSearch_wants 0 = .ok (.aload_n 0, 1) := by decide +kernel
theorem dPhraseSearch_wants_1 : decode cPhraseSearch_wants 1 = .ok (.getfield 7, 3) := by decide +kernel
theorem dPhraseSearch_wants_4 : decode cPhraseSearch_wants 4 = .ok (.lload_n 1, 1) := by decide +kernel
theorem dPhraseSearch_wants_5 : decode cPhraseSearch_wants 5 = .ok (.invokevirtual 23, 3) := by decide +kernel
theorem dPhraseSearch_wants_8 : decode cPhraseSearch_wants 8 = .ok (.ireturn, 1) := by decide +kernel
theorem dNearSearch_wants_0 : decode cNearSearch_wants 0 = .ok (.lload_n 1, 1) := by decide +kernel
theorem dNearSearch_wants_1 : decode cNearSearch_wants 1 = .ok (.aload_n 0, 1) := by decide +kernel
theorem dNearSearch_wants_2 : decode cNearSearch_wants 2 = .ok (.getfield 7, 3) := by decide +kernel
theorem dNearSearch_wants_5 : decode cNearSearch_wants 5 = .ok (.lcmp, 1) := by decide +kernel
theorem dNearSearch_wants_6 : decode cNearSearch_wants 6 = .ok (.ifCond .eq 12, 3) := by decide +kernel
theorem dNearSearch_wants_9 : decode cNearSearch_wants 9 = .ok (.lload_n 1, 1) := by decide +kernel
theorem dNearSearch_wants_10 : decode cNearSearch_wants 10 = .ok (.aload_n 0, 1) := by decide +kernel
theorem dNearSearch_wants_11 : decode cNearSearch_wants 11 = .ok (.getfield 13, 3) := by decide +kernel
theorem dNearSearch_wants_14 : decode cNearSearch_wants 14 = .ok (.lcmp, 1) := by decide +kernel
theorem dNearSearch_wants_15 : decode cNearSearch_wants 15 = .ok (.ifCond .ne 7, 3) := by decide +kernel
theorem dNearSearch_wants_18 : decode cNearSearch_wants 18 = .ok (.iconst 1, 1) := by decide +kernel
theorem dNearSearch_wants_19 : decode cNearSearch_wants 19 = .ok (.goto 4, 3) := by decide +kernel
theorem dNearSearch_wants_22 : decode cNearSearch_wants 22 = .ok (.iconst 0, 1) := by decide +kernel
theorem dNearSearch_wants_23 : decode cNearSearch_wants 23 = .ok (.ireturn, 1) := by decide +kernel
theorem dWildSearch_wants_0 : decode cWildSearch_wants 0 = .ok (.aload_n 0, 1) := by decide +kernel
theorem dWildSearch_wants_1 : decode cWildSearch_wants 1 = .ok (.getfield 13, 3) := by decide +kernel
theorem dWildSearch_wants_4 : decode cWildSearch_wants 4 = .ok (.ifCond .eq 14, 3) := by decide +kernel
theorem dWildSearch_wants_7 : decode cWildSearch_wants 7 = .ok (.lload_n 1, 1) := by decide +kernel
theorem dWildSearch_wants_8 : decode cWildSearch_wants 8 = .ok (.aload_n 0, 1) := by decide +kernel
theorem dWildSearch_wants_9 : decode cWildSearch_wants 9 = .ok (.getfield 7, 3) := by decide +kernel
theorem dWildSearch_wants_12 : decode cWildSearch_wants 12 = .ok (.invokestatic 17, 3) := by decide +kernel
theorem dWildSearch_wants_15 : decode cWildSearch_wants 15 = .ok (.goto 11, 3) := by decide +kernel
theorem dWildSearch_wants_18 : decode cWildSearch_wants 18 = .ok (.lload_n 1, 1) := by decide +kernel
theorem dWildSearch_wants_19 : decode cWildSearch_wants 19 = .ok (.aload_n 0, 1) := by decide +kernel
theorem dWildSearch_wants_20 : decode cWildSearch_wants 20 = .ok (.getfield 7, 3) := by decide +kernel
theorem dWildSearch_wants_23 : decode cWildSearch_wants 23 = .ok (.invokestatic 23, 3) := by decide +kernel
theorem dWildSearch_wants_26 : decode cWildSearch_wants 26 = .ok (.ireturn, 1) := by decide +kernel
theorem dSearch_countIn_0 : decode cSearch_countIn 0 = .ok (.iconst 0, 1) := by decide +kernel
theorem dSearch_countIn_1 : decode cSearch_countIn 1 = .ok (.istore_n 2, 1) := by decide +kernel
theorem dSearch_countIn_2 : decode cSearch_countIn 2 = .ok (.iconst 0, 1) := by decide +kernel
theorem dSearch_countIn_3 : decode cSearch_countIn 3 = .ok (.istore_n 3, 1) := by decide +kernel
theorem dSearch_countIn_4 : decode cSearch_countIn 4 = .ok (.iload_n 3, 1) := by decide +kernel
theorem dSearch_countIn_5 : decode cSearch_countIn 5 = .ok (.aload_n 1, 1) := by decide +kernel
theorem dSearch_countIn_6 : decode cSearch_countIn 6 = .ok (.invokevirtual 7, 3) := by decide +kernel
theorem dSearch_countIn_9 : decode cSearch_countIn 9 = .ok (.if_icmp .ge 34, 3) := by decide +kernel
theorem dSearch_countIn_12 : decode cSearch_countIn 12 = .ok (.aload_n 1, 1) := by decide +kernel
theorem dSearch_countIn_13 : decode cSearch_countIn 13 = .ok (.iload_n 3, 1) := by decide +kernel
theorem dSearch_countIn_14 : decode cSearch_countIn 14 = .ok (.invokevirtual 13, 3) := by decide +kernel
theorem dSearch_countIn_17 : decode cSearch_countIn 17 = .ok (.lconst 0, 1) := by decide +kernel
theorem dSearch_countIn_18 : decode cSearch_countIn 18 = .ok (.lcmp, 1) := by decide +kernel
theorem dSearch_countIn_19 : decode cSearch_countIn 19 = .ok (.ifCond .eq 18, 3) := by decide +kernel
theorem dSearch_countIn_22 : decode cSearch_countIn 22 = .ok (.aload_n 0, 1) := by decide +kernel
theorem dSearch_countIn_23 : decode cSearch_countIn 23 = .ok (.aload_n 1, 1) := by decide +kernel
theorem dSearch_countIn_24 : decode cSearch_countIn 24 = .ok (.iload_n 3, 1) := by decide +kernel
theorem dSearch_countIn_25 : decode cSearch_countIn 25 = .ok (.invokevirtual 13, 3) := by decide +kernel
theorem dSearch_countIn_28 : decode cSearch_countIn 28 = .ok (.invokevirtual 17, 3) := by decide +kernel
theorem dSearch_countIn_31 : decode cSearch_countIn 31 = .ok (.ifCond .eq 6, 3) := by decide +kernel
theorem dSearch_countIn_34 : decode cSearch_countIn 34 = .ok (.iinc 2 1, 3) := by decide +kernel
theorem dSearch_countIn_37 : decode cSearch_countIn 37 = .ok (.iinc 3 1, 3) := by decide +kernel
theorem dSearch_countIn_40 : decode cSearch_countIn 40 = .ok (.goto (-36), 3) := by decide +kernel
theorem dSearch_countIn_43 : decode cSearch_countIn 43 = .ok (.iload_n 2, 1) := by decide +kernel
theorem dSearch_countIn_44 : decode cSearch_countIn 44 = .ok (.ireturn, 1) := by decide +kernel
theorem dAllSearch_meets_0 : decode cAllSearch_meets 0 = .ok (.iconst 0, 1) := by decide +kernel
theorem dAllSearch_meets_1 : decode cAllSearch_meets 1 = .ok (.istore_n 2, 1) := by decide +kernel
theorem dAllSearch_meets_2 : decode cAllSearch_meets 2 = .ok (.iload_n 2, 1) := by decide +kernel
theorem dAllSearch_meets_3 : decode cAllSearch_meets 3 = .ok (.aload_n 0, 1) := by decide +kernel
theorem dAllSearch_meets_4 : decode cAllSearch_meets 4 = .ok (.getfield 7, 3) := by decide +kernel
theorem dAllSearch_meets_7 : decode cAllSearch_meets 7 = .ok (.invokevirtual 13, 3) := by decide +kernel
theorem dAllSearch_meets_10 : decode cAllSearch_meets 10 = .ok (.if_icmp .ge 39, 3) := by decide +kernel
theorem dAllSearch_meets_13 : decode cAllSearch_meets 13 = .ok (.aload_n 0, 1) := by decide +kernel
theorem dAllSearch_meets_14 : decode cAllSearch_meets 14 = .ok (.getfield 7, 3) := by decide +kernel
theorem dAllSearch_meets_17 : decode cAllSearch_meets 17 = .ok (.iload_n 2, 1) := by decide +kernel
theorem dAllSearch_meets_18 : decode cAllSearch_meets 18 = .ok (.invokevirtual 19, 3) := by decide +kernel
theorem dAllSearch_meets_21 : decode cAllSearch_meets 21 = .ok (.lconst 0, 1) := by decide +kernel
theorem dAllSearch_meets_22 : decode cAllSearch_meets 22 = .ok (.lcmp, 1) := by decide +kernel
theorem dAllSearch_meets_23 : decode cAllSearch_meets 23 = .ok (.ifCond .eq 20, 3) := by decide +kernel
theorem dAllSearch_meets_26 : decode cAllSearch_meets 26 = .ok (.aload_n 1, 1) := by decide +kernel
theorem dAllSearch_meets_27 : decode cAllSearch_meets 27 = .ok (.aload_n 0, 1) := by decide +kernel
theorem dAllSearch_meets_28 : decode cAllSearch_meets 28 = .ok (.getfield 7, 3) := by decide +kernel
theorem dAllSearch_meets_31 : decode cAllSearch_meets 31 = .ok (.iload_n 2, 1) := by decide +kernel
theorem dAllSearch_meets_32 : decode cAllSearch_meets 32 = .ok (.invokevirtual 19, 3) := by decide +kernel
theorem dAllSearch_meets_35 : decode cAllSearch_meets 35 = .ok (.invokevirtual 23, 3) := by decide +kernel
theorem dAllSearch_meets_38 : decode cAllSearch_meets 38 = .ok (.ifCond .ne 5, 3) := by decide +kernel
theorem dAllSearch_meets_41 : decode cAllSearch_meets 41 = .ok (.iconst 0, 1) := by decide +kernel
theorem dAllSearch_meets_42 : decode cAllSearch_meets 42 = .ok (.ireturn, 1) := by decide +kernel
theorem dAllSearch_meets_43 : decode cAllSearch_meets 43 = .ok (.iinc 2 1, 3) := by decide +kernel
theorem dAllSearch_meets_46 : decode cAllSearch_meets 46 = .ok (.goto (-44), 3) := by decide +kernel
theorem dAllSearch_meets_49 : decode cAllSearch_meets 49 = .ok (.iconst 1, 1) := by decide +kernel
theorem dAllSearch_meets_50 : decode cAllSearch_meets 50 = .ok (.ireturn, 1) := by decide +kernel
theorem dPhraseSearch_standsAt_0 : decode cPhraseSearch_standsAt 0 = .ok (.iconst 0, 1) := by decide +kernel
theorem dPhraseSearch_standsAt_1 : decode cPhraseSearch_standsAt 1 = .ok (.istore_n 3, 1) := by decide +kernel
theorem dPhraseSearch_standsAt_2 : decode cPhraseSearch_standsAt 2 = .ok (.iload_n 3, 1) := by decide +kernel
theorem dPhraseSearch_standsAt_3 : decode cPhraseSearch_standsAt 3 = .ok (.aload_n 0, 1) := by decide +kernel
theorem dPhraseSearch_standsAt_4 : decode cPhraseSearch_standsAt 4 = .ok (.getfield 7, 3) := by decide +kernel
theorem dPhraseSearch_standsAt_7 : decode cPhraseSearch_standsAt 7 = .ok (.invokevirtual 13, 3) := by decide +kernel
theorem dPhraseSearch_standsAt_10 : decode cPhraseSearch_standsAt 10 = .ok (.if_icmp .ge 43, 3) := by decide +kernel
theorem dPhraseSearch_standsAt_13 : decode cPhraseSearch_standsAt 13 = .ok (.aload_n 0, 1) := by decide +kernel
theorem dPhraseSearch_standsAt_14 : decode cPhraseSearch_standsAt 14 = .ok (.getfield 7, 3) := by decide +kernel
theorem dPhraseSearch_standsAt_17 : decode cPhraseSearch_standsAt 17 = .ok (.iload_n 3, 1) := by decide +kernel
theorem dPhraseSearch_standsAt_18 : decode cPhraseSearch_standsAt 18 = .ok (.invokevirtual 27, 3) := by decide +kernel
theorem dPhraseSearch_standsAt_21 : decode cPhraseSearch_standsAt 21 = .ok (.lconst 0, 1) := by decide +kernel
theorem dPhraseSearch_standsAt_22 : decode cPhraseSearch_standsAt 22 = .ok (.lcmp, 1) := by decide +kernel
theorem dPhraseSearch_standsAt_23 : decode cPhraseSearch_standsAt 23 = .ok (.ifCond .eq 24, 3) := by decide +kernel
theorem dPhraseSearch_standsAt_26 : decode cPhraseSearch_standsAt 26 = .ok (.aload_n 0, 1) := by decide +kernel
theorem dPhraseSearch_standsAt_27 : decode cPhraseSearch_standsAt 27 = .ok (.getfield 7, 3) := by decide +kernel
theorem dPhraseSearch_standsAt_30 : decode cPhraseSearch_standsAt 30 = .ok (.iload_n 3, 1) := by decide +kernel
theorem dPhraseSearch_standsAt_31 : decode cPhraseSearch_standsAt 31 = .ok (.invokevirtual 27, 3) := by decide +kernel
theorem dPhraseSearch_standsAt_34 : decode cPhraseSearch_standsAt 34 = .ok (.aload_n 1, 1) := by decide +kernel
theorem dPhraseSearch_standsAt_35 : decode cPhraseSearch_standsAt 35 = .ok (.iload_n 2, 1) := by decide +kernel
theorem dPhraseSearch_standsAt_36 : decode cPhraseSearch_standsAt 36 = .ok (.iload_n 3, 1) := by decide +kernel
theorem dPhraseSearch_standsAt_37 : decode cPhraseSearch_standsAt 37 = .ok (.iadd, 1) := by decide +kernel
theorem dPhraseSearch_standsAt_38 : decode cPhraseSearch_standsAt 38 = .ok (.invokevirtual 27, 3) := by decide +kernel
theorem dPhraseSearch_standsAt_41 : decode cPhraseSearch_standsAt 41 = .ok (.lcmp, 1) := by decide +kernel
theorem dPhraseSearch_standsAt_42 : decode cPhraseSearch_standsAt 42 = .ok (.ifCond .eq 5, 3) := by decide +kernel
theorem dPhraseSearch_standsAt_45 : decode cPhraseSearch_standsAt 45 = .ok (.iconst 0, 1) := by decide +kernel
theorem dPhraseSearch_standsAt_46 : decode cPhraseSearch_standsAt 46 = .ok (.ireturn, 1) := by decide +kernel
theorem dPhraseSearch_standsAt_47 : decode cPhraseSearch_standsAt 47 = .ok (.iinc 3 1, 3) := by decide +kernel
theorem dPhraseSearch_standsAt_50 : decode cPhraseSearch_standsAt 50 = .ok (.goto (-48), 3) := by decide +kernel
theorem dPhraseSearch_standsAt_53 : decode cPhraseSearch_standsAt 53 = .ok (.iconst 1, 1) := by decide +kernel
theorem dPhraseSearch_standsAt_54 : decode cPhraseSearch_standsAt 54 = .ok (.ireturn, 1) := by decide +kernel
theorem dPhraseSearch_meets_0 : decode cPhraseSearch_meets 0 = .ok (.iconst 0, 1) := by decide +kernel
theorem dPhraseSearch_meets_1 : decode cPhraseSearch_meets 1 = .ok (.istore_n 2, 1) := by decide +kernel
theorem dPhraseSearch_meets_2 : decode cPhraseSearch_meets 2 = .ok (.iload_n 2, 1) := by decide +kernel
theorem dPhraseSearch_meets_3 : decode cPhraseSearch_meets 3 = .ok (.aload_n 0, 1) := by decide +kernel
theorem dPhraseSearch_meets_4 : decode cPhraseSearch_meets 4 = .ok (.getfield 7, 3) := by decide +kernel
theorem dPhraseSearch_meets_7 : decode cPhraseSearch_meets 7 = .ok (.invokevirtual 13, 3) := by decide +kernel
theorem dPhraseSearch_meets_10 : decode cPhraseSearch_meets 10 = .ok (.iadd, 1) := by decide +kernel
theorem dPhraseSearch_meets_11 : decode cPhraseSearch_meets 11 = .ok (.aload_n 1, 1) := by decide +kernel
theorem dPhraseSearch_meets_12 : decode cPhraseSearch_meets 12 = .ok (.invokevirtual 13, 3) := by decide +kernel
theorem dPhraseSearch_meets_15 : decode cPhraseSearch_meets 15 = .ok (.if_icmp .gt 20, 3) := by decide +kernel
theorem dPhraseSearch_meets_18 : decode cPhraseSearch_meets 18 = .ok (.aload_n 0, 1) := by decide +kernel
theorem dPhraseSearch_meets_19 : decode cPhraseSearch_meets 19 = .ok (.aload_n 1, 1) := by decide +kernel
theorem dPhraseSearch_meets_20 : decode cPhraseSearch_meets 20 = .ok (.iload_n 2, 1) := by decide +kernel
theorem dPhraseSearch_meets_21 : decode cPhraseSearch_meets 21 = .ok (.invokevirtual 19, 3) := by decide +kernel
theorem dPhraseSearch_meets_24 : decode cPhraseSearch_meets 24 = .ok (.ifCond .eq 5, 3) := by decide +kernel
theorem dPhraseSearch_meets_27 : decode cPhraseSearch_meets 27 = .ok (.iconst 1, 1) := by decide +kernel
theorem dPhraseSearch_meets_28 : decode cPhraseSearch_meets 28 = .ok (.ireturn, 1) := by decide +kernel
theorem dPhraseSearch_meets_29 : decode cPhraseSearch_meets 29 = .ok (.iinc 2 1, 3) := by decide +kernel
theorem dPhraseSearch_meets_32 : decode cPhraseSearch_meets 32 = .ok (.goto (-30), 3) := by decide +kernel
theorem dPhraseSearch_meets_35 : decode cPhraseSearch_meets 35 = .ok (.iconst 0, 1) := by decide +kernel
theorem dPhraseSearch_meets_36 : decode cPhraseSearch_meets 36 = .ok (.ireturn, 1) := by decide +kernel
theorem dNearSearch_secondIsBeside_0 : decode cNearSearch_secondIsBeside 0 = .ok (.iconst 0, 1) := by decide +kernel
theorem dNearSearch_secondIsBeside_1 : decode cNearSearch_secondIsBeside 1 = .ok (.istore_n 3, 1) := by decide +kernel
theorem dNearSearch_secondIsBeside_2 : decode cNearSearch_secondIsBeside 2 = .ok (.iload_n 3, 1) := by decide +kernel
theorem dNearSearch_secondIsBeside_3 : decode cNearSearch_secondIsBeside 3 = .ok (.aload_n 1, 1) := by decide +kernel
theorem dNearSearch_secondIsBeside_4 : decode cNearSearch_secondIsBeside 4 = .ok (.invokevirtual 20, 3) := by decide +kernel
theorem dNearSearch_secondIsBeside_7 : decode cNearSearch_secondIsBeside 7 = .ok (.if_icmp .ge 54, 3) := by decide +kernel
theorem dNearSearch_secondIsBeside_10 : decode cNearSearch_secondIsBeside 10 = .ok (.iload_n 3, 1) := by decide +kernel
theorem dNearSearch_secondIsBeside_11 : decode cNearSearch_secondIsBeside 11 = .ok (.iload_n 2, 1) := by decide +kernel
theorem dNearSearch_secondIsBeside_12 : decode cNearSearch_secondIsBeside 12 = .ok (.if_icmp .eq 20, 3) := by decide +kernel
theorem dNearSearch_secondIsBeside_15 : decode cNearSearch_secondIsBeside 15 = .ok (.iload_n 3, 1) := by decide +kernel
theorem dNearSearch_secondIsBeside_16 : decode cNearSearch_secondIsBeside 16 = .ok (.iload_n 2, 1) := by decide +kernel
theorem dNearSearch_secondIsBeside_17 : decode cNearSearch_secondIsBeside 17 = .ok (.isub, 1) := by decide +kernel
theorem dNearSearch_secondIsBeside_18 : decode cNearSearch_secondIsBeside 18 = .ok (.invokestatic 34, 3) := by decide +kernel
theorem dNearSearch_secondIsBeside_21 : decode cNearSearch_secondIsBeside 21 = .ok (.aload_n 0, 1) := by decide +kernel
theorem dNearSearch_secondIsBeside_22 : decode cNearSearch_secondIsBeside 22 = .ok (.getfield 16, 3) := by decide +kernel
theorem dNearSearch_secondIsBeside_25 : decode cNearSearch_secondIsBeside 25 = .ok (.if_icmp .gt 7, 3) := by decide +kernel
theorem dNearSearch_secondIsBeside_28 : decode cNearSearch_secondIsBeside 28 = .ok (.iconst 1, 1) := by decide +kernel
theorem dNearSearch_secondIsBeside_29 : decode cNearSearch_secondIsBeside 29 = .ok (.goto 4, 3) := by decide +kernel
theorem dNearSearch_secondIsBeside_32 : decode cNearSearch_secondIsBeside 32 = .ok (.iconst 0, 1) := by decide +kernel
theorem dNearSearch_secondIsBeside_33 : decode cNearSearch_secondIsBeside 33 = .ok (.istore 4, 2) := by decide +kernel
theorem dNearSearch_secondIsBeside_35 : decode cNearSearch_secondIsBeside 35 = .ok (.iload 4, 2) := by decide +kernel
theorem dNearSearch_secondIsBeside_37 : decode cNearSearch_secondIsBeside 37 = .ok (.ifCond .eq 18, 3) := by decide +kernel
theorem dNearSearch_secondIsBeside_40 : decode cNearSearch_secondIsBeside 40 = .ok (.aload_n 1, 1) := by decide +kernel
theorem dNearSearch_secondIsBeside_41 : decode cNearSearch_secondIsBeside 41 = .ok (.iload_n 3, 1) := by decide +kernel
theorem dNearSearch_secondIsBeside_42 : decode cNearSearch_secondIsBeside 42 = .ok (.invokevirtual 26, 3) := by decide +kernel
theorem dNearSearch_secondIsBeside_45 : decode cNearSearch_secondIsBeside 45 = .ok (.aload_n 0, 1) := by decide +kernel
theorem dNearSearch_secondIsBeside_46 : decode cNearSearch_secondIsBeside 46 = .ok (.getfield 13, 3) := by decide +kernel
theorem dNearSearch_secondIsBeside_49 : decode cNearSearch_secondIsBeside 49 = .ok (.lcmp, 1) := by decide +kernel
theorem dNearSearch_secondIsBeside_50 : decode cNearSearch_secondIsBeside 50 = .ok (.ifCond .ne 5, 3) := by decide +kernel
theorem dNearSearch_secondIsBeside_53 : decode cNearSearch_secondIsBeside 53 = .ok (.iconst 1, 1) := by decide +kernel
theorem dNearSearch_secondIsBeside_54 : decode cNearSearch_secondIsBeside 54 = .ok (.ireturn, 1) := by decide +kernel
theorem dNearSearch_secondIsBeside_55 : decode cNearSearch_secondIsBeside 55 = .ok (.iinc 3 1, 3) := by decide +kernel
theorem dNearSearch_secondIsBeside_58 : decode cNearSearch_secondIsBeside 58 = .ok (.goto (-56), 3) := by decide +kernel
theorem dNearSearch_secondIsBeside_61 : decode cNearSearch_secondIsBeside 61 = .ok (.iconst 0, 1) := by decide +kernel
theorem dNearSearch_secondIsBeside_62 : decode cNearSearch_secondIsBeside 62 = .ok (.ireturn, 1) := by decide +kernel
theorem dNearSearch_meets_0 : decode cNearSearch_meets 0 = .ok (.iconst 0, 1) := by decide +kernel
theorem dNearSearch_meets_1 : decode cNearSearch_meets 1 = .ok (.istore_n 2, 1) := by decide +kernel
theorem dNearSearch_meets_2 : decode cNearSearch_meets 2 = .ok (.iload_n 2, 1) := by decide +kernel
theorem dNearSearch_meets_3 : decode cNearSearch_meets 3 = .ok (.aload_n 1, 1) := by decide +kernel
theorem dNearSearch_meets_4 : decode cNearSearch_meets 4 = .ok (.invokevirtual 20, 3) := by decide +kernel
theorem dNearSearch_meets_7 : decode cNearSearch_meets 7 = .ok (.if_icmp .ge 33, 3) := by decide +kernel
theorem dNearSearch_meets_10 : decode cNearSearch_meets 10 = .ok (.aload_n 1, 1) := by decide +kernel
theorem dNearSearch_meets_11 : decode cNearSearch_meets 11 = .ok (.iload_n 2, 1) := by decide +kernel
theorem dNearSearch_meets_12 : decode cNearSearch_meets 12 = .ok (.invokevirtual 26, 3) := by decide +kernel
theorem dNearSearch_meets_15 : decode cNearSearch_meets 15 = .ok (.aload_n 0, 1) := by decide +kernel
theorem dNearSearch_meets_16 : decode cNearSearch_meets 16 = .ok (.getfield 7, 3) := by decide +kernel
theorem dNearSearch_meets_19 : decode cNearSearch_meets 19 = .ok (.lcmp, 1) := by decide +kernel
theorem dNearSearch_meets_20 : decode cNearSearch_meets 20 = .ok (.ifCond .ne 14, 3) := by decide +kernel
theorem dNearSearch_meets_23 : decode cNearSearch_meets 23 = .ok (.aload_n 0, 1) := by decide +kernel
theorem dNearSearch_meets_24 : decode cNearSearch_meets 24 = .ok (.aload_n 1, 1) := by decide +kernel
theorem dNearSearch_meets_25 : decode cNearSearch_meets 25 = .ok (.iload_n 2, 1) := by decide +kernel
theorem dNearSearch_meets_26 : decode cNearSearch_meets 26 = .ok (.invokevirtual 30, 3) := by decide +kernel
theorem dNearSearch_meets_29 : decode cNearSearch_meets 29 = .ok (.ifCond .eq 5, 3) := by decide +kernel
theorem dNearSearch_meets_32 : decode cNearSearch_meets 32 = .ok (.iconst 1, 1) := by decide +kernel
theorem dNearSearch_meets_33 : decode cNearSearch_meets 33 = .ok (.ireturn, 1) := by decide +kernel
theorem dNearSearch_meets_34 : decode cNearSearch_meets 34 = .ok (.iinc 2 1, 3) := by decide +kernel
theorem dNearSearch_meets_37 : decode cNearSearch_meets 37 = .ok (.goto (-35), 3) := by decide +kernel
theorem dNearSearch_meets_40 : decode cNearSearch_meets 40 = .ok (.iconst 0, 1) := by decide +kernel
theorem dNearSearch_meets_41 : decode cNearSearch_meets 41 = .ok (.ireturn, 1) := by decide +kernel
theorem dWildSearch_meets_0 : decode cWildSearch_meets 0 = .ok (.iconst 1, 1) := by decide +kernel
theorem dWildSearch_meets_1 : decode cWildSearch_meets 1 = .ok (.ireturn, 1) := by decide +kernel
theorem mm_107 : (.methodLink RSearch 1 objectInit : Cond) ∈ hwG := hwIx 313 (by decide +kernel) (by decide +kernel)
theorem mm_108 : (.code ySearch_init cSearch_init 1 none : Cond) ∈ hwG := hwIx 312 (by decide +kernel) (by decide +kernel)
theorem mm_109 : (.initialized RSearch : Cond) ∈ hwG := hwIx 44 (by decide +kernel) (by decide +kernel)
theorem mm_110 : (.instanceMethod ySearch_init : Cond) ∈ hwG := hwIx 311 (by decide +kernel) (by decide +kernel)
theorem mm_111 : (.fieldLink RAllSearch 7 RAllSearch "asked" "LWordIndex2$Terms;" : Cond) ∈ hwG := hwIx 314 (by decide +kernel) (by decide +kernel)
theorem mm_112 : (.fieldLink RPhraseSearch 7 RPhraseSearch "asked" "LWordIndex2$Terms;" : Cond) ∈ hwG := hwIx 438 (by decide +kernel) (by decide +kernel)
theorem mm_113 : (.fieldLink RNearSearch 7 RNearSearch "first" "J" : Cond) ∈ hwG := hwIx 452 (by decide +kernel) (by decide +kernel)
theorem mm_114 : (.fieldLink RNearSearch 13 RNearSearch "second" "J" : Cond) ∈ hwG := hwIx 453 (by decide +kernel) (by decide +kernel)
theorem mm_115 : (.fieldLink RNearSearch 16 RNearSearch "distance" "I" : Cond) ∈ hwG := hwIx 454 (by decide +kernel) (by decide +kernel)
theorem mm_116 : (.fieldLink RWildSearch 7 RWildSearch "word" "J" : Cond) ∈ hwG := hwIx 474 (by decide +kernel) (by decide +kernel)
theorem mm_117 : (.fieldLink RWildSearch 13 RWildSearch "end" "Z" : Cond) ∈ hwG := hwIx 475 (by decide +kernel) (by decide +kernel)
theorem mm_118 : (.code yTerms_has cTerms_has 4 (some .boolean) : Cond) ∈ hwG := hwIx 351 (by decide +kernel) (by decide +kernel)
theorem mm_119 : (.methodLink RAllSearch 23 yTerms_has : Cond) ∈ hwG := hwIx 348 (by decide +kernel) (by decide +kernel)
theorem mm_120 : (.instanceMethod yTerms_has : Cond) ∈ hwG := hwIx 349 (by decide +kernel) (by decide +kernel)
theorem mm_121 : (.selects RTerms yTerms_has yTerms_has : Cond) ∈ hwG := hwIx 350 (by decide +kernel) (by decide +kernel)
theorem mm_122 : (.methodLink RPhraseSearch 23 yTerms_has : Cond) ∈ hwG := hwIx 359 (by decide +kernel) (by decide +kernel)
theorem mm_123 : (.code yWord_beginsWith cWord_beginsWith 4 (some .boolean) : Cond) ∈ hwG := hwIx 369 (by decide +kernel) (by decide +kernel)
theorem mm_124 : (.static yWord_beginsWith : Cond) ∈ hwG := hwIx 368 (by decide +kernel) (by decide +kernel)
theorem mm_125 : (.methodLink RWildSearch 23 yWord_beginsWith : Cond) ∈ hwG := hwIx 367 (by decide +kernel) (by decide +kernel)
theorem mm_126 : (.code yWord_endsWith cWord_endsWith 5 (some .boolean) : Cond) ∈ hwG := hwIx 365 (by decide +kernel) (by decide +kernel)
theorem mm_127 : (.static yWord_endsWith : Cond) ∈ hwG := hwIx 364 (by decide +kernel) (by decide +kernel)
theorem mm_128 : (.methodLink RWildSearch 17 yWord_endsWith : Cond) ∈ hwG := hwIx 363 (by decide +kernel) (by decide +kernel)
theorem mm_129 : (.code yTerms_size cTerms_size 1 (some .int) : Cond) ∈ hwG := hwIx 337 (by decide +kernel) (by decide +kernel)
theorem mm_130 : (.methodLink RSearch 7 yTerms_size : Cond) ∈ hwG := hwIx 334 (by decide +kernel) (by decide +kernel)
theorem mm_131 : (.instanceMethod yTerms_size : Cond) ∈ hwG := hwIx 335 (by decide +kernel) (by decide +kernel)
theorem mm_132 : (.selects RTerms yTerms_size yTerms_size : Cond) ∈ hwG := hwIx 336 (by decide +kernel) (by decide +kernel)
theorem mm_133 : (.methodLink RSearch 13 yTerms_at : Cond) ∈ hwG := hwIx 338 (by decide +kernel) (by decide +kernel)
theorem mm_134 : (.code yAllSearch_wants cAllSearch_wants 3 (some .boolean) : Cond) ∈ hwG := hwIx 347 (by decide +kernel) (by decide +kernel)
theorem mm_135 : (.methodLink RSearch 17 xSearch_wants : Cond) ∈ hwG := hwIx 342 (by decide +kernel) (by decide +kernel)
theorem mm_136 : (.sameMethod RSearch RSearch "wants" "(J)Z" : Cond) ∈ hwG := hwIx 344 (by decide +kernel) (by decide +kernel)
theorem mm_137 : (.selects RAllSearch xSearch_wants yAllSearch_wants : Cond) ∈ hwG := hwIx 345 (by decide +kernel) (by decide +kernel)
theorem mm_138 : (.instanceMethod yAllSearch_wants : Cond) ∈ hwG := hwIx 346 (by decide +kernel) (by decide +kernel)
theorem mm_139 : (.initialized RAllSearch : Cond) ∈ hwG := hwIx 45 (by decide +kernel) (by decide +kernel)
theorem mm_140 : (.code yPhraseSearch_wants cPhraseSearch_wants 3 (some .boolean) : Cond) ∈ hwG := hwIx 358 (by decide +kernel) (by decide +kernel)
theorem mm_141 : (.selects RPhraseSearch xSearch_wants yPhraseSearch_wants : Cond) ∈ hwG := hwIx 356 (by decide +kernel) (by decide +kernel)
theorem mm_142 : (.instanceMethod yPhraseSearch_wants : Cond) ∈ hwG := hwIx 357 (by decide +kernel) (by decide +kernel)
theorem mm_143 : (.initialized RPhraseSearch : Cond) ∈ hwG := hwIx 46 (by decide +kernel) (by decide +kernel)
theorem mm_144 : (.code yNearSearch_wants cNearSearch_wants 3 (some .boolean) : Cond) ∈ hwG := hwIx 355 (by decide +kernel) (by decide +kernel)
theorem mm_145 : (.selects RNearSearch xSearch_wants yNearSearch_wants : Cond) ∈ hwG := hwIx 353 (by decide +kernel) (by decide +kernel)
theorem mm_146 : (.instanceMethod yNearSearch_wants : Cond) ∈ hwG := hwIx 354 (by decide +kernel) (by decide +kernel)
theorem mm_147 : (.initialized RNearSearch : Cond) ∈ hwG := hwIx 47 (by decide +kernel) (by decide +kernel)
theorem mm_148 : (.code yWildSearch_wants cWildSearch_wants 3 (some .boolean) : Cond) ∈ hwG := hwIx 362 (by decide +kernel) (by decide +kernel)
theorem mm_149 : (.selects RWildSearch xSearch_wants yWildSearch_wants : Cond) ∈ hwG := hwIx 360 (by decide +kernel) (by decide +kernel)
theorem mm_150 : (.instanceMethod yWildSearch_wants : Cond) ∈ hwG := hwIx 361 (by decide +kernel) (by decide +kernel)
theorem mm_151 : (.initialized RWildSearch : Cond) ∈ hwG := hwIx 48 (by decide +kernel) (by decide +kernel)
theorem mm_152 : (.methodLink RAllSearch 13 yTerms_size : Cond) ∈ hwG := hwIx 376 (by decide +kernel) (by decide +kernel)
theorem mm_153 : (.methodLink RAllSearch 19 yTerms_at : Cond) ∈ hwG := hwIx 377 (by decide +kernel) (by decide +kernel)
theorem mm_154 : (.methodLink RPhraseSearch 13 yTerms_size : Cond) ∈ hwG := hwIx 394 (by decide +kernel) (by decide +kernel)
theorem mm_155 : (.methodLink RPhraseSearch 27 yTerms_at : Cond) ∈ hwG := hwIx 400 (by decide +kernel) (by decide +kernel)
theorem mm_156 : (.code yPhraseSearch_standsAt cPhraseSearch_standsAt 4 (some .boolean) : Cond) ∈ hwG := hwIx 399 (by decide +kernel) (by decide +kernel)
theorem mm_157 : (.methodLink RPhraseSearch 19 yPhraseSearch_standsAt : Cond) ∈ hwG := hwIx 395 (by decide +kernel) (by decide +kernel)
theorem mm_158 : (.instanceMethod yPhraseSearch_standsAt : Cond) ∈ hwG := hwIx 397 (by decide +kernel) (by decide +kernel)
theorem mm_159 : (.selects RPhraseSearch yPhraseSearch_standsAt yPhraseSearch_standsAt : Cond) ∈ hwG := hwIx 9 (by decide +kernel) (by decide +kernel)
theorem mm_160 : (.methodLink RNearSearch 20 yTerms_size : Cond) ∈ hwG := hwIx 381 (by decide +kernel) (by decide +kernel)
theorem mm_161 : (.methodLink RNearSearch 34 Lib.Math.abs.name : Cond) ∈ hwG := hwIx 388 (by decide +kernel) (by decide +kernel)
theorem mm_162 : (.static Lib.Math.abs.name : Cond) ∈ hwG := hwIx 389 (by decide +kernel) (by decide +kernel)
theorem mm_163 : (.code Lib.Math.abs.name Lib.Math.abs.code 1 (some .int) : Cond) ∈ hwG := hwIx 390 (by decide +kernel) (by decide +kernel)
theorem mm_164 : (.methodLink RNearSearch 26 yTerms_at : Cond) ∈ hwG := hwIx 382 (by decide +kernel) (by decide +kernel)
theorem mm_165 : (.code yNearSearch_secondIsBeside cNearSearch_secondIsBeside 5 (some .boolean) : Cond) ∈ hwG := hwIx 387 (by decide +kernel) (by decide +kernel)
theorem mm_166 : (.methodLink RNearSearch 30 yNearSearch_secondIsBeside : Cond) ∈ hwG := hwIx 383 (by decide +kernel) (by decide +kernel)
theorem mm_167 : (.instanceMethod yNearSearch_secondIsBeside : Cond) ∈ hwG := hwIx 385 (by decide +kernel) (by decide +kernel)
theorem mm_168 : (.selects RNearSearch yNearSearch_secondIsBeside yNearSearch_secondIsBeside : Cond) ∈ hwG := hwIx 8 (by decide +kernel) (by decide +kernel)
set_option maxHeartbeats 4000000 in
set_option maxRecDepth 100000 in
theorem c_Search_init_all (l : Launch) (D : va_G) (K : Nat → ClassId) (X : hwW) (sz : Nat) (o : Nat) (L : Nat) (f0_ : hwH X o L (.inr (6, [.null]))) : Met l ySearch_init (.code ySearch_init cSearch_init 1 none :: hwG) ({ frames := 1, cells := 0, slots := 0, locals := 20 } : Room) (hwPc D vwCl (hwT K) [.ref o] X sz) (hwQv D vwCl X sz (fun Y => X = Y)) 0 0 (va_A X.1 sz) := by
  refine hwMetv (cc := cSearch_init) (maxL := 1) (by decide) rfl (Nat.le_of_ble_eq_true rfl) (fun p e s m args below meth c ls A Q hx hb hml hown hts hname hret hK hO hZ hA hl => ?_)
  have hl : lv_has ls 1 [(0, .ref o)] := hl
  refine lv_aload_n hx hb dSearch_init_0 rfl (lv_at hl 0 rfl) ?_
  refine W.objInit hx hb hown (hts (.methodLink RSearch 1 objectInit) (hwMem mm_107)) (hts (.instanceMethod objectInit) (hwMem mm_31)) (hts (.code objectInit ⟨#[0xb1]⟩ 1 none) (hwMem mm_32)) rfl (by rw [hml]; exact hl.1) rfl dSearch_init_1 (Nat.le_of_ble_eq_true rfl) (Nat.le_of_ble_eq_true rfl) ?_
  refine W.eq (g2 := F0 m 4 ls []) rfl ?_
  exact hret hZ rfl dSearch_init_4
set_option maxHeartbeats 4000000 in
set_option maxRecDepth 100000 in
theorem c_Search_init_phr (l : Launch) (D : va_G) (K : Nat → ClassId) (X : hwW) (sz : Nat) (o : Nat) (L : Nat) (f0_ : hwH X o L (.inr (7, [.null]))) : Met l ySearch_init (.code ySearch_init cSearch_init 1 none :: hwG) ({ frames := 1, cells := 0, slots := 0, locals := 20 } : Room) (hwPc D vwCl (hwT K) [.ref o] X sz) (hwQv D vwCl X sz (fun Y => X = Y)) 0 0 (va_A X.1 sz) := by
  refine hwMetv (cc := cSearch_init) (maxL := 1) (by decide) rfl (Nat.le_of_ble_eq_true rfl) (fun p e s m args below meth c ls A Q hx hb hml hown hts hname hret hK hO hZ hA hl => ?_)
  have hl : lv_has ls 1 [(0, .ref o)] := hl
  refine lv_aload_n hx hb dSearch_init_0 rfl (lv_at hl 0 rfl) ?_
  refine W.objInit hx hb hown (hts (.methodLink RSearch 1 objectInit) (hwMem mm_107)) (hts (.instanceMethod objectInit) (hwMem mm_31)) (hts (.code objectInit ⟨#[0xb1]⟩ 1 none) (hwMem mm_32)) rfl (by rw [hml]; exact hl.1) rfl dSearch_init_1 (Nat.le_of_ble_eq_true rfl) (Nat.le_of_ble_eq_true rfl) ?_
  refine W.eq (g2 := F0 m 4 ls []) rfl ?_
  exact hret hZ rfl dSearch_init_4
set_option maxHeartbeats 4000000 in
set_option maxRecDepth 100000 in
theorem c_Search_init_nea (l : Launch) (D : va_G) (K : Nat → ClassId) (X : hwW) (sz : Nat) (o : Nat) (L : Nat) (f0_ : hwH X o L (.inr (8, [.long (lN 0), .long (lN 0), .int (nI 0)]))) : Met l ySearch_init (.code ySearch_init cSearch_init 1 none :: hwG) ({ frames := 1, cells := 0, slots := 0, locals := 20 } : Room) (hwPc D vwCl (hwT K) [.ref o] X sz) (hwQv D vwCl X sz (fun Y => X = Y)) 0 0 (va_A X.1 sz) := by
  refine hwMetv (cc := cSearch_init) (maxL := 1) (by decide) rfl (Nat.le_of_ble_eq_true rfl) (fun p e s m args below meth c ls A Q hx hb hml hown hts hname hret hK hO hZ hA hl => ?_)
  have hl : lv_has ls 1 [(0, .ref o)] := hl
  refine lv_aload_n hx hb dSearch_init_0 rfl (lv_at hl 0 rfl) ?_
  refine W.objInit hx hb hown (hts (.methodLink RSearch 1 objectInit) (hwMem mm_107)) (hts (.instanceMethod objectInit) (hwMem mm_31)) (hts (.code objectInit ⟨#[0xb1]⟩ 1 none) (hwMem mm_32)) rfl (by rw [hml]; exact hl.1) rfl dSearch_init_1 (Nat.le_of_ble_eq_true rfl) (Nat.le_of_ble_eq_true rfl) ?_
  refine W.eq (g2 := F0 m 4 ls []) rfl ?_
  exact hret hZ rfl dSearch_init_4
set_option maxHeartbeats 4000000 in
set_option maxRecDepth 100000 in
theorem c_Search_init_wil (l : Launch) (D : va_G) (K : Nat → ClassId) (X : hwW) (sz : Nat) (o : Nat) (L : Nat) (f0_ : hwH X o L (.inr (9, [.long (lN 0), .int (nI 0)]))) : Met l ySearch_init (.code ySearch_init cSearch_init 1 none :: hwG) ({ frames := 1, cells := 0, slots := 0, locals := 20 } : Room) (hwPc D vwCl (hwT K) [.ref o] X sz) (hwQv D vwCl X sz (fun Y => X = Y)) 0 0 (va_A X.1 sz) := by
  refine hwMetv (cc := cSearch_init) (maxL := 1) (by decide) rfl (Nat.le_of_ble_eq_true rfl) (fun p e s m args below meth c ls A Q hx hb hml hown hts hname hret hK hO hZ hA hl => ?_)
  have hl : lv_has ls 1 [(0, .ref o)] := hl
  refine lv_aload_n hx hb dSearch_init_0 rfl (lv_at hl 0 rfl) ?_
  refine W.objInit hx hb hown (hts (.methodLink RSearch 1 objectInit) (hwMem mm_107)) (hts (.instanceMethod objectInit) (hwMem mm_31)) (hts (.code objectInit ⟨#[0xb1]⟩ 1 none) (hwMem mm_32)) rfl (by rw [hml]; exact hl.1) rfl dSearch_init_1 (Nat.le_of_ble_eq_true rfl) (Nat.le_of_ble_eq_true rfl) ?_
  refine W.eq (g2 := F0 m 4 ls []) rfl ?_
  exact hret hZ rfl dSearch_init_4
set_option maxHeartbeats 4000000 in
set_option maxRecDepth 100000 in
theorem c_AllSearch_init (l : Launch) (D : va_G) (K : Nat → ClassId) (X : hwW) (sz : Nat) (o : Nat) (L : Nat) (a : Nat) (f0_ : hwH X o L (.inr (6, [.null]))) : Met l yAllSearch_init (.code yAllSearch_init cAllSearch_init 2 none :: hwG) ({ frames := 2, cells := 0, slots := 0, locals := 40 } : Room) (hwPc D vwCl (hwT K) [.ref o, .ref a] X sz) (hwQv D vwCl X sz (fun Y => hwF X Y (fun M => M = L) ∧ hwH Y o L (.inr (6, [.ref a])))) 0 0 (va_A X.1 sz) := by
  refine hwMetv (cc := cAllSearch_init) (maxL := 2) (by decide) rfl (Nat.le_of_ble_eq_true rfl) (fun p e s m args below meth c ls A Q hx hb hml hown hts hname hret hK hO hZ hA hl => ?_)
  have hl : lv_has ls 2 [(0, .ref o), (1, .ref a)] := hl
  have hFr : hwF X X (fun M => M = L) := hwF.rf
  refine lv_aload_n hx hb dAllSearch_init_0 rfl (lv_at hl 0 rfl) ?_
  refine hw_callv (va_runIN (As := []) (rest := []) ⟨hx, hb, hml, hown, hts⟩ (c_Search_init_all l D K X s.heap.size (o := o) (L := L) f0_) ⟨va_cnB 0 hts (hwGood (hwAll mm_108)) rfl rfl rfl (hO.2 _ (List.mem_of_getElem? (i := 4) rfl)) (hts (.initialized RSearch) (hwMem mm_109)) (by decide +kernel) ⟨Nat.le_of_ble_eq_true rfl, Nat.le_of_ble_eq_true rfl⟩, rfl, hts _ (hwMem mm_110)⟩ (hw_preS hK hO hZ) rfl rfl hl.1 rfl (lv_room (Nat.le_of_ble_eq_true rfl)) dAllSearch_init_1 ⟨(show 0 + 0 ≤ 0 by omega), (show 0 + 0 ≤ 0 by omega)⟩) hZ hA (fun X_1 H_2 lc_3 hp hZ => ?_)
  have hy := hp
  subst hy
  refine lv_aload_n hx hb dAllSearch_init_4 rfl (lv_at hl 0 rfl) ?_
  refine lv_aload_n hx hb dAllSearch_init_5 rfl (lv_at hl 1 rfl) ?_
  refine hw_putF (ty := (.object "WordIndex2$Terms")) (fs' := [.ref a]) hx hb hts (hwInn inAllSearch) tyAllSearch tyAllSearch_ok nmAllSearch hown hK hZ f0_ rfl 0 (by decide) (hts (.fieldLink RAllSearch 7 RAllSearch "asked" "LWordIndex2$Terms;") (hwMem mm_111)) (fun _ h => h) rfl hname rfl (by decide +kernel) rfl rfl (Nat.le_of_ble_eq_true rfl) rfl dAllSearch_init_6 (fun X_4 H_5 lc_6 hZ hF hNw => ?_)
  have hFr := hwF.tr hFr hF (fun _ h => h) (fun M h => by first | exact False.elim h | ((try dsimp only at h ⊢); omega))
  have f0_ := hNw
  exact hret hZ ⟨hFr, f0_⟩ dAllSearch_init_9
set_option maxHeartbeats 4000000 in
set_option maxRecDepth 100000 in
theorem c_PhraseSearch_init (l : Launch) (D : va_G) (K : Nat → ClassId) (X : hwW) (sz : Nat) (o : Nat) (L : Nat) (a : Nat) (f0_ : hwH X o L (.inr (7, [.null]))) : Met l yPhraseSearch_init (.code yPhraseSearch_init cPhraseSearch_init 2 none :: hwG) ({ frames := 2, cells := 0, slots := 0, locals := 40 } : Room) (hwPc D vwCl (hwT K) [.ref o, .ref a] X sz) (hwQv D vwCl X sz (fun Y => hwF X Y (fun M => M = L) ∧ hwH Y o L (.inr (7, [.ref a])))) 0 0 (va_A X.1 sz) := by
  refine hwMetv (cc := cPhraseSearch_init) (maxL := 2) (by decide) rfl (Nat.le_of_ble_eq_true rfl) (fun p e s m args below meth c ls A Q hx hb hml hown hts hname hret hK hO hZ hA hl => ?_)
  have hl : lv_has ls 2 [(0, .ref o), (1, .ref a)] := hl
  have hFr : hwF X X (fun M => M = L) := hwF.rf
  refine lv_aload_n hx hb dPhraseSearch_init_0 rfl (lv_at hl 0 rfl) ?_
  refine hw_callv (va_runIN (As := []) (rest := []) ⟨hx, hb, hml, hown, hts⟩ (c_Search_init_phr l D K X s.heap.size (o := o) (L := L) f0_) ⟨va_cnB 0 hts (hwGood (hwAll mm_108)) rfl rfl rfl (hO.2 _ (List.mem_of_getElem? (i := 7) rfl)) (hts (.initialized RSearch) (hwMem mm_109)) (by decide +kernel) ⟨Nat.le_of_ble_eq_true rfl, Nat.le_of_ble_eq_true rfl⟩, rfl, hts _ (hwMem mm_110)⟩ (hw_preS hK hO hZ) rfl rfl hl.1 rfl (lv_room (Nat.le_of_ble_eq_true rfl)) dPhraseSearch_init_1 ⟨(show 0 + 0 ≤ 0 by omega), (show 0 + 0 ≤ 0 by omega)⟩) hZ hA (fun X_1 H_2 lc_3 hp hZ => ?_)
  have hy := hp
  subst hy
  refine lv_aload_n hx hb dPhraseSearch_init_4 rfl (lv_at hl 0 rfl) ?_
  refine lv_aload_n hx hb dPhraseSearch_init_5 rfl (lv_at hl 1 rfl) ?_
  refine hw_putF (ty := (.object "WordIndex2$Terms")) (fs' := [.ref a]) hx hb hts (hwInn inPhraseSearch) tyPhraseSearch tyPhraseSearch_ok nmPhraseSearch hown hK hZ f0_ rfl 0 (by decide) (hts (.fieldLink RPhraseSearch 7 RPhraseSearch "asked" "LWordIndex2$Terms;") (hwMem mm_112)) (fun _ h => h) rfl hname rfl (by decide +kernel) rfl rfl (Nat.le_of_ble_eq_true rfl) rfl dPhraseSearch_init_6 (fun X_4 H_5 lc_6 hZ hF hNw => ?_)
  have hFr := hwF.tr hFr hF (fun _ h => h) (fun M h => by first | exact False.elim h | ((try dsimp only at h ⊢); omega))
  have f0_ := hNw
  exact hret hZ ⟨hFr, f0_⟩ dPhraseSearch_init_9
set_option maxHeartbeats 4000000 in
set_option maxRecDepth 100000 in
theorem c_NearSearch_init (l : Launch) (D : va_G) (K : Nat → ClassId) (X : hwW) (sz : Nat) (o : Nat) (L : Nat) (u : List Nat) (v : List Nat) (dd : Nat) (f0_ : hwH X o L (.inr (8, [.long (lN 0), .long (lN 0), .int (nI 0)]))) : Met l yNearSearch_init (.code yNearSearch_init cNearSearch_init 6 none :: hwG) ({ frames := 2, cells := 0, slots := 0, locals := 40 } : Room) (hwPc D vwCl (hwT K) [.ref o, .long (lN (eW u)), .long (lN (eW v)), .int (nI dd)] X sz) (hwQv D vwCl X sz (fun Y => hwF X Y (fun M => M = L) ∧ hwH Y o L (.inr (8, [.long (lN (eW u)), .long (lN (eW v)), .int (nI dd)])))) 0 0 (va_A X.1 sz) := by
  refine hwMetv (cc := cNearSearch_init) (maxL := 6) (by decide) rfl (Nat.le_of_ble_eq_true rfl) (fun p e s m args below meth c ls A Q hx hb hml hown hts hname hret hK hO hZ hA hl => ?_)
  have hl : lv_has ls 6 [(0, .ref o), (1, .long (lN (eW u))), (3, .long (lN (eW v))), (5, .int (nI dd))] := hl
  have hFr : hwF X X (fun M => M = L) := hwF.rf
  refine lv_aload_n hx hb dNearSearch_init_0 rfl (lv_at hl 0 rfl) ?_
  refine hw_callv (va_runIN (As := []) (rest := []) ⟨hx, hb, hml, hown, hts⟩ (c_Search_init_nea l D K X s.heap.size (o := o) (L := L) f0_) ⟨va_cnB 0 hts (hwGood (hwAll mm_108)) rfl rfl rfl (hO.2 _ (List.mem_of_getElem? (i := 8) rfl)) (hts (.initialized RSearch) (hwMem mm_109)) (by decide +kernel) ⟨Nat.le_of_ble_eq_true rfl, Nat.le_of_ble_eq_true rfl⟩, rfl, hts _ (hwMem mm_110)⟩ (hw_preS hK hO hZ) rfl rfl hl.1 rfl (lv_room (Nat.le_of_ble_eq_true rfl)) dNearSearch_init_1 ⟨(show 0 + 0 ≤ 0 by omega), (show 0 + 0 ≤ 0 by omega)⟩) hZ hA (fun X_1 H_2 lc_3 hp hZ => ?_)
  have hy := hp
  subst hy
  refine lv_aload_n hx hb dNearSearch_init_4 rfl (lv_at hl 0 rfl) ?_
  refine lv_lload_n hx hb dNearSearch_init_5 rfl (lv_at hl 1 rfl) ?_
  refine hw_putF (ty := .long) (fs' := [.long (lN (eW u)), .long (lN 0), .int (nI 0)]) hx hb hts (hwInn inNearSearch) tyNearSearch tyNearSearch_ok nmNearSearch hown hK hZ f0_ rfl 0 (by decide) (hts (.fieldLink RNearSearch 7 RNearSearch "first" "J") (hwMem mm_113)) (fun _ h => h) rfl hname rfl (by decide +kernel) rfl rfl (Nat.le_of_ble_eq_true rfl) rfl dNearSearch_init_6 (fun X_4 H_5 lc_6 hZ hF hNw => ?_)
  have hFr := hwF.tr hFr hF (fun _ h => h) (fun M h => by first | exact False.elim h | ((try dsimp only at h ⊢); omega))
  have f0_ := hNw
  refine lv_aload_n hx hb dNearSearch_init_9 rfl (lv_at hl 0 rfl) ?_
  refine lv_lload_n hx hb dNearSearch_init_10 rfl (lv_at hl 2 rfl) ?_
  refine hw_putF (ty := .long) (fs' := [.long (lN (eW u)), .long (lN (eW v)), .int (nI 0)]) hx hb hts (hwInn inNearSearch) tyNearSearch tyNearSearch_ok nmNearSearch hown hK hZ f0_ rfl 1 (by decide) (hts (.fieldLink RNearSearch 13 RNearSearch "second" "J") (hwMem mm_114)) (fun _ h => h) rfl hname rfl (by decide +kernel) rfl rfl (Nat.le_of_ble_eq_true rfl) rfl dNearSearch_init_11 (fun X_7 H_8 lc_9 hZ hF hNw => ?_)
  have hFr := hwF.tr hFr hF (fun _ h => h) (fun M h => by first | exact False.elim h | ((try dsimp only at h ⊢); omega))
  have f0_ := hNw
  refine lv_aload_n hx hb dNearSearch_init_14 rfl (lv_at hl 0 rfl) ?_
  refine lv_iload hx hb dNearSearch_init_15 (lv_at hl 3 rfl) ?_
  refine hw_putF (ty := .int) (fs' := [.long (lN (eW u)), .long (lN (eW v)), .int (nI dd)]) hx hb hts (hwInn inNearSearch) tyNearSearch tyNearSearch_ok nmNearSearch hown hK hZ f0_ rfl 2 (by decide) (hts (.fieldLink RNearSearch 16 RNearSearch "distance" "I") (hwMem mm_115)) (fun _ h => h) rfl hname rfl (by decide +kernel) rfl rfl (Nat.le_of_ble_eq_true rfl) rfl dNearSearch_init_17 (fun X_10 H_11 lc_12 hZ hF hNw => ?_)
  have hFr := hwF.tr hFr hF (fun _ h => h) (fun M h => by first | exact False.elim h | ((try dsimp only at h ⊢); omega))
  have f0_ := hNw
  exact hret hZ ⟨hFr, f0_⟩ dNearSearch_init_20
set_option maxHeartbeats 4000000 in
set_option maxRecDepth 100000 in
theorem c_WildSearch_init (l : Launch) (D : va_G) (K : Nat → ClassId) (X : hwW) (sz : Nat) (o : Nat) (L : Nat) (u : List Nat) (be : Bool) (f0_ : hwH X o L (.inr (9, [.long (lN 0), .int (nI 0)]))) : Met l yWildSearch_init (.code yWildSearch_init cWildSearch_init 4 none :: hwG) ({ frames := 2, cells := 0, slots := 0, locals := 40 } : Room) (hwPc D vwCl (hwT K) [.ref o, .long (lN (eW u)), .int (bI be)] X sz) (hwQv D vwCl X sz (fun Y => hwF X Y (fun M => M = L) ∧ hwH Y o L (.inr (9, [.long (lN (eW u)), .int (bI be)])))) 0 0 (va_A X.1 sz) := by
  refine hwMetv (cc := cWildSearch_init) (maxL := 4) (by decide) rfl (Nat.le_of_ble_eq_true rfl) (fun p e s m args below meth c ls A Q hx hb hml hown hts hname hret hK hO hZ hA hl => ?_)
  have hl : lv_has ls 4 [(0, .ref o), (1, .long (lN (eW u))), (3, .int (bI be))] := hl
  have hFr : hwF X X (fun M => M = L) := hwF.rf
  refine lv_aload_n hx hb dWildSearch_init_0 rfl (lv_at hl 0 rfl) ?_
  refine hw_callv (va_runIN (As := []) (rest := []) ⟨hx, hb, hml, hown, hts⟩ (c_Search_init_wil l D K X s.heap.size (o := o) (L := L) f0_) ⟨va_cnB 0 hts (hwGood (hwAll mm_108)) rfl rfl rfl (hO.2 _ (List.mem_of_getElem? (i := 9) rfl)) (hts (.initialized RSearch) (hwMem mm_109)) (by decide +kernel) ⟨Nat.le_of_ble_eq_true rfl, Nat.le_of_ble_eq_true rfl⟩, rfl, hts _ (hwMem mm_110)⟩ (hw_preS hK hO hZ) rfl rfl hl.1 rfl (lv_room (Nat.le_of_ble_eq_true rfl)) dWildSearch_init_1 ⟨(show 0 + 0 ≤ 0 by omega), (show 0 + 0 ≤ 0 by omega)⟩) hZ hA (fun X_1 H_2 lc_3 hp hZ => ?_)
  have hy := hp
  subst hy
  refine lv_aload_n hx hb dWildSearch_init_4 rfl (lv_at hl 0 rfl) ?_
  refine lv_lload_n hx hb dWildSearch_init_5 rfl (lv_at hl 1 rfl) ?_
  refine hw_putF (ty := .long) (fs' := [.long (lN (eW u)), .int (nI 0)]) hx hb hts (hwInn inWildSearch) tyWildSearch tyWildSearch_ok nmWildSearch hown hK hZ f0_ rfl 0 (by decide) (hts (.fieldLink RWildSearch 7 RWildSearch "word" "J") (hwMem mm_116)) (fun _ h => h) rfl hname rfl (by decide +kernel) rfl rfl (Nat.le_of_ble_eq_true rfl) rfl dWildSearch_init_6 (fun X_4 H_5 lc_6 hZ hF hNw => ?_)
  have hFr := hwF.tr hFr hF (fun _ h => h) (fun M h => by first | exact False.elim h | ((try dsimp only at h ⊢); omega))
  have f0_ := hNw
  refine lv_aload_n hx hb dWildSearch_init_9 rfl (lv_at hl 0 rfl) ?_
  refine lv_iload_n hx hb dWildSearch_init_10 rfl (lv_at hl 2 rfl) ?_
  refine hw_putF (ty := .boolean) (fs' := [.long (lN (eW u)), .int (bI be)]) hx hb hts (hwInn inWildSearch) tyWildSearch tyWildSearch_ok nmWildSearch hown hK hZ f0_ rfl 1 (by decide) (hts (.fieldLink RWildSearch 13 RWildSearch "end" "Z") (hwMem mm_117)) (fun _ h => h) rfl hname rfl (by decide +kernel) (hw_nb _) (hw_fb _) (Nat.le_of_ble_eq_true rfl) rfl dWildSearch_init_11 (fun X_7 H_8 lc_9 hZ hF hNw => ?_)
  have hFr := hwF.tr hFr hF (fun _ h => h) (fun M h => by first | exact False.elim h | ((try dsimp only at h ⊢); omega))
  have f0_ := hNw
  exact hret hZ ⟨hFr, f0_⟩ dWildSearch_init_14
set_option maxHeartbeats 4000000 in
set_option maxRecDepth 100000 in
theorem c_All_wants (l : Launch) (D : va_G) (K : Nat → ClassId) (X : hwW) (sz : Nat) (o : Nat) (L : Nat) (a : Nat) (ka : Nat) (Na : Nat) (ta : List (List Nat)) (w : List Nat) (f0_ : hwH X o L (.inr (6, [.ref a]))) (f1_ : tmAt K X a ka Na ta) (hw : okW w) : Met l yAllSearch_wants (.code yAllSearch_wants cAllSearch_wants 3 (some .boolean) :: hwG) ({ frames := 2, cells := 0, slots := 0, locals := 44 } : Room) (hwPc D vwCl (hwT K) [.ref o, .long (lN (eW w))] X sz) (hwQi D vwCl X sz (fun r Y => r = bI (decide (w ∈ ta)) ∧ X = Y)) 0 0 (va_A X.1 sz) := by
  refine hwMetz (cc := cAllSearch_wants) (maxL := 3) (by decide) rfl (Nat.le_of_ble_eq_true rfl) (fun p e s m args below meth c ls A Q hx hb hml hown hts hname hret hK hO hZ hA hl => ?_)
  have hl : lv_has ls 3 [(0, .ref o), (1, .long (lN (eW w)))] := hl
  have hA2 := fun j => okWs.at (tmAt.oks f1_) j
  refine lv_aload_n hx hb dAllSearch_wants_0 rfl (lv_at hl 0 rfl) ?_
  refine hw_get hx hb hts (hwInn inAllSearch) hown hK hZ f0_ rfl 0 (by decide) (hts (.fieldLink RAllSearch 7 RAllSearch "asked" "LWordIndex2$Terms;") (hwMem mm_111)) (fun _ h => h) rfl dAllSearch_wants_1 ?_
  refine lv_lload_n hx hb dAllSearch_wants_4 rfl (lv_at hl 1 rfl) ?_
  refine hw_calli (va_runV (As := [.long (lN (eW w))]) (rest := []) ⟨hx, hb, hml, hown, hts⟩ (c_Tm_has l D K X s.heap.size (a := a) (k := ka) (N := Na) (ts := ta) (w := w) f1_ (by assumption)) (cwV 1 hts (hwGood (hw_4 mm_119 mm_120 mm_121 mm_89 (hwAll mm_118))) rfl rfl rfl (by decide +kernel) ⟨Nat.le_of_ble_eq_true rfl, Nat.le_of_ble_eq_true rfl⟩) (hw_preV hK hO hZ (tmAt.ob f1_) rfl) rfl rfl hl.1 rfl (lv_room (Nat.le_of_ble_eq_true rfl)) dAllSearch_wants_5 ⟨(show 0 + 0 ≤ 0 by omega), (show 0 + 0 ≤ 0 by omega)⟩) hZ hA (fun r X_1 H_2 lc_3 hp hZ => ?_)
  obtain ⟨hr, hy⟩ := hp
  subst hy
  refine hw_topi hr ?_
  exact hret (hw_nb _) hZ ⟨rfl, rfl⟩ dAllSearch_wants_8
set_option maxHeartbeats 4000000 in
set_option maxRecDepth 100000 in
theorem c_Phr_wants (l : Launch) (D : va_G) (K : Nat → ClassId) (X : hwW) (sz : Nat) (o : Nat) (L : Nat) (a : Nat) (ka : Nat) (Na : Nat) (ta : List (List Nat)) (w : List Nat) (f0_ : hwH X o L (.inr (7, [.ref a]))) (f1_ : tmAt K X a ka Na ta) (hw : okW w) : Met l yPhraseSearch_wants (.code yPhraseSearch_wants cPhraseSearch_wants 3 (some .boolean) :: hwG) ({ frames := 2, cells := 0, slots := 0, locals := 44 } : Room) (hwPc D vwCl (hwT K) [.ref o, .long (lN (eW w))] X sz) (hwQi D vwCl X sz (fun r Y => r = bI (decide (w ∈ ta)) ∧ X = Y)) 0 0 (va_A X.1 sz) := by
  refine hwMetz (cc := cPhraseSearch_wants) (maxL := 3) (by decide) rfl (Nat.le_of_ble_eq_true rfl) (fun p e s m args below meth c ls A Q hx hb hml hown hts hname hret hK hO hZ hA hl => ?_)
  have hl : lv_has ls 3 [(0, .ref o), (1, .long (lN (eW w)))] := hl
  have hA2 := fun j => okWs.at (tmAt.oks f1_) j
  refine lv_aload_n hx hb dPhraseSearch_wants_0 rfl (lv_at hl 0 rfl) ?_
  refine hw_get hx hb hts (hwInn inPhraseSearch) hown hK hZ f0_ rfl 0 (by decide) (hts (.fieldLink RPhraseSearch 7 RPhraseSearch "asked" "LWordIndex2$Terms;") (hwMem mm_112)) (fun _ h => h) rfl dPhraseSearch_wants_1 ?_
  refine lv_lload_n hx hb dPhraseSearch_wants_4 rfl (lv_at hl 1 rfl) ?_
  refine hw_calli (va_runV (As := [.long (lN (eW w))]) (rest := []) ⟨hx, hb, hml, hown, hts⟩ (c_Tm_has l D K X s.heap.size (a := a) (k := ka) (N := Na) (ts := ta) (w := w) f1_ (by assumption)) (cwV 1 hts (hwGood (hw_4 mm_122 mm_120 mm_121 mm_89 (hwAll mm_118))) rfl rfl rfl (by decide +kernel) ⟨Nat.le_of_ble_eq_true rfl, Nat.le_of_ble_eq_true rfl⟩) (hw_preV hK hO hZ (tmAt.ob f1_) rfl) rfl rfl hl.1 rfl (lv_room (Nat.le_of_ble_eq_true rfl)) dPhraseSearch_wants_5 ⟨(show 0 + 0 ≤ 0 by omega), (show 0 + 0 ≤ 0 by omega)⟩) hZ hA (fun r X_1 H_2 lc_3 hp hZ => ?_)
  obtain ⟨hr, hy⟩ := hp
  subst hy
  refine hw_topi hr ?_
  exact hret (hw_nb _) hZ ⟨rfl, rfl⟩ dPhraseSearch_wants_8
set_option maxHeartbeats 4000000 in
set_option maxRecDepth 100000 in
theorem c_Nea_wants (l : Launch) (D : va_G) (K : Nat → ClassId) (X : hwW) (sz : Nat) (o : Nat) (L : Nat) (u : List Nat) (v : List Nat) (dd : Nat) (w : List Nat) (f0_ : hwH X o L (.inr (8, [.long (lN (eW u)), .long (lN (eW v)), .int (nI dd)]))) (hu : okW u) (hv : okW v) (hdd : dd < 2147483648) (hw : okW w) : Met l yNearSearch_wants (.code yNearSearch_wants cNearSearch_wants 3 (some .boolean) :: hwG) ({ frames := 0, cells := 0, slots := 0, locals := 0 } : Room) (hwPc D vwCl (hwT K) [.ref o, .long (lN (eW w))] X sz) (hwQi D vwCl X sz (fun r Y => r = bI (decide (w = u ∨ w = v)) ∧ X = Y)) 0 0 (va_A X.1 sz) := by
  refine hwMetz (cc := cNearSearch_wants) (maxL := 3) (by decide) rfl (Nat.le_of_ble_eq_true rfl) (fun p e s m args below meth c ls A Q hx hb hml hown hts hname hret hK hO hZ hA hl => ?_)
  have hl : lv_has ls 3 [(0, .ref o), (1, .long (lN (eW w)))] := hl
  refine lv_lload_n hx hb dNearSearch_wants_0 rfl (lv_at hl 1 rfl) ?_
  refine lv_aload_n hx hb dNearSearch_wants_1 rfl (lv_at hl 0 rfl) ?_
  refine hw_get hx hb hts (hwInn inNearSearch) hown hK hZ f0_ rfl 0 (by decide) (hts (.fieldLink RNearSearch 7 RNearSearch "first" "J") (hwMem mm_113)) (fun _ h => h) rfl dNearSearch_wants_2 ?_
  refine hw_lc_eq (a := eW w) (b := eW u) (tgt := 18) hx hb dNearSearch_wants_5 dNearSearch_wants_6 (by decide) (by first | exact eW_lt63 (by assumption) | exact eW_lt63 (hA2 _) | exact eW_lt63 (hB2 _) | decide) (by first | exact eW_lt63 (by assumption) | exact eW_lt63 (hA2 _) | exact eW_lt63 (hB2 _) | decide) (fun cq_1 => ?_) (fun cq_1 => ?_)
  · refine lv_iconst (v := nI 1) hx hb dNearSearch_wants_18 (by decide) ?_
    refine lv_goto (tgt := 23) hx hb dNearSearch_wants_19 (by decide) ?_
    exact hret (by decide) hZ ⟨by rw [decide_eq_true (by first | exact Or.inl ((eW_inj hw hu).mp cq_1) | exact Or.inr ((eW_inj hw hv).mp cq_1))]; rfl, rfl⟩ dNearSearch_wants_23
  · refine lv_lload_n hx hb dNearSearch_wants_9 rfl (lv_at hl 1 rfl) ?_
    refine lv_aload_n hx hb dNearSearch_wants_10 rfl (lv_at hl 0 rfl) ?_
    refine hw_get hx hb hts (hwInn inNearSearch) hown hK hZ f0_ rfl 1 (by decide) (hts (.fieldLink RNearSearch 13 RNearSearch "second" "J") (hwMem mm_114)) (fun _ h => h) rfl dNearSearch_wants_11 ?_
    refine hw_lc_ne (a := eW w) (b := eW v) (tgt := 22) hx hb dNearSearch_wants_14 dNearSearch_wants_15 (by decide) (by first | exact eW_lt63 (by assumption) | exact eW_lt63 (hA2 _) | exact eW_lt63 (hB2 _) | decide) (by first | exact eW_lt63 (by assumption) | exact eW_lt63 (hA2 _) | exact eW_lt63 (hB2 _) | decide) (fun cq_2 => ?_) (fun cq_2 => ?_)
    · refine lv_iconst (v := nI 0) hx hb dNearSearch_wants_22 (by decide) ?_
      exact hret (by decide) hZ ⟨by rw [decide_eq_false (fun h => h.elim (fun h => cq_1 ((eW_inj hw hu).mpr h)) (fun h => cq_2 ((eW_inj hw hv).mpr h)))]; rfl, rfl⟩ dNearSearch_wants_23
    · refine lv_iconst (v := nI 1) hx hb dNearSearch_wants_18 (by decide) ?_
      refine lv_goto (tgt := 23) hx hb dNearSearch_wants_19 (by decide) ?_
      exact hret (by decide) hZ ⟨by rw [decide_eq_true (by first | exact Or.inl ((eW_inj hw hu).mp cq_2) | exact Or.inr ((eW_inj hw hv).mp cq_2))]; rfl, rfl⟩ dNearSearch_wants_23
set_option maxHeartbeats 4000000 in
set_option maxRecDepth 100000 in
theorem c_Wil_wants (l : Launch) (D : va_G) (K : Nat → ClassId) (X : hwW) (sz : Nat) (o : Nat) (L : Nat) (u : List Nat) (be : Bool) (w : List Nat) (f0_ : hwH X o L (.inr (9, [.long (lN (eW u)), .int (bI be)]))) (hu : okW u) (hw : okW w) : Met l yWildSearch_wants (.code yWildSearch_wants cWildSearch_wants 3 (some .boolean) :: hwG) ({ frames := 4, cells := 0, slots := 0, locals := 88 } : Room) (hwPc D vwCl (hwT K) [.ref o, .long (lN (eW w))] X sz) (hwQi D vwCl X sz (fun r Y => r = bI (bif be then endL w u else begL w u) ∧ X = Y)) 0 0 (va_A X.1 sz) := by
  refine hwMetz (cc := cWildSearch_wants) (maxL := 3) (by decide) rfl (Nat.le_of_ble_eq_true rfl) (fun p e s m args below meth c ls A Q hx hb hml hown hts hname hret hK hO hZ hA hl => ?_)
  have hl : lv_has ls 3 [(0, .ref o), (1, .long (lN (eW w)))] := hl
  refine lv_aload_n hx hb dWildSearch_wants_0 rfl (lv_at hl 0 rfl) ?_
  refine hw_get hx hb hts (hwInn inWildSearch) hown hK hZ f0_ rfl 1 (by decide) (hts (.fieldLink RWildSearch 13 RWildSearch "end" "Z") (hwMem mm_117)) (fun _ h => h) rfl dWildSearch_wants_1 ?_
  refine hw_bz_eq (tgt := 18) hx hb dWildSearch_wants_4 (by decide) (fun cq_1 => ?_) (fun cq_1 => ?_)
  · refine lv_lload_n hx hb dWildSearch_wants_18 rfl (lv_at hl 1 rfl) ?_
    refine lv_aload_n hx hb dWildSearch_wants_19 rfl (lv_at hl 0 rfl) ?_
    refine hw_get hx hb hts (hwInn inWildSearch) hown hK hZ f0_ rfl 0 (by decide) (hts (.fieldLink RWildSearch 7 RWildSearch "word" "J") (hwMem mm_116)) (fun _ h => h) rfl dWildSearch_wants_20 ?_
    refine hw_calli (va_runS (As := [.long (lN (eW w)), .long (lN (eW u))]) (rest := []) ⟨hx, hb, hml, hown, hts⟩ (c_W_begins l D K X s.heap.size (w := w) (b := u) (by assumption) (by assumption)) (va_cwS 2 hts (hwGood (hw_3 mm_125 mm_124 mm_3 (hwAll mm_123))) rfl rfl rfl (by decide +kernel) ⟨Nat.le_of_ble_eq_true rfl, Nat.le_of_ble_eq_true rfl⟩) (hw_preS hK hO hZ) rfl rfl hl.1 rfl (lv_room (Nat.le_of_ble_eq_true rfl)) dWildSearch_wants_23 ⟨(show 0 + 0 ≤ 0 by omega), (show 0 + 0 ≤ 0 by omega)⟩) hZ hA (fun r X_2 H_3 lc_4 hp hZ => ?_)
    obtain ⟨hr, hy⟩ := hp
    subst hy
    refine hw_topi hr ?_
    exact hret (hw_nb _) hZ ⟨by simp_all, rfl⟩ dWildSearch_wants_26
  · refine lv_lload_n hx hb dWildSearch_wants_7 rfl (lv_at hl 1 rfl) ?_
    refine lv_aload_n hx hb dWildSearch_wants_8 rfl (lv_at hl 0 rfl) ?_
    refine hw_get hx hb hts (hwInn inWildSearch) hown hK hZ f0_ rfl 0 (by decide) (hts (.fieldLink RWildSearch 7 RWildSearch "word" "J") (hwMem mm_116)) (fun _ h => h) rfl dWildSearch_wants_9 ?_
    refine hw_calli (va_runS (As := [.long (lN (eW w)), .long (lN (eW u))]) (rest := []) ⟨hx, hb, hml, hown, hts⟩ (c_W_ends l D K X s.heap.size (w := w) (b := u) (by assumption) (by assumption)) (va_cwS 2 hts (hwGood (hw_3 mm_128 mm_127 mm_3 (hwAll mm_126))) rfl rfl rfl (by decide +kernel) ⟨Nat.le_of_ble_eq_true rfl, Nat.le_of_ble_eq_true rfl⟩) (hw_preS hK hO hZ) rfl rfl hl.1 rfl (lv_room (Nat.le_of_ble_eq_true rfl)) dWildSearch_wants_12 ⟨(show 0 + 0 ≤ 0 by omega), (show 0 + 0 ≤ 0 by omega)⟩) hZ hA (fun r X_5 H_6 lc_7 hp hZ => ?_)
    obtain ⟨hr, hy⟩ := hp
    subst hy
    refine hw_topi hr ?_
    refine lv_goto (tgt := 26) hx hb dWildSearch_wants_15 (by decide) ?_
    exact hret (hw_nb _) hZ ⟨by simp_all, rfl⟩ dWildSearch_wants_26
set_option maxHeartbeats 4000000 in
set_option maxRecDepth 100000 in
theorem c_All_count (l : Launch) (D : va_G) (K : Nat → ClassId) (X : hwW) (sz : Nat) (o : Nat) (L : Nat) (a : Nat) (ka : Nat) (Na : Nat) (ta : List (List Nat)) (b : Nat) (kb : Nat) (Nb : Nat) (tb : List (List Nat)) (f0_ : hwH X o L (.inr (6, [.ref a]))) (f1_ : tmAt K X a ka Na ta) (f2_ : tmAt K X b kb Nb tb) : Met l ySearch_countIn (.code ySearch_countIn cSearch_countIn 4 (some .int) :: hwG) ({ frames := 5, cells := 0, slots := 0, locals := 110 } : Room) (hwPc D vwCl (hwT K) [.ref o, .ref b] X sz) (hwQi D vwCl X sz (fun r Y => r = nI (tb.countP (fun w => decide (w ≠ []) && (decide (w ∈ ta)))) ∧ X = Y ∧ tb.countP (fun w => decide (w ≠ []) && (decide (w ∈ ta))) ≤ tb.length)) 0 0 (va_A X.1 sz) := by
  refine hwMeti (cc := cSearch_countIn) (maxL := 4) (by decide) rfl (Nat.le_of_ble_eq_true rfl) (fun p e s m args below meth c ls A Q hx hb hml hown hts hname hret hK hO hZ hA hl => ?_)
  have hl : lv_has ls 4 [(0, .ref o), (1, .ref b)] := hl
  have hA2 := fun j => okWs.at (tmAt.oks f1_) j
  have hB2 := fun j => okWs.at (tmAt.oks f2_) j
  have hBN := tmAt.len f2_
  refine lv_iconst (v := nI 0) hx hb dSearch_countIn_0 (by decide) ?_
  refine lv_istore_n (lv' := [(2, .int (nI 0)), (0, .ref o), (1, .ref b)]) hx hb dSearch_countIn_1 rfl hl (by decide) rfl (fun ls hl => ?_)
  refine lv_iconst (v := nI 0) hx hb dSearch_countIn_2 (by decide) ?_
  refine lv_istore_n (lv' := [(3, .int (nI 0)), (2, .int (nI 0)), (0, .ref o), (1, .ref b)]) hx hb dSearch_countIn_3 rfl hl (by decide) rfl (fun ls hl => ?_)
  have loop4 : ∀ (fuel : Nat) (i : Nat) (n : Nat) (Hh : Heap) (lcs : List Loc) (ls : Array Slot), tb.length - i < fuel → (i ≤ tb.length) → (n = (tb.take i).countP (fun w => decide (w ≠ []) && (decide (w ∈ ta)))) → hwZ D vwCl A s.heap X Hh lcs → lv_has ls 4 [(3, .int (nI i)), (2, .int (nI n)), (0, .ref o), (1, .ref b)] → W p l e ({ frames := 5, cells := 0, slots := 0, locals := 110 } : Room) s m args below meth c Hh lcs 0 0 Q (F0 m 4 ls []) := by
    intro fuel; induction fuel with
    | zero => intro i n Hh lcs ls hfu; exact absurd hfu (Nat.not_lt_zero _)
    | succ fuel ih4 =>
      intro i n Hh lcs ls hfu4 hi hc hZ hl
      have hnl := Nat.le_trans (Nat.le_of_eq hc) (Nat.le_trans List.countP_le_length (List.length_take_le _ _))
      refine lv_iload_n hx hb dSearch_countIn_4 rfl (lv_at hl 0 rfl) ?_
      refine lv_aload_n hx hb dSearch_countIn_5 rfl (lv_at hl 3 rfl) ?_
      refine hw_calli (va_runV (As := []) (rest := [.int (nI i)]) ⟨hx, hb, hml, hown, hts⟩ (c_Tm_size l D K X Hh.size (a := b) (k := kb) (N := Nb) (ts := tb) f2_) (cwV 0 hts (hwGood (hw_4 mm_130 mm_131 mm_132 mm_89 (hwAll mm_129))) rfl rfl rfl (by decide +kernel) ⟨Nat.le_of_ble_eq_true rfl, Nat.le_of_ble_eq_true rfl⟩) (hw_preV hK hO hZ (tmAt.ob f2_) rfl) rfl rfl hl.1 rfl (lv_room (Nat.le_of_ble_eq_true rfl)) dSearch_countIn_6 ⟨(show 0 + 0 ≤ 0 by omega), (show 0 + 0 ≤ 0 by omega)⟩) hZ hA (fun r X_1 H_2 lc_3 hp hZ => ?_)
      obtain ⟨hr, hy⟩ := hp
      subst hy
      refine hw_topi hr ?_
      refine hw_ic_ge (a := i) (b := tb.length) (tgt := 43) hx hb dSearch_countIn_9 (by decide) (by omega) (by omega) (fun cq_4 => ?_) (fun cq_4 => ?_)
      · refine lv_iload_n hx hb dSearch_countIn_43 rfl (lv_at hl 1 rfl) ?_
        exact hret hZ ⟨by rw [hc, List.take_of_length_le (by omega)], rfl, List.countP_le_length⟩ dSearch_countIn_44
      · refine lv_aload_n hx hb dSearch_countIn_12 rfl (lv_at hl 3 rfl) ?_
        refine lv_iload_n hx hb dSearch_countIn_13 rfl (lv_at hl 0 rfl) ?_
        refine hw_calll (va_runV (As := [.int (nI i)]) (rest := []) ⟨hx, hb, hml, hown, hts⟩ (c_Tm_at l D K X H_2.size (a := b) (k := kb) (N := Nb) (ts := tb) (j := i) f2_ (by omega)) (cwV 1 hts (hwGood (hw_4 mm_133 mm_87 mm_88 mm_89 (hwAll mm_85))) rfl rfl rfl (by decide +kernel) ⟨Nat.le_of_ble_eq_true rfl, Nat.le_of_ble_eq_true rfl⟩) (hw_preV hK hO hZ (tmAt.ob f2_) rfl) rfl rfl hl.1 rfl (lv_room (Nat.le_of_ble_eq_true rfl)) dSearch_countIn_14 ⟨(show 0 + 0 ≤ 0 by omega), (show 0 + 0 ≤ 0 by omega)⟩) hZ hA (fun r X_5 H_6 lc_7 hp hZ => ?_)
        obtain ⟨hr, hy⟩ := hp
        subst hy
        refine hw_topl hr ?_
        refine lv_lconst (v := lN 0) hx hb dSearch_countIn_17 rfl ?_
        refine hw_lc_eq (a := eW (tb.getD i [])) (b := 0) (tgt := 37) hx hb dSearch_countIn_18 dSearch_countIn_19 (by decide) (by first | exact eW_lt63 (by assumption) | exact eW_lt63 (hA2 _) | exact eW_lt63 (hB2 _) | decide) (by first | exact eW_lt63 (by assumption) | exact eW_lt63 (hA2 _) | exact eW_lt63 (hB2 _) | decide) (fun cq_8 => ?_) (fun cq_8 => ?_)
        · refine lv_iinc (v := nI (i + 1)) (lv' := [(3, .int (nI (i + 1))), (2, .int (nI n)), (0, .ref o), (1, .ref b)]) hx hb dSearch_countIn_37 hl (k := 0) rfl (nI_add _ 1) (by decide) rfl (fun ls hl => ?_)
          refine lv_goto (tgt := 4) hx hb dSearch_countIn_40 (by decide) ?_
          exact ih4 (i + 1) n _ _ _ (by omega) (by omega) (cnt_stepF (by omega) hc (cntP_f1 ((eW_zero (hB2 _)).mp cq_8)))  hZ (lv_sub hl [0, 1, 2, 3] rfl)
        · refine lv_aload_n hx hb dSearch_countIn_22 rfl (lv_at hl 2 rfl) ?_
          refine lv_aload_n hx hb dSearch_countIn_23 rfl (lv_at hl 3 rfl) ?_
          refine lv_iload_n hx hb dSearch_countIn_24 rfl (lv_at hl 0 rfl) ?_
          refine hw_calll (va_runV (As := [.int (nI i)]) (rest := [.ref o]) ⟨hx, hb, hml, hown, hts⟩ (c_Tm_at l D K X H_6.size (a := b) (k := kb) (N := Nb) (ts := tb) (j := i) f2_ (by omega)) (cwV 1 hts (hwGood (hw_4 mm_133 mm_87 mm_88 mm_89 (hwAll mm_85))) rfl rfl rfl (by decide +kernel) ⟨Nat.le_of_ble_eq_true rfl, Nat.le_of_ble_eq_true rfl⟩) (hw_preV hK hO hZ (tmAt.ob f2_) rfl) rfl rfl hl.1 rfl (lv_room (Nat.le_of_ble_eq_true rfl)) dSearch_countIn_25 ⟨(show 0 + 0 ≤ 0 by omega), (show 0 + 0 ≤ 0 by omega)⟩) hZ hA (fun r X_9 H_10 lc_11 hp hZ => ?_)
          obtain ⟨hr, hy⟩ := hp
          subst hy
          refine hw_topl hr ?_
          refine hw_calli (va_runU (As := [.long (lN (eW (tb.getD i [])))]) (rest := []) ⟨hx, hb, hml, hown, hts⟩ (c_All_wants l D K X H_10.size (o := o) (L := L) (a := a) (ka := ka) (Na := Na) (ta := ta) (w := (tb.getD i [])) f0_ f1_ (hB2 i)) (va_cwA (owner := RSearch) 1 hts (hwGood (hw_5 mm_135 mm_136 mm_137 mm_138 mm_139 (hwAll mm_134))) rfl rfl rfl (hO.2 _ (List.mem_of_getElem? (i := 5) rfl)) (by decide +kernel) ⟨Nat.le_of_ble_eq_true rfl, Nat.le_of_ble_eq_true rfl⟩) (hw_preV hK hO hZ (⟨_, _, f0_⟩) rfl) rfl rfl hl.1 rfl (lv_room (Nat.le_of_ble_eq_true rfl)) dSearch_countIn_28 ⟨(show 0 + 0 ≤ 0 by omega), (show 0 + 0 ≤ 0 by omega)⟩) hZ hA (fun r X_12 H_13 lc_14 hp hZ => ?_)
          obtain ⟨hr, hy⟩ := hp
          subst hy
          refine hw_topi hr ?_
          refine hw_bz_eq (tgt := 37) hx hb dSearch_countIn_31 (by decide) (fun cq_15 => ?_) (fun cq_15 => ?_)
          · refine lv_iinc (v := nI (i + 1)) (lv' := [(3, .int (nI (i + 1))), (2, .int (nI n)), (0, .ref o), (1, .ref b)]) hx hb dSearch_countIn_37 hl (k := 0) rfl (nI_add _ 1) (by decide) rfl (fun ls hl => ?_)
            refine lv_goto (tgt := 4) hx hb dSearch_countIn_40 (by decide) ?_
            exact ih4 (i + 1) n _ _ _ (by omega) (by omega) (cnt_stepF (by omega) hc (cntP_f2 cq_15))  hZ (lv_sub hl [0, 1, 2, 3] rfl)
          · refine lv_iinc (v := nI (n + 1)) (lv' := [(2, .int (nI (n + 1))), (3, .int (nI i)), (0, .ref o), (1, .ref b)]) hx hb dSearch_countIn_34 hl (k := 1) rfl (nI_add _ 1) (by decide) rfl (fun ls hl => ?_)
            refine lv_iinc (v := nI (i + 1)) (lv' := [(3, .int (nI (i + 1))), (2, .int (nI (n + 1))), (0, .ref o), (1, .ref b)]) hx hb dSearch_countIn_37 hl (k := 1) rfl (nI_add _ 1) (by decide) rfl (fun ls hl => ?_)
            refine lv_goto (tgt := 4) hx hb dSearch_countIn_40 (by decide) ?_
            exact ih4 (i + 1) (n + 1) _ _ _ (by omega) (by omega) (cnt_stepT (by omega) hc (cntP_t (fun h => cq_8 ((eW_zero (hB2 _)).mpr h)) cq_15))  hZ (lv_sub hl [0, 1, 2, 3] rfl)
  exact loop4 (tb.length - 0 + 1) 0 0 _ _ _ (by omega) (by omega) (by rw [List.take_zero]; rfl)  hZ (lv_sub hl [0, 1, 2, 3] rfl)
set_option maxHeartbeats 4000000 in
set_option maxRecDepth 100000 in
theorem c_Phr_count (l : Launch) (D : va_G) (K : Nat → ClassId) (X : hwW) (sz : Nat) (o : Nat) (L : Nat) (a : Nat) (ka : Nat) (Na : Nat) (ta : List (List Nat)) (b : Nat) (kb : Nat) (Nb : Nat) (tb : List (List Nat)) (f0_ : hwH X o L (.inr (7, [.ref a]))) (f1_ : tmAt K X a ka Na ta) (f2_ : tmAt K X b kb Nb tb) : Met l ySearch_countIn (.code ySearch_countIn cSearch_countIn 4 (some .int) :: hwG) ({ frames := 5, cells := 0, slots := 0, locals := 110 } : Room) (hwPc D vwCl (hwT K) [.ref o, .ref b] X sz) (hwQi D vwCl X sz (fun r Y => r = nI (tb.countP (fun w => decide (w ≠ []) && (decide (w ∈ ta)))) ∧ X = Y ∧ tb.countP (fun w => decide (w ≠ []) && (decide (w ∈ ta))) ≤ tb.length)) 0 0 (va_A X.1 sz) := by
  refine hwMeti (cc := cSearch_countIn) (maxL := 4) (by decide) rfl (Nat.le_of_ble_eq_true rfl) (fun p e s m args below meth c ls A Q hx hb hml hown hts hname hret hK hO hZ hA hl => ?_)
  have hl : lv_has ls 4 [(0, .ref o), (1, .ref b)] := hl
  have hA2 := fun j => okWs.at (tmAt.oks f1_) j
  have hB2 := fun j => okWs.at (tmAt.oks f2_) j
  have hBN := tmAt.len f2_
  refine lv_iconst (v := nI 0) hx hb dSearch_countIn_0 (by decide) ?_
  refine lv_istore_n (lv' := [(2, .int (nI 0)), (0, .ref o), (1, .ref b)]) hx hb dSearch_countIn_1 rfl hl (by decide) rfl (fun ls hl => ?_)
  refine lv_iconst (v := nI 0) hx hb dSearch_countIn_2 (by decide) ?_
  refine lv_istore_n (lv' := [(3, .int (nI 0)), (2, .int (nI 0)), (0, .ref o), (1, .ref b)]) hx hb dSearch_countIn_3 rfl hl (by decide) rfl (fun ls hl => ?_)
  have loop4 : ∀ (fuel : Nat) (i : Nat) (n : Nat) (Hh : Heap) (lcs : List Loc) (ls : Array Slot), tb.length - i < fuel → (i ≤ tb.length) → (n = (tb.take i).countP (fun w => decide (w ≠ []) && (decide (w ∈ ta)))) → hwZ D vwCl A s.heap X Hh lcs → lv_has ls 4 [(3, .int (nI i)), (2, .int (nI n)), (0, .ref o), (1, .ref b)] → W p l e ({ frames := 5, cells := 0, slots := 0, locals := 110 } : Room) s m args below meth c Hh lcs 0 0 Q (F0 m 4 ls []) := by
    intro fuel; induction fuel with
    | zero => intro i n Hh lcs ls hfu; exact absurd hfu (Nat.not_lt_zero _)
    | succ fuel ih4 =>
      intro i n Hh lcs ls hfu4 hi hc hZ hl
      have hnl := Nat.le_trans (Nat.le_of_eq hc) (Nat.le_trans List.countP_le_length (List.length_take_le _ _))
      refine lv_iload_n hx hb dSearch_countIn_4 rfl (lv_at hl 0 rfl) ?_
      refine lv_aload_n hx hb dSearch_countIn_5 rfl (lv_at hl 3 rfl) ?_
      refine hw_calli (va_runV (As := []) (rest := [.int (nI i)]) ⟨hx, hb, hml, hown, hts⟩ (c_Tm_size l D K X Hh.size (a := b) (k := kb) (N := Nb) (ts := tb) f2_) (cwV 0 hts (hwGood (hw_4 mm_130 mm_131 mm_132 mm_89 (hwAll mm_129))) rfl rfl rfl (by decide +kernel) ⟨Nat.le_of_ble_eq_true rfl, Nat.le_of_ble_eq_true rfl⟩) (hw_preV hK hO hZ (tmAt.ob f2_) rfl) rfl rfl hl.1 rfl (lv_room (Nat.le_of_ble_eq_true rfl)) dSearch_countIn_6 ⟨(show 0 + 0 ≤ 0 by omega), (show 0 + 0 ≤ 0 by omega)⟩) hZ hA (fun r X_1 H_2 lc_3 hp hZ => ?_)
      obtain ⟨hr, hy⟩ := hp
      subst hy
      refine hw_topi hr ?_
      refine hw_ic_ge (a := i) (b := tb.length) (tgt := 43) hx hb dSearch_countIn_9 (by decide) (by omega) (by omega) (fun cq_4 => ?_) (fun cq_4 => ?_)
      · refine lv_iload_n hx hb dSearch_countIn_43 rfl (lv_at hl 1 rfl) ?_
        exact hret hZ ⟨by rw [hc, List.take_of_length_le (by omega)], rfl, List.countP_le_length⟩ dSearch_countIn_44
      · refine lv_aload_n hx hb dSearch_countIn_12 rfl (lv_at hl 3 rfl) ?_
        refine lv_iload_n hx hb dSearch_countIn_13 rfl (lv_at hl 0 rfl) ?_
        refine hw_calll (va_runV (As := [.int (nI i)]) (rest := []) ⟨hx, hb, hml, hown, hts⟩ (c_Tm_at l D K X H_2.size (a := b) (k := kb) (N := Nb) (ts := tb) (j := i) f2_ (by omega)) (cwV 1 hts (hwGood (hw_4 mm_133 mm_87 mm_88 mm_89 (hwAll mm_85))) rfl rfl rfl (by decide +kernel) ⟨Nat.le_of_ble_eq_true rfl, Nat.le_of_ble_eq_true rfl⟩) (hw_preV hK hO hZ (tmAt.ob f2_) rfl) rfl rfl hl.1 rfl (lv_room (Nat.le_of_ble_eq_true rfl)) dSearch_countIn_14 ⟨(show 0 + 0 ≤ 0 by omega), (show 0 + 0 ≤ 0 by omega)⟩) hZ hA (fun r X_5 H_6 lc_7 hp hZ => ?_)
        obtain ⟨hr, hy⟩ := hp
        subst hy
        refine hw_topl hr ?_
        refine lv_lconst (v := lN 0) hx hb dSearch_countIn_17 rfl ?_
        refine hw_lc_eq (a := eW (tb.getD i [])) (b := 0) (tgt := 37) hx hb dSearch_countIn_18 dSearch_countIn_19 (by decide) (by first | exact eW_lt63 (by assumption) | exact eW_lt63 (hA2 _) | exact eW_lt63 (hB2 _) | decide) (by first | exact eW_lt63 (by assumption) | exact eW_lt63 (hA2 _) | exact eW_lt63 (hB2 _) | decide) (fun cq_8 => ?_) (fun cq_8 => ?_)
        · refine lv_iinc (v := nI (i + 1)) (lv' := [(3, .int (nI (i + 1))), (2, .int (nI n)), (0, .ref o), (1, .ref b)]) hx hb dSearch_countIn_37 hl (k := 0) rfl (nI_add _ 1) (by decide) rfl (fun ls hl => ?_)
          refine lv_goto (tgt := 4) hx hb dSearch_countIn_40 (by decide) ?_
          exact ih4 (i + 1) n _ _ _ (by omega) (by omega) (cnt_stepF (by omega) hc (cntP_f1 ((eW_zero (hB2 _)).mp cq_8)))  hZ (lv_sub hl [0, 1, 2, 3] rfl)
        · refine lv_aload_n hx hb dSearch_countIn_22 rfl (lv_at hl 2 rfl) ?_
          refine lv_aload_n hx hb dSearch_countIn_23 rfl (lv_at hl 3 rfl) ?_
          refine lv_iload_n hx hb dSearch_countIn_24 rfl (lv_at hl 0 rfl) ?_
          refine hw_calll (va_runV (As := [.int (nI i)]) (rest := [.ref o]) ⟨hx, hb, hml, hown, hts⟩ (c_Tm_at l D K X H_6.size (a := b) (k := kb) (N := Nb) (ts := tb) (j := i) f2_ (by omega)) (cwV 1 hts (hwGood (hw_4 mm_133 mm_87 mm_88 mm_89 (hwAll mm_85))) rfl rfl rfl (by decide +kernel) ⟨Nat.le_of_ble_eq_true rfl, Nat.le_of_ble_eq_true rfl⟩) (hw_preV hK hO hZ (tmAt.ob f2_) rfl) rfl rfl hl.1 rfl (lv_room (Nat.le_of_ble_eq_true rfl)) dSearch_countIn_25 ⟨(show 0 + 0 ≤ 0 by omega), (show 0 + 0 ≤ 0 by omega)⟩) hZ hA (fun r X_9 H_10 lc_11 hp hZ => ?_)
          obtain ⟨hr, hy⟩ := hp
          subst hy
          refine hw_topl hr ?_
          refine hw_calli (va_runU (As := [.long (lN (eW (tb.getD i [])))]) (rest := []) ⟨hx, hb, hml, hown, hts⟩ (c_Phr_wants l D K X H_10.size (o := o) (L := L) (a := a) (ka := ka) (Na := Na) (ta := ta) (w := (tb.getD i [])) f0_ f1_ (hB2 i)) (va_cwA (owner := RSearch) 1 hts (hwGood (hw_5 mm_135 mm_136 mm_141 mm_142 mm_143 (hwAll mm_140))) rfl rfl rfl (hO.2 _ (List.mem_of_getElem? (i := 5) rfl)) (by decide +kernel) ⟨Nat.le_of_ble_eq_true rfl, Nat.le_of_ble_eq_true rfl⟩) (hw_preV hK hO hZ (⟨_, _, f0_⟩) rfl) rfl rfl hl.1 rfl (lv_room (Nat.le_of_ble_eq_true rfl)) dSearch_countIn_28 ⟨(show 0 + 0 ≤ 0 by omega), (show 0 + 0 ≤ 0 by omega)⟩) hZ hA (fun r X_12 H_13 lc_14 hp hZ => ?_)
          obtain ⟨hr, hy⟩ := hp
          subst hy
          refine hw_topi hr ?_
          refine hw_bz_eq (tgt := 37) hx hb dSearch_countIn_31 (by decide) (fun cq_15 => ?_) (fun cq_15 => ?_)
          · refine lv_iinc (v := nI (i + 1)) (lv' := [(3, .int (nI (i + 1))), (2, .int (nI n)), (0, .ref o), (1, .ref b)]) hx hb dSearch_countIn_37 hl (k := 0) rfl (nI_add _ 1) (by decide) rfl (fun ls hl => ?_)
            refine lv_goto (tgt := 4) hx hb dSearch_countIn_40 (by decide) ?_
            exact ih4 (i + 1) n _ _ _ (by omega) (by omega) (cnt_stepF (by omega) hc (cntP_f2 cq_15))  hZ (lv_sub hl [0, 1, 2, 3] rfl)
          · refine lv_iinc (v := nI (n + 1)) (lv' := [(2, .int (nI (n + 1))), (3, .int (nI i)), (0, .ref o), (1, .ref b)]) hx hb dSearch_countIn_34 hl (k := 1) rfl (nI_add _ 1) (by decide) rfl (fun ls hl => ?_)
            refine lv_iinc (v := nI (i + 1)) (lv' := [(3, .int (nI (i + 1))), (2, .int (nI (n + 1))), (0, .ref o), (1, .ref b)]) hx hb dSearch_countIn_37 hl (k := 1) rfl (nI_add _ 1) (by decide) rfl (fun ls hl => ?_)
            refine lv_goto (tgt := 4) hx hb dSearch_countIn_40 (by decide) ?_
            exact ih4 (i + 1) (n + 1) _ _ _ (by omega) (by omega) (cnt_stepT (by omega) hc (cntP_t (fun h => cq_8 ((eW_zero (hB2 _)).mpr h)) cq_15))  hZ (lv_sub hl [0, 1, 2, 3] rfl)
  exact loop4 (tb.length - 0 + 1) 0 0 _ _ _ (by omega) (by omega) (by rw [List.take_zero]; rfl)  hZ (lv_sub hl [0, 1, 2, 3] rfl)
set_option maxHeartbeats 4000000 in
set_option maxRecDepth 100000 in
theorem c_Nea_count (l : Launch) (D : va_G) (K : Nat → ClassId) (X : hwW) (sz : Nat) (o : Nat) (L : Nat) (u : List Nat) (v : List Nat) (dd : Nat) (b : Nat) (kb : Nat) (Nb : Nat) (tb : List (List Nat)) (f0_ : hwH X o L (.inr (8, [.long (lN (eW u)), .long (lN (eW v)), .int (nI dd)]))) (f1_ : tmAt K X b kb Nb tb) (hu : okW u) (hv : okW v) (hdd : dd < 2147483648) : Met l ySearch_countIn (.code ySearch_countIn cSearch_countIn 4 (some .int) :: hwG) ({ frames := 5, cells := 0, slots := 0, locals := 110 } : Room) (hwPc D vwCl (hwT K) [.ref o, .ref b] X sz) (hwQi D vwCl X sz (fun r Y => r = nI (tb.countP (fun w => decide (w ≠ []) && (decide (w = u ∨ w = v)))) ∧ X = Y ∧ tb.countP (fun w => decide (w ≠ []) && (decide (w = u ∨ w = v))) ≤ tb.length)) 0 0 (va_A X.1 sz) := by
  refine hwMeti (cc := cSearch_countIn) (maxL := 4) (by decide) rfl (Nat.le_of_ble_eq_true rfl) (fun p e s m args below meth c ls A Q hx hb hml hown hts hname hret hK hO hZ hA hl => ?_)
  have hl : lv_has ls 4 [(0, .ref o), (1, .ref b)] := hl
  have hB2 := fun j => okWs.at (tmAt.oks f1_) j
  have hBN := tmAt.len f1_
  refine lv_iconst (v := nI 0) hx hb dSearch_countIn_0 (by decide) ?_
  refine lv_istore_n (lv' := [(2, .int (nI 0)), (0, .ref o), (1, .ref b)]) hx hb dSearch_countIn_1 rfl hl (by decide) rfl (fun ls hl => ?_)
  refine lv_iconst (v := nI 0) hx hb dSearch_countIn_2 (by decide) ?_
  refine lv_istore_n (lv' := [(3, .int (nI 0)), (2, .int (nI 0)), (0, .ref o), (1, .ref b)]) hx hb dSearch_countIn_3 rfl hl (by decide) rfl (fun ls hl => ?_)
  have loop4 : ∀ (fuel : Nat) (i : Nat) (n : Nat) (Hh : Heap) (lcs : List Loc) (ls : Array Slot), tb.length - i < fuel → (i ≤ tb.length) → (n = (tb.take i).countP (fun w => decide (w ≠ []) && (decide (w = u ∨ w = v)))) → hwZ D vwCl A s.heap X Hh lcs → lv_has ls 4 [(3, .int (nI i)), (2, .int (nI n)), (0, .ref o), (1, .ref b)] → W p l e ({ frames := 5, cells := 0, slots := 0, locals := 110 } : Room) s m args below meth c Hh lcs 0 0 Q (F0 m 4 ls []) := by
    intro fuel; induction fuel with
    | zero => intro i n Hh lcs ls hfu; exact absurd hfu (Nat.not_lt_zero _)
    | succ fuel ih4 =>
      intro i n Hh lcs ls hfu4 hi hc hZ hl
      have hnl := Nat.le_trans (Nat.le_of_eq hc) (Nat.le_trans List.countP_le_length (List.length_take_le _ _))
      refine lv_iload_n hx hb dSearch_countIn_4 rfl (lv_at hl 0 rfl) ?_
      refine lv_aload_n hx hb dSearch_countIn_5 rfl (lv_at hl 3 rfl) ?_
      refine hw_calli (va_runV (As := []) (rest := [.int (nI i)]) ⟨hx, hb, hml, hown, hts⟩ (c_Tm_size l D K X Hh.size (a := b) (k := kb) (N := Nb) (ts := tb) f1_) (cwV 0 hts (hwGood (hw_4 mm_130 mm_131 mm_132 mm_89 (hwAll mm_129))) rfl rfl rfl (by decide +kernel) ⟨Nat.le_of_ble_eq_true rfl, Nat.le_of_ble_eq_true rfl⟩) (hw_preV hK hO hZ (tmAt.ob f1_) rfl) rfl rfl hl.1 rfl (lv_room (Nat.le_of_ble_eq_true rfl)) dSearch_countIn_6 ⟨(show 0 + 0 ≤ 0 by omega), (show 0 + 0 ≤ 0 by omega)⟩) hZ hA (fun r X_1 H_2 lc_3 hp hZ => ?_)
      obtain ⟨hr, hy⟩ := hp
      subst hy
      refine hw_topi hr ?_
      refine hw_ic_ge (a := i) (b := tb.length) (tgt := 43) hx hb dSearch_countIn_9 (by decide) (by omega) (by omega) (fun cq_4 => ?_) (fun cq_4 => ?_)
      · refine lv_iload_n hx hb dSearch_countIn_43 rfl (lv_at hl 1 rfl) ?_
        exact hret hZ ⟨by rw [hc, List.take_of_length_le (by omega)], rfl, List.countP_le_length⟩ dSearch_countIn_44
      · refine lv_aload_n hx hb dSearch_countIn_12 rfl (lv_at hl 3 rfl) ?_
        refine lv_iload_n hx hb dSearch_countIn_13 rfl (lv_at hl 0 rfl) ?_
        refine hw_calll (va_runV (As := [.int (nI i)]) (rest := []) ⟨hx, hb, hml, hown, hts⟩ (c_Tm_at l D K X H_2.size (a := b) (k := kb) (N := Nb) (ts := tb) (j := i) f1_ (by omega)) (cwV 1 hts (hwGood (hw_4 mm_133 mm_87 mm_88 mm_89 (hwAll mm_85))) rfl rfl rfl (by decide +kernel) ⟨Nat.le_of_ble_eq_true rfl, Nat.le_of_ble_eq_true rfl⟩) (hw_preV hK hO hZ (tmAt.ob f1_) rfl) rfl rfl hl.1 rfl (lv_room (Nat.le_of_ble_eq_true rfl)) dSearch_countIn_14 ⟨(show 0 + 0 ≤ 0 by omega), (show 0 + 0 ≤ 0 by omega)⟩) hZ hA (fun r X_5 H_6 lc_7 hp hZ => ?_)
        obtain ⟨hr, hy⟩ := hp
        subst hy
        refine hw_topl hr ?_
        refine lv_lconst (v := lN 0) hx hb dSearch_countIn_17 rfl ?_
        refine hw_lc_eq (a := eW (tb.getD i [])) (b := 0) (tgt := 37) hx hb dSearch_countIn_18 dSearch_countIn_19 (by decide) (by first | exact eW_lt63 (by assumption) | exact eW_lt63 (hA2 _) | exact eW_lt63 (hB2 _) | decide) (by first | exact eW_lt63 (by assumption) | exact eW_lt63 (hA2 _) | exact eW_lt63 (hB2 _) | decide) (fun cq_8 => ?_) (fun cq_8 => ?_)
        · refine lv_iinc (v := nI (i + 1)) (lv' := [(3, .int (nI (i + 1))), (2, .int (nI n)), (0, .ref o), (1, .ref b)]) hx hb dSearch_countIn_37 hl (k := 0) rfl (nI_add _ 1) (by decide) rfl (fun ls hl => ?_)
          refine lv_goto (tgt := 4) hx hb dSearch_countIn_40 (by decide) ?_
          exact ih4 (i + 1) n _ _ _ (by omega) (by omega) (cnt_stepF (by omega) hc (cntP_f1 ((eW_zero (hB2 _)).mp cq_8)))  hZ (lv_sub hl [0, 1, 2, 3] rfl)
        · refine lv_aload_n hx hb dSearch_countIn_22 rfl (lv_at hl 2 rfl) ?_
          refine lv_aload_n hx hb dSearch_countIn_23 rfl (lv_at hl 3 rfl) ?_
          refine lv_iload_n hx hb dSearch_countIn_24 rfl (lv_at hl 0 rfl) ?_
          refine hw_calll (va_runV (As := [.int (nI i)]) (rest := [.ref o]) ⟨hx, hb, hml, hown, hts⟩ (c_Tm_at l D K X H_6.size (a := b) (k := kb) (N := Nb) (ts := tb) (j := i) f1_ (by omega)) (cwV 1 hts (hwGood (hw_4 mm_133 mm_87 mm_88 mm_89 (hwAll mm_85))) rfl rfl rfl (by decide +kernel) ⟨Nat.le_of_ble_eq_true rfl, Nat.le_of_ble_eq_true rfl⟩) (hw_preV hK hO hZ (tmAt.ob f1_) rfl) rfl rfl hl.1 rfl (lv_room (Nat.le_of_ble_eq_true rfl)) dSearch_countIn_25 ⟨(show 0 + 0 ≤ 0 by omega), (show 0 + 0 ≤ 0 by omega)⟩) hZ hA (fun r X_9 H_10 lc_11 hp hZ => ?_)
          obtain ⟨hr, hy⟩ := hp
          subst hy
          refine hw_topl hr ?_
          refine hw_calli (va_runU (As := [.long (lN (eW (tb.getD i [])))]) (rest := []) ⟨hx, hb, hml, hown, hts⟩ (c_Nea_wants l D K X H_10.size (o := o) (L := L) (u := u) (v := v) (dd := dd) (w := (tb.getD i [])) f0_ (by assumption) (by assumption) (by omega) (hB2 i)) (va_cwA (owner := RSearch) 1 hts (hwGood (hw_5 mm_135 mm_136 mm_145 mm_146 mm_147 (hwAll mm_144))) rfl rfl rfl (hO.2 _ (List.mem_of_getElem? (i := 5) rfl)) (by decide +kernel) ⟨Nat.le_of_ble_eq_true rfl, Nat.le_of_ble_eq_true rfl⟩) (hw_preV hK hO hZ (⟨_, _, f0_⟩) rfl) rfl rfl hl.1 rfl (lv_room (Nat.le_of_ble_eq_true rfl)) dSearch_countIn_28 ⟨(show 0 + 0 ≤ 0 by omega), (show 0 + 0 ≤ 0 by omega)⟩) hZ hA (fun r X_12 H_13 lc_14 hp hZ => ?_)
          obtain ⟨hr, hy⟩ := hp
          subst hy
          refine hw_topi hr ?_
          refine hw_bz_eq (tgt := 37) hx hb dSearch_countIn_31 (by decide) (fun cq_15 => ?_) (fun cq_15 => ?_)
          · refine lv_iinc (v := nI (i + 1)) (lv' := [(3, .int (nI (i + 1))), (2, .int (nI n)), (0, .ref o), (1, .ref b)]) hx hb dSearch_countIn_37 hl (k := 0) rfl (nI_add _ 1) (by decide) rfl (fun ls hl => ?_)
            refine lv_goto (tgt := 4) hx hb dSearch_countIn_40 (by decide) ?_
            exact ih4 (i + 1) n _ _ _ (by omega) (by omega) (cnt_stepF (by omega) hc (cntP_f2 cq_15))  hZ (lv_sub hl [0, 1, 2, 3] rfl)
          · refine lv_iinc (v := nI (n + 1)) (lv' := [(2, .int (nI (n + 1))), (3, .int (nI i)), (0, .ref o), (1, .ref b)]) hx hb dSearch_countIn_34 hl (k := 1) rfl (nI_add _ 1) (by decide) rfl (fun ls hl => ?_)
            refine lv_iinc (v := nI (i + 1)) (lv' := [(3, .int (nI (i + 1))), (2, .int (nI (n + 1))), (0, .ref o), (1, .ref b)]) hx hb dSearch_countIn_37 hl (k := 1) rfl (nI_add _ 1) (by decide) rfl (fun ls hl => ?_)
            refine lv_goto (tgt := 4) hx hb dSearch_countIn_40 (by decide) ?_
            exact ih4 (i + 1) (n + 1) _ _ _ (by omega) (by omega) (cnt_stepT (by omega) hc (cntP_t (fun h => cq_8 ((eW_zero (hB2 _)).mpr h)) cq_15))  hZ (lv_sub hl [0, 1, 2, 3] rfl)
  exact loop4 (tb.length - 0 + 1) 0 0 _ _ _ (by omega) (by omega) (by rw [List.take_zero]; rfl)  hZ (lv_sub hl [0, 1, 2, 3] rfl)
set_option maxHeartbeats 4000000 in
set_option maxRecDepth 100000 in
theorem c_Wil_count (l : Launch) (D : va_G) (K : Nat → ClassId) (X : hwW) (sz : Nat) (o : Nat) (L : Nat) (u : List Nat) (be : Bool) (b : Nat) (kb : Nat) (Nb : Nat) (tb : List (List Nat)) (f0_ : hwH X o L (.inr (9, [.long (lN (eW u)), .int (bI be)]))) (f1_ : tmAt K X b kb Nb tb) (hu : okW u) : Met l ySearch_countIn (.code ySearch_countIn cSearch_countIn 4 (some .int) :: hwG) ({ frames := 5, cells := 0, slots := 0, locals := 110 } : Room) (hwPc D vwCl (hwT K) [.ref o, .ref b] X sz) (hwQi D vwCl X sz (fun r Y => r = nI (tb.countP (fun w => decide (w ≠ []) && (bif be then endL w u else begL w u))) ∧ X = Y ∧ tb.countP (fun w => decide (w ≠ []) && (bif be then endL w u else begL w u)) ≤ tb.length)) 0 0 (va_A X.1 sz) := by
  refine hwMeti (cc := cSearch_countIn) (maxL := 4) (by decide) rfl (Nat.le_of_ble_eq_true rfl) (fun p e s m args below meth c ls A Q hx hb hml hown hts hname hret hK hO hZ hA hl => ?_)
  have hl : lv_has ls 4 [(0, .ref o), (1, .ref b)] := hl
  have hB2 := fun j => okWs.at (tmAt.oks f1_) j
  have hBN := tmAt.len f1_
  refine lv_iconst (v := nI 0) hx hb dSearch_countIn_0 (by decide) ?_
  refine lv_istore_n (lv' := [(2, .int (nI 0)), (0, .ref o), (1, .ref b)]) hx hb dSearch_countIn_1 rfl hl (by decide) rfl (fun ls hl => ?_)
  refine lv_iconst (v := nI 0) hx hb dSearch_countIn_2 (by decide) ?_
  refine lv_istore_n (lv' := [(3, .int (nI 0)), (2, .int (nI 0)), (0, .ref o), (1, .ref b)]) hx hb dSearch_countIn_3 rfl hl (by decide) rfl (fun ls hl => ?_)
  have loop4 : ∀ (fuel : Nat) (i : Nat) (n : Nat) (Hh : Heap) (lcs : List Loc) (ls : Array Slot), tb.length - i < fuel → (i ≤ tb.length) → (n = (tb.take i).countP (fun w => decide (w ≠ []) && (bif be then endL w u else begL w u))) → hwZ D vwCl A s.heap X Hh lcs → lv_has ls 4 [(3, .int (nI i)), (2, .int (nI n)), (0, .ref o), (1, .ref b)] → W p l e ({ frames := 5, cells := 0, slots := 0, locals := 110 } : Room) s m args below meth c Hh lcs 0 0 Q (F0 m 4 ls []) := by
    intro fuel; induction fuel with
    | zero => intro i n Hh lcs ls hfu; exact absurd hfu (Nat.not_lt_zero _)
    | succ fuel ih4 =>
      intro i n Hh lcs ls hfu4 hi hc hZ hl
      have hnl := Nat.le_trans (Nat.le_of_eq hc) (Nat.le_trans List.countP_le_length (List.length_take_le _ _))
      refine lv_iload_n hx hb dSearch_countIn_4 rfl (lv_at hl 0 rfl) ?_
      refine lv_aload_n hx hb dSearch_countIn_5 rfl (lv_at hl 3 rfl) ?_
      refine hw_calli (va_runV (As := []) (rest := [.int (nI i)]) ⟨hx, hb, hml, hown, hts⟩ (c_Tm_size l D K X Hh.size (a := b) (k := kb) (N := Nb) (ts := tb) f1_) (cwV 0 hts (hwGood (hw_4 mm_130 mm_131 mm_132 mm_89 (hwAll mm_129))) rfl rfl rfl (by decide +kernel) ⟨Nat.le_of_ble_eq_true rfl, Nat.le_of_ble_eq_true rfl⟩) (hw_preV hK hO hZ (tmAt.ob f1_) rfl) rfl rfl hl.1 rfl (lv_room (Nat.le_of_ble_eq_true rfl)) dSearch_countIn_6 ⟨(show 0 + 0 ≤ 0 by omega), (show 0 + 0 ≤ 0 by omega)⟩) hZ hA (fun r X_1 H_2 lc_3 hp hZ => ?_)
      obtain ⟨hr, hy⟩ := hp
      subst hy
      refine hw_topi hr ?_
      refine hw_ic_ge (a := i) (b := tb.length) (tgt := 43) hx hb dSearch_countIn_9 (by decide) (by omega) (by omega) (fun cq_4 => ?_) (fun cq_4 => ?_)
      · refine lv_iload_n hx hb dSearch_countIn_43 rfl (lv_at hl 1 rfl) ?_
        exact hret hZ ⟨by rw [hc, List.take_of_length_le (by omega)], rfl, List.countP_le_length⟩ dSearch_countIn_44
      · refine lv_aload_n hx hb dSearch_countIn_12 rfl (lv_at hl 3 rfl) ?_
        refine lv_iload_n hx hb dSearch_countIn_13 rfl (lv_at hl 0 rfl) ?_
        refine hw_calll (va_runV (As := [.int (nI i)]) (rest := []) ⟨hx, hb, hml, hown, hts⟩ (c_Tm_at l D K X H_2.size (a := b) (k := kb) (N := Nb) (ts := tb) (j := i) f1_ (by omega)) (cwV 1 hts (hwGood (hw_4 mm_133 mm_87 mm_88 mm_89 (hwAll mm_85))) rfl rfl rfl (by decide +kernel) ⟨Nat.le_of_ble_eq_true rfl, Nat.le_of_ble_eq_true rfl⟩) (hw_preV hK hO hZ (tmAt.ob f1_) rfl) rfl rfl hl.1 rfl (lv_room (Nat.le_of_ble_eq_true rfl)) dSearch_countIn_14 ⟨(show 0 + 0 ≤ 0 by omega), (show 0 + 0 ≤ 0 by omega)⟩) hZ hA (fun r X_5 H_6 lc_7 hp hZ => ?_)
        obtain ⟨hr, hy⟩ := hp
        subst hy
        refine hw_topl hr ?_
        refine lv_lconst (v := lN 0) hx hb dSearch_countIn_17 rfl ?_
        refine hw_lc_eq (a := eW (tb.getD i [])) (b := 0) (tgt := 37) hx hb dSearch_countIn_18 dSearch_countIn_19 (by decide) (by first | exact eW_lt63 (by assumption) | exact eW_lt63 (hA2 _) | exact eW_lt63 (hB2 _) | decide) (by first | exact eW_lt63 (by assumption) | exact eW_lt63 (hA2 _) | exact eW_lt63 (hB2 _) | decide) (fun cq_8 => ?_) (fun cq_8 => ?_)
        · refine lv_iinc (v := nI (i + 1)) (lv' := [(3, .int (nI (i + 1))), (2, .int (nI n)), (0, .ref o), (1, .ref b)]) hx hb dSearch_countIn_37 hl (k := 0) rfl (nI_add _ 1) (by decide) rfl (fun ls hl => ?_)
          refine lv_goto (tgt := 4) hx hb dSearch_countIn_40 (by decide) ?_
          exact ih4 (i + 1) n _ _ _ (by omega) (by omega) (cnt_stepF (by omega) hc (cntP_f1 ((eW_zero (hB2 _)).mp cq_8)))  hZ (lv_sub hl [0, 1, 2, 3] rfl)
        · refine lv_aload_n hx hb dSearch_countIn_22 rfl (lv_at hl 2 rfl) ?_
          refine lv_aload_n hx hb dSearch_countIn_23 rfl (lv_at hl 3 rfl) ?_
          refine lv_iload_n hx hb dSearch_countIn_24 rfl (lv_at hl 0 rfl) ?_
          refine hw_calll (va_runV (As := [.int (nI i)]) (rest := [.ref o]) ⟨hx, hb, hml, hown, hts⟩ (c_Tm_at l D K X H_6.size (a := b) (k := kb) (N := Nb) (ts := tb) (j := i) f1_ (by omega)) (cwV 1 hts (hwGood (hw_4 mm_133 mm_87 mm_88 mm_89 (hwAll mm_85))) rfl rfl rfl (by decide +kernel) ⟨Nat.le_of_ble_eq_true rfl, Nat.le_of_ble_eq_true rfl⟩) (hw_preV hK hO hZ (tmAt.ob f1_) rfl) rfl rfl hl.1 rfl (lv_room (Nat.le_of_ble_eq_true rfl)) dSearch_countIn_25 ⟨(show 0 + 0 ≤ 0 by omega), (show 0 + 0 ≤ 0 by omega)⟩) hZ hA (fun r X_9 H_10 lc_11 hp hZ => ?_)
          obtain ⟨hr, hy⟩ := hp
          subst hy
          refine hw_topl hr ?_
          refine hw_calli (va_runU (As := [.long (lN (eW (tb.getD i [])))]) (rest := []) ⟨hx, hb, hml, hown, hts⟩ (c_Wil_wants l D K X H_10.size (o := o) (L := L) (u := u) (be := be) (w := (tb.getD i [])) f0_ (by assumption) (hB2 i)) (va_cwA (owner := RSearch) 1 hts (hwGood (hw_5 mm_135 mm_136 mm_149 mm_150 mm_151 (hwAll mm_148))) rfl rfl rfl (hO.2 _ (List.mem_of_getElem? (i := 5) rfl)) (by decide +kernel) ⟨Nat.le_of_ble_eq_true rfl, Nat.le_of_ble_eq_true rfl⟩) (hw_preV hK hO hZ (⟨_, _, f0_⟩) rfl) rfl rfl hl.1 rfl (lv_room (Nat.le_of_ble_eq_true rfl)) dSearch_countIn_28 ⟨(show 0 + 0 ≤ 0 by omega), (show 0 + 0 ≤ 0 by omega)⟩) hZ hA (fun r X_12 H_13 lc_14 hp hZ => ?_)
          obtain ⟨hr, hy⟩ := hp
          subst hy
          refine hw_topi hr ?_
          refine hw_bz_eq (tgt := 37) hx hb dSearch_countIn_31 (by decide) (fun cq_15 => ?_) (fun cq_15 => ?_)
          · refine lv_iinc (v := nI (i + 1)) (lv' := [(3, .int (nI (i + 1))), (2, .int (nI n)), (0, .ref o), (1, .ref b)]) hx hb dSearch_countIn_37 hl (k := 0) rfl (nI_add _ 1) (by decide) rfl (fun ls hl => ?_)
            refine lv_goto (tgt := 4) hx hb dSearch_countIn_40 (by decide) ?_
            exact ih4 (i + 1) n _ _ _ (by omega) (by omega) (cnt_stepF (by omega) hc (cntP_f2 cq_15))  hZ (lv_sub hl [0, 1, 2, 3] rfl)
          · refine lv_iinc (v := nI (n + 1)) (lv' := [(2, .int (nI (n + 1))), (3, .int (nI i)), (0, .ref o), (1, .ref b)]) hx hb dSearch_countIn_34 hl (k := 1) rfl (nI_add _ 1) (by decide) rfl (fun ls hl => ?_)
            refine lv_iinc (v := nI (i + 1)) (lv' := [(3, .int (nI (i + 1))), (2, .int (nI (n + 1))), (0, .ref o), (1, .ref b)]) hx hb dSearch_countIn_37 hl (k := 1) rfl (nI_add _ 1) (by decide) rfl (fun ls hl => ?_)
            refine lv_goto (tgt := 4) hx hb dSearch_countIn_40 (by decide) ?_
            exact ih4 (i + 1) (n + 1) _ _ _ (by omega) (by omega) (cnt_stepT (by omega) hc (cntP_t (fun h => cq_8 ((eW_zero (hB2 _)).mpr h)) cq_15))  hZ (lv_sub hl [0, 1, 2, 3] rfl)
  exact loop4 (tb.length - 0 + 1) 0 0 _ _ _ (by omega) (by omega) (by rw [List.take_zero]; rfl)  hZ (lv_sub hl [0, 1, 2, 3] rfl)
set_option maxHeartbeats 4000000 in
set_option maxRecDepth 100000 in
theorem c_All_meets (l : Launch) (D : va_G) (K : Nat → ClassId) (X : hwW) (sz : Nat) (o : Nat) (L : Nat) (a : Nat) (ka : Nat) (Na : Nat) (ta : List (List Nat)) (b : Nat) (kb : Nat) (Nb : Nat) (tb : List (List Nat)) (f0_ : hwH X o L (.inr (6, [.ref a]))) (f1_ : tmAt K X a ka Na ta) (f2_ : tmAt K X b kb Nb tb) : Met l yAllSearch_meets (.code yAllSearch_meets cAllSearch_meets 3 (some .boolean) :: hwG) ({ frames := 2, cells := 0, slots := 0, locals := 44 } : Room) (hwPc D vwCl (hwT K) [.ref o, .ref b] X sz) (hwQi D vwCl X sz (fun r Y => r = bI (ta.all (fun t => decide (t = [] ∨ t ∈ tb))) ∧ X = Y)) 0 0 (va_A X.1 sz) := by
  refine hwMetz (cc := cAllSearch_meets) (maxL := 3) (by decide) rfl (Nat.le_of_ble_eq_true rfl) (fun p e s m args below meth c ls A Q hx hb hml hown hts hname hret hK hO hZ hA hl => ?_)
  have hl : lv_has ls 3 [(0, .ref o), (1, .ref b)] := hl
  have hA2 := fun j => okWs.at (tmAt.oks f1_) j
  have hB2 := fun j => okWs.at (tmAt.oks f2_) j
  have hBN := tmAt.len f2_
  have hAN := tmAt.len f1_
  refine lv_iconst (v := nI 0) hx hb dAllSearch_meets_0 (by decide) ?_
  refine lv_istore_n (lv' := [(2, .int (nI 0)), (0, .ref o), (1, .ref b)]) hx hb dAllSearch_meets_1 rfl hl (by decide) rfl (fun ls hl => ?_)
  have loop2 : ∀ (fuel : Nat) (i : Nat) (Hh : Heap) (lcs : List Loc) (ls : Array Slot), ta.length - i < fuel → (i ≤ ta.length) → (∀ p, p < i → ta.getD p [] = [] ∨ ta.getD p [] ∈ tb) → hwZ D vwCl A s.heap X Hh lcs → lv_has ls 3 [(2, .int (nI i)), (0, .ref o), (1, .ref b)] → W p l e ({ frames := 2, cells := 0, slots := 0, locals := 44 } : Room) s m args below meth c Hh lcs 0 0 Q (F0 m 2 ls []) := by
    intro fuel; induction fuel with
    | zero => intro i Hh lcs ls hfu; exact absurd hfu (Nat.not_lt_zero _)
    | succ fuel ih2 =>
      intro i Hh lcs ls hfu2 hi hh hZ hl
      refine lv_iload_n hx hb dAllSearch_meets_2 rfl (lv_at hl 0 rfl) ?_
      refine lv_aload_n hx hb dAllSearch_meets_3 rfl (lv_at hl 1 rfl) ?_
      refine hw_get hx hb hts (hwInn inAllSearch) hown hK hZ f0_ rfl 0 (by decide) (hts (.fieldLink RAllSearch 7 RAllSearch "asked" "LWordIndex2$Terms;") (hwMem mm_111)) (fun _ h => h) rfl dAllSearch_meets_4 ?_
      refine hw_calli (va_runV (As := []) (rest := [.int (nI i)]) ⟨hx, hb, hml, hown, hts⟩ (c_Tm_size l D K X Hh.size (a := a) (k := ka) (N := Na) (ts := ta) f1_) (cwV 0 hts (hwGood (hw_4 mm_152 mm_131 mm_132 mm_89 (hwAll mm_129))) rfl rfl rfl (by decide +kernel) ⟨Nat.le_of_ble_eq_true rfl, Nat.le_of_ble_eq_true rfl⟩) (hw_preV hK hO hZ (tmAt.ob f1_) rfl) rfl rfl hl.1 rfl (lv_room (Nat.le_of_ble_eq_true rfl)) dAllSearch_meets_7 ⟨(show 0 + 0 ≤ 0 by omega), (show 0 + 0 ≤ 0 by omega)⟩) hZ hA (fun r X_1 H_2 lc_3 hp hZ => ?_)
      obtain ⟨hr, hy⟩ := hp
      subst hy
      refine hw_topi hr ?_
      refine hw_ic_ge (a := i) (b := ta.length) (tgt := 49) hx hb dAllSearch_meets_10 (by decide) (by omega) (by omega) (fun cq_4 => ?_) (fun cq_4 => ?_)
      · refine lv_iconst (v := nI 1) hx hb dAllSearch_meets_49 (by decide) ?_
        exact hret (by decide) hZ ⟨by rw [all_true (fun p hp => hh p (by omega))]; rfl, rfl⟩ dAllSearch_meets_50
      · refine lv_aload_n hx hb dAllSearch_meets_13 rfl (lv_at hl 1 rfl) ?_
        refine hw_get hx hb hts (hwInn inAllSearch) hown hK hZ f0_ rfl 0 (by decide) (hts (.fieldLink RAllSearch 7 RAllSearch "asked" "LWordIndex2$Terms;") (hwMem mm_111)) (fun _ h => h) rfl dAllSearch_meets_14 ?_
        refine lv_iload_n hx hb dAllSearch_meets_17 rfl (lv_at hl 0 rfl) ?_
        refine hw_calll (va_runV (As := [.int (nI i)]) (rest := []) ⟨hx, hb, hml, hown, hts⟩ (c_Tm_at l D K X H_2.size (a := a) (k := ka) (N := Na) (ts := ta) (j := i) f1_ (by omega)) (cwV 1 hts (hwGood (hw_4 mm_153 mm_87 mm_88 mm_89 (hwAll mm_85))) rfl rfl rfl (by decide +kernel) ⟨Nat.le_of_ble_eq_true rfl, Nat.le_of_ble_eq_true rfl⟩) (hw_preV hK hO hZ (tmAt.ob f1_) rfl) rfl rfl hl.1 rfl (lv_room (Nat.le_of_ble_eq_true rfl)) dAllSearch_meets_18 ⟨(show 0 + 0 ≤ 0 by omega), (show 0 + 0 ≤ 0 by omega)⟩) hZ hA (fun r X_5 H_6 lc_7 hp hZ => ?_)
        obtain ⟨hr, hy⟩ := hp
        subst hy
        refine hw_topl hr ?_
        refine lv_lconst (v := lN 0) hx hb dAllSearch_meets_21 rfl ?_
        refine hw_lc_eq (a := eW (ta.getD i [])) (b := 0) (tgt := 43) hx hb dAllSearch_meets_22 dAllSearch_meets_23 (by decide) (by first | exact eW_lt63 (by assumption) | exact eW_lt63 (hA2 _) | exact eW_lt63 (hB2 _) | decide) (by first | exact eW_lt63 (by assumption) | exact eW_lt63 (hA2 _) | exact eW_lt63 (hB2 _) | decide) (fun cq_8 => ?_) (fun cq_8 => ?_)
        · refine lv_iinc (v := nI (i + 1)) (lv' := [(2, .int (nI (i + 1))), (0, .ref o), (1, .ref b)]) hx hb dAllSearch_meets_43 hl (k := 0) rfl (nI_add _ 1) (by decide) rfl (fun ls hl => ?_)
          refine lv_goto (tgt := 2) hx hb dAllSearch_meets_46 (by decide) ?_
          exact ih2 (i + 1) _ _ _ (by omega) (by omega) (fun p hp => (Nat.lt_or_eq_of_le (Nat.le_of_lt_succ hp)).elim (fun z => by exact hh p z) (fun z => by subst z; first | exact Or.inl ((eW_zero (hA2 _)).mp cq_8) | exact Or.inr (of_decide_eq_true cq_8)))  hZ (lv_sub hl [0, 1, 2] rfl)
        · refine lv_aload_n hx hb dAllSearch_meets_26 rfl (lv_at hl 2 rfl) ?_
          refine lv_aload_n hx hb dAllSearch_meets_27 rfl (lv_at hl 1 rfl) ?_
          refine hw_get hx hb hts (hwInn inAllSearch) hown hK hZ f0_ rfl 0 (by decide) (hts (.fieldLink RAllSearch 7 RAllSearch "asked" "LWordIndex2$Terms;") (hwMem mm_111)) (fun _ h => h) rfl dAllSearch_meets_28 ?_
          refine lv_iload_n hx hb dAllSearch_meets_31 rfl (lv_at hl 0 rfl) ?_
          refine hw_calll (va_runV (As := [.int (nI i)]) (rest := [.ref b]) ⟨hx, hb, hml, hown, hts⟩ (c_Tm_at l D K X H_6.size (a := a) (k := ka) (N := Na) (ts := ta) (j := i) f1_ (by omega)) (cwV 1 hts (hwGood (hw_4 mm_153 mm_87 mm_88 mm_89 (hwAll mm_85))) rfl rfl rfl (by decide +kernel) ⟨Nat.le_of_ble_eq_true rfl, Nat.le_of_ble_eq_true rfl⟩) (hw_preV hK hO hZ (tmAt.ob f1_) rfl) rfl rfl hl.1 rfl (lv_room (Nat.le_of_ble_eq_true rfl)) dAllSearch_meets_32 ⟨(show 0 + 0 ≤ 0 by omega), (show 0 + 0 ≤ 0 by omega)⟩) hZ hA (fun r X_9 H_10 lc_11 hp hZ => ?_)
          obtain ⟨hr, hy⟩ := hp
          subst hy
          refine hw_topl hr ?_
          refine hw_calli (va_runV (As := [.long (lN (eW (ta.getD i [])))]) (rest := []) ⟨hx, hb, hml, hown, hts⟩ (c_Tm_has l D K X H_10.size (a := b) (k := kb) (N := Nb) (ts := tb) (w := (ta.getD i [])) f2_ (hA2 i)) (cwV 1 hts (hwGood (hw_4 mm_119 mm_120 mm_121 mm_89 (hwAll mm_118))) rfl rfl rfl (by decide +kernel) ⟨Nat.le_of_ble_eq_true rfl, Nat.le_of_ble_eq_true rfl⟩) (hw_preV hK hO hZ (tmAt.ob f2_) rfl) rfl rfl hl.1 rfl (lv_room (Nat.le_of_ble_eq_true rfl)) dAllSearch_meets_35 ⟨(show 0 + 0 ≤ 0 by omega), (show 0 + 0 ≤ 0 by omega)⟩) hZ hA (fun r X_12 H_13 lc_14 hp hZ => ?_)
          obtain ⟨hr, hy⟩ := hp
          subst hy
          refine hw_topi hr ?_
          refine hw_bz_ne (tgt := 43) hx hb dAllSearch_meets_38 (by decide) (fun cq_15 => ?_) (fun cq_15 => ?_)
          · refine lv_iinc (v := nI (i + 1)) (lv' := [(2, .int (nI (i + 1))), (0, .ref o), (1, .ref b)]) hx hb dAllSearch_meets_43 hl (k := 0) rfl (nI_add _ 1) (by decide) rfl (fun ls hl => ?_)
            refine lv_goto (tgt := 2) hx hb dAllSearch_meets_46 (by decide) ?_
            exact ih2 (i + 1) _ _ _ (by omega) (by omega) (fun p hp => (Nat.lt_or_eq_of_le (Nat.le_of_lt_succ hp)).elim (fun z => by exact hh p z) (fun z => by subst z; first | exact Or.inl ((eW_zero (hA2 _)).mp cq_15) | exact Or.inr (of_decide_eq_true cq_15)))  hZ (lv_sub hl [0, 1, 2] rfl)
          · refine lv_iconst (v := nI 0) hx hb dAllSearch_meets_41 (by decide) ?_
            exact hret (by decide) hZ ⟨by rw [all_false (p := i) (by omega) (fun h => h.elim (fun h => cq_8 ((eW_zero (hA2 _)).mpr h)) (of_decide_eq_false cq_15))]; rfl, rfl⟩ dAllSearch_meets_42
  exact loop2 (ta.length - 0 + 1) 0 _ _ _ (by omega) (by omega) (fun p hp => absurd hp (Nat.not_lt_zero _))  hZ (lv_sub hl [0, 1, 2] rfl)
set_option maxHeartbeats 4000000 in
set_option maxRecDepth 100000 in
theorem c_Phr_stands (l : Launch) (D : va_G) (K : Nat → ClassId) (X : hwW) (sz : Nat) (o : Nat) (L : Nat) (a : Nat) (ka : Nat) (Na : Nat) (ta : List (List Nat)) (b : Nat) (kb : Nat) (Nb : Nat) (tb : List (List Nat)) (z0 : Nat) (f0_ : hwH X o L (.inr (7, [.ref a]))) (f1_ : tmAt K X a ka Na ta) (f2_ : tmAt K X b kb Nb tb) (hz0 : z0 ≤ 3000) : Met l yPhraseSearch_standsAt (.code yPhraseSearch_standsAt cPhraseSearch_standsAt 4 (some .boolean) :: hwG) ({ frames := 1, cells := 0, slots := 0, locals := 21 } : Room) (hwPc D vwCl (hwT K) [.ref o, .ref b, .int (nI z0)] X sz) (hwQi D vwCl X sz (fun r Y => r = bI (stL ta tb z0) ∧ X = Y)) 0 0 (va_A X.1 sz) := by
  refine hwMetz (cc := cPhraseSearch_standsAt) (maxL := 4) (by decide) rfl (Nat.le_of_ble_eq_true rfl) (fun p e s m args below meth c ls A Q hx hb hml hown hts hname hret hK hO hZ hA hl => ?_)
  have hl : lv_has ls 4 [(0, .ref o), (1, .ref b), (2, .int (nI z0))] := hl
  have hA2 := fun j => okWs.at (tmAt.oks f1_) j
  have hB2 := fun j => okWs.at (tmAt.oks f2_) j
  have hBN := tmAt.len f2_
  have hAN := tmAt.len f1_
  refine lv_iconst (v := nI 0) hx hb dPhraseSearch_standsAt_0 (by decide) ?_
  refine lv_istore_n (lv' := [(3, .int (nI 0)), (0, .ref o), (1, .ref b), (2, .int (nI z0))]) hx hb dPhraseSearch_standsAt_1 rfl hl (by decide) rfl (fun ls hl => ?_)
  have loop2 : ∀ (fuel : Nat) (i : Nat) (Hh : Heap) (lcs : List Loc) (ls : Array Slot), ta.length - i < fuel → (i ≤ ta.length) → (∀ p, p < i → ta.getD p [] = [] ∨ ta.getD p [] = tb.getD (z0 + p) []) → hwZ D vwCl A s.heap X Hh lcs → lv_has ls 4 [(3, .int (nI i)), (0, .ref o), (1, .ref b), (2, .int (nI z0))] → W p l e ({ frames := 1, cells := 0, slots := 0, locals := 21 } : Room) s m args below meth c Hh lcs 0 0 Q (F0 m 2 ls []) := by
    intro fuel; induction fuel with
    | zero => intro i Hh lcs ls hfu; exact absurd hfu (Nat.not_lt_zero _)
    | succ fuel ih2 =>
      intro i Hh lcs ls hfu2 hi hh hZ hl
      refine lv_iload_n hx hb dPhraseSearch_standsAt_2 rfl (lv_at hl 0 rfl) ?_
      refine lv_aload_n hx hb dPhraseSearch_standsAt_3 rfl (lv_at hl 1 rfl) ?_
      refine hw_get hx hb hts (hwInn inPhraseSearch) hown hK hZ f0_ rfl 0 (by decide) (hts (.fieldLink RPhraseSearch 7 RPhraseSearch "asked" "LWordIndex2$Terms;") (hwMem mm_112)) (fun _ h => h) rfl dPhraseSearch_standsAt_4 ?_
      refine hw_calli (va_runV (As := []) (rest := [.int (nI i)]) ⟨hx, hb, hml, hown, hts⟩ (c_Tm_size l D K X Hh.size (a := a) (k := ka) (N := Na) (ts := ta) f1_) (cwV 0 hts (hwGood (hw_4 mm_154 mm_131 mm_132 mm_89 (hwAll mm_129))) rfl rfl rfl (by decide +kernel) ⟨Nat.le_of_ble_eq_true rfl, Nat.le_of_ble_eq_true rfl⟩) (hw_preV hK hO hZ (tmAt.ob f1_) rfl) rfl rfl hl.1 rfl (lv_room (Nat.le_of_ble_eq_true rfl)) dPhraseSearch_standsAt_7 ⟨(show 0 + 0 ≤ 0 by omega), (show 0 + 0 ≤ 0 by omega)⟩) hZ hA (fun r X_1 H_2 lc_3 hp hZ => ?_)
      obtain ⟨hr, hy⟩ := hp
      subst hy
      refine hw_topi hr ?_
      refine hw_ic_ge (a := i) (b := ta.length) (tgt := 53) hx hb dPhraseSearch_standsAt_10 (by decide) (by omega) (by omega) (fun cq_4 => ?_) (fun cq_4 => ?_)
      · refine lv_iconst (v := nI 1) hx hb dPhraseSearch_standsAt_53 (by decide) ?_
        exact hret (by decide) hZ ⟨by rw [stL_true (fun p hp => hh p (by omega))]; rfl, rfl⟩ dPhraseSearch_standsAt_54
      · refine lv_aload_n hx hb dPhraseSearch_standsAt_13 rfl (lv_at hl 1 rfl) ?_
        refine hw_get hx hb hts (hwInn inPhraseSearch) hown hK hZ f0_ rfl 0 (by decide) (hts (.fieldLink RPhraseSearch 7 RPhraseSearch "asked" "LWordIndex2$Terms;") (hwMem mm_112)) (fun _ h => h) rfl dPhraseSearch_standsAt_14 ?_
        refine lv_iload_n hx hb dPhraseSearch_standsAt_17 rfl (lv_at hl 0 rfl) ?_
        refine hw_calll (va_runV (As := [.int (nI i)]) (rest := []) ⟨hx, hb, hml, hown, hts⟩ (c_Tm_at l D K X H_2.size (a := a) (k := ka) (N := Na) (ts := ta) (j := i) f1_ (by omega)) (cwV 1 hts (hwGood (hw_4 mm_155 mm_87 mm_88 mm_89 (hwAll mm_85))) rfl rfl rfl (by decide +kernel) ⟨Nat.le_of_ble_eq_true rfl, Nat.le_of_ble_eq_true rfl⟩) (hw_preV hK hO hZ (tmAt.ob f1_) rfl) rfl rfl hl.1 rfl (lv_room (Nat.le_of_ble_eq_true rfl)) dPhraseSearch_standsAt_18 ⟨(show 0 + 0 ≤ 0 by omega), (show 0 + 0 ≤ 0 by omega)⟩) hZ hA (fun r X_5 H_6 lc_7 hp hZ => ?_)
        obtain ⟨hr, hy⟩ := hp
        subst hy
        refine hw_topl hr ?_
        refine lv_lconst (v := lN 0) hx hb dPhraseSearch_standsAt_21 rfl ?_
        refine hw_lc_eq (a := eW (ta.getD i [])) (b := 0) (tgt := 47) hx hb dPhraseSearch_standsAt_22 dPhraseSearch_standsAt_23 (by decide) (by first | exact eW_lt63 (by assumption) | exact eW_lt63 (hA2 _) | exact eW_lt63 (hB2 _) | decide) (by first | exact eW_lt63 (by assumption) | exact eW_lt63 (hA2 _) | exact eW_lt63 (hB2 _) | decide) (fun cq_8 => ?_) (fun cq_8 => ?_)
        · refine lv_iinc (v := nI (i + 1)) (lv' := [(3, .int (nI (i + 1))), (0, .ref o), (1, .ref b), (2, .int (nI z0))]) hx hb dPhraseSearch_standsAt_47 hl (k := 0) rfl (nI_add _ 1) (by decide) rfl (fun ls hl => ?_)
          refine lv_goto (tgt := 2) hx hb dPhraseSearch_standsAt_50 (by decide) ?_
          exact ih2 (i + 1) _ _ _ (by omega) (by omega) (fun p hp => (Nat.lt_or_eq_of_le (Nat.le_of_lt_succ hp)).elim (fun z => hh p z) (fun z => by subst z; first | exact Or.inl ((eW_zero (hA2 _)).mp cq_8) | exact Or.inr ((eW_inj (hA2 _) (hB2 _)).mp cq_8)))  hZ (lv_sub hl [0, 1, 2, 3] rfl)
        · refine lv_aload_n hx hb dPhraseSearch_standsAt_26 rfl (lv_at hl 1 rfl) ?_
          refine hw_get hx hb hts (hwInn inPhraseSearch) hown hK hZ f0_ rfl 0 (by decide) (hts (.fieldLink RPhraseSearch 7 RPhraseSearch "asked" "LWordIndex2$Terms;") (hwMem mm_112)) (fun _ h => h) rfl dPhraseSearch_standsAt_27 ?_
          refine lv_iload_n hx hb dPhraseSearch_standsAt_30 rfl (lv_at hl 0 rfl) ?_
          refine hw_calll (va_runV (As := [.int (nI i)]) (rest := []) ⟨hx, hb, hml, hown, hts⟩ (c_Tm_at l D K X H_6.size (a := a) (k := ka) (N := Na) (ts := ta) (j := i) f1_ (by omega)) (cwV 1 hts (hwGood (hw_4 mm_155 mm_87 mm_88 mm_89 (hwAll mm_85))) rfl rfl rfl (by decide +kernel) ⟨Nat.le_of_ble_eq_true rfl, Nat.le_of_ble_eq_true rfl⟩) (hw_preV hK hO hZ (tmAt.ob f1_) rfl) rfl rfl hl.1 rfl (lv_room (Nat.le_of_ble_eq_true rfl)) dPhraseSearch_standsAt_31 ⟨(show 0 + 0 ≤ 0 by omega), (show 0 + 0 ≤ 0 by omega)⟩) hZ hA (fun r X_9 H_10 lc_11 hp hZ => ?_)
          obtain ⟨hr, hy⟩ := hp
          subst hy
          refine hw_topl hr ?_
          refine lv_aload_n hx hb dPhraseSearch_standsAt_34 rfl (lv_at hl 2 rfl) ?_
          refine lv_iload_n hx hb dPhraseSearch_standsAt_35 rfl (lv_at hl 3 rfl) ?_
          refine lv_iload_n hx hb dPhraseSearch_standsAt_36 rfl (lv_at hl 0 rfl) ?_
          refine lv_iadd hx hb dPhraseSearch_standsAt_37 ?_
          refine hw_topi (nI_add z0 i) ?_
          refine hw_calll (va_runV (As := [.int (nI (z0 + i))]) (rest := [.long (lN (eW (ta.getD i [])))]) ⟨hx, hb, hml, hown, hts⟩ (c_Tm_at l D K X H_10.size (a := b) (k := kb) (N := Nb) (ts := tb) (j := z0 + i) f2_ (by omega)) (cwV 1 hts (hwGood (hw_4 mm_155 mm_87 mm_88 mm_89 (hwAll mm_85))) rfl rfl rfl (by decide +kernel) ⟨Nat.le_of_ble_eq_true rfl, Nat.le_of_ble_eq_true rfl⟩) (hw_preV hK hO hZ (tmAt.ob f2_) rfl) rfl rfl hl.1 rfl (lv_room (Nat.le_of_ble_eq_true rfl)) dPhraseSearch_standsAt_38 ⟨(show 0 + 0 ≤ 0 by omega), (show 0 + 0 ≤ 0 by omega)⟩) hZ hA (fun r X_12 H_13 lc_14 hp hZ => ?_)
          obtain ⟨hr, hy⟩ := hp
          subst hy
          refine hw_topl hr ?_
          refine hw_lc_eq (a := eW (ta.getD i [])) (b := eW (tb.getD (z0 + i) [])) (tgt := 47) hx hb dPhraseSearch_standsAt_41 dPhraseSearch_standsAt_42 (by decide) (by first | exact eW_lt63 (by assumption) | exact eW_lt63 (hA2 _) | exact eW_lt63 (hB2 _) | decide) (by first | exact eW_lt63 (by assumption) | exact eW_lt63 (hA2 _) | exact eW_lt63 (hB2 _) | decide) (fun cq_15 => ?_) (fun cq_15 => ?_)
          · refine lv_iinc (v := nI (i + 1)) (lv' := [(3, .int (nI (i + 1))), (0, .ref o), (1, .ref b), (2, .int (nI z0))]) hx hb dPhraseSearch_standsAt_47 hl (k := 0) rfl (nI_add _ 1) (by decide) rfl (fun ls hl => ?_)
            refine lv_goto (tgt := 2) hx hb dPhraseSearch_standsAt_50 (by decide) ?_
            exact ih2 (i + 1) _ _ _ (by omega) (by omega) (fun p hp => (Nat.lt_or_eq_of_le (Nat.le_of_lt_succ hp)).elim (fun z => hh p z) (fun z => by subst z; first | exact Or.inl ((eW_zero (hA2 _)).mp cq_15) | exact Or.inr ((eW_inj (hA2 _) (hB2 _)).mp cq_15)))  hZ (lv_sub hl [0, 1, 2, 3] rfl)
          · refine lv_iconst (v := nI 0) hx hb dPhraseSearch_standsAt_45 (by decide) ?_
            exact hret (by decide) hZ ⟨by rw [stL_false (p := i) (by omega) (fun h => h.elim (fun h => cq_8 ((eW_zero (hA2 _)).mpr h)) (fun h => cq_15 ((eW_inj (hA2 _) (hB2 _)).mpr h)))]; rfl, rfl⟩ dPhraseSearch_standsAt_46
  exact loop2 (ta.length - 0 + 1) 0 _ _ _ (by omega) (by omega) (fun p hp => absurd hp (Nat.not_lt_zero _))  hZ (lv_sub hl [0, 1, 2, 3] rfl)
set_option maxHeartbeats 4000000 in
set_option maxRecDepth 100000 in
theorem c_Phr_meets (l : Launch) (D : va_G) (K : Nat → ClassId) (X : hwW) (sz : Nat) (o : Nat) (L : Nat) (a : Nat) (ka : Nat) (Na : Nat) (ta : List (List Nat)) (b : Nat) (kb : Nat) (Nb : Nat) (tb : List (List Nat)) (f0_ : hwH X o L (.inr (7, [.ref a]))) (f1_ : tmAt K X a ka Na ta) (f2_ : tmAt K X b kb Nb tb) : Met l yPhraseSearch_meets (.code yPhraseSearch_meets cPhraseSearch_meets 3 (some .boolean) :: hwG) ({ frames := 2, cells := 0, slots := 0, locals := 44 } : Room) (hwPc D vwCl (hwT K) [.ref o, .ref b] X sz) (hwQi D vwCl X sz (fun r Y => r = bI (phL ta tb) ∧ X = Y)) 0 0 (va_A X.1 sz) := by
  refine hwMetz (cc := cPhraseSearch_meets) (maxL := 3) (by decide) rfl (Nat.le_of_ble_eq_true rfl) (fun p e s m args below meth c ls A Q hx hb hml hown hts hname hret hK hO hZ hA hl => ?_)
  have hl : lv_has ls 3 [(0, .ref o), (1, .ref b)] := hl
  have hA2 := fun j => okWs.at (tmAt.oks f1_) j
  have hB2 := fun j => okWs.at (tmAt.oks f2_) j
  have hBN := tmAt.len f2_
  have hAN := tmAt.len f1_
  refine lv_iconst (v := nI 0) hx hb dPhraseSearch_meets_0 (by decide) ?_
  refine lv_istore_n (lv' := [(2, .int (nI 0)), (0, .ref o), (1, .ref b)]) hx hb dPhraseSearch_meets_1 rfl hl (by decide) rfl (fun ls hl => ?_)
  have loop2 : ∀ (fuel : Nat) (i : Nat) (Hh : Heap) (lcs : List Loc) (ls : Array Slot), tb.length + 1 - i < fuel → (i ≤ tb.length + 1) → (∀ p, p < i → stL ta tb p = false) → hwZ D vwCl A s.heap X Hh lcs → lv_has ls 3 [(2, .int (nI i)), (0, .ref o), (1, .ref b)] → W p l e ({ frames := 2, cells := 0, slots := 0, locals := 44 } : Room) s m args below meth c Hh lcs 0 0 Q (F0 m 2 ls []) := by
    intro fuel; induction fuel with
    | zero => intro i Hh lcs ls hfu; exact absurd hfu (Nat.not_lt_zero _)
    | succ fuel ih2 =>
      intro i Hh lcs ls hfu2 hi hh hZ hl
      refine lv_iload_n hx hb dPhraseSearch_meets_2 rfl (lv_at hl 0 rfl) ?_
      refine lv_aload_n hx hb dPhraseSearch_meets_3 rfl (lv_at hl 1 rfl) ?_
      refine hw_get hx hb hts (hwInn inPhraseSearch) hown hK hZ f0_ rfl 0 (by decide) (hts (.fieldLink RPhraseSearch 7 RPhraseSearch "asked" "LWordIndex2$Terms;") (hwMem mm_112)) (fun _ h => h) rfl dPhraseSearch_meets_4 ?_
      refine hw_calli (va_runV (As := []) (rest := [.int (nI i)]) ⟨hx, hb, hml, hown, hts⟩ (c_Tm_size l D K X Hh.size (a := a) (k := ka) (N := Na) (ts := ta) f1_) (cwV 0 hts (hwGood (hw_4 mm_154 mm_131 mm_132 mm_89 (hwAll mm_129))) rfl rfl rfl (by decide +kernel) ⟨Nat.le_of_ble_eq_true rfl, Nat.le_of_ble_eq_true rfl⟩) (hw_preV hK hO hZ (tmAt.ob f1_) rfl) rfl rfl hl.1 rfl (lv_room (Nat.le_of_ble_eq_true rfl)) dPhraseSearch_meets_7 ⟨(show 0 + 0 ≤ 0 by omega), (show 0 + 0 ≤ 0 by omega)⟩) hZ hA (fun r X_1 H_2 lc_3 hp hZ => ?_)
      obtain ⟨hr, hy⟩ := hp
      subst hy
      refine hw_topi hr ?_
      refine lv_iadd hx hb dPhraseSearch_meets_10 ?_
      refine hw_topi (nI_add i ta.length) ?_
      refine lv_aload_n hx hb dPhraseSearch_meets_11 rfl (lv_at hl 2 rfl) ?_
      refine hw_calli (va_runV (As := []) (rest := [.int (nI (i + ta.length))]) ⟨hx, hb, hml, hown, hts⟩ (c_Tm_size l D K X H_2.size (a := b) (k := kb) (N := Nb) (ts := tb) f2_) (cwV 0 hts (hwGood (hw_4 mm_154 mm_131 mm_132 mm_89 (hwAll mm_129))) rfl rfl rfl (by decide +kernel) ⟨Nat.le_of_ble_eq_true rfl, Nat.le_of_ble_eq_true rfl⟩) (hw_preV hK hO hZ (tmAt.ob f2_) rfl) rfl rfl hl.1 rfl (lv_room (Nat.le_of_ble_eq_true rfl)) dPhraseSearch_meets_12 ⟨(show 0 + 0 ≤ 0 by omega), (show 0 + 0 ≤ 0 by omega)⟩) hZ hA (fun r X_4 H_5 lc_6 hp hZ => ?_)
      obtain ⟨hr, hy⟩ := hp
      subst hy
      refine hw_topi hr ?_
      refine hw_ic_gt (a := i + ta.length) (b := tb.length) (tgt := 35) hx hb dPhraseSearch_meets_15 (by decide) (by omega) (by omega) (fun cq_7 => ?_) (fun cq_7 => ?_)
      · refine lv_iconst (v := nI 0) hx hb dPhraseSearch_meets_35 (by decide) ?_
        exact hret (by decide) hZ ⟨by rw [phL_false (fun p hp => hh p (by omega))]; rfl, rfl⟩ dPhraseSearch_meets_36
      · refine lv_aload_n hx hb dPhraseSearch_meets_18 rfl (lv_at hl 1 rfl) ?_
        refine lv_aload_n hx hb dPhraseSearch_meets_19 rfl (lv_at hl 2 rfl) ?_
        refine lv_iload_n hx hb dPhraseSearch_meets_20 rfl (lv_at hl 0 rfl) ?_
        refine hw_calli (va_runV (As := [.ref b, .int (nI i)]) (rest := []) ⟨hx, hb, hml, hown, hts⟩ (c_Phr_stands l D K X H_5.size (o := o) (L := L) (a := a) (ka := ka) (Na := Na) (ta := ta) (b := b) (kb := kb) (Nb := Nb) (tb := tb) (z0 := i) f0_ f1_ f2_ (by omega)) (cwV 2 hts (hwGood (hw_4 mm_157 mm_158 mm_159 mm_143 (hwAll mm_156))) rfl rfl rfl (by decide +kernel) ⟨Nat.le_of_ble_eq_true rfl, Nat.le_of_ble_eq_true rfl⟩) (hw_preV hK hO hZ (⟨_, _, f0_⟩) rfl) rfl rfl hl.1 rfl (lv_room (Nat.le_of_ble_eq_true rfl)) dPhraseSearch_meets_21 ⟨(show 0 + 0 ≤ 0 by omega), (show 0 + 0 ≤ 0 by omega)⟩) hZ hA (fun r X_8 H_9 lc_10 hp hZ => ?_)
        obtain ⟨hr, hy⟩ := hp
        subst hy
        refine hw_topi hr ?_
        refine hw_bz_eq (tgt := 29) hx hb dPhraseSearch_meets_24 (by decide) (fun cq_11 => ?_) (fun cq_11 => ?_)
        · refine lv_iinc (v := nI (i + 1)) (lv' := [(2, .int (nI (i + 1))), (0, .ref o), (1, .ref b)]) hx hb dPhraseSearch_meets_29 hl (k := 0) rfl (nI_add _ 1) (by decide) rfl (fun ls hl => ?_)
          refine lv_goto (tgt := 2) hx hb dPhraseSearch_meets_32 (by decide) ?_
          exact ih2 (i + 1) _ _ _ (by omega) (by omega) (fun p hp => (Nat.lt_or_eq_of_le (Nat.le_of_lt_succ hp)).elim (fun z => hh p z) (fun z => by subst z; exact cq_11))  hZ (lv_sub hl [0, 1, 2] rfl)
        · refine lv_iconst (v := nI 1) hx hb dPhraseSearch_meets_27 (by decide) ?_
          exact hret (by decide) hZ ⟨by rw [phL_true (p := i) (by omega) cq_11]; rfl, rfl⟩ dPhraseSearch_meets_28
  exact loop2 (tb.length + 1 - 0 + 1) 0 _ _ _ (by omega) (by omega) (fun p hp => absurd hp (Nat.not_lt_zero _))  hZ (lv_sub hl [0, 1, 2] rfl)
set_option maxHeartbeats 4000000 in
set_option maxRecDepth 100000 in
theorem c_Nea_beside (l : Launch) (D : va_G) (K : Nat → ClassId) (X : hwW) (sz : Nat) (o : Nat) (L : Nat) (u : List Nat) (v : List Nat) (dd : Nat) (b : Nat) (kb : Nat) (Nb : Nat) (tb : List (List Nat)) (pl : Nat) (f0_ : hwH X o L (.inr (8, [.long (lN (eW u)), .long (lN (eW v)), .int (nI dd)]))) (f1_ : tmAt K X b kb Nb tb) (hu : okW u) (hv : okW v) (hdd : dd < 2147483648) (hpl : pl ≤ 3000) : Met l yNearSearch_secondIsBeside (.code yNearSearch_secondIsBeside cNearSearch_secondIsBeside 5 (some .boolean) :: hwG) ({ frames := 1, cells := 0, slots := 0, locals := 22 } : Room) (hwPc D vwCl (hwT K) [.ref o, .ref b, .int (nI pl)] X sz) (hwQi D vwCl X sz (fun r Y => r = bI (beL tb v dd pl) ∧ X = Y)) 0 0 (va_A X.1 sz) := by
  refine hwMetz (cc := cNearSearch_secondIsBeside) (maxL := 5) (by decide) rfl (Nat.le_of_ble_eq_true rfl) (fun p e s m args below meth c ls A Q hx hb hml hown hts hname hret hK hO hZ hA hl => ?_)
  have hl : lv_has ls 5 [(0, .ref o), (1, .ref b), (2, .int (nI pl))] := hl
  have hB2 := fun j => okWs.at (tmAt.oks f1_) j
  have hBN := tmAt.len f1_
  refine lv_iconst (v := nI 0) hx hb dNearSearch_secondIsBeside_0 (by decide) ?_
  refine lv_istore_n (lv' := [(3, .int (nI 0)), (0, .ref o), (1, .ref b), (2, .int (nI pl))]) hx hb dNearSearch_secondIsBeside_1 rfl hl (by decide) rfl (fun ls hl => ?_)
  have loop2 : ∀ (fuel : Nat) (i : Nat) (Hh : Heap) (lcs : List Loc) (ls : Array Slot), tb.length - i < fuel → (i ≤ tb.length) → (∀ p, p < i → ¬ (p ≠ pl ∧ nd p pl ≤ dd ∧ tb.getD p [] = v)) → hwZ D vwCl A s.heap X Hh lcs → lv_has ls 5 [(3, .int (nI i)), (0, .ref o), (1, .ref b), (2, .int (nI pl))] → W p l e ({ frames := 1, cells := 0, slots := 0, locals := 22 } : Room) s m args below meth c Hh lcs 0 0 Q (F0 m 2 ls []) := by
    intro fuel; induction fuel with
    | zero => intro i Hh lcs ls hfu; exact absurd hfu (Nat.not_lt_zero _)
    | succ fuel ih2 =>
      intro i Hh lcs ls hfu2 hi hh hZ hl
      refine lv_iload_n hx hb dNearSearch_secondIsBeside_2 rfl (lv_at hl 0 rfl) ?_
      refine lv_aload_n hx hb dNearSearch_secondIsBeside_3 rfl (lv_at hl 2 rfl) ?_
      refine hw_calli (va_runV (As := []) (rest := [.int (nI i)]) ⟨hx, hb, hml, hown, hts⟩ (c_Tm_size l D K X Hh.size (a := b) (k := kb) (N := Nb) (ts := tb) f1_) (cwV 0 hts (hwGood (hw_4 mm_160 mm_131 mm_132 mm_89 (hwAll mm_129))) rfl rfl rfl (by decide +kernel) ⟨Nat.le_of_ble_eq_true rfl, Nat.le_of_ble_eq_true rfl⟩) (hw_preV hK hO hZ (tmAt.ob f1_) rfl) rfl rfl hl.1 rfl (lv_room (Nat.le_of_ble_eq_true rfl)) dNearSearch_secondIsBeside_4 ⟨(show 0 + 0 ≤ 0 by omega), (show 0 + 0 ≤ 0 by omega)⟩) hZ hA (fun r X_1 H_2 lc_3 hp hZ => ?_)
      obtain ⟨hr, hy⟩ := hp
      subst hy
      refine hw_topi hr ?_
      refine hw_ic_ge (a := i) (b := tb.length) (tgt := 61) hx hb dNearSearch_secondIsBeside_7 (by decide) (by omega) (by omega) (fun cq_4 => ?_) (fun cq_4 => ?_)
      · refine lv_iconst (v := nI 0) hx hb dNearSearch_secondIsBeside_61 (by decide) ?_
        exact hret (by decide) hZ ⟨by rw [beL_false (fun p hp => hh p (by omega))]; rfl, rfl⟩ dNearSearch_secondIsBeside_62
      · refine lv_iload_n hx hb dNearSearch_secondIsBeside_10 rfl (lv_at hl 0 rfl) ?_
        refine lv_iload_n hx hb dNearSearch_secondIsBeside_11 rfl (lv_at hl 3 rfl) ?_
        refine hw_ic_eq (a := i) (b := pl) (tgt := 32) hx hb dNearSearch_secondIsBeside_12 (by decide) (by omega) (by omega) (fun cq_5 => ?_) (fun cq_5 => ?_)
        · refine lv_iconst (v := nI 0) hx hb dNearSearch_secondIsBeside_32 (by decide) ?_
          refine lv_istore (lv' := [(4, .int (nI 0)), (3, .int (nI i)), (0, .ref o), (1, .ref b), (2, .int (nI pl))]) hx hb dNearSearch_secondIsBeside_33 hl (by decide) rfl (fun ls hl => ?_)
          refine lv_iload hx hb dNearSearch_secondIsBeside_35 (lv_at hl 0 rfl) ?_
          refine hw_if_eq (a := 0) (tgt := 55) hx hb dNearSearch_secondIsBeside_37 (by decide) (by omega) (fun cq_6 => ?_) (fun cq_6 => by exfalso; omega)
          refine lv_iinc (v := nI (i + 1)) (lv' := [(3, .int (nI (i + 1))), (4, .int (nI 0)), (0, .ref o), (1, .ref b), (2, .int (nI pl))]) hx hb dNearSearch_secondIsBeside_55 hl (k := 1) rfl (nI_add _ 1) (by decide) rfl (fun ls hl => ?_)
          refine lv_goto (tgt := 2) hx hb dNearSearch_secondIsBeside_58 (by decide) ?_
          exact ih2 (i + 1) _ _ _ (by omega) (by omega) (fun p hp => (Nat.lt_or_eq_of_le (Nat.le_of_lt_succ hp)).elim (fun z => hh p z) (fun z => by subst z; exact (fun h => h.1 cq_5)))  hZ (lv_sub hl [0, 2, 3, 4] rfl)
        · refine lv_iload_n hx hb dNearSearch_secondIsBeside_15 rfl (lv_at hl 0 rfl) ?_
          refine lv_iload_n hx hb dNearSearch_secondIsBeside_16 rfl (lv_at hl 3 rfl) ?_
          refine lv_isub hx hb dNearSearch_secondIsBeside_17 ?_
          refine va_mabs hx hb (hml.trans hl.1.symm) hown (hts (.methodLink RNearSearch 34 Lib.Math.abs.name) (hwMem mm_161)) (hts (.static Lib.Math.abs.name) (hwMem mm_162)) (hts (.initialized "java/lang/Math") (hwMem mm_19)) (hts (.code Lib.Math.abs.name Lib.Math.abs.code 1 (some .int)) (hwMem mm_163)) (Nat.le_of_ble_eq_true rfl) (Nat.le_of_ble_eq_true rfl) (show 0 ≤ 0 by omega) (show 0 ≤ 0 by omega) dNearSearch_secondIsBeside_18 ?_
          refine hw_topi (hw_nabs (a := i) (b := pl) (by omega) (by omega)) ?_
          have hnd := nd_le i pl
          refine lv_aload_n hx hb dNearSearch_secondIsBeside_21 rfl (lv_at hl 1 rfl) ?_
          refine hw_get hx hb hts (hwInn inNearSearch) hown hK hZ f0_ rfl 2 (by decide) (hts (.fieldLink RNearSearch 16 RNearSearch "distance" "I") (hwMem mm_115)) (fun _ h => h) rfl dNearSearch_secondIsBeside_22 ?_
          refine hw_ic_gt (a := nd i pl) (b := dd) (tgt := 32) hx hb dNearSearch_secondIsBeside_25 (by decide) (by omega) (by omega) (fun cq_7 => ?_) (fun cq_7 => ?_)
          · refine lv_iconst (v := nI 0) hx hb dNearSearch_secondIsBeside_32 (by decide) ?_
            refine lv_istore (lv' := [(4, .int (nI 0)), (3, .int (nI i)), (0, .ref o), (1, .ref b), (2, .int (nI pl))]) hx hb dNearSearch_secondIsBeside_33 hl (by decide) rfl (fun ls hl => ?_)
            refine lv_iload hx hb dNearSearch_secondIsBeside_35 (lv_at hl 0 rfl) ?_
            refine hw_if_eq (a := 0) (tgt := 55) hx hb dNearSearch_secondIsBeside_37 (by decide) (by omega) (fun cq_8 => ?_) (fun cq_8 => by exfalso; omega)
            refine lv_iinc (v := nI (i + 1)) (lv' := [(3, .int (nI (i + 1))), (4, .int (nI 0)), (0, .ref o), (1, .ref b), (2, .int (nI pl))]) hx hb dNearSearch_secondIsBeside_55 hl (k := 1) rfl (nI_add _ 1) (by decide) rfl (fun ls hl => ?_)
            refine lv_goto (tgt := 2) hx hb dNearSearch_secondIsBeside_58 (by decide) ?_
            exact ih2 (i + 1) _ _ _ (by omega) (by omega) (fun p hp => (Nat.lt_or_eq_of_le (Nat.le_of_lt_succ hp)).elim (fun z => hh p z) (fun z => by subst z; exact (fun h => absurd h.2.1 (by omega))))  hZ (lv_sub hl [0, 2, 3, 4] rfl)
          · refine lv_iconst (v := nI 1) hx hb dNearSearch_secondIsBeside_28 (by decide) ?_
            refine lv_goto (tgt := 33) hx hb dNearSearch_secondIsBeside_29 (by decide) ?_
            refine lv_istore (lv' := [(4, .int (nI 1)), (3, .int (nI i)), (0, .ref o), (1, .ref b), (2, .int (nI pl))]) hx hb dNearSearch_secondIsBeside_33 hl (by decide) rfl (fun ls hl => ?_)
            refine lv_iload hx hb dNearSearch_secondIsBeside_35 (lv_at hl 0 rfl) ?_
            refine hw_if_eq (a := 1) (tgt := 55) hx hb dNearSearch_secondIsBeside_37 (by decide) (by omega) (fun cq_9 => by exfalso; omega) (fun cq_9 => ?_)
            refine lv_aload_n hx hb dNearSearch_secondIsBeside_40 rfl (lv_at hl 3 rfl) ?_
            refine lv_iload_n hx hb dNearSearch_secondIsBeside_41 rfl (lv_at hl 1 rfl) ?_
            refine hw_calll (va_runV (As := [.int (nI i)]) (rest := []) ⟨hx, hb, hml, hown, hts⟩ (c_Tm_at l D K X H_2.size (a := b) (k := kb) (N := Nb) (ts := tb) (j := i) f1_ (by omega)) (cwV 1 hts (hwGood (hw_4 mm_164 mm_87 mm_88 mm_89 (hwAll mm_85))) rfl rfl rfl (by decide +kernel) ⟨Nat.le_of_ble_eq_true rfl, Nat.le_of_ble_eq_true rfl⟩) (hw_preV hK hO hZ (tmAt.ob f1_) rfl) rfl rfl hl.1 rfl (lv_room (Nat.le_of_ble_eq_true rfl)) dNearSearch_secondIsBeside_42 ⟨(show 0 + 0 ≤ 0 by omega), (show 0 + 0 ≤ 0 by omega)⟩) hZ hA (fun r X_10 H_11 lc_12 hp hZ => ?_)
            obtain ⟨hr, hy⟩ := hp
            subst hy
            refine hw_topl hr ?_
            refine lv_aload_n hx hb dNearSearch_secondIsBeside_45 rfl (lv_at hl 2 rfl) ?_
            refine hw_get hx hb hts (hwInn inNearSearch) hown hK hZ f0_ rfl 1 (by decide) (hts (.fieldLink RNearSearch 13 RNearSearch "second" "J") (hwMem mm_114)) (fun _ h => h) rfl dNearSearch_secondIsBeside_46 ?_
            refine hw_lc_ne (a := eW (tb.getD i [])) (b := eW v) (tgt := 55) hx hb dNearSearch_secondIsBeside_49 dNearSearch_secondIsBeside_50 (by decide) (by first | exact eW_lt63 (by assumption) | exact eW_lt63 (hA2 _) | exact eW_lt63 (hB2 _) | decide) (by first | exact eW_lt63 (by assumption) | exact eW_lt63 (hA2 _) | exact eW_lt63 (hB2 _) | decide) (fun cq_13 => ?_) (fun cq_13 => ?_)
            · refine lv_iinc (v := nI (i + 1)) (lv' := [(3, .int (nI (i + 1))), (4, .int (nI 1)), (0, .ref o), (1, .ref b), (2, .int (nI pl))]) hx hb dNearSearch_secondIsBeside_55 hl (k := 1) rfl (nI_add _ 1) (by decide) rfl (fun ls hl => ?_)
              refine lv_goto (tgt := 2) hx hb dNearSearch_secondIsBeside_58 (by decide) ?_
              exact ih2 (i + 1) _ _ _ (by omega) (by omega) (fun p hp => (Nat.lt_or_eq_of_le (Nat.le_of_lt_succ hp)).elim (fun z => hh p z) (fun z => by subst z; exact (fun h => cq_13 ((eW_inj (hB2 _) hv).mpr h.2.2))))  hZ (lv_sub hl [0, 2, 3, 4] rfl)
            · refine lv_iconst (v := nI 1) hx hb dNearSearch_secondIsBeside_53 (by decide) ?_
              exact hret (by decide) hZ ⟨by rw [beL_true (p := i) (by omega) ⟨cq_5, cq_7, (eW_inj (hB2 _) hv).mp cq_13⟩]; rfl, rfl⟩ dNearSearch_secondIsBeside_54
  exact loop2 (tb.length - 0 + 1) 0 _ _ _ (by omega) (by omega) (fun p hp => absurd hp (Nat.not_lt_zero _))  hZ (lv_sub hl [0, 1, 2, 3] rfl)
set_option maxHeartbeats 4000000 in
set_option maxRecDepth 100000 in
theorem c_Nea_meets (l : Launch) (D : va_G) (K : Nat → ClassId) (X : hwW) (sz : Nat) (o : Nat) (L : Nat) (u : List Nat) (v : List Nat) (dd : Nat) (b : Nat) (kb : Nat) (Nb : Nat) (tb : List (List Nat)) (f0_ : hwH X o L (.inr (8, [.long (lN (eW u)), .long (lN (eW v)), .int (nI dd)]))) (f1_ : tmAt K X b kb Nb tb) (hu : okW u) (hv : okW v) (hdd : dd < 2147483648) : Met l yNearSearch_meets (.code yNearSearch_meets cNearSearch_meets 3 (some .boolean) :: hwG) ({ frames := 2, cells := 0, slots := 0, locals := 46 } : Room) (hwPc D vwCl (hwT K) [.ref o, .ref b] X sz) (hwQi D vwCl X sz (fun r Y => r = bI (neL tb u v dd) ∧ X = Y)) 0 0 (va_A X.1 sz) := by
  refine hwMetz (cc := cNearSearch_meets) (maxL := 3) (by decide) rfl (Nat.le_of_ble_eq_true rfl) (fun p e s m args below meth c ls A Q hx hb hml hown hts hname hret hK hO hZ hA hl => ?_)
  have hl : lv_has ls 3 [(0, .ref o), (1, .ref b)] := hl
  have hB2 := fun j => okWs.at (tmAt.oks f1_) j
  have hBN := tmAt.len f1_
  refine lv_iconst (v := nI 0) hx hb dNearSearch_meets_0 (by decide) ?_
  refine lv_istore_n (lv' := [(2, .int (nI 0)), (0, .ref o), (1, .ref b)]) hx hb dNearSearch_meets_1 rfl hl (by decide) rfl (fun ls hl => ?_)
  have loop2 : ∀ (fuel : Nat) (i : Nat) (Hh : Heap) (lcs : List Loc) (ls : Array Slot), tb.length - i < fuel → (i ≤ tb.length) → (∀ p, p < i → ¬ (tb.getD p [] = u ∧ beL tb v dd p = true)) → hwZ D vwCl A s.heap X Hh lcs → lv_has ls 3 [(2, .int (nI i)), (0, .ref o), (1, .ref b)] → W p l e ({ frames := 2, cells := 0, slots := 0, locals := 46 } : Room) s m args below meth c Hh lcs 0 0 Q (F0 m 2 ls []) := by
    intro fuel; induction fuel with
    | zero => intro i Hh lcs ls hfu; exact absurd hfu (Nat.not_lt_zero _)
    | succ fuel ih2 =>
      intro i Hh lcs ls hfu2 hi hh hZ hl
      refine lv_iload_n hx hb dNearSearch_meets_2 rfl (lv_at hl 0 rfl) ?_
      refine lv_aload_n hx hb dNearSearch_meets_3 rfl (lv_at hl 2 rfl) ?_
      refine hw_calli (va_runV (As := []) (rest := [.int (nI i)]) ⟨hx, hb, hml, hown, hts⟩ (c_Tm_size l D K X Hh.size (a := b) (k := kb) (N := Nb) (ts := tb) f1_) (cwV 0 hts (hwGood (hw_4 mm_160 mm_131 mm_132 mm_89 (hwAll mm_129))) rfl rfl rfl (by decide +kernel) ⟨Nat.le_of_ble_eq_true rfl, Nat.le_of_ble_eq_true rfl⟩) (hw_preV hK hO hZ (tmAt.ob f1_) rfl) rfl rfl hl.1 rfl (lv_room (Nat.le_of_ble_eq_true rfl)) dNearSearch_meets_4 ⟨(show 0 + 0 ≤ 0 by omega), (show 0 + 0 ≤ 0 by omega)⟩) hZ hA (fun r X_1 H_2 lc_3 hp hZ => ?_)
      obtain ⟨hr, hy⟩ := hp
      subst hy
      refine hw_topi hr ?_
      refine hw_ic_ge (a := i) (b := tb.length) (tgt := 40) hx hb dNearSearch_meets_7 (by decide) (by omega) (by omega) (fun cq_4 => ?_) (fun cq_4 => ?_)
      · refine lv_iconst (v := nI 0) hx hb dNearSearch_meets_40 (by decide) ?_
        exact hret (by decide) hZ ⟨by rw [neL_false (fun p hp => hh p (by omega))]; rfl, rfl⟩ dNearSearch_meets_41
      · refine lv_aload_n hx hb dNearSearch_meets_10 rfl (lv_at hl 2 rfl) ?_
        refine lv_iload_n hx hb dNearSearch_meets_11 rfl (lv_at hl 0 rfl) ?_
        refine hw_calll (va_runV (As := [.int (nI i)]) (rest := []) ⟨hx, hb, hml, hown, hts⟩ (c_Tm_at l D K X H_2.size (a := b) (k := kb) (N := Nb) (ts := tb) (j := i) f1_ (by omega)) (cwV 1 hts (hwGood (hw_4 mm_164 mm_87 mm_88 mm_89 (hwAll mm_85))) rfl rfl rfl (by decide +kernel) ⟨Nat.le_of_ble_eq_true rfl, Nat.le_of_ble_eq_true rfl⟩) (hw_preV hK hO hZ (tmAt.ob f1_) rfl) rfl rfl hl.1 rfl (lv_room (Nat.le_of_ble_eq_true rfl)) dNearSearch_meets_12 ⟨(show 0 + 0 ≤ 0 by omega), (show 0 + 0 ≤ 0 by omega)⟩) hZ hA (fun r X_5 H_6 lc_7 hp hZ => ?_)
        obtain ⟨hr, hy⟩ := hp
        subst hy
        refine hw_topl hr ?_
        refine lv_aload_n hx hb dNearSearch_meets_15 rfl (lv_at hl 1 rfl) ?_
        refine hw_get hx hb hts (hwInn inNearSearch) hown hK hZ f0_ rfl 0 (by decide) (hts (.fieldLink RNearSearch 7 RNearSearch "first" "J") (hwMem mm_113)) (fun _ h => h) rfl dNearSearch_meets_16 ?_
        refine hw_lc_ne (a := eW (tb.getD i [])) (b := eW u) (tgt := 34) hx hb dNearSearch_meets_19 dNearSearch_meets_20 (by decide) (by first | exact eW_lt63 (by assumption) | exact eW_lt63 (hA2 _) | exact eW_lt63 (hB2 _) | decide) (by first | exact eW_lt63 (by assumption) | exact eW_lt63 (hA2 _) | exact eW_lt63 (hB2 _) | decide) (fun cq_8 => ?_) (fun cq_8 => ?_)
        · refine lv_iinc (v := nI (i + 1)) (lv' := [(2, .int (nI (i + 1))), (0, .ref o), (1, .ref b)]) hx hb dNearSearch_meets_34 hl (k := 0) rfl (nI_add _ 1) (by decide) rfl (fun ls hl => ?_)
          refine lv_goto (tgt := 2) hx hb dNearSearch_meets_37 (by decide) ?_
          exact ih2 (i + 1) _ _ _ (by omega) (by omega) (fun p hp => (Nat.lt_or_eq_of_le (Nat.le_of_lt_succ hp)).elim (fun z => hh p z) (fun z => by subst z; exact (fun h => cq_8 ((eW_inj (hB2 _) hu).mpr h.1))))  hZ (lv_sub hl [0, 1, 2] rfl)
        · refine lv_aload_n hx hb dNearSearch_meets_23 rfl (lv_at hl 1 rfl) ?_
          refine lv_aload_n hx hb dNearSearch_meets_24 rfl (lv_at hl 2 rfl) ?_
          refine lv_iload_n hx hb dNearSearch_meets_25 rfl (lv_at hl 0 rfl) ?_
          refine hw_calli (va_runV (As := [.ref b, .int (nI i)]) (rest := []) ⟨hx, hb, hml, hown, hts⟩ (c_Nea_beside l D K X H_6.size (o := o) (L := L) (u := u) (v := v) (dd := dd) (b := b) (kb := kb) (Nb := Nb) (tb := tb) (pl := i) f0_ f1_ (by assumption) (by assumption) (by omega) (by omega)) (cwV 2 hts (hwGood (hw_4 mm_166 mm_167 mm_168 mm_147 (hwAll mm_165))) rfl rfl rfl (by decide +kernel) ⟨Nat.le_of_ble_eq_true rfl, Nat.le_of_ble_eq_true rfl⟩) (hw_preV hK hO hZ (⟨_, _, f0_⟩) rfl) rfl rfl hl.1 rfl (lv_room (Nat.le_of_ble_eq_true rfl)) dNearSearch_meets_26 ⟨(show 0 + 0 ≤ 0 by omega), (show 0 + 0 ≤ 0 by omega)⟩) hZ hA (fun r X_9 H_10 lc_11 hp hZ => ?_)
          obtain ⟨hr, hy⟩ := hp
          subst hy
          refine hw_topi hr ?_
          refine hw_bz_eq (tgt := 34) hx hb dNearSearch_meets_29 (by decide) (fun cq_12 => ?_) (fun cq_12 => ?_)
          · refine lv_iinc (v := nI (i + 1)) (lv' := [(2, .int (nI (i + 1))), (0, .ref o), (1, .ref b)]) hx hb dNearSearch_meets_34 hl (k := 0) rfl (nI_add _ 1) (by decide) rfl (fun ls hl => ?_)
            refine lv_goto (tgt := 2) hx hb dNearSearch_meets_37 (by decide) ?_
            exact ih2 (i + 1) _ _ _ (by omega) (by omega) (fun p hp => (Nat.lt_or_eq_of_le (Nat.le_of_lt_succ hp)).elim (fun z => hh p z) (fun z => by subst z; exact (fun h => by rw [cq_12] at h; exact absurd h.2 (by decide))))  hZ (lv_sub hl [0, 1, 2] rfl)
          · refine lv_iconst (v := nI 1) hx hb dNearSearch_meets_32 (by decide) ?_
            exact hret (by decide) hZ ⟨by rw [neL_true (p := i) (by omega) ⟨(eW_inj (hB2 _) hu).mp cq_8, cq_12⟩]; rfl, rfl⟩ dNearSearch_meets_33
  exact loop2 (tb.length - 0 + 1) 0 _ _ _ (by omega) (by omega) (fun p hp => absurd hp (Nat.not_lt_zero _))  hZ (lv_sub hl [0, 1, 2] rfl)
set_option maxHeartbeats 4000000 in
set_option maxRecDepth 100000 in
theorem c_Wil_meets (l : Launch) (D : va_G) (K : Nat → ClassId) (X : hwW) (sz : Nat) (o : Nat) (L : Nat) (u : List Nat) (be : Bool) (b : Nat) (kb : Nat) (Nb : Nat) (tb : List (List Nat)) (f0_ : hwH X o L (.inr (9, [.long (lN (eW u)), .int (bI be)]))) (f1_ : tmAt K X b kb Nb tb) (hu : okW u) : Met l yWildSearch_meets (.code yWildSearch_meets cWildSearch_meets 2 (some .boolean) :: hwG) ({ frames := 0, cells := 0, slots := 0, locals := 0 } : Room) (hwPc D vwCl (hwT K) [.ref o, .ref b] X sz) (hwQi D vwCl X sz (fun r Y => r = bI true ∧ X = Y)) 0 0 (va_A X.1 sz) := by
  refine hwMetz (cc := cWildSearch_meets) (maxL := 2) (by decide) rfl (Nat.le_of_ble_eq_true rfl) (fun p e s m args below meth c ls A Q hx hb hml hown hts hname hret hK hO hZ hA hl => ?_)
  have hl : lv_has ls 2 [(0, .ref o), (1, .ref b)] := hl
  refine lv_iconst (v := nI 1) hx hb dWildSearch_meets_0 (by decide) ?_
  exact hret (by decide) hZ ⟨rfl, rfl⟩ dWildSearch_meets_1
