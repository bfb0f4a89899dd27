theorem gaN_len {M : List (List Nat) → Bool} {Cn : List (List Nat) → Nat} {T : Nat → Option (List (List Nat))} : ∀ n, (gaN M Cn T n).length ≤ n
  | 0 => Nat.le_refl _
  | n + 1 => by
    have ih := gaN_len (M := M) (Cn := Cn) (T := T) n
    show (match T n with | none => gaN M Cn T n | some t => if M t then adH (n + 1, Cn t, t.length) (gaN M Cn T n) else gaN M Cn T n).length ≤ n + 1
    split
    · omega
    · split
      · unfold adH
        split
        · omega
        · unfold insH
          rw [insH_len (plH_le _ _ _)]
          omega
      · omega
theorem okH_gaN {M : List (List Nat) → Bool} {Cn : List (List Nat) → Nat} {T : Nat → Option (List (List Nat))} (hT : ∀ n t, T n = some t → t.length ≤ 1000) (hC : ∀ t, Cn t ≤ t.length) : ∀ n, n ≤ 1000 → okH (gaN M Cn T n)
  | 0, _ => fun _ h => absurd h List.not_mem_nil
  | n + 1, hn => by
    have ih := okH_gaN (M := M) (Cn := Cn) (T := T) hT hC n (by omega)
    show okH (match T n with | none => gaN M Cn T n | some t => if M t then adH (n + 1, Cn t, t.length) (gaN M Cn T n) else gaN M Cn T n)
    split
    · exact ih
    · rename_i t ht
      split
      · unfold adH
        split
        · exact ih
        · have h1 := hT n t ht
          have h2 := hC t
          exact okH.ins ih ⟨hn, Nat.le_trans h2 h1, h1⟩
      · exact ih
theorem cnt_ask {ta : List (List Nat)} {nn : Nat} (hn : ta.length = nn) (rt : List (List Nat)) : rt.countP (fun w => (ta.take nn).any (fun t => decide (w ≠ []) && decide (t = w))) = rt.countP (fun w => decide (w ≠ []) && (decide (w ∈ ta))) := by
  congr 1
  funext w
  rw [List.take_of_length_le (Nat.le_of_eq hn)]
  by_cases h : w = []
  · rw [cntP_f1 h]
    exact List.any_eq_false.mpr (fun t _ => by rw [cntP_f1 h]; decide)
  · rw [decide_eq_true (show w ≠ [] from h), Bool.true_and, ← any_mem]
    congr 1
theorem cnt_near {ta : List (List Nat)} (h2 : 2 ≤ ta.length) (rt : List (List Nat)) : rt.countP (fun w => (ta.take 2).any (fun t => decide (w ≠ []) && decide (t = w))) = rt.countP (fun w => decide (w ≠ []) && (decide (w = ta.getD 0 [] ∨ w = ta.getD 1 []))) := by
  congr 1
  funext w
  obtain ⟨a, b, l, rfl⟩ : ∃ a b l, ta = a :: b :: l := by
    cases ta with
    | nil => exact absurd h2 (by simp)
    | cons a t => cases t with
      | nil => exact absurd h2 (by simp)
      | cons b l => exact ⟨a, b, l, rfl⟩
  show (decide (w ≠ []) && decide (a = w) || (decide (w ≠ []) && decide (b = w) || false)) = (decide (w ≠ []) && decide (w = a ∨ w = b))
  have e1 : decide (a = w) = decide (w = a) := decide_eq_decide.mpr ⟨Eq.symm, Eq.symm⟩
  have e2 : decide (b = w) = decide (w = b) := decide_eq_decide.mpr ⟨Eq.symm, Eq.symm⟩
  rw [e1, e2, Bool.decide_or]
  cases decide (w ≠ []) <;> cases decide (w = a) <;> cases decide (w = b) <;> rfl
theorem ins_adH {x : Nat × Nat × Nat} {hs : List (Nat × Nat × Nat)} (h : hs.length < 30) : insH x hs = if 30 ≤ hs.length then hs else insH x hs := by rw [if_neg (by omega)]
theorem hw_le0 {x : Int32} (h : x < nI 1) : x ≤ 0 := by
  rw [Int32.lt_iff_toInt_lt, nI_toInt (by decide)] at h
  rw [Int32.le_iff_toInt_le]
  have e : (0 : Int32).toInt = 0 := rfl
  omega
theorem rwAt.len {K : Nat → ClassId} {X : hwW} {q L N : Nat} {ws : List (List Nat)} (h : rwAt K X q L N ws) : ws.length ≤ N := by
  obtain ⟨f, g, h1, -⟩ := h
  exact h1
theorem tkF_inv : ∀ (l : List Nat), (∀ x ∈ l, x ≤ 26) → txG (tkF l).1 (tkF l).2 ∧ okWs (tkF l).1 := by
  have key : ∀ (l : List Nat) (s : List (List Nat) × Nat), (∀ x ∈ l, x ≤ 26) → txG s.1 s.2 → okWs s.1 → txG (l.foldl tk s).1 (l.foldl tk s).2 ∧ okWs (l.foldl tk s).1 := by
    intro l
    induction l with
    | nil => intro s _ h1 h2; exact ⟨h1, h2⟩
    | cons x xs ih =>
      intro s hx h1 h2
      exact ih (tk s x) (fun y hy => hx y (List.mem_cons_of_mem _ hy)) (txG_tk (ws := s.1) (o := s.2) h1 h2) (okWs_tk (ws := s.1) (o := s.2) h1 h2 (hx x List.mem_cons_self))
  intro l hl
  exact key l ([], 0) hl ⟨fun _ h => absurd h List.not_mem_nil, Or.inl rfl⟩ okWs.nil
theorem tkF_ne (l : List Nat) (h : ∀ k, k < l.length → l.getD k 0 ≤ 26) : ∀ w ∈ (tkF l).1, 1 ≤ w.length := by
  refine (tkF_inv l (fun x hx => ?_)).1.1
  obtain ⟨p, hp, e⟩ := List.getElem_of_mem hx
  have := h p hp
  rw [show l.getD p 0 = l[p] by simp [List.getD, hp]] at this
  rw [← e]; exact this
theorem qne_of {l : List (List Nat)} (h : ∀ w ∈ l, 1 ≤ w.length) (hl : 1 ≤ l.length) : l.getD 0 [] ≠ [] := by
  intro e
  have := ne_getD h (p := 0) (by omega)
  rw [e] at this
  exact absurd this (by simp)
theorem Tf_len {its : hwIt} {sg : List (Nat × Nat)} {lg : Nat → Nat} {st : List (List Nat)} {j n : Nat} {t : List (List Nat)} (htx : ∀ i, i < its.length → ∀ j, j < 4 → ((its.getD i hwIt0).2 j).1 = (tkF (ltL sg (4 * (i + 1) + j))).1) (hsl : sg.length ≤ 600) (hj : j < 4) (ht : Tf its lg st j n = some t) : t.length ≤ 1000 := by
  unfold Tf at ht
  split at ht
  · injection ht with ht
    rw [← ht, List.length_map]
    rcases Nat.lt_or_ge n its.length with q | q
    · rw [htx n q j hj]
      have h1 := tkF_len (ltL sg (4 * (n + 1) + j))
      have h2 := ltL_len sg (4 * (n + 1) + j)
      omega
    · have : its.getD n hwIt0 = hwIt0 := by simp [List.getD, q]
      rw [this]
      show ([] : List (List Nat)).length ≤ 1000
      simp
  · cases ht
/-! the reference, whole -/
def moAt (K : Nat → ClassId) (X : hwW) (a : Nat) (its : hwIt) (sg : List (Nat × Nat)) (lg : Nat → Nat) (st : List (List Nat)) (sd : List Nat) (hs : List (Nat × Nat × Nat)) : Prop := ∃ (r1 : Nat) (r2 : Nat) (r3 : Nat) (r4 : Nat) (r5 : Nat) (r6 : Nat) (r7 : Nat) (r8 : Nat) (r9 : Nat) (r10 : Nat) (r11 : Nat) (r12 : Nat) (r13 : Nat) (r14 : Nat) (r15 : Nat) (tz : Nat) (na : Nat) (nw : Nat) (nt : Nat) (ft : Nat → Int32) (fg : Nat → Int32) (fp : Nat → Int32) (fl : Nat → Int32) (fd : Nat → Int32) (f1 : Nat → Int32) (f2 : Nat → Int32) (f3 : Nat → Int32) (qa : List (List Nat)) (rw : List (List Nat)) (rt : List (List Nat)) (at_ : List (List Nat)) (tm : List (List Nat)) (y : Nat → Int32), hwH X a 1000 (.inr (10, [.int (nI tz), .int (nI its.length), .ref r1, .int (nI sg.length), .ref r2, .ref r3, .ref r4, .ref r5, .int (nI st.length), .ref r6, .int (nI sd.length), .ref r7, .int (nI na), .ref r8, .ref r9, .ref r10, .int (nI nw), .int (nI hs.length), .ref r11, .ref r12, .ref r13, .ref r14, .int (nI nt), .ref r15])) ∧ hwH X r1 1001 (.inl (K 2, 31, .inl ft)) ∧ hwH X r2 1002 (.inl (K 3, 1500, .inl fg)) ∧ hwH X r3 1003 (.inl (K 0, 1500, .inl fp)) ∧ hwH X r4 1004 (.inl (K 0, 4, .inl fl)) ∧ rwAt K X r5 1005 40 st ∧ hwH X r6 1006 (.inl (K 3, 100, .inl fd)) ∧ rwAt K X r7 1007 60 qa ∧ rwAt K X r8 1008 800 rw ∧ rwAt K X r9 1009 800 rt ∧ rwAt K X r10 1010 60 at_ ∧ hwH X r11 1011 (.inl (K 0, 30, .inl f1)) ∧ hwH X r12 1012 (.inl (K 0, 30, .inl f2)) ∧ hwH X r13 1013 (.inl (K 0, 30, .inl f3)) ∧ rwAt K X r14 1014 800 tm ∧ hwH X r15 1015 (.inl (K 0, 169, .inl y)) ∧ (∀ i, i < its.length → ft (i + 1) = bI (its.getD i hwIt0).1) ∧ (∀ k, k < sg.length → mL (fg k) = (sg.getD k (0, 0)).2) ∧ (∀ k, k < sg.length → fp k = nI (sg.getD k (0, 0)).1) ∧ (∀ j, j < 4 → fl j = nI (lg j)) ∧ (∀ k, k < sd.length → mL (fd k) = sd.getD k 0) ∧ ivec f1 (fun h => h.1) hs ∧ ivec f2 (fun h => h.2.1) hs ∧ ivec f3 (fun h => h.2.2) hs
theorem moAt.fr {K : Nat → ClassId} {X Y : hwW} {S : Nat → Prop} {a : Nat} {its : hwIt} {sg : List (Nat × Nat)} {lg : Nat → Nat} {st : List (List Nat)} {sd : List Nat} {hs : List (Nat × Nat × Nat)} (hF : hwF X Y S) (hS : ∀ M, 1000 ≤ M → M < 1100 → ¬ S M) (h : moAt K X a its sg lg st sd hs) : moAt K Y a its sg lg st sd hs := by
  obtain ⟨r1, r2, r3, r4, r5, r6, r7, r8, r9, r10, r11, r12, r13, r14, r15, tz, na, nw, nt, ft, fg, fp, fl, fd, f1, f2, f3, qa, rw, rt, at_, tm, y, g0, g1, g2, g3, g4, g5, g6, g7, g8, g9, g10, g11, g12, g13, g14, g15, rest⟩ := h
  exact ⟨r1, r2, r3, r4, r5, r6, r7, r8, r9, r10, r11, r12, r13, r14, r15, tz, na, nw, nt, ft, fg, fp, fl, fd, f1, f2, f3, qa, rw, rt, at_, tm, y, hF _ _ _ (hS _ (by decide) (by decide)) g0, hF _ _ _ (hS _ (by decide) (by decide)) g1, hF _ _ _ (hS _ (by decide) (by decide)) g2, hF _ _ _ (hS _ (by decide) (by decide)) g3, hF _ _ _ (hS _ (by decide) (by decide)) g4, rwAt.fr hF (hS _ (by decide) (by decide)) g5, hF _ _ _ (hS _ (by decide) (by decide)) g6, rwAt.fr hF (hS _ (by decide) (by decide)) g7, rwAt.fr hF (hS _ (by decide) (by decide)) g8, rwAt.fr hF (hS _ (by decide) (by decide)) g9, rwAt.fr hF (hS _ (by decide) (by decide)) g10, hF _ _ _ (hS _ (by decide) (by decide)) g11, hF _ _ _ (hS _ (by decide) (by decide)) g12, hF _ _ _ (hS _ (by decide) (by decide)) g13, rwAt.fr hF (hS _ (by decide) (by decide)) g14, hF _ _ _ (hS _ (by decide) (by decide)) g15, rest⟩
theorem moAt.ob {K : Nat → ClassId} {X : hwW} {a : Nat} {its : hwIt} {sg : List (Nat × Nat)} {lg : Nat → Nat} {st : List (List Nat)} {sd : List Nat} {hs : List (Nat × Nat × Nat)} (h : moAt K X a its sg lg st sd hs) : ∃ (L : Nat) (fs : List Value), hwH X a L (.inr (10, fs)) := by
  obtain ⟨r1, r2, r3, r4, r5, r6, r7, r8, r9, r10, r11, r12, r13, r14, r15, tz, na, nw, nt, ft, fg, fp, fl, fd, f1, f2, f3, qa, rw, rt, at_, tm, y, g0, -⟩ := h
  exact ⟨_, _, g0⟩
def okM (its : hwIt) (sg : List (Nat × Nat)) (lg : Nat → Nat) (st : List (List Nat)) (sd : List Nat) (hs : List (Nat × Nat × Nat)) : Prop := its.length ≤ 30 ∧ sg.length ≤ 600 ∧ (∀ k, (sg.getD k (0, 0)).1 ≤ 200) ∧ (∀ j, lg j < 3) ∧ sd.length ≤ 100 ∧ hs.length ≤ 30 ∧ okH hs ∧ (∀ i, i < its.length → ∀ j, j < 4 → ((its.getD i hwIt0).2 j).1 = (tkF (ltL sg (4 * (i + 1) + j))).1)
theorem dMo_question_0 : decode cMo_question 0 = .ok (.aload_n 0, 1) := by decide +kernel
theorem dMo_question_1 : decode cMo_question 1 = .ok (.invokevirtual 125, 3) := by decide +kernel
theorem dMo_question_4 : decode cMo_question 4 = .ok (.aload_n 0, 1) := by decide +kernel
theorem dMo_question_5 : decode cMo_question 5 = .ok (.iconst 0, 1) := by decide +kernel
theorem dMo_question_6 : decode cMo_question 6 = .ok (.putfield 111, 3) := by decide +kernel
theorem dMo_question_9 : decode cMo_question 9 = .ok (.iload_n 2, 1) := by decide +kernel
theorem dMo_question_10 : decode cMo_question 10 = .ok (.invokestatic 65, 3) := by decide +kernel
theorem dMo_question_13 : decode cMo_question 13 = .ok (.ifCond .ne 5, 3) := by decide +kernel
theorem dMo_question_16 : decode cMo_question 16 = .ok (.iconst 0, 1) := by decide +kernel
theorem dMo_question_17 : decode cMo_question 17 = .ok (.ireturn, 1) := by decide +kernel
theorem dMo_question_18 : decode cMo_question 18 = .ok (.iconst 0, 1) := by decide +kernel
theorem dMo_question_19 : decode cMo_question 19 = .ok (.istore 5, 2) := by decide +kernel
theorem dMo_question_21 : decode cMo_question 21 = .ok (.iload 5, 2) := by decide +kernel
theorem dMo_question_23 : decode cMo_question 23 = .ok (.aload_n 0, 1) := by decide +kernel
theorem dMo_question_24 : decode cMo_question 24 = .ok (.getfield 83, 3) := by decide +kernel
theorem dMo_question_27 : decode cMo_question 27 = .ok (.if_icmp .ge 28, 3) := by decide +kernel
theorem dMo_question_30 : decode cMo_question 30 = .ok (.aload_n 0, 1) := by decide +kernel
theorem dMo_question_31 : decode cMo_question 31 = .ok (.getfield 40, 3) := by decide +kernel
theorem dMo_question_34 : decode cMo_question 34 = .ok (.iload 5, 2) := by decide +kernel
theorem dMo_question_36 : decode cMo_question 36 = .ok (.aload_n 0, 1) := by decide +kernel
theorem dMo_question_37 : decode cMo_question 37 = .ok (.aload_n 0, 1) := by decide +kernel
theorem dMo_question_38 : decode cMo_question 38 = .ok (.getfield 31, 3) := by decide +kernel
theorem dMo_question_41 : decode cMo_question 41 = .ok (.iload 5, 2) := by decide +kernel
theorem dMo_question_43 : decode cMo_question 43 = .ok (.laload, 1) := by decide +kernel
theorem dMo_question_44 : decode cMo_question 44 = .ok (.iload_n 2, 1) := by decide +kernel
theorem dMo_question_45 : decode cMo_question 45 = .ok (.invokevirtual 97, 3) := by decide +kernel
theorem dMo_question_48 : decode cMo_question 48 = .ok (.lastore, 1) := by decide +kernel
theorem dMo_question_49 : decode cMo_question 49 = .ok (.iinc 5 1, 3) := by decide +kernel
theorem dMo_question_52 : decode cMo_question 52 = .ok (.goto (-31), 3) := by decide +kernel
theorem dMo_question_55 : decode cMo_question 55 = .ok (.iload_n 1, 1) := by decide +kernel
theorem dMo_question_56 : decode cMo_question 56 = .ok (.iconst 2, 1) := by decide +kernel
theorem dMo_question_57 : decode cMo_question 57 = .ok (.if_icmp .ge 10, 3) := by decide +kernel
theorem dMo_question_60 : decode cMo_question 60 = .ok (.aload_n 0, 1) := by decide +kernel
theorem dMo_question_61 : decode cMo_question 61 = .ok (.invokevirtual 128, 3) := by decide +kernel
theorem dMo_question_64 : decode cMo_question 64 = .ok (.goto 80, 3) := by decide +kernel
theorem dMo_question_67 : decode cMo_question 67 = .ok (.iload_n 1, 1) := by decide +kernel
theorem dMo_question_68 : decode cMo_question 68 = .ok (.iconst 2, 1) := by decide +kernel
theorem dMo_question_69 : decode cMo_question 69 = .ok (.if_icmp .ne 45, 3) := by decide +kernel
theorem dMo_question_72 : decode cMo_question 72 = .ok (.iload_n 3, 1) := by decide +kernel
theorem dMo_question_73 : decode cMo_question 73 = .ok (.ifCond .le 37, 3) := by decide +kernel
theorem dMo_question_76 : decode cMo_question 76 = .ok (.aload_n 0, 1) := by decide +kernel
theorem dMo_question_77 : decode cMo_question 77 = .ok (.getfield 83, 3) := by decide +kernel
theorem dMo_question_80 : decode cMo_question 80 = .ok (.iconst 1, 1) := by decide +kernel
theorem dMo_question_81 : decode cMo_question 81 = .ok (.if_icmp .le 29, 3) := by decide +kernel
theorem dMo_question_84 : decode cMo_question 84 = .ok (.aload_n 0, 1) := by decide +kernel
theorem dMo_question_85 : decode cMo_question 85 = .ok (.getfield 40, 3) := by decide +kernel
theorem dMo_question_88 : decode cMo_question 88 = .ok (.iconst 0, 1) := by decide +kernel
theorem dMo_question_89 : decode cMo_question 89 = .ok (.laload, 1) := by decide +kernel
theorem dMo_question_90 : decode cMo_question 90 = .ok (.lconst 0, 1) := by decide +kernel
theorem dMo_question_91 : decode cMo_question 91 = .ok (.lcmp, 1) := by decide +kernel
theorem dMo_question_92 : decode cMo_question 92 = .ok (.ifCond .eq 18, 3) := by decide +kernel
theorem dMo_question_95 : decode cMo_question 95 = .ok (.aload_n 0, 1) := by decide +kernel
theorem dMo_question_96 : decode cMo_question 96 = .ok (.getfield 40, 3) := by decide +kernel
theorem dMo_question_99 : decode cMo_question 99 = .ok (.iconst 1, 1) := by decide +kernel
theorem dMo_question_100 : decode cMo_question 100 = .ok (.laload, 1) := by decide +kernel
theorem dMo_question_101 : decode cMo_question 101 = .ok (.lconst 0, 1) := by decide +kernel
theorem dMo_question_102 : decode cMo_question 102 = .ok (.lcmp, 1) := by decide +kernel
theorem dMo_question_103 : decode cMo_question 103 = .ok (.ifCond .eq 7, 3) := by decide +kernel
theorem dMo_question_106 : decode cMo_question 106 = .ok (.iconst 1, 1) := by decide +kernel
theorem dMo_question_107 : decode cMo_question 107 = .ok (.goto 37, 3) := by decide +kernel
theorem dMo_question_110 : decode cMo_question 110 = .ok (.iconst 0, 1) := by decide +kernel
theorem dMo_question_111 : decode cMo_question 111 = .ok (.goto 33, 3) := by decide +kernel
theorem dMo_question_114 : decode cMo_question 114 = .ok (.aload_n 0, 1) := by decide +kernel
theorem dMo_question_115 : decode cMo_question 115 = .ok (.getfield 83, 3) := by decide +kernel
theorem dMo_question_118 : decode cMo_question 118 = .ok (.ifCond .le 25, 3) := by decide +kernel
theorem dMo_question_121 : decode cMo_question 121 = .ok (.iload 4, 2) := by decide +kernel
theorem dMo_question_123 : decode cMo_question 123 = .ok (.ifCond .eq 16, 3) := by decide +kernel
theorem dMo_question_126 : decode cMo_question 126 = .ok (.aload_n 0, 1) := by decide +kernel
theorem dMo_question_127 : decode cMo_question 127 = .ok (.getfield 31, 3) := by decide +kernel
theorem dMo_question_130 : decode cMo_question 130 = .ok (.iconst 0, 1) := by decide +kernel
theorem dMo_question_131 : decode cMo_question 131 = .ok (.laload, 1) := by decide +kernel
theorem dMo_question_132 : decode cMo_question 132 = .ok (.invokestatic 77, 3) := by decide +kernel
theorem dMo_question_135 : decode cMo_question 135 = .ok (.iconst 2, 1) := by decide +kernel
theorem dMo_question_136 : decode cMo_question 136 = .ok (.if_icmp .le 7, 3) := by decide +kernel
theorem dMo_question_139 : decode cMo_question 139 = .ok (.iconst 1, 1) := by decide +kernel
theorem dMo_question_140 : decode cMo_question 140 = .ok (.goto 4, 3) := by decide +kernel
theorem dMo_question_143 : decode cMo_question 143 = .ok (.iconst 0, 1) := by decide +kernel
theorem dMo_question_144 : decode cMo_question 144 = .ok (.istore 5, 2) := by decide +kernel
theorem dMo_question_146 : decode cMo_question 146 = .ok (.iconst 1, 1) := by decide +kernel
theorem dMo_question_147 : decode cMo_question 147 = .ok (.istore 6, 2) := by decide +kernel
theorem dMo_question_149 : decode cMo_question 149 = .ok (.iload 6, 2) := by decide +kernel
theorem dMo_question_151 : decode cMo_question 151 = .ok (.aload_n 0, 1) := by decide +kernel
theorem dMo_question_152 : decode cMo_question 152 = .ok (.getfield 62, 3) := by decide +kernel
theorem dMo_question_155 : decode cMo_question 155 = .ok (.if_icmp .gt 125, 3) := by decide +kernel
theorem dMo_question_158 : decode cMo_question 158 = .ok (.iload 5, 2) := by decide +kernel
theorem dMo_question_160 : decode cMo_question 160 = .ok (.ifCond .eq 120, 3) := by decide +kernel
theorem dMo_question_163 : decode cMo_question 163 = .ok (.aload_n 0, 1) := by decide +kernel
theorem dMo_question_164 : decode cMo_question 164 = .ok (.getfield 7, 3) := by decide +kernel
theorem dMo_question_167 : decode cMo_question 167 = .ok (.iload 6, 2) := by decide +kernel
theorem dMo_question_169 : decode cMo_question 169 = .ok (.baload, 1) := by decide +kernel
theorem dMo_question_170 : decode cMo_question 170 = .ok (.ifCond .eq 104, 3) := by decide +kernel
theorem dMo_question_173 : decode cMo_question 173 = .ok (.aload_n 0, 1) := by decide +kernel
theorem dMo_question_174 : decode cMo_question 174 = .ok (.iload 6, 2) := by decide +kernel
theorem dMo_question_176 : decode cMo_question 176 = .ok (.iload_n 2, 1) := by decide +kernel
theorem dMo_question_177 : decode cMo_question 177 = .ok (.invokevirtual 132, 3) := by decide +kernel
theorem dMo_question_180 : decode cMo_question 180 = .ok (.iload_n 1, 1) := by decide +kernel
theorem dMo_question_181 : decode cMo_question 181 = .ok (.ifCond .ne 10, 3) := by decide +kernel
theorem dMo_question_184 : decode cMo_question 184 = .ok (.aload_n 0, 1) := by decide +kernel
theorem dMo_question_185 : decode cMo_question 185 = .ok (.invokevirtual 136, 3) := by decide +kernel
theorem dMo_question_188 : decode cMo_question 188 = .ok (.goto 42, 3) := by decide +kernel
theorem dMo_question_191 : decode cMo_question 191 = .ok (.iload_n 1, 1) := by decide +kernel
theorem dMo_question_192 : decode cMo_question 192 = .ok (.iconst 1, 1) := by decide +kernel
theorem dMo_question_193 : decode cMo_question 193 = .ok (.if_icmp .ne 10, 3) := by decide +kernel
theorem dMo_question_196 : decode cMo_question 196 = .ok (.aload_n 0, 1) := by decide +kernel
theorem dMo_question_197 : decode cMo_question 197 = .ok (.invokevirtual 139, 3) := by decide +kernel
theorem dMo_question_200 : decode cMo_question 200 = .ok (.goto 30, 3) := by decide +kernel
theorem dMo_question_203 : decode cMo_question 203 = .ok (.iload_n 1, 1) := by decide +kernel
theorem dMo_question_204 : decode cMo_question 204 = .ok (.iconst 2, 1) := by decide +kernel
theorem dMo_question_205 : decode cMo_question 205 = .ok (.if_icmp .ne 11, 3) := by decide +kernel
theorem dMo_question_208 : decode cMo_question 208 = .ok (.aload_n 0, 1) := by decide +kernel
theorem dMo_question_209 : decode cMo_question 209 = .ok (.iload_n 3, 1) := by decide +kernel
theorem dMo_question_210 : decode cMo_question 210 = .ok (.invokevirtual 142, 3) := by decide +kernel
theorem dMo_question_213 : decode cMo_question 213 = .ok (.goto 17, 3) := by decide +kernel
theorem dMo_question_216 : decode cMo_question 216 = .ok (.aload_n 0, 1) := by decide +kernel
theorem dMo_question_217 : decode cMo_question 217 = .ok (.iload 4, 2) := by decide +kernel
theorem dMo_question_219 : decode cMo_question 219 = .ok (.invokevirtual 145, 3) := by decide +kernel
theorem dMo_question_222 : decode cMo_question 222 = .ok (.ifCond .le 7, 3) := by decide +kernel
theorem dMo_question_225 : decode cMo_question 225 = .ok (.iconst 1, 1) := by decide +kernel
theorem dMo_question_226 : decode cMo_question 226 = .ok (.goto 4, 3) := by decide +kernel
theorem dMo_question_229 : decode cMo_question 229 = .ok (.iconst 0, 1) := by decide +kernel
theorem dMo_question_230 : decode cMo_question 230 = .ok (.istore 7, 2) := by decide +kernel
theorem dMo_question_232 : decode cMo_question 232 = .ok (.iload 7, 2) := by decide +kernel
theorem dMo_question_234 : decode cMo_question 234 = .ok (.ifCond .eq 40, 3) := by decide +kernel
theorem dMo_question_237 : decode cMo_question 237 = .ok (.aload_n 0, 1) := by decide +kernel
theorem dMo_question_238 : decode cMo_question 238 = .ok (.iload 6, 2) := by decide +kernel
theorem dMo_question_240 : decode cMo_question 240 = .ok (.iload_n 1, 1) := by decide +kernel
theorem dMo_question_241 : decode cMo_question 241 = .ok (.iconst 3, 1) := by decide +kernel
theorem dMo_question_242 : decode cMo_question 242 = .ok (.if_icmp .ne 12, 3) := by decide +kernel
theorem dMo_question_245 : decode cMo_question 245 = .ok (.aload_n 0, 1) := by decide +kernel
theorem dMo_question_246 : decode cMo_question 246 = .ok (.iload 4, 2) := by decide +kernel
theorem dMo_question_248 : decode cMo_question 248 = .ok (.invokevirtual 145, 3) := by decide +kernel
theorem dMo_question_251 : decode cMo_question 251 = .ok (.goto 20, 3) := by decide +kernel
theorem dMo_question_254 : decode cMo_question 254 = .ok (.aload_n 0, 1) := by decide +kernel
theorem dMo_question_255 : decode cMo_question 255 = .ok (.iload_n 1, 1) := by decide +kernel
theorem dMo_question_256 : decode cMo_question 256 = .ok (.iconst 2, 1) := by decide +kernel
theorem dMo_question_257 : decode cMo_question 257 = .ok (.if_icmp .ne 7, 3) := by decide +kernel
theorem dMo_question_260 : decode cMo_question 260 = .ok (.iconst 2, 1) := by decide +kernel
theorem dMo_question_261 : decode cMo_question 261 = .ok (.goto 7, 3) := by decide +kernel
theorem dMo_question_264 : decode cMo_question 264 = .ok (.aload_n 0, 1) := by decide +kernel
theorem dMo_question_265 : decode cMo_question 265 = .ok (.getfield 83, 3) := by decide +kernel
theorem dMo_question_268 : decode cMo_question 268 = .ok (.invokevirtual 149, 3) := by decide +kernel
theorem dMo_question_271 : decode cMo_question 271 = .ok (.invokevirtual 152, 3) := by decide +kernel
theorem dMo_question_274 : decode cMo_question 274 = .ok (.iinc 6 1, 3) := by decide +kernel
theorem dMo_question_277 : decode cMo_question 277 = .ok (.goto (-128), 3) := by decide +kernel
theorem dMo_question_280 : decode cMo_question 280 = .ok (.aload_n 0, 1) := by decide +kernel
theorem dMo_question_281 : decode cMo_question 281 = .ok (.getfield 111, 3) := by decide +kernel
theorem dMo_question_284 : decode cMo_question 284 = .ok (.ireturn, 1) := by decide +kernel
theorem mm_436 : (.code yMo_take cMo_take 4 none : Cond) ∈ hwG := hwIx 660 (by decide +kernel) (by decide +kernel)
theorem mm_437 : (.methodLink RMo 125 yMo_take : Cond) ∈ hwG := hwIx 657 (by decide +kernel) (by decide +kernel)
theorem mm_438 : (.instanceMethod yMo_take : Cond) ∈ hwG := hwIx 659 (by decide +kernel) (by decide +kernel)
theorem mm_439 : (.selects RMo yMo_take yMo_take : Cond) ∈ hwG := hwIx 15 (by decide +kernel) (by decide +kernel)
theorem mm_440 : (.code yMo_isField cMo_isField 1 (some .boolean) : Cond) ∈ hwG := hwIx 640 (by decide +kernel) (by decide +kernel)
theorem mm_441 : (.static yMo_isField : Cond) ∈ hwG := hwIx 639 (by decide +kernel) (by decide +kernel)
theorem mm_442 : (.methodLink RMo 65 yMo_isField : Cond) ∈ hwG := hwIx 638 (by decide +kernel) (by decide +kernel)
theorem mm_443 : (.code yMo_hasAny cMo_hasAny 3 (some .boolean) : Cond) ∈ hwG := hwIx 686 (by decide +kernel) (by decide +kernel)
theorem mm_444 : (.methodLink RMo 128 yMo_hasAny : Cond) ∈ hwG := hwIx 683 (by decide +kernel) (by decide +kernel)
theorem mm_445 : (.instanceMethod yMo_hasAny : Cond) ∈ hwG := hwIx 685 (by decide +kernel) (by decide +kernel)
theorem mm_446 : (.selects RMo yMo_hasAny yMo_hasAny : Cond) ∈ hwG := hwIx 18 (by decide +kernel) (by decide +kernel)
theorem mm_447 : (.code yMo_meetsAll cMo_meetsAll 3 (some .boolean) : Cond) ∈ hwG := hwIx 694 (by decide +kernel) (by decide +kernel)
theorem mm_448 : (.methodLink RMo 136 yMo_meetsAll : Cond) ∈ hwG := hwIx 691 (by decide +kernel) (by decide +kernel)
theorem mm_449 : (.instanceMethod yMo_meetsAll : Cond) ∈ hwG := hwIx 693 (by decide +kernel) (by decide +kernel)
theorem mm_450 : (.selects RMo yMo_meetsAll yMo_meetsAll : Cond) ∈ hwG := hwIx 20 (by decide +kernel) (by decide +kernel)
theorem mm_451 : (.code yMo_count cMo_count 4 (some .int) : Cond) ∈ hwG := hwIx 717 (by decide +kernel) (by decide +kernel)
theorem mm_452 : (.methodLink RMo 149 yMo_count : Cond) ∈ hwG := hwIx 714 (by decide +kernel) (by decide +kernel)
theorem mm_453 : (.instanceMethod yMo_count : Cond) ∈ hwG := hwIx 716 (by decide +kernel) (by decide +kernel)
theorem mm_454 : (.selects RMo yMo_count yMo_count : Cond) ∈ hwG := hwIx 25 (by decide +kernel) (by decide +kernel)
theorem mm_455 : (.code yMo_found cMo_found 4 none : Cond) ∈ hwG := hwIx 725 (by decide +kernel) (by decide +kernel)
theorem mm_456 : (.methodLink RMo 152 yMo_found : Cond) ∈ hwG := hwIx 722 (by decide +kernel) (by decide +kernel)
theorem mm_457 : (.instanceMethod yMo_found : Cond) ∈ hwG := hwIx 724 (by decide +kernel) (by decide +kernel)
theorem mm_458 : (.selects RMo yMo_found yMo_found : Cond) ∈ hwG := hwIx 27 (by decide +kernel) (by decide +kernel)
theorem mm_459 : (.code yMo_hasPhrase cMo_hasPhrase 4 (some .boolean) : Cond) ∈ hwG := hwIx 702 (by decide +kernel) (by decide +kernel)
theorem mm_460 : (.methodLink RMo 139 yMo_hasPhrase : Cond) ∈ hwG := hwIx 699 (by decide +kernel) (by decide +kernel)
theorem mm_461 : (.instanceMethod yMo_hasPhrase : Cond) ∈ hwG := hwIx 701 (by decide +kernel) (by decide +kernel)
theorem mm_462 : (.selects RMo yMo_hasPhrase yMo_hasPhrase : Cond) ∈ hwG := hwIx 22 (by decide +kernel) (by decide +kernel)
theorem mm_463 : (.code yMo_hasNear cMo_hasNear 5 (some .boolean) : Cond) ∈ hwG := hwIx 706 (by decide +kernel) (by decide +kernel)
theorem mm_464 : (.methodLink RMo 142 yMo_hasNear : Cond) ∈ hwG := hwIx 703 (by decide +kernel) (by decide +kernel)
theorem mm_465 : (.instanceMethod yMo_hasNear : Cond) ∈ hwG := hwIx 705 (by decide +kernel) (by decide +kernel)
theorem mm_466 : (.selects RMo yMo_hasNear yMo_hasNear : Cond) ∈ hwG := hwIx 23 (by decide +kernel) (by decide +kernel)
theorem mm_467 : (.code yMo_wildCount cMo_wildCount 4 (some .int) : Cond) ∈ hwG := hwIx 710 (by decide +kernel) (by decide +kernel)
theorem mm_468 : (.methodLink RMo 145 yMo_wildCount : Cond) ∈ hwG := hwIx 707 (by decide +kernel) (by decide +kernel)
theorem mm_469 : (.instanceMethod yMo_wildCount : Cond) ∈ hwG := hwIx 709 (by decide +kernel) (by decide +kernel)
theorem mm_470 : (.selects RMo yMo_wildCount yMo_wildCount : Cond) ∈ hwG := hwIx 24 (by decide +kernel) (by decide +kernel)
set_option maxHeartbeats 4000000 in
set_option maxRecDepth 100000 in
theorem m_q0 (l : Launch) (D : va_G) (K : Nat → ClassId) (X : hwW) (sz : Nat) (a : Nat) (its : hwIt) (sg : List (Nat × Nat)) (lg : Nat → Nat) (st : List (List Nat)) (sd : List Nat) (hs : List (Nat × Nat × Nat)) (j : Nat) (f0_ : moAt K X a its sg lg st sd hs) (okm : okM its sg lg st sd hs) (hj : j < 4) : Met l yMo_question (.code yMo_question cMo_question 8 (some .int) :: hwG) ({ frames := 3, cells := 0, slots := 0, locals := 73 } : Room) (hwPc D vwCl (hwT K) [.ref a, .int (nI 0), .int (nI j), .int (nI 0), .int (nI 0)] X sz) (hwQi D vwCl X sz (fun r Y => r = nI (hsA ((tkF sd).1.map (trm (lg j) st)) (Tf its lg st j) its.length).length ∧ hwF X Y (fun M => 1000 ≤ M ∧ M < 1100) ∧ moAt K Y a its sg lg st [] (hsA ((tkF sd).1.map (trm (lg j) st)) (Tf its lg st j) its.length))) 0 0 (va_A X.1 sz) := by
  refine hwMeti (cc := cMo_question) (maxL := 8) (by decide) rfl (Nat.le_of_ble_eq_true rfl) (fun p e s m args below meth c ls A Q hx hb hml hown hts hname hret hK hO hZ hA hl => ?_)
  have hl : lv_has ls 8 [(0, .ref a), (1, .int (nI 0)), (2, .int (nI j)), (3, .int (nI 0)), (4, .int (nI 0))] := hl
  have hFr : hwF X X (fun M => 1000 ≤ M ∧ M < 1100) := hwF.rf
  obtain ⟨hni3, hsl, hsb, hlg, hsd, hh30, hB, htx⟩ := okm
  obtain ⟨r1, r2, r3, r4, r5, r6, r7, r8, r9, r10, r11, r12, r13, r14, r15, tz, na, nw, nt, ft, fg, fp, fl, fd, f1, f2, f3, qa, rw, rt, at_, tm, y, gx, g1, g2, g3, g4, g5, g6, g7, g8, g9, g10, g11, g12, g13, g14, g15, hft, hfg, hfp, hfl, hfd, hv1, hv2, hv3⟩ := f0_
  have hst40 := rwAt.len g5
  refine lv_aload_n hx hb dMo_question_0 rfl (lv_at hl 0 rfl) ?_
  refine hw_callv (va_runV (As := []) (rest := []) ⟨hx, hb, hml, hown, hts⟩ (m_take l D K X s.heap.size (a := a) (r1 := r1) (r2 := r2) (r3 := r3) (r4 := r4) (r5 := r5) (r6 := r6) (r7 := r7) (r8 := r8) (r9 := r9) (r10 := r10) (r11 := r11) (r12 := r12) (r13 := r13) (r14 := r14) (r15 := r15) (tz := tz) (nr := its.length) (ng := sg.length) (ns := st.length) (nz := sd.length) (na := na) (nw := nw) (nh := hs.length) (nt := nt) (fd := fd) (qa := qa) (sd := sd) gx g6 g7 (by omega) (by omega) (by assumption)) (cwV 0 hts (hwGood (hw_4 mm_437 mm_438 mm_439 mm_365 (hwAll mm_436))) rfl rfl rfl (by decide +kernel) ⟨Nat.le_of_ble_eq_true rfl, Nat.le_of_ble_eq_true rfl⟩) (hw_preV hK hO hZ (⟨_, _, gx⟩) rfl) rfl rfl hl.1 rfl (lv_room (Nat.le_of_ble_eq_true rfl)) dMo_question_1 ⟨(show 0 + 0 ≤ 0 by omega), (show 0 + 0 ≤ 0 by omega)⟩) hZ hA (fun X_1 H_2 lc_3 hp hZ => ?_)
  obtain ⟨hF, hN_4, hN_5⟩ := hp
  have hFr := hwF.tr hFr hF (fun _ h => h) (fun M h => by first | exact False.elim h | ((try dsimp only at h ⊢); omega))
  have g1 := hF _ _ _ (by intro hNS; first | exact False.elim hNS | ((try dsimp only at hNS); omega)) g1
  have g2 := hF _ _ _ (by intro hNS; first | exact False.elim hNS | ((try dsimp only at hNS); omega)) g2
  have g3 := hF _ _ _ (by intro hNS; first | exact False.elim hNS | ((try dsimp only at hNS); omega)) g3
  have g4 := hF _ _ _ (by intro hNS; first | exact False.elim hNS | ((try dsimp only at hNS); omega)) g4
  have g5 := rwAt.fr hF (by intro hNS; first | exact False.elim hNS | ((try dsimp only at hNS); omega)) g5
  have g6 := hF _ _ _ (by intro hNS; first | exact False.elim hNS | ((try dsimp only at hNS); omega)) g6
  have g8 := rwAt.fr hF (by intro hNS; first | exact False.elim hNS | ((try dsimp only at hNS); omega)) g8
  have g9 := rwAt.fr hF (by intro hNS; first | exact False.elim hNS | ((try dsimp only at hNS); omega)) g9
  have g10 := rwAt.fr hF (by intro hNS; first | exact False.elim hNS | ((try dsimp only at hNS); omega)) g10
  have g11 := hF _ _ _ (by intro hNS; first | exact False.elim hNS | ((try dsimp only at hNS); omega)) g11
  have g12 := hF _ _ _ (by intro hNS; first | exact False.elim hNS | ((try dsimp only at hNS); omega)) g12
  have g13 := hF _ _ _ (by intro hNS; first | exact False.elim hNS | ((try dsimp only at hNS); omega)) g13
  have g14 := rwAt.fr hF (by intro hNS; first | exact False.elim hNS | ((try dsimp only at hNS); omega)) g14
  have g15 := hF _ _ _ (by intro hNS; first | exact False.elim hNS | ((try dsimp only at hNS); omega)) g15
  have ff_6 := hN_4
  have ff_7 := hN_5
  have hqn := tkF_len sd
  have hq60 := rwAt.len ff_7
  refine lv_aload_n hx hb dMo_question_4 rfl (lv_at hl 0 rfl) ?_
  refine lv_iconst (v := nI 0) hx hb dMo_question_5 (by decide) ?_
  refine hw_put (ty := .int) (fs' := [.int (nI tz), .int (nI its.length), .ref r1, .int (nI sg.length), .ref r2, .ref r3, .ref r4, .ref r5, .int (nI st.length), .ref r6, .int (nI 0), .ref r7, .int (nI ((tkF sd).1.length)), .ref r8, .ref r9, .ref r10, .int (nI nw), .int (nI 0), .ref r11, .ref r12, .ref r13, .ref r14, .int (nI nt), .ref r15]) hx hb hts (hwInn inMo) tyMo tyMo_ok nmMo hown hK hZ ff_6 rfl 17 (by decide) (hts (.fieldLink RMo 111 RMo "hits" "I") (hwMem mm_409)) (fun _ h => h) rfl (by decide +kernel) rfl rfl (Nat.le_of_ble_eq_true rfl) rfl dMo_question_6 (fun X_8 H_9 lc_10 hZ hF hNw => ?_)
  have hFr := hwF.tr hFr hF (fun _ h => h) (fun M h => by first | exact False.elim h | ((try dsimp only at h ⊢); omega))
  have g1 := hF _ _ _ (by intro hNS; first | exact False.elim hNS | ((try dsimp only at hNS); omega)) g1
  have g2 := hF _ _ _ (by intro hNS; first | exact False.elim hNS | ((try dsimp only at hNS); omega)) g2
  have g3 := hF _ _ _ (by intro hNS; first | exact False.elim hNS | ((try dsimp only at hNS); omega)) g3
  have g4 := hF _ _ _ (by intro hNS; first | exact False.elim hNS | ((try dsimp only at hNS); omega)) g4
  have g5 := rwAt.fr hF (by intro hNS; first | exact False.elim hNS | ((try dsimp only at hNS); omega)) g5
  have g6 := hF _ _ _ (by intro hNS; first | exact False.elim hNS | ((try dsimp only at hNS); omega)) g6
  have g8 := rwAt.fr hF (by intro hNS; first | exact False.elim hNS | ((try dsimp only at hNS); omega)) g8
  have g9 := rwAt.fr hF (by intro hNS; first | exact False.elim hNS | ((try dsimp only at hNS); omega)) g9
  have g10 := rwAt.fr hF (by intro hNS; first | exact False.elim hNS | ((try dsimp only at hNS); omega)) g10
  have g11 := hF _ _ _ (by intro hNS; first | exact False.elim hNS | ((try dsimp only at hNS); omega)) g11
  have g12 := hF _ _ _ (by intro hNS; first | exact False.elim hNS | ((try dsimp only at hNS); omega)) g12
  have g13 := hF _ _ _ (by intro hNS; first | exact False.elim hNS | ((try dsimp only at hNS); omega)) g13
  have g14 := rwAt.fr hF (by intro hNS; first | exact False.elim hNS | ((try dsimp only at hNS); omega)) g14
  have g15 := hF _ _ _ (by intro hNS; first | exact False.elim hNS | ((try dsimp only at hNS); omega)) g15
  have ff_6 := hNw
  have ff_7 := rwAt.fr hF (by intro hNS; first | exact False.elim hNS | ((try dsimp only at hNS); omega)) ff_7
  refine lv_iload_n hx hb dMo_question_9 rfl (lv_at hl 2 rfl) ?_
  refine hw_calli (va_runS (As := [.int (nI j)]) (rest := []) ⟨hx, hb, hml, hown, hts⟩ (m_isField l D K X_8 H_9.size (j := j) (by omega)) (va_cwS 1 hts (hwGood (hw_3 mm_442 mm_441 mm_365 (hwAll mm_440))) rfl rfl rfl (by decide +kernel) ⟨Nat.le_of_ble_eq_true rfl, Nat.le_of_ble_eq_true rfl⟩) (hw_preS hK hO hZ) rfl rfl hl.1 rfl (lv_room (Nat.le_of_ble_eq_true rfl)) dMo_question_10 ⟨(show 0 + 0 ≤ 0 by omega), (show 0 + 0 ≤ 0 by omega)⟩) hZ hA (fun r X_11 H_12 lc_13 hp hZ => ?_)
  obtain ⟨hr, hy⟩ := hp
  subst hy
  refine hw_topi hr ?_
  refine hw_bz_neT (tgt := 18) hx hb dMo_question_13 (by decide) rfl ?_
  obtain ⟨f7, g7, hN7, hv7, hk7⟩ := ff_7
  obtain ⟨f10, g10, hN10, hv10, hk10⟩ := g10
  have hQ2 := fun j => okWs.at hk7 j
  have hqne := tkF_ne sd (fun k hk => hfd k hk ▸ mL_le _)
  refine lv_iconst (v := nI 0) hx hb dMo_question_18 (by decide) ?_
  refine lv_istore (lv' := [(5, .int (nI 0)), (0, .ref a), (1, .int (nI 0)), (2, .int (nI j)), (3, .int (nI 0)), (4, .int (nI 0))]) hx hb dMo_question_19 hl (by decide) rfl (fun ls hl => ?_)
  have loop21 : ∀ (fuel : Nat) (k : Nat) (z10 : Nat → Int64) (XL21 : hwW) (Hh : Heap) (lcs : List Loc) (ls : Array Slot), (tkF sd).1.length - k < fuel → (k ≤ (tkF sd).1.length) → (∀ p, p < k → z10 p = lN (rW (trm (lg j) st ((tkF sd).1.getD p [])))) → (hwF X XL21 (fun M => 1000 ≤ M ∧ M < 1100)) → (hwH XL21 r1 1001 (.inl (K 2, 31, .inl ft))) → (hwH XL21 r2 1002 (.inl (K 3, 1500, .inl fg))) → (hwH XL21 r3 1003 (.inl (K 0, 1500, .inl fp))) → (hwH XL21 r4 1004 (.inl (K 0, 4, .inl fl))) → (rwAt K XL21 r5 1005 40 st) → (hwH XL21 r6 1006 (.inl (K 3, 100, .inl fd))) → (rwAt K XL21 r8 1008 800 rw) → (rwAt K XL21 r9 1009 800 rt) → (hwH XL21 r11 1011 (.inl (K 0, 30, .inl f1))) → (hwH XL21 r12 1012 (.inl (K 0, 30, .inl f2))) → (hwH XL21 r13 1013 (.inl (K 0, 30, .inl f3))) → (rwAt K XL21 r14 1014 800 tm) → (hwH XL21 r15 1015 (.inl (K 0, 169, .inl y))) → (hwH XL21 a 1000 (.inr (10, [.int (nI tz), .int (nI its.length), .ref r1, .int (nI sg.length), .ref r2, .ref r3, .ref r4, .ref r5, .int (nI st.length), .ref r6, .int (nI 0), .ref r7, .int (nI ((tkF sd).1.length)), .ref r8, .ref r9, .ref r10, .int (nI nw), .int (nI 0), .ref r11, .ref r12, .ref r13, .ref r14, .int (nI nt), .ref r15]))) → (hwH XL21 r7 1007 (.inl (K 1, 60, .inr (.inl f7)))) → (hwH XL21 r10 1010 (.inl (K 1, 60, .inr (.inl z10)))) → hwZ D vwCl A s.heap XL21 Hh lcs → lv_has ls 8 [(5, .int (nI k)), (0, .ref a), (1, .int (nI 0)), (2, .int (nI j)), (3, .int (nI 0)), (4, .int (nI 0))] → W p l e ({ frames := 3, cells := 0, slots := 0, locals := 73 } : Room) s m args below meth c Hh lcs 0 0 Q (F0 m 21 ls []) := by
    intro fuel; induction fuel with
    | zero => intro k z10 XL21 Hh lcs ls hfu; exact absurd hfu (Nat.not_lt_zero _)
    | succ fuel ih21 =>
      intro k z10 XL21 Hh lcs ls hfu21 hk hz hFr g1 g2 g3 g4 g5 g6 g8 g9 g11 g12 g13 g14 g15 ff_6 g7 g10 hZ hl
      refine lv_iload hx hb dMo_question_21 (lv_at hl 0 rfl) ?_
      refine lv_aload_n hx hb dMo_question_23 rfl (lv_at hl 1 rfl) ?_
      refine hw_get hx hb hts (hwInn inMo) hown hK hZ ff_6 rfl 12 (by decide) (hts (.fieldLink RMo 83 RMo "askedCount" "I") (hwMem mm_377)) (fun _ h => h) rfl dMo_question_24 ?_
      refine hw_ic_ge (a := k) (b := (tkF sd).1.length) (tgt := 55) hx hb dMo_question_27 (by decide) (by omega) (by omega) (fun cq_15 => ?_) (fun cq_15 => ?_)
      · have gA : rwAt K XL21 r10 1010 60 ((tkF sd).1.map (trm (lg j) st)) := ⟨_, g10, by rw [List.length_map]; omega, rvec_map (ws := (tkF sd).1) (φ := trm (lg j) st) (fun p hp => hz p (by omega)), okWs_map hk7 (lg j) st⟩
        have gQ : rwAt K XL21 r7 1007 60 (tkF sd).1 := ⟨_, g7, hN7, hv7, hk7⟩
        have hal : ((tkF sd).1.map (trm (lg j) st)).length = (tkF sd).1.length := List.length_map _
        have hA2 := fun j => okWs.at (rwAt.oks gA) j
        refine lv_iload_n hx hb dMo_question_55 rfl (lv_at hl 2 rfl) ?_
        refine lv_iconst (v := nI 2) hx hb dMo_question_56 (by decide) ?_
        refine hw_ic_ge (a := 0) (b := 2) (tgt := 67) hx hb dMo_question_57 (by decide) (by omega) (by omega) (fun cq_16 => by exfalso; omega) (fun cq_16 => ?_)
        refine lv_aload_n hx hb dMo_question_60 rfl (lv_at hl 1 rfl) ?_
        refine hw_calli (va_runV (As := []) (rest := []) ⟨hx, hb, hml, hown, hts⟩ (m_hasAny l D K XL21 Hh.size (a := a) (r1 := r1) (r2 := r2) (r3 := r3) (r4 := r4) (r5 := r5) (r6 := r6) (r7 := r7) (r8 := r8) (r9 := r9) (r10 := r10) (r11 := r11) (r12 := r12) (r13 := r13) (r14 := r14) (r15 := r15) (tz := tz) (nr := its.length) (ng := sg.length) (ns := st.length) (nz := 0) (na := (tkF sd).1.length) (nw := nw) (nh := 0) (nt := nt) (at_ := ((tkF sd).1.map (trm (lg j) st))) ff_6 gA (by omega)) (cwV 0 hts (hwGood (hw_4 mm_444 mm_445 mm_446 mm_365 (hwAll mm_443))) rfl rfl rfl (by decide +kernel) ⟨Nat.le_of_ble_eq_true rfl, Nat.le_of_ble_eq_true rfl⟩) (hw_preV hK hO hZ (⟨_, _, ff_6⟩) rfl) rfl rfl hl.1 rfl (lv_room (Nat.le_of_ble_eq_true rfl)) dMo_question_61 ⟨(show 0 + 0 ≤ 0 by omega), (show 0 + 0 ≤ 0 by omega)⟩) hZ hA (fun r X_17 H_18 lc_19 hp hZ => ?_)
        obtain ⟨hr, hy⟩ := hp
        subst hy
        refine hw_topi hr ?_
        refine lv_goto (tgt := 144) hx hb dMo_question_64 (by decide) ?_
        refine lv_istore (lv' := [(5, .int (bI (((tkF sd).1.map (trm (lg j) st)).any (fun t => decide (t ≠ []))))), (0, .ref a), (1, .int (nI 0)), (2, .int (nI j)), (3, .int (nI 0)), (4, .int (nI 0))]) hx hb dMo_question_144 hl (by decide) rfl (fun ls hl => ?_)
        cases hcan : ((tkF sd).1.map (trm (lg j) st)).any (fun t => decide (t ≠ []))
        · rw [hcan] at hl
          refine lv_iconst (v := nI 1) hx hb dMo_question_146 (by decide) ?_
          refine lv_istore (lv' := [(6, .int (nI 1)), (5, .int (bI false)), (0, .ref a), (1, .int (nI 0)), (2, .int (nI j)), (3, .int (nI 0)), (4, .int (nI 0))]) hx hb dMo_question_147 hl (by decide) rfl (fun ls hl => ?_)
          refine lv_iload hx hb dMo_question_149 (lv_at hl 0 rfl) ?_
          refine lv_aload_n hx hb dMo_question_151 rfl (lv_at hl 2 rfl) ?_
          refine hw_get hx hb hts (hwInn inMo) hown hK hZ ff_6 rfl 1 (by decide) (hts (.fieldLink RMo 62 RMo "records" "I") (hwMem mm_418)) (fun _ h => h) rfl dMo_question_152 ?_
          refine hw_ic_gt (a := 1) (b := its.length) (tgt := 280) hx hb dMo_question_155 (by decide) (by omega) (by omega) (fun cq_20 => ?_) (fun cq_20 => ?_)
          · refine lv_aload_n hx hb dMo_question_280 rfl (lv_at hl 2 rfl) ?_
            refine hw_get hx hb hts (hwInn inMo) hown hK hZ ff_6 rfl 17 (by decide) (hts (.fieldLink RMo 111 RMo "hits" "I") (hwMem mm_409)) (fun _ h => h) rfl dMo_question_281 ?_
            exact hret hZ (by rw [hsA_f hcan]; exact ⟨rfl, hFr, ⟨_, _, _, _, _, _, _, _, _, _, _, _, _, _, _, _, _, _, _, _, _, _, _, _, _, _, _, _, _, _, _, _, _, ff_6, g1, g2, g3, g4, g5, g6, gQ, g8, g9, gA, g11, g12, g13, g14, g15, hft, hfg, hfp, hfl, (fun k hk => absurd hk (Nat.not_lt_zero _)), ivec.nil, ivec.nil, ivec.nil⟩⟩) dMo_question_284
          · refine lv_iload hx hb dMo_question_158 (lv_at hl 1 rfl) ?_
            refine hw_bz_eqT (tgt := 280) hx hb dMo_question_160 (by decide) rfl ?_
            refine lv_aload_n hx hb dMo_question_280 rfl (lv_at hl 2 rfl) ?_
            refine hw_get hx hb hts (hwInn inMo) hown hK hZ ff_6 rfl 17 (by decide) (hts (.fieldLink RMo 111 RMo "hits" "I") (hwMem mm_409)) (fun _ h => h) rfl dMo_question_281 ?_
            exact hret hZ (by rw [hsA_f hcan]; exact ⟨rfl, hFr, ⟨_, _, _, _, _, _, _, _, _, _, _, _, _, _, _, _, _, _, _, _, _, _, _, _, _, _, _, _, _, _, _, _, _, ff_6, g1, g2, g3, g4, g5, g6, gQ, g8, g9, gA, g11, g12, g13, g14, g15, hft, hfg, hfp, hfl, (fun k hk => absurd hk (Nat.not_lt_zero _)), ivec.nil, ivec.nil, ivec.nil⟩⟩) dMo_question_284
        · rw [hcan] at hl
          refine lv_iconst (v := nI 1) hx hb dMo_question_146 (by decide) ?_
          refine lv_istore (lv' := [(6, .int (nI 1)), (5, .int (bI true)), (0, .ref a), (1, .int (nI 0)), (2, .int (nI j)), (3, .int (nI 0)), (4, .int (nI 0))]) hx hb dMo_question_147 hl (by decide) rfl (fun ls hl => ?_)
          have loop149 : ∀ (fuel : Nat) (n : Nat) (hz9 : List (Nat × Nat × Nat)) (rw9 : List (List Nat)) (rt9 : List (List Nat)) (nw9 : Nat) (z1 : Nat → Int32) (z2 : Nat → Int32) (z3 : Nat → Int32) (XL149 : hwW) (Hh : Heap) (lcs : List Loc) (ls : Array Slot), its.length + 1 - n < fuel → (1 ≤ n) → (n ≤ its.length + 1) → (hz9 = gaN (fun tb => ((tkF sd).1.map (trm (lg j) st)).all (fun t => decide (t = [] ∨ t ∈ tb))) (fun tb => tb.countP (fun w => decide (w ≠ []) && (decide (w ∈ ((tkF sd).1.map (trm (lg j) st)))))) (Tf its lg st j) (n - 1)) → (ivec z1 (fun h => h.1) hz9) → (ivec z2 (fun h => h.2.1) hz9) → (ivec z3 (fun h => h.2.2) hz9) → (hwF X XL149 (fun M => 1000 ≤ M ∧ M < 1100)) → (hwH XL149 a 1000 (.inr (10, [.int (nI tz), .int (nI its.length), .ref r1, .int (nI sg.length), .ref r2, .ref r3, .ref r4, .ref r5, .int (nI st.length), .ref r6, .int (nI 0), .ref r7, .int (nI ((tkF sd).1.length)), .ref r8, .ref r9, .ref r10, .int (nI nw9), .int (nI hz9.length), .ref r11, .ref r12, .ref r13, .ref r14, .int (nI nt), .ref r15]))) → (hwH XL149 r1 1001 (.inl (K 2, 31, .inl ft))) → (hwH XL149 r2 1002 (.inl (K 3, 1500, .inl fg))) → (hwH XL149 r3 1003 (.inl (K 0, 1500, .inl fp))) → (hwH XL149 r4 1004 (.inl (K 0, 4, .inl fl))) → (rwAt K XL149 r5 1005 40 st) → (hwH XL149 r6 1006 (.inl (K 3, 100, .inl fd))) → (rwAt K XL149 r7 1007 60 ((tkF sd).1)) → (rwAt K XL149 r8 1008 800 rw9) → (rwAt K XL149 r9 1009 800 rt9) → (rwAt K XL149 r10 1010 60 ((tkF sd).1.map (trm (lg j) st))) → (hwH XL149 r11 1011 (.inl (K 0, 30, .inl z1))) → (hwH XL149 r12 1012 (.inl (K 0, 30, .inl z2))) → (hwH XL149 r13 1013 (.inl (K 0, 30, .inl z3))) → (rwAt K XL149 r14 1014 800 tm) → (hwH XL149 r15 1015 (.inl (K 0, 169, .inl y))) → hwZ D vwCl A s.heap XL149 Hh lcs → lv_has ls 8 [(6, .int (nI n)), (5, .int (bI true)), (0, .ref a), (1, .int (nI 0)), (2, .int (nI j)), (3, .int (nI 0)), (4, .int (nI 0))] → W p l e ({ frames := 3, cells := 0, slots := 0, locals := 73 } : Room) s m args below meth c Hh lcs 0 0 Q (F0 m 149 ls []) := by
            intro fuel; induction fuel with
            | zero => intro n hz9 rw9 rt9 nw9 z1 z2 z3 XL149 Hh lcs ls hfu; exact absurd hfu (Nat.not_lt_zero _)
            | succ fuel ih149 =>
              intro n hz9 rw9 rt9 nw9 z1 z2 z3 XL149 Hh lcs ls hfu149 hn1 hn2 hhz hw1 hw2 hw3 hFr gx g1 g2 g3 g4 g5 g6 g7 g8 g9 g10 g11 g12 g13 g14 g15 hZ hl
              have hz30 : hz9.length ≤ n - 1 := hhz ▸ gaN_len (n - 1)
              have hBz : okH hz9 := hhz ▸ okH_gaN (fun n t ht => Tf_len htx hsl hj ht) (fun t => List.countP_le_length) (n - 1) (by omega)
              refine lv_iload hx hb dMo_question_149 (lv_at hl 0 rfl) ?_
              refine lv_aload_n hx hb dMo_question_151 rfl (lv_at hl 2 rfl) ?_
              refine hw_get hx hb hts (hwInn inMo) hown hK hZ gx rfl 1 (by decide) (hts (.fieldLink RMo 62 RMo "records" "I") (hwMem mm_418)) (fun _ h => h) rfl dMo_question_152 ?_
              refine hw_ic_gt (a := n) (b := its.length) (tgt := 280) hx hb dMo_question_155 (by decide) (by omega) (by omega) (fun cq_22 => ?_) (fun cq_22 => ?_)
              · refine lv_aload_n hx hb dMo_question_280 rfl (lv_at hl 2 rfl) ?_
                refine hw_get hx hb hts (hwInn inMo) hown hK hZ gx rfl 17 (by decide) (hts (.fieldLink RMo 111 RMo "hits" "I") (hwMem mm_409)) (fun _ h => h) rfl dMo_question_281 ?_
                exact hret hZ (by rw [hsA_t hcan, ← (show n - 1 = its.length by omega), ← hhz]; exact ⟨rfl, hFr, ⟨_, _, _, _, _, _, _, _, _, _, _, _, _, _, _, _, _, _, _, _, _, _, _, _, _, _, _, _, _, _, _, _, _, gx, g1, g2, g3, g4, g5, g6, g7, g8, g9, g10, g11, g12, g13, g14, g15, hft, hfg, hfp, hfl, (fun k hk => absurd hk (Nat.not_lt_zero _)), hw1, hw2, hw3⟩⟩) dMo_question_284
              · refine lv_iload hx hb dMo_question_158 (lv_at hl 1 rfl) ?_
                refine hw_bz_eqF (tgt := 280) hx hb dMo_question_160 (by decide) rfl ?_
                refine lv_aload_n hx hb dMo_question_163 rfl (lv_at hl 2 rfl) ?_
                refine hw_get hx hb hts (hwInn inMo) hown hK hZ gx rfl 2 (by decide) (hts (.fieldLink RMo 7 RMo "there" "[Z") (hwMem mm_419)) (fun _ h => h) rfl dMo_question_164 ?_
                refine lv_iload hx hb dMo_question_167 (lv_at hl 0 rfl) ?_
                refine hw_zald hx hb hK hZ 2 g1 rfl (j := n) (by omega) (by omega) dMo_question_169 ?_
                have hft9 := hft (n - 1) (by omega)
                rw [show n - 1 + 1 = n by omega] at hft9
                refine hw_topi hft9 ?_
                refine hw_bz_eq (tgt := 274) hx hb dMo_question_170 (by decide) (fun cq_24 => ?_) (fun cq_24 => ?_)
                · refine lv_iinc (v := nI (n + 1)) (lv' := [(6, .int (nI (n + 1))), (5, .int (bI true)), (0, .ref a), (1, .int (nI 0)), (2, .int (nI j)), (3, .int (nI 0)), (4, .int (nI 0))]) hx hb dMo_question_274 hl (k := 0) rfl (nI_add _ 1) (by decide) rfl (fun ls hl => ?_)
                  refine lv_goto (tgt := 149) hx hb dMo_question_277 (by decide) ?_
                  exact ih149 (n + 1) hz9 rw9 rt9 nw9 z1 z2 z3 _ _ _ _ (by omega) (by omega) (by omega) (gaN_none (by omega) hhz (Tf_f cq_24)) hw1 hw2 hw3 hFr gx g1 g2 g3 g4 g5 g6 g7 g8 g9 g10 g11 g12 g13 g14 g15 hZ (lv_sub hl [0, 1, 2, 3, 4, 5, 6] rfl)
                · refine lv_aload_n hx hb dMo_question_173 rfl (lv_at hl 2 rfl) ?_
                  refine lv_iload hx hb dMo_question_174 (lv_at hl 0 rfl) ?_
                  refine lv_iload_n hx hb dMo_question_176 rfl (lv_at hl 4 rfl) ?_
                  refine hw_callv (va_runV (As := [.int (nI n), .int (nI j)]) (rest := []) ⟨hx, hb, hml, hown, hts⟩ (m_gather l D K XL149 Hh.size (a := a) (r1 := r1) (r2 := r2) (r3 := r3) (r4 := r4) (r5 := r5) (r6 := r6) (r7 := r7) (r8 := r8) (r9 := r9) (r10 := r10) (r11 := r11) (r12 := r12) (r13 := r13) (r14 := r14) (r15 := r15) (tz := tz) (nr := its.length) (ng := sg.length) (ns := st.length) (nz := 0) (na := (tkF sd).1.length) (nw := nw9) (nh := hz9.length) (nt := nt) (fg := fg) (fp := fp) (fl := fl) (st := st) (rw0 := rw9) (rt0 := rt9) (sg := sg) (n := n) (j := j) (g := (lg j)) gx g2 g3 g4 g5 g8 g9 (by omega) (by omega) (by omega) (by assumption) (by assumption) (by assumption) (by omega) (by omega) (hfl j hj) (hlg j)) (cwV 2 hts (hwGood (hw_4 mm_421 mm_422 mm_423 mm_365 (hwAll mm_420))) rfl rfl rfl (by decide +kernel) ⟨Nat.le_of_ble_eq_true rfl, Nat.le_of_ble_eq_true rfl⟩) (hw_preV hK hO hZ (⟨_, _, gx⟩) rfl) rfl rfl hl.1 rfl (lv_room (Nat.le_of_ble_eq_true rfl)) dMo_question_177 ⟨(show 0 + 0 ≤ 0 by omega), (show 0 + 0 ≤ 0 by omega)⟩) hZ hA (fun X_25 H_26 lc_27 hp hZ => ?_)
                  obtain ⟨hF, hN_28, hN_29, hN_30⟩ := hp
                  have hFr := hwF.tr hFr hF (fun _ h => h) (fun M h => by first | exact False.elim h | ((try dsimp only at h ⊢); omega))
                  have g1 := hF _ _ _ (by intro hNS; first | exact False.elim hNS | ((try dsimp only at hNS); omega)) g1
                  have g2 := hF _ _ _ (by intro hNS; first | exact False.elim hNS | ((try dsimp only at hNS); omega)) g2
                  have g3 := hF _ _ _ (by intro hNS; first | exact False.elim hNS | ((try dsimp only at hNS); omega)) g3
                  have g4 := hF _ _ _ (by intro hNS; first | exact False.elim hNS | ((try dsimp only at hNS); omega)) g4
                  have g5 := rwAt.fr hF (by intro hNS; first | exact False.elim hNS | ((try dsimp only at hNS); omega)) g5
                  have g6 := hF _ _ _ (by intro hNS; first | exact False.elim hNS | ((try dsimp only at hNS); omega)) g6
                  have g7 := rwAt.fr hF (by intro hNS; first | exact False.elim hNS | ((try dsimp only at hNS); omega)) g7
                  have g10 := rwAt.fr hF (by intro hNS; first | exact False.elim hNS | ((try dsimp only at hNS); omega)) g10
                  have g11 := hF _ _ _ (by intro hNS; first | exact False.elim hNS | ((try dsimp only at hNS); omega)) g11
                  have g12 := hF _ _ _ (by intro hNS; first | exact False.elim hNS | ((try dsimp only at hNS); omega)) g12
                  have g13 := hF _ _ _ (by intro hNS; first | exact False.elim hNS | ((try dsimp only at hNS); omega)) g13
                  have g14 := rwAt.fr hF (by intro hNS; first | exact False.elim hNS | ((try dsimp only at hNS); omega)) g14
                  have g15 := hF _ _ _ (by intro hNS; first | exact False.elim hNS | ((try dsimp only at hNS); omega)) g15
                  have ff_31 := hN_28
                  have ff_32 := hN_29
                  have ff_33 := hN_30
                  have htx9 := htx (n - 1) (by omega) j hj
                  rw [show n - 1 + 1 = n by omega] at htx9
                  rw [← htx9] at ff_31 ff_32 ff_33
                  have hwn : ((its.getD (n - 1) hwIt0).2 j).1.length ≤ 600 := by rw [htx9]; exact Nat.le_trans (tkF_len _) (Nat.le_trans (ltL_len _ _) hsl)
                  have hmp : (((its.getD (n - 1) hwIt0).2 j).1.map (trm (lg j) st)).length = ((its.getD (n - 1) hwIt0).2 j).1.length := List.length_map _
                  refine lv_iload_n hx hb dMo_question_180 rfl (lv_at hl 3 rfl) ?_
                  refine hw_if_ne (a := 0) (tgt := 191) hx hb dMo_question_181 (by decide) (by omega) (fun cq_34 => by exfalso; omega) (fun cq_34 => ?_)
                  refine lv_aload_n hx hb dMo_question_184 rfl (lv_at hl 2 rfl) ?_
                  refine hw_calli (va_runV (As := []) (rest := []) ⟨hx, hb, hml, hown, hts⟩ (m_meets l D K X_25 H_26.size (a := a) (r1 := r1) (r2 := r2) (r3 := r3) (r4 := r4) (r5 := r5) (r6 := r6) (r7 := r7) (r8 := r8) (r9 := r9) (r10 := r10) (r11 := r11) (r12 := r12) (r13 := r13) (r14 := r14) (r15 := r15) (tz := tz) (nr := its.length) (ng := sg.length) (ns := st.length) (nz := 0) (na := (tkF sd).1.length) (nw := ((its.getD (n - 1) hwIt0).2 j).1.length) (nh := hz9.length) (nt := nt) (at_ := ((tkF sd).1.map (trm (lg j) st))) (rt := ((its.getD (n - 1) hwIt0).2 j).1.map (trm (lg j) st)) ff_31 g10 ff_33 (by omega) (by omega)) (cwV 0 hts (hwGood (hw_4 mm_448 mm_449 mm_450 mm_365 (hwAll mm_447))) rfl rfl rfl (by decide +kernel) ⟨Nat.le_of_ble_eq_true rfl, Nat.le_of_ble_eq_true rfl⟩) (hw_preV hK hO hZ (⟨_, _, ff_31⟩) rfl) rfl rfl hl.1 rfl (lv_room (Nat.le_of_ble_eq_true rfl)) dMo_question_185 ⟨(show 0 + 0 ≤ 0 by omega), (show 0 + 0 ≤ 0 by omega)⟩) hZ hA (fun r X_35 H_36 lc_37 hp hZ => ?_)
                  obtain ⟨hr, hy⟩ := hp
                  subst hy
                  refine hw_topi hr ?_
                  refine lv_goto (tgt := 230) hx hb dMo_question_188 (by decide) ?_
                  refine lv_istore (lv' := [(7, .int (bI (((tkF sd).1.map (trm (lg j) st)).all (fun t => decide (t = [] ∨ t ∈ ((its.getD (n - 1) hwIt0).2 j).1.map (trm (lg j) st)))))), (6, .int (nI n)), (5, .int (bI true)), (0, .ref a), (1, .int (nI 0)), (2, .int (nI j)), (3, .int (nI 0)), (4, .int (nI 0))]) hx hb dMo_question_230 hl (by decide) rfl (fun ls hl => ?_)
                  refine lv_iload hx hb dMo_question_232 (lv_at hl 0 rfl) ?_
                  refine hw_bz_eq (tgt := 274) hx hb dMo_question_234 (by decide) (fun cq_38 => ?_) (fun cq_38 => ?_)
                  · refine lv_iinc (v := nI (n + 1)) (lv' := [(6, .int (nI (n + 1))), (7, .int (bI (((tkF sd).1.map (trm (lg j) st)).all (fun t => decide (t = [] ∨ t ∈ ((its.getD (n - 1) hwIt0).2 j).1.map (trm (lg j) st)))))), (5, .int (bI true)), (0, .ref a), (1, .int (nI 0)), (2, .int (nI j)), (3, .int (nI 0)), (4, .int (nI 0))]) hx hb dMo_question_274 hl (k := 1) rfl (nI_add _ 1) (by decide) rfl (fun ls hl => ?_)
                    refine lv_goto (tgt := 149) hx hb dMo_question_277 (by decide) ?_
                    exact ih149 (n + 1) hz9 (((its.getD (n - 1) hwIt0).2 j).1) (((its.getD (n - 1) hwIt0).2 j).1.map (trm (lg j) st)) (((its.getD (n - 1) hwIt0).2 j).1.length) z1 z2 z3 _ _ _ _ (by omega) (by omega) (by omega) (gaN_no (by omega) hhz (Tf_t cq_24) cq_38) hw1 hw2 hw3 hFr ff_31 g1 g2 g3 g4 g5 g6 g7 ff_32 ff_33 g10 g11 g12 g13 g14 g15 hZ (lv_sub hl [0, 2, 3, 4, 5, 6, 7] rfl)
                  · refine lv_aload_n hx hb dMo_question_237 rfl (lv_at hl 3 rfl) ?_
                    refine lv_iload hx hb dMo_question_238 (lv_at hl 1 rfl) ?_
                    refine lv_iload_n hx hb dMo_question_240 rfl (lv_at hl 4 rfl) ?_
                    refine lv_iconst (v := nI 3) hx hb dMo_question_241 (by decide) ?_
                    refine hw_ic_ne (a := 0) (b := 3) (tgt := 254) hx hb dMo_question_242 (by decide) (by omega) (by omega) (fun cq_39 => ?_) (fun cq_39 => by exfalso; omega)
                    refine lv_aload_n hx hb dMo_question_254 rfl (lv_at hl 3 rfl) ?_
                    refine lv_iload_n hx hb dMo_question_255 rfl (lv_at hl 4 rfl) ?_
                    refine lv_iconst (v := nI 2) hx hb dMo_question_256 (by decide) ?_
                    refine hw_ic_ne (a := 0) (b := 2) (tgt := 264) hx hb dMo_question_257 (by decide) (by omega) (by omega) (fun cq_40 => ?_) (fun cq_40 => by exfalso; omega)
                    refine lv_aload_n hx hb dMo_question_264 rfl (lv_at hl 3 rfl) ?_
                    refine hw_get hx hb hts (hwInn inMo) hown hK hZ ff_31 rfl 12 (by decide) (hts (.fieldLink RMo 83 RMo "askedCount" "I") (hwMem mm_377)) (fun _ h => h) rfl dMo_question_265 ?_
                    refine hw_calli (va_runV (As := [.int (nI ((tkF sd).1.length))]) (rest := [.int (nI n), .ref a]) ⟨hx, hb, hml, hown, hts⟩ (m_count l D K X_25 H_36.size (a := a) (r1 := r1) (r2 := r2) (r3 := r3) (r4 := r4) (r5 := r5) (r6 := r6) (r7 := r7) (r8 := r8) (r9 := r9) (r10 := r10) (r11 := r11) (r12 := r12) (r13 := r13) (r14 := r14) (r15 := r15) (tz := tz) (nr := its.length) (ng := sg.length) (ns := st.length) (nz := 0) (na := (tkF sd).1.length) (nw := ((its.getD (n - 1) hwIt0).2 j).1.length) (nh := hz9.length) (nt := nt) (at_ := ((tkF sd).1.map (trm (lg j) st))) (rt := ((its.getD (n - 1) hwIt0).2 j).1.map (trm (lg j) st)) (nn := (tkF sd).1.length) ff_31 g10 ff_33 (by omega) (by omega)) (cwV 1 hts (hwGood (hw_4 mm_452 mm_453 mm_454 mm_365 (hwAll mm_451))) rfl rfl rfl (by decide +kernel) ⟨Nat.le_of_ble_eq_true rfl, Nat.le_of_ble_eq_true rfl⟩) (hw_preV hK hO hZ (⟨_, _, ff_31⟩) rfl) rfl rfl hl.1 rfl (lv_room (Nat.le_of_ble_eq_true rfl)) dMo_question_268 ⟨(show 0 + 0 ≤ 0 by omega), (show 0 + 0 ≤ 0 by omega)⟩) hZ hA (fun r X_41 H_42 lc_43 hp hZ => ?_)
                    obtain ⟨hr, hy, xx_44⟩ := hp
                    subst hy
                    refine hw_topi hr ?_
                    refine hw_topi (congrArg nI (cnt_ask hal (((its.getD (n - 1) hwIt0).2 j).1.map (trm (lg j) st)))) ?_
                    have hcl : (((its.getD (n - 1) hwIt0).2 j).1.map (trm (lg j) st)).countP (fun w => decide (w ≠ []) && (decide (w ∈ ((tkF sd).1.map (trm (lg j) st))))) ≤ (((its.getD (n - 1) hwIt0).2 j).1.map (trm (lg j) st)).length := List.countP_le_length
                    refine hw_callv (va_runV (As := [.int (nI n), .int (nI ((((its.getD (n - 1) hwIt0).2 j).1.map (trm (lg j) st)).countP (fun w => decide (w ≠ []) && (decide (w ∈ ((tkF sd).1.map (trm (lg j) st)))))))]) (rest := []) ⟨hx, hb, hml, hown, hts⟩ (m_found l D K X_25 H_42.size (a := a) (r1 := r1) (r2 := r2) (r3 := r3) (r4 := r4) (r5 := r5) (r6 := r6) (r7 := r7) (r8 := r8) (r9 := r9) (r10 := r10) (r11 := r11) (r12 := r12) (r13 := r13) (r14 := r14) (r15 := r15) (tz := tz) (nr := its.length) (ng := sg.length) (ns := st.length) (nz := 0) (na := (tkF sd).1.length) (nw := ((its.getD (n - 1) hwIt0).2 j).1.length) (nh := hz9.length) (nt := nt) (f1 := z1) (f2 := z2) (f3 := z3) (hs := hz9) (x0 := n) (c0 := (((its.getD (n - 1) hwIt0).2 j).1.map (trm (lg j) st)).countP (fun w => decide (w ≠ []) && (decide (w ∈ ((tkF sd).1.map (trm (lg j) st)))))) ff_31 g11 g12 g13 (by omega) (by omega) hw1 hw2 hw3 hBz (by omega) (by omega)) (cwV 2 hts (hwGood (hw_4 mm_456 mm_457 mm_458 mm_365 (hwAll mm_455))) rfl rfl rfl (by decide +kernel) ⟨Nat.le_of_ble_eq_true rfl, Nat.le_of_ble_eq_true rfl⟩) (hw_preV hK hO hZ (⟨_, _, ff_31⟩) rfl) rfl rfl hl.1 rfl (lv_room (Nat.le_of_ble_eq_true rfl)) dMo_question_271 ⟨(show 0 + 0 ≤ 0 by omega), (show 0 + 0 ≤ 0 by omega)⟩) hZ hA (fun X_45 H_46 lc_47 hp hZ => ?_)
                    obtain ⟨e1_48, e2_49, e3_50, hF, hN_51, hN_52, hN_53, hN_54, xx_55, xx_56, xx_57⟩ := hp
                    have hFr := hwF.tr hFr hF (fun _ h => h) (fun M h => by first | exact False.elim h | ((try dsimp only at h ⊢); omega))
                    have g1 := hF _ _ _ (by intro hNS; first | exact False.elim hNS | ((try dsimp only at hNS); omega)) g1
                    have g2 := hF _ _ _ (by intro hNS; first | exact False.elim hNS | ((try dsimp only at hNS); omega)) g2
                    have g3 := hF _ _ _ (by intro hNS; first | exact False.elim hNS | ((try dsimp only at hNS); omega)) g3
                    have g4 := hF _ _ _ (by intro hNS; first | exact False.elim hNS | ((try dsimp only at hNS); omega)) g4
                    have g5 := rwAt.fr hF (by intro hNS; first | exact False.elim hNS | ((try dsimp only at hNS); omega)) g5
                    have g6 := hF _ _ _ (by intro hNS; first | exact False.elim hNS | ((try dsimp only at hNS); omega)) g6
                    have g7 := rwAt.fr hF (by intro hNS; first | exact False.elim hNS | ((try dsimp only at hNS); omega)) g7
                    have g10 := rwAt.fr hF (by intro hNS; first | exact False.elim hNS | ((try dsimp only at hNS); omega)) g10
                    have g14 := rwAt.fr hF (by intro hNS; first | exact False.elim hNS | ((try dsimp only at hNS); omega)) g14
                    have g15 := hF _ _ _ (by intro hNS; first | exact False.elim hNS | ((try dsimp only at hNS); omega)) g15
                    have ff_32 := rwAt.fr hF (by intro hNS; first | exact False.elim hNS | ((try dsimp only at hNS); omega)) ff_32
                    have ff_33 := rwAt.fr hF (by intro hNS; first | exact False.elim hNS | ((try dsimp only at hNS); omega)) ff_33
                    have ff_58 := hN_51
                    have ff_59 := hN_52
                    have ff_60 := hN_53
                    have ff_61 := hN_54
                    refine lv_iinc (v := nI (n + 1)) (lv' := [(6, .int (nI (n + 1))), (7, .int (bI (((tkF sd).1.map (trm (lg j) st)).all (fun t => decide (t = [] ∨ t ∈ ((its.getD (n - 1) hwIt0).2 j).1.map (trm (lg j) st)))))), (5, .int (bI true)), (0, .ref a), (1, .int (nI 0)), (2, .int (nI j)), (3, .int (nI 0)), (4, .int (nI 0))]) hx hb dMo_question_274 hl (k := 1) rfl (nI_add _ 1) (by decide) rfl (fun ls hl => ?_)
                    refine lv_goto (tgt := 149) hx hb dMo_question_277 (by decide) ?_
                    exact ih149 (n + 1) (insH (n, (((its.getD (n - 1) hwIt0).2 j).1.map (trm (lg j) st)).countP (fun w => decide (w ≠ []) && (decide (w ∈ ((tkF sd).1.map (trm (lg j) st))))), ((its.getD (n - 1) hwIt0).2 j).1.length) hz9) (((its.getD (n - 1) hwIt0).2 j).1) (((its.getD (n - 1) hwIt0).2 j).1.map (trm (lg j) st)) (((its.getD (n - 1) hwIt0).2 j).1.length) e1_48 e2_49 e3_50 _ _ _ _ (by omega) (by omega) (by omega) (by have hy9 := gaN_yes (by omega) hhz (Tf_t cq_24) cq_38; rw [hmp] at hy9; rw [ins_adH (by omega)]; exact hy9) xx_55 xx_56 xx_57 hFr ff_58 g1 g2 g3 g4 g5 g6 g7 ff_32 ff_33 g10 ff_59 ff_60 ff_61 g14 g15 hZ (lv_sub hl [0, 2, 3, 4, 5, 6, 7] rfl)
          exact loop149 (its.length + 1 - 1 + 1) 1 ([]) rw rt nw f1 f2 f3 _ _ _ _ (by omega) (by omega) (by omega) rfl ivec.nil ivec.nil ivec.nil hFr ff_6 g1 g2 g3 g4 g5 g6 gQ g8 g9 gA g11 g12 g13 g14 g15 hZ (lv_sub hl [0, 1, 2, 3, 4, 5, 6] rfl)
      · refine lv_aload_n hx hb dMo_question_30 rfl (lv_at hl 1 rfl) ?_
        refine hw_get hx hb hts (hwInn inMo) hown hK hZ ff_6 rfl 15 (by decide) (hts (.fieldLink RMo 40 RMo "askedTerm" "[J") (hwMem mm_397)) (fun _ h => h) rfl dMo_question_31 ?_
        refine lv_iload hx hb dMo_question_34 (lv_at hl 0 rfl) ?_
        refine lv_aload_n hx hb dMo_question_36 rfl (lv_at hl 1 rfl) ?_
        refine lv_aload_n hx hb dMo_question_37 rfl (lv_at hl 1 rfl) ?_
        refine hw_get hx hb hts (hwInn inMo) hown hK hZ ff_6 rfl 11 (by decide) (hts (.fieldLink RMo 31 RMo "asked" "[J") (hwMem mm_383)) (fun _ h => h) rfl dMo_question_38 ?_
        refine lv_iload hx hb dMo_question_41 (lv_at hl 0 rfl) ?_
        refine hw_lald hx hb hK hZ 1 g7 rfl (j := k) (by omega) (by omega) dMo_question_43 ?_
        refine hw_topl (hv7 k (by omega)) ?_
        refine lv_iload_n hx hb dMo_question_44 rfl (lv_at hl 3 rfl) ?_
        refine hw_calll (va_runV (As := [.long (lN (rW ((tkF sd).1.getD k []))), .int (nI j)]) (rest := [.int (nI k), .ref r10]) ⟨hx, hb, hml, hown, hts⟩ (m_stem l D K XL21 Hh.size (a := a) (r1 := r1) (r2 := r2) (r3 := r3) (r4 := r4) (r5 := r5) (r6 := r6) (r7 := r7) (r8 := r8) (r9 := r9) (r10 := r10) (r11 := r11) (r12 := r12) (r13 := r13) (r14 := r14) (r15 := r15) (tz := tz) (nr := its.length) (ng := sg.length) (ns := st.length) (nz := 0) (na := (tkF sd).1.length) (nw := nw) (nh := 0) (nt := nt) (st := st) (fl := fl) (w := ((tkF sd).1.getD k [])) (j := j) (g := (lg j)) ff_6 g5 g4 (by omega) (hQ2 k) (ne_getD hqne (by omega)) (by omega) (hfl j hj) (hlg j)) (cwV 2 hts (hwGood (hw_4 mm_392 mm_393 mm_394 mm_365 (hwAll mm_391))) rfl rfl rfl (by decide +kernel) ⟨Nat.le_of_ble_eq_true rfl, Nat.le_of_ble_eq_true rfl⟩) (hw_preV hK hO hZ (⟨_, _, ff_6⟩) rfl) rfl rfl hl.1 rfl (lv_room (Nat.le_of_ble_eq_true rfl)) dMo_question_45 ⟨(show 0 + 0 ≤ 0 by omega), (show 0 + 0 ≤ 0 by omega)⟩) hZ hA (fun r X_62 H_63 lc_64 hp hZ => ?_)
        obtain ⟨hr, hy⟩ := hp
        subst hy
        refine hw_topl hr ?_
        refine hw_last hx hb hK hZ 1 g10 rfl (j := k) (by omega) (by omega) dMo_question_48 (fun X_65 H_66 lc_67 hZ hF hNw => ?_)
        have hFr := hwF.tr hFr hF (fun _ h => h) (fun M h => by first | exact False.elim h | ((try dsimp only at h ⊢); omega))
        have g1 := hF _ _ _ (by intro hNS; first | exact False.elim hNS | ((try dsimp only at hNS); omega)) g1
        have g2 := hF _ _ _ (by intro hNS; first | exact False.elim hNS | ((try dsimp only at hNS); omega)) g2
        have g3 := hF _ _ _ (by intro hNS; first | exact False.elim hNS | ((try dsimp only at hNS); omega)) g3
        have g4 := hF _ _ _ (by intro hNS; first | exact False.elim hNS | ((try dsimp only at hNS); omega)) g4
        have g5 := rwAt.fr hF (by intro hNS; first | exact False.elim hNS | ((try dsimp only at hNS); omega)) g5
        have g6 := hF _ _ _ (by intro hNS; first | exact False.elim hNS | ((try dsimp only at hNS); omega)) g6
        have g8 := rwAt.fr hF (by intro hNS; first | exact False.elim hNS | ((try dsimp only at hNS); omega)) g8
        have g9 := rwAt.fr hF (by intro hNS; first | exact False.elim hNS | ((try dsimp only at hNS); omega)) g9
        have g11 := hF _ _ _ (by intro hNS; first | exact False.elim hNS | ((try dsimp only at hNS); omega)) g11
        have g12 := hF _ _ _ (by intro hNS; first | exact False.elim hNS | ((try dsimp only at hNS); omega)) g12
        have g13 := hF _ _ _ (by intro hNS; first | exact False.elim hNS | ((try dsimp only at hNS); omega)) g13
        have g14 := rwAt.fr hF (by intro hNS; first | exact False.elim hNS | ((try dsimp only at hNS); omega)) g14
        have g15 := hF _ _ _ (by intro hNS; first | exact False.elim hNS | ((try dsimp only at hNS); omega)) g15
        have ff_6 := hF _ _ _ (by intro hNS; first | exact False.elim hNS | ((try dsimp only at hNS); omega)) ff_6
        have g7 := hF _ _ _ (by intro hNS; first | exact False.elim hNS | ((try dsimp only at hNS); omega)) g7
        have g10 := hNw
        refine lv_iinc (v := nI (k + 1)) (lv' := [(5, .int (nI (k + 1))), (0, .ref a), (1, .int (nI 0)), (2, .int (nI j)), (3, .int (nI 0)), (4, .int (nI 0))]) hx hb dMo_question_49 hl (k := 0) rfl (nI_add _ 1) (by decide) rfl (fun ls hl => ?_)
        refine lv_goto (tgt := 21) hx hb dMo_question_52 (by decide) ?_
        exact ih21 (k + 1) (vp_updL z10 k (lN (rW (trm (lg j) st ((tkF sd).1.getD k []))))) _ _ _ _ (by omega) (by omega) (fun p hp => (Nat.lt_or_eq_of_le (Nat.le_of_lt_succ hp)).elim (fun z => by rw [pk_uLn (by omega)]; exact hz p z) (fun z => by subst z; rw [pk_uLs])) hFr g1 g2 g3 g4 g5 g6 g8 g9 g11 g12 g13 g14 g15 ff_6 g7 g10 hZ (lv_sub hl [0, 1, 2, 3, 4, 5] rfl)
  exact loop21 ((tkF sd).1.length - 0 + 1) 0 f10 _ _ _ _ (by omega) (by omega) (fun p hp => absurd hp (Nat.not_lt_zero _)) hFr g1 g2 g3 g4 g5 g6 g8 g9 g11 g12 g13 g14 g15 ff_6 g7 g10 hZ (lv_sub hl [0, 1, 2, 3, 4, 5] rfl)
set_option maxHeartbeats 4000000 in
set_option maxRecDepth 100000 in
theorem m_q1 (l : Launch) (D : va_G) (K : Nat → ClassId) (X : hwW) (sz : Nat) (a : Nat) (its : hwIt) (sg : List (Nat × Nat)) (lg : Nat → Nat) (st : List (List Nat)) (sd : List Nat) (hs : List (Nat × Nat × Nat)) (j : Nat) (f0_ : moAt K X a its sg lg st sd hs) (okm : okM its sg lg st sd hs) (hj : j < 4) : Met l yMo_question (.code yMo_question cMo_question 8 (some .int) :: hwG) ({ frames := 3, cells := 0, slots := 0, locals := 73 } : Room) (hwPc D vwCl (hwT K) [.ref a, .int (nI 1), .int (nI j), .int (nI 0), .int (nI 0)] X sz) (hwQi D vwCl X sz (fun r Y => r = nI (hsP ((tkF sd).1.map (trm (lg j) st)) (Tf its lg st j) its.length).length ∧ hwF X Y (fun M => 1000 ≤ M ∧ M < 1100) ∧ moAt K Y a its sg lg st [] (hsP ((tkF sd).1.map (trm (lg j) st)) (Tf its lg st j) its.length))) 0 0 (va_A X.1 sz) := by
  refine hwMeti (cc := cMo_question) (maxL := 8) (by decide) rfl (Nat.le_of_ble_eq_true rfl) (fun p e s m args below meth c ls A Q hx hb hml hown hts hname hret hK hO hZ hA hl => ?_)
  have hl : lv_has ls 8 [(0, .ref a), (1, .int (nI 1)), (2, .int (nI j)), (3, .int (nI 0)), (4, .int (nI 0))] := hl
  have hFr : hwF X X (fun M => 1000 ≤ M ∧ M < 1100) := hwF.rf
  obtain ⟨hni3, hsl, hsb, hlg, hsd, hh30, hB, htx⟩ := okm
  obtain ⟨r1, r2, r3, r4, r5, r6, r7, r8, r9, r10, r11, r12, r13, r14, r15, tz, na, nw, nt, ft, fg, fp, fl, fd, f1, f2, f3, qa, rw, rt, at_, tm, y, gx, g1, g2, g3, g4, g5, g6, g7, g8, g9, g10, g11, g12, g13, g14, g15, hft, hfg, hfp, hfl, hfd, hv1, hv2, hv3⟩ := f0_
  have hst40 := rwAt.len g5
  refine lv_aload_n hx hb dMo_question_0 rfl (lv_at hl 0 rfl) ?_
  refine hw_callv (va_runV (As := []) (rest := []) ⟨hx, hb, hml, hown, hts⟩ (m_take l D K X s.heap.size (a := a) (r1 := r1) (r2 := r2) (r3 := r3) (r4 := r4) (r5 := r5) (r6 := r6) (r7 := r7) (r8 := r8) (r9 := r9) (r10 := r10) (r11 := r11) (r12 := r12) (r13 := r13) (r14 := r14) (r15 := r15) (tz := tz) (nr := its.length) (ng := sg.length) (ns := st.length) (nz := sd.length) (na := na) (nw := nw) (nh := hs.length) (nt := nt) (fd := fd) (qa := qa) (sd := sd) gx g6 g7 (by omega) (by omega) (by assumption)) (cwV 0 hts (hwGood (hw_4 mm_437 mm_438 mm_439 mm_365 (hwAll mm_436))) rfl rfl rfl (by decide +kernel) ⟨Nat.le_of_ble_eq_true rfl, Nat.le_of_ble_eq_true rfl⟩) (hw_preV hK hO hZ (⟨_, _, gx⟩) rfl) rfl rfl hl.1 rfl (lv_room (Nat.le_of_ble_eq_true rfl)) dMo_question_1 ⟨(show 0 + 0 ≤ 0 by omega), (show 0 + 0 ≤ 0 by omega)⟩) hZ hA (fun X_1 H_2 lc_3 hp hZ => ?_)
  obtain ⟨hF, hN_4, hN_5⟩ := hp
  have hFr := hwF.tr hFr hF (fun _ h => h) (fun M h => by first | exact False.elim h | ((try dsimp only at h ⊢); omega))
  have g1 := hF _ _ _ (by intro hNS; first | exact False.elim hNS | ((try dsimp only at hNS); omega)) g1
  have g2 := hF _ _ _ (by intro hNS; first | exact False.elim hNS | ((try dsimp only at hNS); omega)) g2
  have g3 := hF _ _ _ (by intro hNS; first | exact False.elim hNS | ((try dsimp only at hNS); omega)) g3
  have g4 := hF _ _ _ (by intro hNS; first | exact False.elim hNS | ((try dsimp only at hNS); omega)) g4
  have g5 := rwAt.fr hF (by intro hNS; first | exact False.elim hNS | ((try dsimp only at hNS); omega)) g5
  have g6 := hF _ _ _ (by intro hNS; first | exact False.elim hNS | ((try dsimp only at hNS); omega)) g6
  have g8 := rwAt.fr hF (by intro hNS; first | exact False.elim hNS | ((try dsimp only at hNS); omega)) g8
  have g9 := rwAt.fr hF (by intro hNS; first | exact False.elim hNS | ((try dsimp only at hNS); omega)) g9
  have g10 := rwAt.fr hF (by intro hNS; first | exact False.elim hNS | ((try dsimp only at hNS); omega)) g10
  have g11 := hF _ _ _ (by intro hNS; first | exact False.elim hNS | ((try dsimp only at hNS); omega)) g11
  have g12 := hF _ _ _ (by intro hNS; first | exact False.elim hNS | ((try dsimp only at hNS); omega)) g12
  have g13 := hF _ _ _ (by intro hNS; first | exact False.elim hNS | ((try dsimp only at hNS); omega)) g13
  have g14 := rwAt.fr hF (by intro hNS; first | exact False.elim hNS | ((try dsimp only at hNS); omega)) g14
  have g15 := hF _ _ _ (by intro hNS; first | exact False.elim hNS | ((try dsimp only at hNS); omega)) g15
  have ff_6 := hN_4
  have ff_7 := hN_5
  have hqn := tkF_len sd
  have hq60 := rwAt.len ff_7
  refine lv_aload_n hx hb dMo_question_4 rfl (lv_at hl 0 rfl) ?_
  refine lv_iconst (v := nI 0) hx hb dMo_question_5 (by decide) ?_
  refine hw_put (ty := .int) (fs' := [.int (nI tz), .int (nI its.length), .ref r1, .int (nI sg.length), .ref r2, .ref r3, .ref r4, .ref r5, .int (nI st.length), .ref r6, .int (nI 0), .ref r7, .int (nI ((tkF sd).1.length)), .ref r8, .ref r9, .ref r10, .int (nI nw), .int (nI 0), .ref r11, .ref r12, .ref r13, .ref r14, .int (nI nt), .ref r15]) hx hb hts (hwInn inMo) tyMo tyMo_ok nmMo hown hK hZ ff_6 rfl 17 (by decide) (hts (.fieldLink RMo 111 RMo "hits" "I") (hwMem mm_409)) (fun _ h => h) rfl (by decide +kernel) rfl rfl (Nat.le_of_ble_eq_true rfl) rfl dMo_question_6 (fun X_8 H_9 lc_10 hZ hF hNw => ?_)
  have hFr := hwF.tr hFr hF (fun _ h => h) (fun M h => by first | exact False.elim h | ((try dsimp only at h ⊢); omega))
  have g1 := hF _ _ _ (by intro hNS; first | exact False.elim hNS | ((try dsimp only at hNS); omega)) g1
  have g2 := hF _ _ _ (by intro hNS; first | exact False.elim hNS | ((try dsimp only at hNS); omega)) g2
  have g3 := hF _ _ _ (by intro hNS; first | exact False.elim hNS | ((try dsimp only at hNS); omega)) g3
  have g4 := hF _ _ _ (by intro hNS; first | exact False.elim hNS | ((try dsimp only at hNS); omega)) g4
  have g5 := rwAt.fr hF (by intro hNS; first | exact False.elim hNS | ((try dsimp only at hNS); omega)) g5
  have g6 := hF _ _ _ (by intro hNS; first | exact False.elim hNS | ((try dsimp only at hNS); omega)) g6
  have g8 := rwAt.fr hF (by intro hNS; first | exact False.elim hNS | ((try dsimp only at hNS); omega)) g8
  have g9 := rwAt.fr hF (by intro hNS; first | exact False.elim hNS | ((try dsimp only at hNS); omega)) g9
  have g10 := rwAt.fr hF (by intro hNS; first | exact False.elim hNS | ((try dsimp only at hNS); omega)) g10
  have g11 := hF _ _ _ (by intro hNS; first | exact False.elim hNS | ((try dsimp only at hNS); omega)) g11
  have g12 := hF _ _ _ (by intro hNS; first | exact False.elim hNS | ((try dsimp only at hNS); omega)) g12
  have g13 := hF _ _ _ (by intro hNS; first | exact False.elim hNS | ((try dsimp only at hNS); omega)) g13
  have g14 := rwAt.fr hF (by intro hNS; first | exact False.elim hNS | ((try dsimp only at hNS); omega)) g14
  have g15 := hF _ _ _ (by intro hNS; first | exact False.elim hNS | ((try dsimp only at hNS); omega)) g15
  have ff_6 := hNw
  have ff_7 := rwAt.fr hF (by intro hNS; first | exact False.elim hNS | ((try dsimp only at hNS); omega)) ff_7
  refine lv_iload_n hx hb dMo_question_9 rfl (lv_at hl 2 rfl) ?_
  refine hw_calli (va_runS (As := [.int (nI j)]) (rest := []) ⟨hx, hb, hml, hown, hts⟩ (m_isField l D K X_8 H_9.size (j := j) (by omega)) (va_cwS 1 hts (hwGood (hw_3 mm_442 mm_441 mm_365 (hwAll mm_440))) rfl rfl rfl (by decide +kernel) ⟨Nat.le_of_ble_eq_true rfl, Nat.le_of_ble_eq_true rfl⟩) (hw_preS hK hO hZ) rfl rfl hl.1 rfl (lv_room (Nat.le_of_ble_eq_true rfl)) dMo_question_10 ⟨(show 0 + 0 ≤ 0 by omega), (show 0 + 0 ≤ 0 by omega)⟩) hZ hA (fun r X_11 H_12 lc_13 hp hZ => ?_)
  obtain ⟨hr, hy⟩ := hp
  subst hy
  refine hw_topi hr ?_
  refine hw_bz_neT (tgt := 18) hx hb dMo_question_13 (by decide) rfl ?_
  obtain ⟨f7, g7, hN7, hv7, hk7⟩ := ff_7
  obtain ⟨f10, g10, hN10, hv10, hk10⟩ := g10
  have hQ2 := fun j => okWs.at hk7 j
  have hqne := tkF_ne sd (fun k hk => hfd k hk ▸ mL_le _)
  refine lv_iconst (v := nI 0) hx hb dMo_question_18 (by decide) ?_
  refine lv_istore (lv' := [(5, .int (nI 0)), (0, .ref a), (1, .int (nI 1)), (2, .int (nI j)), (3, .int (nI 0)), (4, .int (nI 0))]) hx hb dMo_question_19 hl (by decide) rfl (fun ls hl => ?_)
  have loop21 : ∀ (fuel : Nat) (k : Nat) (z10 : Nat → Int64) (XL21 : hwW) (Hh : Heap) (lcs : List Loc) (ls : Array Slot), (tkF sd).1.length - k < fuel → (k ≤ (tkF sd).1.length) → (∀ p, p < k → z10 p = lN (rW (trm (lg j) st ((tkF sd).1.getD p [])))) → (hwF X XL21 (fun M => 1000 ≤ M ∧ M < 1100)) → (hwH XL21 r1 1001 (.inl (K 2, 31, .inl ft))) → (hwH XL21 r2 1002 (.inl (K 3, 1500, .inl fg))) → (hwH XL21 r3 1003 (.inl (K 0, 1500, .inl fp))) → (hwH XL21 r4 1004 (.inl (K 0, 4, .inl fl))) → (rwAt K XL21 r5 1005 40 st) → (hwH XL21 r6 1006 (.inl (K 3, 100, .inl fd))) → (rwAt K XL21 r8 1008 800 rw) → (rwAt K XL21 r9 1009 800 rt) → (hwH XL21 r11 1011 (.inl (K 0, 30, .inl f1))) → (hwH XL21 r12 1012 (.inl (K 0, 30, .inl f2))) → (hwH XL21 r13 1013 (.inl (K 0, 30, .inl f3))) → (rwAt K XL21 r14 1014 800 tm) → (hwH XL21 r15 1015 (.inl (K 0, 169, .inl y))) → (hwH XL21 a 1000 (.inr (10, [.int (nI tz), .int (nI its.length), .ref r1, .int (nI sg.length), .ref r2, .ref r3, .ref r4, .ref r5, .int (nI st.length), .ref r6, .int (nI 0), .ref r7, .int (nI ((tkF sd).1.length)), .ref r8, .ref r9, .ref r10, .int (nI nw), .int (nI 0), .ref r11, .ref r12, .ref r13, .ref r14, .int (nI nt), .ref r15]))) → (hwH XL21 r7 1007 (.inl (K 1, 60, .inr (.inl f7)))) → (hwH XL21 r10 1010 (.inl (K 1, 60, .inr (.inl z10)))) → hwZ D vwCl A s.heap XL21 Hh lcs → lv_has ls 8 [(5, .int (nI k)), (0, .ref a), (1, .int (nI 1)), (2, .int (nI j)), (3, .int (nI 0)), (4, .int (nI 0))] → W p l e ({ frames := 3, cells := 0, slots := 0, locals := 73 } : Room) s m args below meth c Hh lcs 0 0 Q (F0 m 21 ls []) := by
    intro fuel; induction fuel with
    | zero => intro k z10 XL21 Hh lcs ls hfu; exact absurd hfu (Nat.not_lt_zero _)
    | succ fuel ih21 =>
      intro k z10 XL21 Hh lcs ls hfu21 hk hz hFr g1 g2 g3 g4 g5 g6 g8 g9 g11 g12 g13 g14 g15 ff_6 g7 g10 hZ hl
      refine lv_iload hx hb dMo_question_21 (lv_at hl 0 rfl) ?_
      refine lv_aload_n hx hb dMo_question_23 rfl (lv_at hl 1 rfl) ?_
      refine hw_get hx hb hts (hwInn inMo) hown hK hZ ff_6 rfl 12 (by decide) (hts (.fieldLink RMo 83 RMo "askedCount" "I") (hwMem mm_377)) (fun _ h => h) rfl dMo_question_24 ?_
      refine hw_ic_ge (a := k) (b := (tkF sd).1.length) (tgt := 55) hx hb dMo_question_27 (by decide) (by omega) (by omega) (fun cq_15 => ?_) (fun cq_15 => ?_)
      · have gA : rwAt K XL21 r10 1010 60 ((tkF sd).1.map (trm (lg j) st)) := ⟨_, g10, by rw [List.length_map]; omega, rvec_map (ws := (tkF sd).1) (φ := trm (lg j) st) (fun p hp => hz p (by omega)), okWs_map hk7 (lg j) st⟩
        have gQ : rwAt K XL21 r7 1007 60 (tkF sd).1 := ⟨_, g7, hN7, hv7, hk7⟩
        have hal : ((tkF sd).1.map (trm (lg j) st)).length = (tkF sd).1.length := List.length_map _
        have hA2 := fun j => okWs.at (rwAt.oks gA) j
        refine lv_iload_n hx hb dMo_question_55 rfl (lv_at hl 2 rfl) ?_
        refine lv_iconst (v := nI 2) hx hb dMo_question_56 (by decide) ?_
        refine hw_ic_ge (a := 1) (b := 2) (tgt := 67) hx hb dMo_question_57 (by decide) (by omega) (by omega) (fun cq_16 => by exfalso; omega) (fun cq_16 => ?_)
        refine lv_aload_n hx hb dMo_question_60 rfl (lv_at hl 1 rfl) ?_
        refine hw_calli (va_runV (As := []) (rest := []) ⟨hx, hb, hml, hown, hts⟩ (m_hasAny l D K XL21 Hh.size (a := a) (r1 := r1) (r2 := r2) (r3 := r3) (r4 := r4) (r5 := r5) (r6 := r6) (r7 := r7) (r8 := r8) (r9 := r9) (r10 := r10) (r11 := r11) (r12 := r12) (r13 := r13) (r14 := r14) (r15 := r15) (tz := tz) (nr := its.length) (ng := sg.length) (ns := st.length) (nz := 0) (na := (tkF sd).1.length) (nw := nw) (nh := 0) (nt := nt) (at_ := ((tkF sd).1.map (trm (lg j) st))) ff_6 gA (by omega)) (cwV 0 hts (hwGood (hw_4 mm_444 mm_445 mm_446 mm_365 (hwAll mm_443))) rfl rfl rfl (by decide +kernel) ⟨Nat.le_of_ble_eq_true rfl, Nat.le_of_ble_eq_true rfl⟩) (hw_preV hK hO hZ (⟨_, _, ff_6⟩) rfl) rfl rfl hl.1 rfl (lv_room (Nat.le_of_ble_eq_true rfl)) dMo_question_61 ⟨(show 0 + 0 ≤ 0 by omega), (show 0 + 0 ≤ 0 by omega)⟩) hZ hA (fun r X_17 H_18 lc_19 hp hZ => ?_)
        obtain ⟨hr, hy⟩ := hp
        subst hy
        refine hw_topi hr ?_
        refine lv_goto (tgt := 144) hx hb dMo_question_64 (by decide) ?_
        refine lv_istore (lv' := [(5, .int (bI (((tkF sd).1.map (trm (lg j) st)).any (fun t => decide (t ≠ []))))), (0, .ref a), (1, .int (nI 1)), (2, .int (nI j)), (3, .int (nI 0)), (4, .int (nI 0))]) hx hb dMo_question_144 hl (by decide) rfl (fun ls hl => ?_)
        cases hcan : ((tkF sd).1.map (trm (lg j) st)).any (fun t => decide (t ≠ []))
        · rw [hcan] at hl
          refine lv_iconst (v := nI 1) hx hb dMo_question_146 (by decide) ?_
          refine lv_istore (lv' := [(6, .int (nI 1)), (5, .int (bI false)), (0, .ref a), (1, .int (nI 1)), (2, .int (nI j)), (3, .int (nI 0)), (4, .int (nI 0))]) hx hb dMo_question_147 hl (by decide) rfl (fun ls hl => ?_)
          refine lv_iload hx hb dMo_question_149 (lv_at hl 0 rfl) ?_
          refine lv_aload_n hx hb dMo_question_151 rfl (lv_at hl 2 rfl) ?_
          refine hw_get hx hb hts (hwInn inMo) hown hK hZ ff_6 rfl 1 (by decide) (hts (.fieldLink RMo 62 RMo "records" "I") (hwMem mm_418)) (fun _ h => h) rfl dMo_question_152 ?_
          refine hw_ic_gt (a := 1) (b := its.length) (tgt := 280) hx hb dMo_question_155 (by decide) (by omega) (by omega) (fun cq_20 => ?_) (fun cq_20 => ?_)
          · refine lv_aload_n hx hb dMo_question_280 rfl (lv_at hl 2 rfl) ?_
            refine hw_get hx hb hts (hwInn inMo) hown hK hZ ff_6 rfl 17 (by decide) (hts (.fieldLink RMo 111 RMo "hits" "I") (hwMem mm_409)) (fun _ h => h) rfl dMo_question_281 ?_
            exact hret hZ (by rw [hsP_f hcan]; exact ⟨rfl, hFr, ⟨_, _, _, _, _, _, _, _, _, _, _, _, _, _, _, _, _, _, _, _, _, _, _, _, _, _, _, _, _, _, _, _, _, ff_6, g1, g2, g3, g4, g5, g6, gQ, g8, g9, gA, g11, g12, g13, g14, g15, hft, hfg, hfp, hfl, (fun k hk => absurd hk (Nat.not_lt_zero _)), ivec.nil, ivec.nil, ivec.nil⟩⟩) dMo_question_284
          · refine lv_iload hx hb dMo_question_158 (lv_at hl 1 rfl) ?_
            refine hw_bz_eqT (tgt := 280) hx hb dMo_question_160 (by decide) rfl ?_
            refine lv_aload_n hx hb dMo_question_280 rfl (lv_at hl 2 rfl) ?_
            refine hw_get hx hb hts (hwInn inMo) hown hK hZ ff_6 rfl 17 (by decide) (hts (.fieldLink RMo 111 RMo "hits" "I") (hwMem mm_409)) (fun _ h => h) rfl dMo_question_281 ?_
            exact hret hZ (by rw [hsP_f hcan]; exact ⟨rfl, hFr, ⟨_, _, _, _, _, _, _, _, _, _, _, _, _, _, _, _, _, _, _, _, _, _, _, _, _, _, _, _, _, _, _, _, _, ff_6, g1, g2, g3, g4, g5, g6, gQ, g8, g9, gA, g11, g12, g13, g14, g15, hft, hfg, hfp, hfl, (fun k hk => absurd hk (Nat.not_lt_zero _)), ivec.nil, ivec.nil, ivec.nil⟩⟩) dMo_question_284
        · rw [hcan] at hl
          refine lv_iconst (v := nI 1) hx hb dMo_question_146 (by decide) ?_
          refine lv_istore (lv' := [(6, .int (nI 1)), (5, .int (bI true)), (0, .ref a), (1, .int (nI 1)), (2, .int (nI j)), (3, .int (nI 0)), (4, .int (nI 0))]) hx hb dMo_question_147 hl (by decide) rfl (fun ls hl => ?_)
          have loop149 : ∀ (fuel : Nat) (n : Nat) (hz9 : List (Nat × Nat × Nat)) (rw9 : List (List Nat)) (rt9 : List (List Nat)) (nw9 : Nat) (z1 : Nat → Int32) (z2 : Nat → Int32) (z3 : Nat → Int32) (XL149 : hwW) (Hh : Heap) (lcs : List Loc) (ls : Array Slot), its.length + 1 - n < fuel → (1 ≤ n) → (n ≤ its.length + 1) → (hz9 = gaN (fun tb => phL ((tkF sd).1.map (trm (lg j) st)) tb) (fun tb => tb.countP (fun w => decide (w ≠ []) && (decide (w ∈ ((tkF sd).1.map (trm (lg j) st)))))) (Tf its lg st j) (n - 1)) → (ivec z1 (fun h => h.1) hz9) → (ivec z2 (fun h => h.2.1) hz9) → (ivec z3 (fun h => h.2.2) hz9) → (hwF X XL149 (fun M => 1000 ≤ M ∧ M < 1100)) → (hwH XL149 a 1000 (.inr (10, [.int (nI tz), .int (nI its.length), .ref r1, .int (nI sg.length), .ref r2, .ref r3, .ref r4, .ref r5, .int (nI st.length), .ref r6, .int (nI 0), .ref r7, .int (nI ((tkF sd).1.length)), .ref r8, .ref r9, .ref r10, .int (nI nw9), .int (nI hz9.length), .ref r11, .ref r12, .ref r13, .ref r14, .int (nI nt), .ref r15]))) → (hwH XL149 r1 1001 (.inl (K 2, 31, .inl ft))) → (hwH XL149 r2 1002 (.inl (K 3, 1500, .inl fg))) → (hwH XL149 r3 1003 (.inl (K 0, 1500, .inl fp))) → (hwH XL149 r4 1004 (.inl (K 0, 4, .inl fl))) → (rwAt K XL149 r5 1005 40 st) → (hwH XL149 r6 1006 (.inl (K 3, 100, .inl fd))) → (rwAt K XL149 r7 1007 60 ((tkF sd).1)) → (rwAt K XL149 r8 1008 800 rw9) → (rwAt K XL149 r9 1009 800 rt9) → (rwAt K XL149 r10 1010 60 ((tkF sd).1.map (trm (lg j) st))) → (hwH XL149 r11 1011 (.inl (K 0, 30, .inl z1))) → (hwH XL149 r12 1012 (.inl (K 0, 30, .inl z2))) → (hwH XL149 r13 1013 (.inl (K 0, 30, .inl z3))) → (rwAt K XL149 r14 1014 800 tm) → (hwH XL149 r15 1015 (.inl (K 0, 169, .inl y))) → hwZ D vwCl A s.heap XL149 Hh lcs → lv_has ls 8 [(6, .int (nI n)), (5, .int (bI true)), (0, .ref a), (1, .int (nI 1)), (2, .int (nI j)), (3, .int (nI 0)), (4, .int (nI 0))] → W p l e ({ frames := 3, cells := 0, slots := 0, locals := 73 } : Room) s m args below meth c Hh lcs 0 0 Q (F0 m 149 ls []) := by
            intro fuel; induction fuel with
            | zero => intro n hz9 rw9 rt9 nw9 z1 z2 z3 XL149 Hh lcs ls hfu; exact absurd hfu (Nat.not_lt_zero _)
            | succ fuel ih149 =>
              intro n hz9 rw9 rt9 nw9 z1 z2 z3 XL149 Hh lcs ls hfu149 hn1 hn2 hhz hw1 hw2 hw3 hFr gx g1 g2 g3 g4 g5 g6 g7 g8 g9 g10 g11 g12 g13 g14 g15 hZ hl
              have hz30 : hz9.length ≤ n - 1 := hhz ▸ gaN_len (n - 1)
              have hBz : okH hz9 := hhz ▸ okH_gaN (fun n t ht => Tf_len htx hsl hj ht) (fun t => List.countP_le_length) (n - 1) (by omega)
              refine lv_iload hx hb dMo_question_149 (lv_at hl 0 rfl) ?_
              refine lv_aload_n hx hb dMo_question_151 rfl (lv_at hl 2 rfl) ?_
              refine hw_get hx hb hts (hwInn inMo) hown hK hZ gx rfl 1 (by decide) (hts (.fieldLink RMo 62 RMo "records" "I") (hwMem mm_418)) (fun _ h => h) rfl dMo_question_152 ?_
              refine hw_ic_gt (a := n) (b := its.length) (tgt := 280) hx hb dMo_question_155 (by decide) (by omega) (by omega) (fun cq_22 => ?_) (fun cq_22 => ?_)
              · refine lv_aload_n hx hb dMo_question_280 rfl (lv_at hl 2 rfl) ?_
                refine hw_get hx hb hts (hwInn inMo) hown hK hZ gx rfl 17 (by decide) (hts (.fieldLink RMo 111 RMo "hits" "I") (hwMem mm_409)) (fun _ h => h) rfl dMo_question_281 ?_
                exact hret hZ (by rw [hsP_t hcan, ← (show n - 1 = its.length by omega), ← hhz]; exact ⟨rfl, hFr, ⟨_, _, _, _, _, _, _, _, _, _, _, _, _, _, _, _, _, _, _, _, _, _, _, _, _, _, _, _, _, _, _, _, _, gx, g1, g2, g3, g4, g5, g6, g7, g8, g9, g10, g11, g12, g13, g14, g15, hft, hfg, hfp, hfl, (fun k hk => absurd hk (Nat.not_lt_zero _)), hw1, hw2, hw3⟩⟩) dMo_question_284
              · refine lv_iload hx hb dMo_question_158 (lv_at hl 1 rfl) ?_
                refine hw_bz_eqF (tgt := 280) hx hb dMo_question_160 (by decide) rfl ?_
                refine lv_aload_n hx hb dMo_question_163 rfl (lv_at hl 2 rfl) ?_
                refine hw_get hx hb hts (hwInn inMo) hown hK hZ gx rfl 2 (by decide) (hts (.fieldLink RMo 7 RMo "there" "[Z") (hwMem mm_419)) (fun _ h => h) rfl dMo_question_164 ?_
                refine lv_iload hx hb dMo_question_167 (lv_at hl 0 rfl) ?_
                refine hw_zald hx hb hK hZ 2 g1 rfl (j := n) (by omega) (by omega) dMo_question_169 ?_
                have hft9 := hft (n - 1) (by omega)
                rw [show n - 1 + 1 = n by omega] at hft9
                refine hw_topi hft9 ?_
                refine hw_bz_eq (tgt := 274) hx hb dMo_question_170 (by decide) (fun cq_24 => ?_) (fun cq_24 => ?_)
                · refine lv_iinc (v := nI (n + 1)) (lv' := [(6, .int (nI (n + 1))), (5, .int (bI true)), (0, .ref a), (1, .int (nI 1)), (2, .int (nI j)), (3, .int (nI 0)), (4, .int (nI 0))]) hx hb dMo_question_274 hl (k := 0) rfl (nI_add _ 1) (by decide) rfl (fun ls hl => ?_)
                  refine lv_goto (tgt := 149) hx hb dMo_question_277 (by decide) ?_
                  exact ih149 (n + 1) hz9 rw9 rt9 nw9 z1 z2 z3 _ _ _ _ (by omega) (by omega) (by omega) (gaN_none (by omega) hhz (Tf_f cq_24)) hw1 hw2 hw3 hFr gx g1 g2 g3 g4 g5 g6 g7 g8 g9 g10 g11 g12 g13 g14 g15 hZ (lv_sub hl [0, 1, 2, 3, 4, 5, 6] rfl)
                · refine lv_aload_n hx hb dMo_question_173 rfl (lv_at hl 2 rfl) ?_
                  refine lv_iload hx hb dMo_question_174 (lv_at hl 0 rfl) ?_
                  refine lv_iload_n hx hb dMo_question_176 rfl (lv_at hl 4 rfl) ?_
                  refine hw_callv (va_runV (As := [.int (nI n), .int (nI j)]) (rest := []) ⟨hx, hb, hml, hown, hts⟩ (m_gather l D K XL149 Hh.size (a := a) (r1 := r1) (r2 := r2) (r3 := r3) (r4 := r4) (r5 := r5) (r6 := r6) (r7 := r7) (r8 := r8) (r9 := r9) (r10 := r10) (r11 := r11) (r12 := r12) (r13 := r13) (r14 := r14) (r15 := r15) (tz := tz) (nr := its.length) (ng := sg.length) (ns := st.length) (nz := 0) (na := (tkF sd).1.length) (nw := nw9) (nh := hz9.length) (nt := nt) (fg := fg) (fp := fp) (fl := fl) (st := st) (rw0 := rw9) (rt0 := rt9) (sg := sg) (n := n) (j := j) (g := (lg j)) gx g2 g3 g4 g5 g8 g9 (by omega) (by omega) (by omega) (by assumption) (by assumption) (by assumption) (by omega) (by omega) (hfl j hj) (hlg j)) (cwV 2 hts (hwGood (hw_4 mm_421 mm_422 mm_423 mm_365 (hwAll mm_420))) rfl rfl rfl (by decide +kernel) ⟨Nat.le_of_ble_eq_true rfl, Nat.le_of_ble_eq_true rfl⟩) (hw_preV hK hO hZ (⟨_, _, gx⟩) rfl) rfl rfl hl.1 rfl (lv_room (Nat.le_of_ble_eq_true rfl)) dMo_question_177 ⟨(show 0 + 0 ≤ 0 by omega), (show 0 + 0 ≤ 0 by omega)⟩) hZ hA (fun X_25 H_26 lc_27 hp hZ => ?_)
                  obtain ⟨hF, hN_28, hN_29, hN_30⟩ := hp
                  have hFr := hwF.tr hFr hF (fun _ h => h) (fun M h => by first | exact False.elim h | ((try dsimp only at h ⊢); omega))
                  have g1 := hF _ _ _ (by intro hNS; first | exact False.elim hNS | ((try dsimp only at hNS); omega)) g1
                  have g2 := hF _ _ _ (by intro hNS; first | exact False.elim hNS | ((try dsimp only at hNS); omega)) g2
                  have g3 := hF _ _ _ (by intro hNS; first | exact False.elim hNS | ((try dsimp only at hNS); omega)) g3
                  have g4 := hF _ _ _ (by intro hNS; first | exact False.elim hNS | ((try dsimp only at hNS); omega)) g4
                  have g5 := rwAt.fr hF (by intro hNS; first | exact False.elim hNS | ((try dsimp only at hNS); omega)) g5
                  have g6 := hF _ _ _ (by intro hNS; first | exact False.elim hNS | ((try dsimp only at hNS); omega)) g6
                  have g7 := rwAt.fr hF (by intro hNS; first | exact False.elim hNS | ((try dsimp only at hNS); omega)) g7
                  have g10 := rwAt.fr hF (by intro hNS; first | exact False.elim hNS | ((try dsimp only at hNS); omega)) g10
                  have g11 := hF _ _ _ (by intro hNS; first | exact False.elim hNS | ((try dsimp only at hNS); omega)) g11
                  have g12 := hF _ _ _ (by intro hNS; first | exact False.elim hNS | ((try dsimp only at hNS); omega)) g12
                  have g13 := hF _ _ _ (by intro hNS; first | exact False.elim hNS | ((try dsimp only at hNS); omega)) g13
                  have g14 := rwAt.fr hF (by intro hNS; first | exact False.elim hNS | ((try dsimp only at hNS); omega)) g14
                  have g15 := hF _ _ _ (by intro hNS; first | exact False.elim hNS | ((try dsimp only at hNS); omega)) g15
                  have ff_31 := hN_28
                  have ff_32 := hN_29
                  have ff_33 := hN_30
                  have htx9 := htx (n - 1) (by omega) j hj
                  rw [show n - 1 + 1 = n by omega] at htx9
                  rw [← htx9] at ff_31 ff_32 ff_33
                  have hwn : ((its.getD (n - 1) hwIt0).2 j).1.length ≤ 600 := by rw [htx9]; exact Nat.le_trans (tkF_len _) (Nat.le_trans (ltL_len _ _) hsl)
                  have hmp : (((its.getD (n - 1) hwIt0).2 j).1.map (trm (lg j) st)).length = ((its.getD (n - 1) hwIt0).2 j).1.length := List.length_map _
                  refine lv_iload_n hx hb dMo_question_180 rfl (lv_at hl 3 rfl) ?_
                  refine hw_if_ne (a := 1) (tgt := 191) hx hb dMo_question_181 (by decide) (by omega) (fun cq_34 => ?_) (fun cq_34 => by exfalso; omega)
                  refine lv_iload_n hx hb dMo_question_191 rfl (lv_at hl 3 rfl) ?_
                  refine lv_iconst (v := nI 1) hx hb dMo_question_192 (by decide) ?_
                  refine hw_ic_ne (a := 1) (b := 1) (tgt := 203) hx hb dMo_question_193 (by decide) (by omega) (by omega) (fun cq_35 => by exfalso; omega) (fun cq_35 => ?_)
                  refine lv_aload_n hx hb dMo_question_196 rfl (lv_at hl 2 rfl) ?_
                  refine hw_calli (va_runV (As := []) (rest := []) ⟨hx, hb, hml, hown, hts⟩ (m_phrase l D K X_25 H_26.size (a := a) (r1 := r1) (r2 := r2) (r3 := r3) (r4 := r4) (r5 := r5) (r6 := r6) (r7 := r7) (r8 := r8) (r9 := r9) (r10 := r10) (r11 := r11) (r12 := r12) (r13 := r13) (r14 := r14) (r15 := r15) (tz := tz) (nr := its.length) (ng := sg.length) (ns := st.length) (nz := 0) (na := (tkF sd).1.length) (nw := ((its.getD (n - 1) hwIt0).2 j).1.length) (nh := hz9.length) (nt := nt) (at_ := ((tkF sd).1.map (trm (lg j) st))) (rt := ((its.getD (n - 1) hwIt0).2 j).1.map (trm (lg j) st)) ff_31 g10 ff_33 (by omega) (by omega) (by omega) (by omega)) (cwV 0 hts (hwGood (hw_4 mm_460 mm_461 mm_462 mm_365 (hwAll mm_459))) rfl rfl rfl (by decide +kernel) ⟨Nat.le_of_ble_eq_true rfl, Nat.le_of_ble_eq_true rfl⟩) (hw_preV hK hO hZ (⟨_, _, ff_31⟩) rfl) rfl rfl hl.1 rfl (lv_room (Nat.le_of_ble_eq_true rfl)) dMo_question_197 ⟨(show 0 + 0 ≤ 0 by omega), (show 0 + 0 ≤ 0 by omega)⟩) hZ hA (fun r X_36 H_37 lc_38 hp hZ => ?_)
                  obtain ⟨hr, hy⟩ := hp
                  subst hy
                  refine hw_topi hr ?_
                  refine lv_goto (tgt := 230) hx hb dMo_question_200 (by decide) ?_
                  refine lv_istore (lv' := [(7, .int (bI (phL ((tkF sd).1.map (trm (lg j) st)) (((its.getD (n - 1) hwIt0).2 j).1.map (trm (lg j) st))))), (6, .int (nI n)), (5, .int (bI true)), (0, .ref a), (1, .int (nI 1)), (2, .int (nI j)), (3, .int (nI 0)), (4, .int (nI 0))]) hx hb dMo_question_230 hl (by decide) rfl (fun ls hl => ?_)
                  refine lv_iload hx hb dMo_question_232 (lv_at hl 0 rfl) ?_
                  refine hw_bz_eq (tgt := 274) hx hb dMo_question_234 (by decide) (fun cq_39 => ?_) (fun cq_39 => ?_)
                  · refine lv_iinc (v := nI (n + 1)) (lv' := [(6, .int (nI (n + 1))), (7, .int (bI (phL ((tkF sd).1.map (trm (lg j) st)) (((its.getD (n - 1) hwIt0).2 j).1.map (trm (lg j) st))))), (5, .int (bI true)), (0, .ref a), (1, .int (nI 1)), (2, .int (nI j)), (3, .int (nI 0)), (4, .int (nI 0))]) hx hb dMo_question_274 hl (k := 1) rfl (nI_add _ 1) (by decide) rfl (fun ls hl => ?_)
                    refine lv_goto (tgt := 149) hx hb dMo_question_277 (by decide) ?_
                    exact ih149 (n + 1) hz9 (((its.getD (n - 1) hwIt0).2 j).1) (((its.getD (n - 1) hwIt0).2 j).1.map (trm (lg j) st)) (((its.getD (n - 1) hwIt0).2 j).1.length) z1 z2 z3 _ _ _ _ (by omega) (by omega) (by omega) (gaN_no (by omega) hhz (Tf_t cq_24) cq_39) hw1 hw2 hw3 hFr ff_31 g1 g2 g3 g4 g5 g6 g7 ff_32 ff_33 g10 g11 g12 g13 g14 g15 hZ (lv_sub hl [0, 2, 3, 4, 5, 6, 7] rfl)
                  · refine lv_aload_n hx hb dMo_question_237 rfl (lv_at hl 3 rfl) ?_
                    refine lv_iload hx hb dMo_question_238 (lv_at hl 1 rfl) ?_
                    refine lv_iload_n hx hb dMo_question_240 rfl (lv_at hl 4 rfl) ?_
                    refine lv_iconst (v := nI 3) hx hb dMo_question_241 (by decide) ?_
                    refine hw_ic_ne (a := 1) (b := 3) (tgt := 254) hx hb dMo_question_242 (by decide) (by omega) (by omega) (fun cq_40 => ?_) (fun cq_40 => by exfalso; omega)
                    refine lv_aload_n hx hb dMo_question_254 rfl (lv_at hl 3 rfl) ?_
                    refine lv_iload_n hx hb dMo_question_255 rfl (lv_at hl 4 rfl) ?_
                    refine lv_iconst (v := nI 2) hx hb dMo_question_256 (by decide) ?_
                    refine hw_ic_ne (a := 1) (b := 2) (tgt := 264) hx hb dMo_question_257 (by decide) (by omega) (by omega) (fun cq_41 => ?_) (fun cq_41 => by exfalso; omega)
                    refine lv_aload_n hx hb dMo_question_264 rfl (lv_at hl 3 rfl) ?_
                    refine hw_get hx hb hts (hwInn inMo) hown hK hZ ff_31 rfl 12 (by decide) (hts (.fieldLink RMo 83 RMo "askedCount" "I") (hwMem mm_377)) (fun _ h => h) rfl dMo_question_265 ?_
                    refine hw_calli (va_runV (As := [.int (nI ((tkF sd).1.length))]) (rest := [.int (nI n), .ref a]) ⟨hx, hb, hml, hown, hts⟩ (m_count l D K X_25 H_37.size (a := a) (r1 := r1) (r2 := r2) (r3 := r3) (r4 := r4) (r5 := r5) (r6 := r6) (r7 := r7) (r8 := r8) (r9 := r9) (r10 := r10) (r11 := r11) (r12 := r12) (r13 := r13) (r14 := r14) (r15 := r15) (tz := tz) (nr := its.length) (ng := sg.length) (ns := st.length) (nz := 0) (na := (tkF sd).1.length) (nw := ((its.getD (n - 1) hwIt0).2 j).1.length) (nh := hz9.length) (nt := nt) (at_ := ((tkF sd).1.map (trm (lg j) st))) (rt := ((its.getD (n - 1) hwIt0).2 j).1.map (trm (lg j) st)) (nn := (tkF sd).1.length) ff_31 g10 ff_33 (by omega) (by omega)) (cwV 1 hts (hwGood (hw_4 mm_452 mm_453 mm_454 mm_365 (hwAll mm_451))) rfl rfl rfl (by decide +kernel) ⟨Nat.le_of_ble_eq_true rfl, Nat.le_of_ble_eq_true rfl⟩) (hw_preV hK hO hZ (⟨_, _, ff_31⟩) rfl) rfl rfl hl.1 rfl (lv_room (Nat.le_of_ble_eq_true rfl)) dMo_question_268 ⟨(show 0 + 0 ≤ 0 by omega), (show 0 + 0 ≤ 0 by omega)⟩) hZ hA (fun r X_42 H_43 lc_44 hp hZ => ?_)
                    obtain ⟨hr, hy, xx_45⟩ := hp
                    subst hy
                    refine hw_topi hr ?_
                    refine hw_topi (congrArg nI (cnt_ask hal (((its.getD (n - 1) hwIt0).2 j).1.map (trm (lg j) st)))) ?_
                    have hcl : (((its.getD (n - 1) hwIt0).2 j).1.map (trm (lg j) st)).countP (fun w => decide (w ≠ []) && (decide (w ∈ ((tkF sd).1.map (trm (lg j) st))))) ≤ (((its.getD (n - 1) hwIt0).2 j).1.map (trm (lg j) st)).length := List.countP_le_length
                    refine hw_callv (va_runV (As := [.int (nI n), .int (nI ((((its.getD (n - 1) hwIt0).2 j).1.map (trm (lg j) st)).countP (fun w => decide (w ≠ []) && (decide (w ∈ ((tkF sd).1.map (trm (lg j) st)))))))]) (rest := []) ⟨hx, hb, hml, hown, hts⟩ (m_found l D K X_25 H_43.size (a := a) (r1 := r1) (r2 := r2) (r3 := r3) (r4 := r4) (r5 := r5) (r6 := r6) (r7 := r7) (r8 := r8) (r9 := r9) (r10 := r10) (r11 := r11) (r12 := r12) (r13 := r13) (r14 := r14) (r15 := r15) (tz := tz) (nr := its.length) (ng := sg.length) (ns := st.length) (nz := 0) (na := (tkF sd).1.length) (nw := ((its.getD (n - 1) hwIt0).2 j).1.length) (nh := hz9.length) (nt := nt) (f1 := z1) (f2 := z2) (f3 := z3) (hs := hz9) (x0 := n) (c0 := (((its.getD (n - 1) hwIt0).2 j).1.map (trm (lg j) st)).countP (fun w => decide (w ≠ []) && (decide (w ∈ ((tkF sd).1.map (trm (lg j) st)))))) ff_31 g11 g12 g13 (by omega) (by omega) hw1 hw2 hw3 hBz (by omega) (by omega)) (cwV 2 hts (hwGood (hw_4 mm_456 mm_457 mm_458 mm_365 (hwAll mm_455))) rfl rfl rfl (by decide +kernel) ⟨Nat.le_of_ble_eq_true rfl, Nat.le_of_ble_eq_true rfl⟩) (hw_preV hK hO hZ (⟨_, _, ff_31⟩) rfl) rfl rfl hl.1 rfl (lv_room (Nat.le_of_ble_eq_true rfl)) dMo_question_271 ⟨(show 0 + 0 ≤ 0 by omega), (show 0 + 0 ≤ 0 by omega)⟩) hZ hA (fun X_46 H_47 lc_48 hp hZ => ?_)
                    obtain ⟨e1_49, e2_50, e3_51, hF, hN_52, hN_53, hN_54, hN_55, xx_56, xx_57, xx_58⟩ := hp
                    have hFr := hwF.tr hFr hF (fun _ h => h) (fun M h => by first | exact False.elim h | ((try dsimp only at h ⊢); omega))
                    have g1 := hF _ _ _ (by intro hNS; first | exact False.elim hNS | ((try dsimp only at hNS); omega)) g1
                    have g2 := hF _ _ _ (by intro hNS; first | exact False.elim hNS | ((try dsimp only at hNS); omega)) g2
                    have g3 := hF _ _ _ (by intro hNS; first | exact False.elim hNS | ((try dsimp only at hNS); omega)) g3
                    have g4 := hF _ _ _ (by intro hNS; first | exact False.elim hNS | ((try dsimp only at hNS); omega)) g4
                    have g5 := rwAt.fr hF (by intro hNS; first | exact False.elim hNS | ((try dsimp only at hNS); omega)) g5
                    have g6 := hF _ _ _ (by intro hNS; first | exact False.elim hNS | ((try dsimp only at hNS); omega)) g6
                    have g7 := rwAt.fr hF (by intro hNS; first | exact False.elim hNS | ((try dsimp only at hNS); omega)) g7
                    have g10 := rwAt.fr hF (by intro hNS; first | exact False.elim hNS | ((try dsimp only at hNS); omega)) g10
                    have g14 := rwAt.fr hF (by intro hNS; first | exact False.elim hNS | ((try dsimp only at hNS); omega)) g14
                    have g15 := hF _ _ _ (by intro hNS; first | exact False.elim hNS | ((try dsimp only at hNS); omega)) g15
                    have ff_32 := rwAt.fr hF (by intro hNS; first | exact False.elim hNS | ((try dsimp only at hNS); omega)) ff_32
                    have ff_33 := rwAt.fr hF (by intro hNS; first | exact False.elim hNS | ((try dsimp only at hNS); omega)) ff_33
                    have ff_59 := hN_52
                    have ff_60 := hN_53
                    have ff_61 := hN_54
                    have ff_62 := hN_55
                    refine lv_iinc (v := nI (n + 1)) (lv' := [(6, .int (nI (n + 1))), (7, .int (bI (phL ((tkF sd).1.map (trm (lg j) st)) (((its.getD (n - 1) hwIt0).2 j).1.map (trm (lg j) st))))), (5, .int (bI true)), (0, .ref a), (1, .int (nI 1)), (2, .int (nI j)), (3, .int (nI 0)), (4, .int (nI 0))]) hx hb dMo_question_274 hl (k := 1) rfl (nI_add _ 1) (by decide) rfl (fun ls hl => ?_)
                    refine lv_goto (tgt := 149) hx hb dMo_question_277 (by decide) ?_
                    exact ih149 (n + 1) (insH (n, (((its.getD (n - 1) hwIt0).2 j).1.map (trm (lg j) st)).countP (fun w => decide (w ≠ []) && (decide (w ∈ ((tkF sd).1.map (trm (lg j) st))))), ((its.getD (n - 1) hwIt0).2 j).1.length) hz9) (((its.getD (n - 1) hwIt0).2 j).1) (((its.getD (n - 1) hwIt0).2 j).1.map (trm (lg j) st)) (((its.getD (n - 1) hwIt0).2 j).1.length) e1_49 e2_50 e3_51 _ _ _ _ (by omega) (by omega) (by omega) (by have hy9 := gaN_yes (by omega) hhz (Tf_t cq_24) cq_39; rw [hmp] at hy9; rw [ins_adH (by omega)]; exact hy9) xx_56 xx_57 xx_58 hFr ff_59 g1 g2 g3 g4 g5 g6 g7 ff_32 ff_33 g10 ff_60 ff_61 ff_62 g14 g15 hZ (lv_sub hl [0, 2, 3, 4, 5, 6, 7] rfl)
          exact loop149 (its.length + 1 - 1 + 1) 1 ([]) rw rt nw f1 f2 f3 _ _ _ _ (by omega) (by omega) (by omega) rfl ivec.nil ivec.nil ivec.nil hFr ff_6 g1 g2 g3 g4 g5 g6 gQ g8 g9 gA g11 g12 g13 g14 g15 hZ (lv_sub hl [0, 1, 2, 3, 4, 5, 6] rfl)
      · refine lv_aload_n hx hb dMo_question_30 rfl (lv_at hl 1 rfl) ?_
        refine hw_get hx hb hts (hwInn inMo) hown hK hZ ff_6 rfl 15 (by decide) (hts (.fieldLink RMo 40 RMo "askedTerm" "[J") (hwMem mm_397)) (fun _ h => h) rfl dMo_question_31 ?_
        refine lv_iload hx hb dMo_question_34 (lv_at hl 0 rfl) ?_
        refine lv_aload_n hx hb dMo_question_36 rfl (lv_at hl 1 rfl) ?_
        refine lv_aload_n hx hb dMo_question_37 rfl (lv_at hl 1 rfl) ?_
        refine hw_get hx hb hts (hwInn inMo) hown hK hZ ff_6 rfl 11 (by decide) (hts (.fieldLink RMo 31 RMo "asked" "[J") (hwMem mm_383)) (fun _ h => h) rfl dMo_question_38 ?_
        refine lv_iload hx hb dMo_question_41 (lv_at hl 0 rfl) ?_
        refine hw_lald hx hb hK hZ 1 g7 rfl (j := k) (by omega) (by omega) dMo_question_43 ?_
        refine hw_topl (hv7 k (by omega)) ?_
        refine lv_iload_n hx hb dMo_question_44 rfl (lv_at hl 3 rfl) ?_
        refine hw_calll (va_runV (As := [.long (lN (rW ((tkF sd).1.getD k []))), .int (nI j)]) (rest := [.int (nI k), .ref r10]) ⟨hx, hb, hml, hown, hts⟩ (m_stem l D K XL21 Hh.size (a := a) (r1 := r1) (r2 := r2) (r3 := r3) (r4 := r4) (r5 := r5) (r6 := r6) (r7 := r7) (r8 := r8) (r9 := r9) (r10 := r10) (r11 := r11) (r12 := r12) (r13 := r13) (r14 := r14) (r15 := r15) (tz := tz) (nr := its.length) (ng := sg.length) (ns := st.length) (nz := 0) (na := (tkF sd).1.length) (nw := nw) (nh := 0) (nt := nt) (st := st) (fl := fl) (w := ((tkF sd).1.getD k [])) (j := j) (g := (lg j)) ff_6 g5 g4 (by omega) (hQ2 k) (ne_getD hqne (by omega)) (by omega) (hfl j hj) (hlg j)) (cwV 2 hts (hwGood (hw_4 mm_392 mm_393 mm_394 mm_365 (hwAll mm_391))) rfl rfl rfl (by decide +kernel) ⟨Nat.le_of_ble_eq_true rfl, Nat.le_of_ble_eq_true rfl⟩) (hw_preV hK hO hZ (⟨_, _, ff_6⟩) rfl) rfl rfl hl.1 rfl (lv_room (Nat.le_of_ble_eq_true rfl)) dMo_question_45 ⟨(show 0 + 0 ≤ 0 by omega), (show 0 + 0 ≤ 0 by omega)⟩) hZ hA (fun r X_63 H_64 lc_65 hp hZ => ?_)
        obtain ⟨hr, hy⟩ := hp
        subst hy
        refine hw_topl hr ?_
        refine hw_last hx hb hK hZ 1 g10 rfl (j := k) (by omega) (by omega) dMo_question_48 (fun X_66 H_67 lc_68 hZ hF hNw => ?_)
        have hFr := hwF.tr hFr hF (fun _ h => h) (fun M h => by first | exact False.elim h | ((try dsimp only at h ⊢); omega))
        have g1 := hF _ _ _ (by intro hNS; first | exact False.elim hNS | ((try dsimp only at hNS); omega)) g1
        have g2 := hF _ _ _ (by intro hNS; first | exact False.elim hNS | ((try dsimp only at hNS); omega)) g2
        have g3 := hF _ _ _ (by intro hNS; first | exact False.elim hNS | ((try dsimp only at hNS); omega)) g3
        have g4 := hF _ _ _ (by intro hNS; first | exact False.elim hNS | ((try dsimp only at hNS); omega)) g4
        have g5 := rwAt.fr hF (by intro hNS; first | exact False.elim hNS | ((try dsimp only at hNS); omega)) g5
        have g6 := hF _ _ _ (by intro hNS; first | exact False.elim hNS | ((try dsimp only at hNS); omega)) g6
        have g8 := rwAt.fr hF (by intro hNS; first | exact False.elim hNS | ((try dsimp only at hNS); omega)) g8
        have g9 := rwAt.fr hF (by intro hNS; first | exact False.elim hNS | ((try dsimp only at hNS); omega)) g9
        have g11 := hF _ _ _ (by intro hNS; first | exact False.elim hNS | ((try dsimp only at hNS); omega)) g11
        have g12 := hF _ _ _ (by intro hNS; first | exact False.elim hNS | ((try dsimp only at hNS); omega)) g12
        have g13 := hF _ _ _ (by intro hNS; first | exact False.elim hNS | ((try dsimp only at hNS); omega)) g13
        have g14 := rwAt.fr hF (by intro hNS; first | exact False.elim hNS | ((try dsimp only at hNS); omega)) g14
        have g15 := hF _ _ _ (by intro hNS; first | exact False.elim hNS | ((try dsimp only at hNS); omega)) g15
        have ff_6 := hF _ _ _ (by intro hNS; first | exact False.elim hNS | ((try dsimp only at hNS); omega)) ff_6
        have g7 := hF _ _ _ (by intro hNS; first | exact False.elim hNS | ((try dsimp only at hNS); omega)) g7
        have g10 := hNw
        refine lv_iinc (v := nI (k + 1)) (lv' := [(5, .int (nI (k + 1))), (0, .ref a), (1, .int (nI 1)), (2, .int (nI j)), (3, .int (nI 0)), (4, .int (nI 0))]) hx hb dMo_question_49 hl (k := 0) rfl (nI_add _ 1) (by decide) rfl (fun ls hl => ?_)
        refine lv_goto (tgt := 21) hx hb dMo_question_52 (by decide) ?_
        exact ih21 (k + 1) (vp_updL z10 k (lN (rW (trm (lg j) st ((tkF sd).1.getD k []))))) _ _ _ _ (by omega) (by omega) (fun p hp => (Nat.lt_or_eq_of_le (Nat.le_of_lt_succ hp)).elim (fun z => by rw [pk_uLn (by omega)]; exact hz p z) (fun z => by subst z; rw [pk_uLs])) hFr g1 g2 g3 g4 g5 g6 g8 g9 g11 g12 g13 g14 g15 ff_6 g7 g10 hZ (lv_sub hl [0, 1, 2, 3, 4, 5] rfl)
  exact loop21 ((tkF sd).1.length - 0 + 1) 0 f10 _ _ _ _ (by omega) (by omega) (fun p hp => absurd hp (Nat.not_lt_zero _)) hFr g1 g2 g3 g4 g5 g6 g8 g9 g11 g12 g13 g14 g15 ff_6 g7 g10 hZ (lv_sub hl [0, 1, 2, 3, 4, 5] rfl)
set_option maxHeartbeats 4000000 in
set_option maxRecDepth 100000 in
theorem m_q2 (l : Launch) (D : va_G) (K : Nat → ClassId) (X : hwW) (sz : Nat) (a : Nat) (its : hwIt) (sg : List (Nat × Nat)) (lg : Nat → Nat) (st : List (List Nat)) (sd : List Nat) (hs : List (Nat × Nat × Nat)) (j : Nat) (dx : Int32) (f0_ : moAt K X a its sg lg st sd hs) (okm : okM its sg lg st sd hs) (hj : j < 4) (hd : dx < nI 1) : Met l yMo_question (.code yMo_question cMo_question 8 (some .int) :: hwG) ({ frames := 3, cells := 0, slots := 0, locals := 73 } : Room) (hwPc D vwCl (hwT K) [.ref a, .int (nI 2), .int (nI j), .int dx, .int (nI 0)] X sz) (hwQi D vwCl X sz (fun r Y => r = nI (hsN ((tkF sd).1.map (trm (lg j) st)) dx (Tf its lg st j) its.length).length ∧ hwF X Y (fun M => 1000 ≤ M ∧ M < 1100) ∧ moAt K Y a its sg lg st [] (hsN ((tkF sd).1.map (trm (lg j) st)) dx (Tf its lg st j) its.length))) 0 0 (va_A X.1 sz) := by
  refine hwMeti (cc := cMo_question) (maxL := 8) (by decide) rfl (Nat.le_of_ble_eq_true rfl) (fun p e s m args below meth c ls A Q hx hb hml hown hts hname hret hK hO hZ hA hl => ?_)
  have hl : lv_has ls 8 [(0, .ref a), (1, .int (nI 2)), (2, .int (nI j)), (3, .int dx), (4, .int (nI 0))] := hl
  have hFr : hwF X X (fun M => 1000 ≤ M ∧ M < 1100) := hwF.rf
  obtain ⟨hni3, hsl, hsb, hlg, hsd, hh30, hB, htx⟩ := okm
  obtain ⟨r1, r2, r3, r4, r5, r6, r7, r8, r9, r10, r11, r12, r13, r14, r15, tz, na, nw, nt, ft, fg, fp, fl, fd, f1, f2, f3, qa, rw, rt, at_, tm, y, gx, g1, g2, g3, g4, g5, g6, g7, g8, g9, g10, g11, g12, g13, g14, g15, hft, hfg, hfp, hfl, hfd, hv1, hv2, hv3⟩ := f0_
  have hst40 := rwAt.len g5
  refine lv_aload_n hx hb dMo_question_0 rfl (lv_at hl 0 rfl) ?_
  refine hw_callv (va_runV (As := []) (rest := []) ⟨hx, hb, hml, hown, hts⟩ (m_take l D K X s.heap.size (a := a) (r1 := r1) (r2 := r2) (r3 := r3) (r4 := r4) (r5 := r5) (r6 := r6) (r7 := r7) (r8 := r8) (r9 := r9) (r10 := r10) (r11 := r11) (r12 := r12) (r13 := r13) (r14 := r14) (r15 := r15) (tz := tz) (nr := its.length) (ng := sg.length) (ns := st.length) (nz := sd.length) (na := na) (nw := nw) (nh := hs.length) (nt := nt) (fd := fd) (qa := qa) (sd := sd) gx g6 g7 (by omega) (by omega) (by assumption)) (cwV 0 hts (hwGood (hw_4 mm_437 mm_438 mm_439 mm_365 (hwAll mm_436))) rfl rfl rfl (by decide +kernel) ⟨Nat.le_of_ble_eq_true rfl, Nat.le_of_ble_eq_true rfl⟩) (hw_preV hK hO hZ (⟨_, _, gx⟩) rfl) rfl rfl hl.1 rfl (lv_room (Nat.le_of_ble_eq_true rfl)) dMo_question_1 ⟨(show 0 + 0 ≤ 0 by omega), (show 0 + 0 ≤ 0 by omega)⟩) hZ hA (fun X_1 H_2 lc_3 hp hZ => ?_)
  obtain ⟨hF, hN_4, hN_5⟩ := hp
  have hFr := hwF.tr hFr hF (fun _ h => h) (fun M h => by first | exact False.elim h | ((try dsimp only at h ⊢); omega))
  have g1 := hF _ _ _ (by intro hNS; first | exact False.elim hNS | ((try dsimp only at hNS); omega)) g1
  have g2 := hF _ _ _ (by intro hNS; first | exact False.elim hNS | ((try dsimp only at hNS); omega)) g2
  have g3 := hF _ _ _ (by intro hNS; first | exact False.elim hNS | ((try dsimp only at hNS); omega)) g3
  have g4 := hF _ _ _ (by intro hNS; first | exact False.elim hNS | ((try dsimp only at hNS); omega)) g4
  have g5 := rwAt.fr hF (by intro hNS; first | exact False.elim hNS | ((try dsimp only at hNS); omega)) g5
  have g6 := hF _ _ _ (by intro hNS; first | exact False.elim hNS | ((try dsimp only at hNS); omega)) g6
  have g8 := rwAt.fr hF (by intro hNS; first | exact False.elim hNS | ((try dsimp only at hNS); omega)) g8
  have g9 := rwAt.fr hF (by intro hNS; first | exact False.elim hNS | ((try dsimp only at hNS); omega)) g9
  have g10 := rwAt.fr hF (by intro hNS; first | exact False.elim hNS | ((try dsimp only at hNS); omega)) g10
  have g11 := hF _ _ _ (by intro hNS; first | exact False.elim hNS | ((try dsimp only at hNS); omega)) g11
  have g12 := hF _ _ _ (by intro hNS; first | exact False.elim hNS | ((try dsimp only at hNS); omega)) g12
  have g13 := hF _ _ _ (by intro hNS; first | exact False.elim hNS | ((try dsimp only at hNS); omega)) g13
  have g14 := rwAt.fr hF (by intro hNS; first | exact False.elim hNS | ((try dsimp only at hNS); omega)) g14
  have g15 := hF _ _ _ (by intro hNS; first | exact False.elim hNS | ((try dsimp only at hNS); omega)) g15
  have ff_6 := hN_4
  have ff_7 := hN_5
  have hqn := tkF_len sd
  have hq60 := rwAt.len ff_7
  refine lv_aload_n hx hb dMo_question_4 rfl (lv_at hl 0 rfl) ?_
  refine lv_iconst (v := nI 0) hx hb dMo_question_5 (by decide) ?_
  refine hw_put (ty := .int) (fs' := [.int (nI tz), .int (nI its.length), .ref r1, .int (nI sg.length), .ref r2, .ref r3, .ref r4, .ref r5, .int (nI st.length), .ref r6, .int (nI 0), .ref r7, .int (nI ((tkF sd).1.length)), .ref r8, .ref r9, .ref r10, .int (nI nw), .int (nI 0), .ref r11, .ref r12, .ref r13, .ref r14, .int (nI nt), .ref r15]) hx hb hts (hwInn inMo) tyMo tyMo_ok nmMo hown hK hZ ff_6 rfl 17 (by decide) (hts (.fieldLink RMo 111 RMo "hits" "I") (hwMem mm_409)) (fun _ h => h) rfl (by decide +kernel) rfl rfl (Nat.le_of_ble_eq_true rfl) rfl dMo_question_6 (fun X_8 H_9 lc_10 hZ hF hNw => ?_)
  have hFr := hwF.tr hFr hF (fun _ h => h) (fun M h => by first | exact False.elim h | ((try dsimp only at h ⊢); omega))
  have g1 := hF _ _ _ (by intro hNS; first | exact False.elim hNS | ((try dsimp only at hNS); omega)) g1
  have g2 := hF _ _ _ (by intro hNS; first | exact False.elim hNS | ((try dsimp only at hNS); omega)) g2
  have g3 := hF _ _ _ (by intro hNS; first | exact False.elim hNS | ((try dsimp only at hNS); omega)) g3
  have g4 := hF _ _ _ (by intro hNS; first | exact False.elim hNS | ((try dsimp only at hNS); omega)) g4
  have g5 := rwAt.fr hF (by intro hNS; first | exact False.elim hNS | ((try dsimp only at hNS); omega)) g5
  have g6 := hF _ _ _ (by intro hNS; first | exact False.elim hNS | ((try dsimp only at hNS); omega)) g6
  have g8 := rwAt.fr hF (by intro hNS; first | exact False.elim hNS | ((try dsimp only at hNS); omega)) g8
  have g9 := rwAt.fr hF (by intro hNS; first | exact False.elim hNS | ((try dsimp only at hNS); omega)) g9
  have g10 := rwAt.fr hF (by intro hNS; first | exact False.elim hNS | ((try dsimp only at hNS); omega)) g10
  have g11 := hF _ _ _ (by intro hNS; first | exact False.elim hNS | ((try dsimp only at hNS); omega)) g11
  have g12 := hF _ _ _ (by intro hNS; first | exact False.elim hNS | ((try dsimp only at hNS); omega)) g12
  have g13 := hF _ _ _ (by intro hNS; first | exact False.elim hNS | ((try dsimp only at hNS); omega)) g13
  have g14 := rwAt.fr hF (by intro hNS; first | exact False.elim hNS | ((try dsimp only at hNS); omega)) g14
  have g15 := hF _ _ _ (by intro hNS; first | exact False.elim hNS | ((try dsimp only at hNS); omega)) g15
  have ff_6 := hNw
  have ff_7 := rwAt.fr hF (by intro hNS; first | exact False.elim hNS | ((try dsimp only at hNS); omega)) ff_7
  refine lv_iload_n hx hb dMo_question_9 rfl (lv_at hl 2 rfl) ?_
  refine hw_calli (va_runS (As := [.int (nI j)]) (rest := []) ⟨hx, hb, hml, hown, hts⟩ (m_isField l D K X_8 H_9.size (j := j) (by omega)) (va_cwS 1 hts (hwGood (hw_3 mm_442 mm_441 mm_365 (hwAll mm_440))) rfl rfl rfl (by decide +kernel) ⟨Nat.le_of_ble_eq_true rfl, Nat.le_of_ble_eq_true rfl⟩) (hw_preS hK hO hZ) rfl rfl hl.1 rfl (lv_room (Nat.le_of_ble_eq_true rfl)) dMo_question_10 ⟨(show 0 + 0 ≤ 0 by omega), (show 0 + 0 ≤ 0 by omega)⟩) hZ hA (fun r X_11 H_12 lc_13 hp hZ => ?_)
  obtain ⟨hr, hy⟩ := hp
  subst hy
  refine hw_topi hr ?_
  refine hw_bz_neT (tgt := 18) hx hb dMo_question_13 (by decide) rfl ?_
  obtain ⟨f7, g7, hN7, hv7, hk7⟩ := ff_7
  obtain ⟨f10, g10, hN10, hv10, hk10⟩ := g10
  have hQ2 := fun j => okWs.at hk7 j
  have hqne := tkF_ne sd (fun k hk => hfd k hk ▸ mL_le _)
  refine lv_iconst (v := nI 0) hx hb dMo_question_18 (by decide) ?_
  refine lv_istore (lv' := [(5, .int (nI 0)), (0, .ref a), (1, .int (nI 2)), (2, .int (nI j)), (3, .int dx), (4, .int (nI 0))]) hx hb dMo_question_19 hl (by decide) rfl (fun ls hl => ?_)
  have loop21 : ∀ (fuel : Nat) (k : Nat) (z10 : Nat → Int64) (XL21 : hwW) (Hh : Heap) (lcs : List Loc) (ls : Array Slot), (tkF sd).1.length - k < fuel → (k ≤ (tkF sd).1.length) → (∀ p, p < k → z10 p = lN (rW (trm (lg j) st ((tkF sd).1.getD p [])))) → (hwF X XL21 (fun M => 1000 ≤ M ∧ M < 1100)) → (hwH XL21 r1 1001 (.inl (K 2, 31, .inl ft))) → (hwH XL21 r2 1002 (.inl (K 3, 1500, .inl fg))) → (hwH XL21 r3 1003 (.inl (K 0, 1500, .inl fp))) → (hwH XL21 r4 1004 (.inl (K 0, 4, .inl fl))) → (rwAt K XL21 r5 1005 40 st) → (hwH XL21 r6 1006 (.inl (K 3, 100, .inl fd))) → (rwAt K XL21 r8 1008 800 rw) → (rwAt K XL21 r9 1009 800 rt) → (hwH XL21 r11 1011 (.inl (K 0, 30, .inl f1))) → (hwH XL21 r12 1012 (.inl (K 0, 30, .inl f2))) → (hwH XL21 r13 1013 (.inl (K 0, 30, .inl f3))) → (rwAt K XL21 r14 1014 800 tm) → (hwH XL21 r15 1015 (.inl (K 0, 169, .inl y))) → (hwH XL21 a 1000 (.inr (10, [.int (nI tz), .int (nI its.length), .ref r1, .int (nI sg.length), .ref r2, .ref r3, .ref r4, .ref r5, .int (nI st.length), .ref r6, .int (nI 0), .ref r7, .int (nI ((tkF sd).1.length)), .ref r8, .ref r9, .ref r10, .int (nI nw), .int (nI 0), .ref r11, .ref r12, .ref r13, .ref r14, .int (nI nt), .ref r15]))) → (hwH XL21 r7 1007 (.inl (K 1, 60, .inr (.inl f7)))) → (hwH XL21 r10 1010 (.inl (K 1, 60, .inr (.inl z10)))) → hwZ D vwCl A s.heap XL21 Hh lcs → lv_has ls 8 [(5, .int (nI k)), (0, .ref a), (1, .int (nI 2)), (2, .int (nI j)), (3, .int dx), (4, .int (nI 0))] → W p l e ({ frames := 3, cells := 0, slots := 0, locals := 73 } : Room) s m args below meth c Hh lcs 0 0 Q (F0 m 21 ls []) := by
    intro fuel; induction fuel with
    | zero => intro k z10 XL21 Hh lcs ls hfu; exact absurd hfu (Nat.not_lt_zero _)
    | succ fuel ih21 =>
      intro k z10 XL21 Hh lcs ls hfu21 hk hz hFr g1 g2 g3 g4 g5 g6 g8 g9 g11 g12 g13 g14 g15 ff_6 g7 g10 hZ hl
      refine lv_iload hx hb dMo_question_21 (lv_at hl 0 rfl) ?_
      refine lv_aload_n hx hb dMo_question_23 rfl (lv_at hl 1 rfl) ?_
      refine hw_get hx hb hts (hwInn inMo) hown hK hZ ff_6 rfl 12 (by decide) (hts (.fieldLink RMo 83 RMo "askedCount" "I") (hwMem mm_377)) (fun _ h => h) rfl dMo_question_24 ?_
      refine hw_ic_ge (a := k) (b := (tkF sd).1.length) (tgt := 55) hx hb dMo_question_27 (by decide) (by omega) (by omega) (fun cq_15 => ?_) (fun cq_15 => ?_)
      · have gA : rwAt K XL21 r10 1010 60 ((tkF sd).1.map (trm (lg j) st)) := ⟨_, g10, by rw [List.length_map]; omega, rvec_map (ws := (tkF sd).1) (φ := trm (lg j) st) (fun p hp => hz p (by omega)), okWs_map hk7 (lg j) st⟩
        have gQ : rwAt K XL21 r7 1007 60 (tkF sd).1 := ⟨_, g7, hN7, hv7, hk7⟩
        have hal : ((tkF sd).1.map (trm (lg j) st)).length = (tkF sd).1.length := List.length_map _
        have hA2 := fun j => okWs.at (rwAt.oks gA) j
        refine lv_iload_n hx hb dMo_question_55 rfl (lv_at hl 2 rfl) ?_
        refine lv_iconst (v := nI 2) hx hb dMo_question_56 (by decide) ?_
        refine hw_ic_ge (a := 2) (b := 2) (tgt := 67) hx hb dMo_question_57 (by decide) (by omega) (by omega) (fun cq_16 => ?_) (fun cq_16 => by exfalso; omega)
        refine lv_iload_n hx hb dMo_question_67 rfl (lv_at hl 2 rfl) ?_
        refine lv_iconst (v := nI 2) hx hb dMo_question_68 (by decide) ?_
        refine hw_ic_ne (a := 2) (b := 2) (tgt := 114) hx hb dMo_question_69 (by decide) (by omega) (by omega) (fun cq_17 => by exfalso; omega) (fun cq_17 => ?_)
        refine lv_iload_n hx hb dMo_question_72 rfl (lv_at hl 4 rfl) ?_
        refine lv_if_le (tgt := 110) hx hb dMo_question_73 (by decide) (fun cq_18 => ?_) (fun cq_18 => absurd (hw_le0 hd) cq_18)
        refine lv_iconst (v := nI 0) hx hb dMo_question_110 (by decide) ?_
        refine lv_goto (tgt := 144) hx hb dMo_question_111 (by decide) ?_
        refine lv_istore (lv' := [(5, .int (nI 0)), (0, .ref a), (1, .int (nI 2)), (2, .int (nI j)), (3, .int dx), (4, .int (nI 0))]) hx hb dMo_question_144 hl (by decide) rfl (fun ls hl => ?_)
        refine lv_iconst (v := nI 1) hx hb dMo_question_146 (by decide) ?_
        refine lv_istore (lv' := [(6, .int (nI 1)), (5, .int (nI 0)), (0, .ref a), (1, .int (nI 2)), (2, .int (nI j)), (3, .int dx), (4, .int (nI 0))]) hx hb dMo_question_147 hl (by decide) rfl (fun ls hl => ?_)
        refine lv_iload hx hb dMo_question_149 (lv_at hl 0 rfl) ?_
        refine lv_aload_n hx hb dMo_question_151 rfl (lv_at hl 2 rfl) ?_
        refine hw_get hx hb hts (hwInn inMo) hown hK hZ ff_6 rfl 1 (by decide) (hts (.fieldLink RMo 62 RMo "records" "I") (hwMem mm_418)) (fun _ h => h) rfl dMo_question_152 ?_
        refine hw_ic_gt (a := 1) (b := its.length) (tgt := 280) hx hb dMo_question_155 (by decide) (by omega) (by omega) (fun cq_19 => ?_) (fun cq_19 => ?_)
        · refine lv_aload_n hx hb dMo_question_280 rfl (lv_at hl 2 rfl) ?_
          refine hw_get hx hb hts (hwInn inMo) hown hK hZ ff_6 rfl 17 (by decide) (hts (.fieldLink RMo 111 RMo "hits" "I") (hwMem mm_409)) (fun _ h => h) rfl dMo_question_281 ?_
          exact hret hZ (by rw [hsN_e (Or.inr (Or.inr hd))]; exact ⟨rfl, hFr, ⟨_, _, _, _, _, _, _, _, _, _, _, _, _, _, _, _, _, _, _, _, _, _, _, _, _, _, _, _, _, _, _, _, _, ff_6, g1, g2, g3, g4, g5, g6, gQ, g8, g9, gA, g11, g12, g13, g14, g15, hft, hfg, hfp, hfl, (fun k hk => absurd hk (Nat.not_lt_zero _)), ivec.nil, ivec.nil, ivec.nil⟩⟩) dMo_question_284
        · refine lv_iload hx hb dMo_question_158 (lv_at hl 1 rfl) ?_
          refine hw_if_eq (a := 0) (tgt := 280) hx hb dMo_question_160 (by decide) (by omega) (fun cq_20 => ?_) (fun cq_20 => by exfalso; omega)
          refine lv_aload_n hx hb dMo_question_280 rfl (lv_at hl 2 rfl) ?_
          refine hw_get hx hb hts (hwInn inMo) hown hK hZ ff_6 rfl 17 (by decide) (hts (.fieldLink RMo 111 RMo "hits" "I") (hwMem mm_409)) (fun _ h => h) rfl dMo_question_281 ?_
          exact hret hZ (by rw [hsN_e (Or.inr (Or.inr hd))]; exact ⟨rfl, hFr, ⟨_, _, _, _, _, _, _, _, _, _, _, _, _, _, _, _, _, _, _, _, _, _, _, _, _, _, _, _, _, _, _, _, _, ff_6, g1, g2, g3, g4, g5, g6, gQ, g8, g9, gA, g11, g12, g13, g14, g15, hft, hfg, hfp, hfl, (fun k hk => absurd hk (Nat.not_lt_zero _)), ivec.nil, ivec.nil, ivec.nil⟩⟩) dMo_question_284
      · refine lv_aload_n hx hb dMo_question_30 rfl (lv_at hl 1 rfl) ?_
        refine hw_get hx hb hts (hwInn inMo) hown hK hZ ff_6 rfl 15 (by decide) (hts (.fieldLink RMo 40 RMo "askedTerm" "[J") (hwMem mm_397)) (fun _ h => h) rfl dMo_question_31 ?_
        refine lv_iload hx hb dMo_question_34 (lv_at hl 0 rfl) ?_
        refine lv_aload_n hx hb dMo_question_36 rfl (lv_at hl 1 rfl) ?_
        refine lv_aload_n hx hb dMo_question_37 rfl (lv_at hl 1 rfl) ?_
        refine hw_get hx hb hts (hwInn inMo) hown hK hZ ff_6 rfl 11 (by decide) (hts (.fieldLink RMo 31 RMo "asked" "[J") (hwMem mm_383)) (fun _ h => h) rfl dMo_question_38 ?_
        refine lv_iload hx hb dMo_question_41 (lv_at hl 0 rfl) ?_
        refine hw_lald hx hb hK hZ 1 g7 rfl (j := k) (by omega) (by omega) dMo_question_43 ?_
        refine hw_topl (hv7 k (by omega)) ?_
        refine lv_iload_n hx hb dMo_question_44 rfl (lv_at hl 3 rfl) ?_
        refine hw_calll (va_runV (As := [.long (lN (rW ((tkF sd).1.getD k []))), .int (nI j)]) (rest := [.int (nI k), .ref r10]) ⟨hx, hb, hml, hown, hts⟩ (m_stem l D K XL21 Hh.size (a := a) (r1 := r1) (r2 := r2) (r3 := r3) (r4 := r4) (r5 := r5) (r6 := r6) (r7 := r7) (r8 := r8) (r9 := r9) (r10 := r10) (r11 := r11) (r12 := r12) (r13 := r13) (r14 := r14) (r15 := r15) (tz := tz) (nr := its.length) (ng := sg.length) (ns := st.length) (nz := 0) (na := (tkF sd).1.length) (nw := nw) (nh := 0) (nt := nt) (st := st) (fl := fl) (w := ((tkF sd).1.getD k [])) (j := j) (g := (lg j)) ff_6 g5 g4 (by omega) (hQ2 k) (ne_getD hqne (by omega)) (by omega) (hfl j hj) (hlg j)) (cwV 2 hts (hwGood (hw_4 mm_392 mm_393 mm_394 mm_365 (hwAll mm_391))) rfl rfl rfl (by decide +kernel) ⟨Nat.le_of_ble_eq_true rfl, Nat.le_of_ble_eq_true rfl⟩) (hw_preV hK hO hZ (⟨_, _, ff_6⟩) rfl) rfl rfl hl.1 rfl (lv_room (Nat.le_of_ble_eq_true rfl)) dMo_question_45 ⟨(show 0 + 0 ≤ 0 by omega), (show 0 + 0 ≤ 0 by omega)⟩) hZ hA (fun r X_21 H_22 lc_23 hp hZ => ?_)
        obtain ⟨hr, hy⟩ := hp
        subst hy
        refine hw_topl hr ?_
        refine hw_last hx hb hK hZ 1 g10 rfl (j := k) (by omega) (by omega) dMo_question_48 (fun X_24 H_25 lc_26 hZ hF hNw => ?_)
        have hFr := hwF.tr hFr hF (fun _ h => h) (fun M h => by first | exact False.elim h | ((try dsimp only at h ⊢); omega))
        have g1 := hF _ _ _ (by intro hNS; first | exact False.elim hNS | ((try dsimp only at hNS); omega)) g1
        have g2 := hF _ _ _ (by intro hNS; first | exact False.elim hNS | ((try dsimp only at hNS); omega)) g2
        have g3 := hF _ _ _ (by intro hNS; first | exact False.elim hNS | ((try dsimp only at hNS); omega)) g3
        have g4 := hF _ _ _ (by intro hNS; first | exact False.elim hNS | ((try dsimp only at hNS); omega)) g4
        have g5 := rwAt.fr hF (by intro hNS; first | exact False.elim hNS | ((try dsimp only at hNS); omega)) g5
        have g6 := hF _ _ _ (by intro hNS; first | exact False.elim hNS | ((try dsimp only at hNS); omega)) g6
        have g8 := rwAt.fr hF (by intro hNS; first | exact False.elim hNS | ((try dsimp only at hNS); omega)) g8
        have g9 := rwAt.fr hF (by intro hNS; first | exact False.elim hNS | ((try dsimp only at hNS); omega)) g9
        have g11 := hF _ _ _ (by intro hNS; first | exact False.elim hNS | ((try dsimp only at hNS); omega)) g11
        have g12 := hF _ _ _ (by intro hNS; first | exact False.elim hNS | ((try dsimp only at hNS); omega)) g12
        have g13 := hF _ _ _ (by intro hNS; first | exact False.elim hNS | ((try dsimp only at hNS); omega)) g13
        have g14 := rwAt.fr hF (by intro hNS; first | exact False.elim hNS | ((try dsimp only at hNS); omega)) g14
        have g15 := hF _ _ _ (by intro hNS; first | exact False.elim hNS | ((try dsimp only at hNS); omega)) g15
        have ff_6 := hF _ _ _ (by intro hNS; first | exact False.elim hNS | ((try dsimp only at hNS); omega)) ff_6
        have g7 := hF _ _ _ (by intro hNS; first | exact False.elim hNS | ((try dsimp only at hNS); omega)) g7
        have g10 := hNw
        refine lv_iinc (v := nI (k + 1)) (lv' := [(5, .int (nI (k + 1))), (0, .ref a), (1, .int (nI 2)), (2, .int (nI j)), (3, .int dx), (4, .int (nI 0))]) hx hb dMo_question_49 hl (k := 0) rfl (nI_add _ 1) (by decide) rfl (fun ls hl => ?_)
        refine lv_goto (tgt := 21) hx hb dMo_question_52 (by decide) ?_
        exact ih21 (k + 1) (vp_updL z10 k (lN (rW (trm (lg j) st ((tkF sd).1.getD k []))))) _ _ _ _ (by omega) (by omega) (fun p hp => (Nat.lt_or_eq_of_le (Nat.le_of_lt_succ hp)).elim (fun z => by rw [pk_uLn (by omega)]; exact hz p z) (fun z => by subst z; rw [pk_uLs])) hFr g1 g2 g3 g4 g5 g6 g8 g9 g11 g12 g13 g14 g15 ff_6 g7 g10 hZ (lv_sub hl [0, 1, 2, 3, 4, 5] rfl)
  exact loop21 ((tkF sd).1.length - 0 + 1) 0 f10 _ _ _ _ (by omega) (by omega) (fun p hp => absurd hp (Nat.not_lt_zero _)) hFr g1 g2 g3 g4 g5 g6 g8 g9 g11 g12 g13 g14 g15 ff_6 g7 g10 hZ (lv_sub hl [0, 1, 2, 3, 4, 5] rfl)
set_option maxHeartbeats 4000000 in
set_option maxRecDepth 100000 in
theorem m_q2n (l : Launch) (D : va_G) (K : Nat → ClassId) (X : hwW) (sz : Nat) (a : Nat) (its : hwIt) (sg : List (Nat × Nat)) (lg : Nat → Nat) (st : List (List Nat)) (sd : List Nat) (hs : List (Nat × Nat × Nat)) (j : Nat) (dd : Nat) (f0_ : moAt K X a its sg lg st sd hs) (okm : okM its sg lg st sd hs) (hj : j < 4) (hd1 : 1 ≤ dd) (hd2 : dd < 2147483648) : Met l yMo_question (.code yMo_question cMo_question 8 (some .int) :: hwG) ({ frames := 3, cells := 0, slots := 0, locals := 73 } : Room) (hwPc D vwCl (hwT K) [.ref a, .int (nI 2), .int (nI j), .int (nI dd), .int (nI 0)] X sz) (hwQi D vwCl X sz (fun r Y => r = nI (hsN ((tkF sd).1.map (trm (lg j) st)) (nI dd) (Tf its lg st j) its.length).length ∧ hwF X Y (fun M => 1000 ≤ M ∧ M < 1100) ∧ moAt K Y a its sg lg st [] (hsN ((tkF sd).1.map (trm (lg j) st)) (nI dd) (Tf its lg st j) its.length))) 0 0 (va_A X.1 sz) := by
  refine hwMeti (cc := cMo_question) (maxL := 8) (by decide) rfl (Nat.le_of_ble_eq_true rfl) (fun p e s m args below meth c ls A Q hx hb hml hown hts hname hret hK hO hZ hA hl => ?_)
  have hl : lv_has ls 8 [(0, .ref a), (1, .int (nI 2)), (2, .int (nI j)), (3, .int (nI dd)), (4, .int (nI 0))] := hl
  have hFr : hwF X X (fun M => 1000 ≤ M ∧ M < 1100) := hwF.rf
  obtain ⟨hni3, hsl, hsb, hlg, hsd, hh30, hB, htx⟩ := okm
  obtain ⟨r1, r2, r3, r4, r5, r6, r7, r8, r9, r10, r11, r12, r13, r14, r15, tz, na, nw, nt, ft, fg, fp, fl, fd, f1, f2, f3, qa, rw, rt, at_, tm, y, gx, g1, g2, g3, g4, g5, g6, g7, g8, g9, g10, g11, g12, g13, g14, g15, hft, hfg, hfp, hfl, hfd, hv1, hv2, hv3⟩ := f0_
  have hst40 := rwAt.len g5
  refine lv_aload_n hx hb dMo_question_0 rfl (lv_at hl 0 rfl) ?_
  refine hw_callv (va_runV (As := []) (rest := []) ⟨hx, hb, hml, hown, hts⟩ (m_take l D K X s.heap.size (a := a) (r1 := r1) (r2 := r2) (r3 := r3) (r4 := r4) (r5 := r5) (r6 := r6) (r7 := r7) (r8 := r8) (r9 := r9) (r10 := r10) (r11 := r11) (r12 := r12) (r13 := r13) (r14 := r14) (r15 := r15) (tz := tz) (nr := its.length) (ng := sg.length) (ns := st.length) (nz := sd.length) (na := na) (nw := nw) (nh := hs.length) (nt := nt) (fd := fd) (qa := qa) (sd := sd) gx g6 g7 (by omega) (by omega) (by assumption)) (cwV 0 hts (hwGood (hw_4 mm_437 mm_438 mm_439 mm_365 (hwAll mm_436))) rfl rfl rfl (by decide +kernel) ⟨Nat.le_of_ble_eq_true rfl, Nat.le_of_ble_eq_true rfl⟩) (hw_preV hK hO hZ (⟨_, _, gx⟩) rfl) rfl rfl hl.1 rfl (lv_room (Nat.le_of_ble_eq_true rfl)) dMo_question_1 ⟨(show 0 + 0 ≤ 0 by omega), (show 0 + 0 ≤ 0 by omega)⟩) hZ hA (fun X_1 H_2 lc_3 hp hZ => ?_)
  obtain ⟨hF, hN_4, hN_5⟩ := hp
  have hFr := hwF.tr hFr hF (fun _ h => h) (fun M h => by first | exact False.elim h | ((try dsimp only at h ⊢); omega))
  have g1 := hF _ _ _ (by intro hNS; first | exact False.elim hNS | ((try dsimp only at hNS); omega)) g1
  have g2 := hF _ _ _ (by intro hNS; first | exact False.elim hNS | ((try dsimp only at hNS); omega)) g2
  have g3 := hF _ _ _ (by intro hNS; first | exact False.elim hNS | ((try dsimp only at hNS); omega)) g3
  have g4 := hF _ _ _ (by intro hNS; first | exact False.elim hNS | ((try dsimp only at hNS); omega)) g4
  have g5 := rwAt.fr hF (by intro hNS; first | exact False.elim hNS | ((try dsimp only at hNS); omega)) g5
  have g6 := hF _ _ _ (by intro hNS; first | exact False.elim hNS | ((try dsimp only at hNS); omega)) g6
  have g8 := rwAt.fr hF (by intro hNS; first | exact False.elim hNS | ((try dsimp only at hNS); omega)) g8
  have g9 := rwAt.fr hF (by intro hNS; first | exact False.elim hNS | ((try dsimp only at hNS); omega)) g9
  have g10 := rwAt.fr hF (by intro hNS; first | exact False.elim hNS | ((try dsimp only at hNS); omega)) g10
  have g11 := hF _ _ _ (by intro hNS; first | exact False.elim hNS | ((try dsimp only at hNS); omega)) g11
  have g12 := hF _ _ _ (by intro hNS; first | exact False.elim hNS | ((try dsimp only at hNS); omega)) g12
  have g13 := hF _ _ _ (by intro hNS; first | exact False.elim hNS | ((try dsimp only at hNS); omega)) g13
  have g14 := rwAt.fr hF (by intro hNS; first | exact False.elim hNS | ((try dsimp only at hNS); omega)) g14
  have g15 := hF _ _ _ (by intro hNS; first | exact False.elim hNS | ((try dsimp only at hNS); omega)) g15
  have ff_6 := hN_4
  have ff_7 := hN_5
  have hqn := tkF_len sd
  have hq60 := rwAt.len ff_7
  refine lv_aload_n hx hb dMo_question_4 rfl (lv_at hl 0 rfl) ?_
  refine lv_iconst (v := nI 0) hx hb dMo_question_5 (by decide) ?_
  refine hw_put (ty := .int) (fs' := [.int (nI tz), .int (nI its.length), .ref r1, .int (nI sg.length), .ref r2, .ref r3, .ref r4, .ref r5, .int (nI st.length), .ref r6, .int (nI 0), .ref r7, .int (nI ((tkF sd).1.length)), .ref r8, .ref r9, .ref r10, .int (nI nw), .int (nI 0), .ref r11, .ref r12, .ref r13, .ref r14, .int (nI nt), .ref r15]) hx hb hts (hwInn inMo) tyMo tyMo_ok nmMo hown hK hZ ff_6 rfl 17 (by decide) (hts (.fieldLink RMo 111 RMo "hits" "I") (hwMem mm_409)) (fun _ h => h) rfl (by decide +kernel) rfl rfl (Nat.le_of_ble_eq_true rfl) rfl dMo_question_6 (fun X_8 H_9 lc_10 hZ hF hNw => ?_)
  have hFr := hwF.tr hFr hF (fun _ h => h) (fun M h => by first | exact False.elim h | ((try dsimp only at h ⊢); omega))
  have g1 := hF _ _ _ (by intro hNS; first | exact False.elim hNS | ((try dsimp only at hNS); omega)) g1
  have g2 := hF _ _ _ (by intro hNS; first | exact False.elim hNS | ((try dsimp only at hNS); omega)) g2
  have g3 := hF _ _ _ (by intro hNS; first | exact False.elim hNS | ((try dsimp only at hNS); omega)) g3
  have g4 := hF _ _ _ (by intro hNS; first | exact False.elim hNS | ((try dsimp only at hNS); omega)) g4
  have g5 := rwAt.fr hF (by intro hNS; first | exact False.elim hNS | ((try dsimp only at hNS); omega)) g5
  have g6 := hF _ _ _ (by intro hNS; first | exact False.elim hNS | ((try dsimp only at hNS); omega)) g6
  have g8 := rwAt.fr hF (by intro hNS; first | exact False.elim hNS | ((try dsimp only at hNS); omega)) g8
  have g9 := rwAt.fr hF (by intro hNS; first | exact False.elim hNS | ((try dsimp only at hNS); omega)) g9
  have g10 := rwAt.fr hF (by intro hNS; first | exact False.elim hNS | ((try dsimp only at hNS); omega)) g10
  have g11 := hF _ _ _ (by intro hNS; first | exact False.elim hNS | ((try dsimp only at hNS); omega)) g11
  have g12 := hF _ _ _ (by intro hNS; first | exact False.elim hNS | ((try dsimp only at hNS); omega)) g12
  have g13 := hF _ _ _ (by intro hNS; first | exact False.elim hNS | ((try dsimp only at hNS); omega)) g13
  have g14 := rwAt.fr hF (by intro hNS; first | exact False.elim hNS | ((try dsimp only at hNS); omega)) g14
  have g15 := hF _ _ _ (by intro hNS; first | exact False.elim hNS | ((try dsimp only at hNS); omega)) g15
  have ff_6 := hNw
  have ff_7 := rwAt.fr hF (by intro hNS; first | exact False.elim hNS | ((try dsimp only at hNS); omega)) ff_7
  refine lv_iload_n hx hb dMo_question_9 rfl (lv_at hl 2 rfl) ?_
  refine hw_calli (va_runS (As := [.int (nI j)]) (rest := []) ⟨hx, hb, hml, hown, hts⟩ (m_isField l D K X_8 H_9.size (j := j) (by omega)) (va_cwS 1 hts (hwGood (hw_3 mm_442 mm_441 mm_365 (hwAll mm_440))) rfl rfl rfl (by decide +kernel) ⟨Nat.le_of_ble_eq_true rfl, Nat.le_of_ble_eq_true rfl⟩) (hw_preS hK hO hZ) rfl rfl hl.1 rfl (lv_room (Nat.le_of_ble_eq_true rfl)) dMo_question_10 ⟨(show 0 + 0 ≤ 0 by omega), (show 0 + 0 ≤ 0 by omega)⟩) hZ hA (fun r X_11 H_12 lc_13 hp hZ => ?_)
  obtain ⟨hr, hy⟩ := hp
  subst hy
  refine hw_topi hr ?_
  refine hw_bz_neT (tgt := 18) hx hb dMo_question_13 (by decide) rfl ?_
  obtain ⟨f7, g7, hN7, hv7, hk7⟩ := ff_7
  obtain ⟨f10, g10, hN10, hv10, hk10⟩ := g10
  have hQ2 := fun j => okWs.at hk7 j
  have hqne := tkF_ne sd (fun k hk => hfd k hk ▸ mL_le _)
  refine lv_iconst (v := nI 0) hx hb dMo_question_18 (by decide) ?_
  refine lv_istore (lv' := [(5, .int (nI 0)), (0, .ref a), (1, .int (nI 2)), (2, .int (nI j)), (3, .int (nI dd)), (4, .int (nI 0))]) hx hb dMo_question_19 hl (by decide) rfl (fun ls hl => ?_)
  have loop21 : ∀ (fuel : Nat) (k : Nat) (z10 : Nat → Int64) (XL21 : hwW) (Hh : Heap) (lcs : List Loc) (ls : Array Slot), (tkF sd).1.length - k < fuel → (k ≤ (tkF sd).1.length) → (∀ p, p < k → z10 p = lN (rW (trm (lg j) st ((tkF sd).1.getD p [])))) → (hwF X XL21 (fun M => 1000 ≤ M ∧ M < 1100)) → (hwH XL21 r1 1001 (.inl (K 2, 31, .inl ft))) → (hwH XL21 r2 1002 (.inl (K 3, 1500, .inl fg))) → (hwH XL21 r3 1003 (.inl (K 0, 1500, .inl fp))) → (hwH XL21 r4 1004 (.inl (K 0, 4, .inl fl))) → (rwAt K XL21 r5 1005 40 st) → (hwH XL21 r6 1006 (.inl (K 3, 100, .inl fd))) → (rwAt K XL21 r8 1008 800 rw) → (rwAt K XL21 r9 1009 800 rt) → (hwH XL21 r11 1011 (.inl (K 0, 30, .inl f1))) → (hwH XL21 r12 1012 (.inl (K 0, 30, .inl f2))) → (hwH XL21 r13 1013 (.inl (K 0, 30, .inl f3))) → (rwAt K XL21 r14 1014 800 tm) → (hwH XL21 r15 1015 (.inl (K 0, 169, .inl y))) → (hwH XL21 a 1000 (.inr (10, [.int (nI tz), .int (nI its.length), .ref r1, .int (nI sg.length), .ref r2, .ref r3, .ref r4, .ref r5, .int (nI st.length), .ref r6, .int (nI 0), .ref r7, .int (nI ((tkF sd).1.length)), .ref r8, .ref r9, .ref r10, .int (nI nw), .int (nI 0), .ref r11, .ref r12, .ref r13, .ref r14, .int (nI nt), .ref r15]))) → (hwH XL21 r7 1007 (.inl (K 1, 60, .inr (.inl f7)))) → (hwH XL21 r10 1010 (.inl (K 1, 60, .inr (.inl z10)))) → hwZ D vwCl A s.heap XL21 Hh lcs → lv_has ls 8 [(5, .int (nI k)), (0, .ref a), (1, .int (nI 2)), (2, .int (nI j)), (3, .int (nI dd)), (4, .int (nI 0))] → W p l e ({ frames := 3, cells := 0, slots := 0, locals := 73 } : Room) s m args below meth c Hh lcs 0 0 Q (F0 m 21 ls []) := by
    intro fuel; induction fuel with
    | zero => intro k z10 XL21 Hh lcs ls hfu; exact absurd hfu (Nat.not_lt_zero _)
    | succ fuel ih21 =>
      intro k z10 XL21 Hh lcs ls hfu21 hk hz hFr g1 g2 g3 g4 g5 g6 g8 g9 g11 g12 g13 g14 g15 ff_6 g7 g10 hZ hl
      refine lv_iload hx hb dMo_question_21 (lv_at hl 0 rfl) ?_
      refine lv_aload_n hx hb dMo_question_23 rfl (lv_at hl 1 rfl) ?_
      refine hw_get hx hb hts (hwInn inMo) hown hK hZ ff_6 rfl 12 (by decide) (hts (.fieldLink RMo 83 RMo "askedCount" "I") (hwMem mm_377)) (fun _ h => h) rfl dMo_question_24 ?_
      refine hw_ic_ge (a := k) (b := (tkF sd).1.length) (tgt := 55) hx hb dMo_question_27 (by decide) (by omega) (by omega) (fun cq_15 => ?_) (fun cq_15 => ?_)
      · have gA : rwAt K XL21 r10 1010 60 ((tkF sd).1.map (trm (lg j) st)) := ⟨_, g10, by rw [List.length_map]; omega, rvec_map (ws := (tkF sd).1) (φ := trm (lg j) st) (fun p hp => hz p (by omega)), okWs_map hk7 (lg j) st⟩
        have gQ : rwAt K XL21 r7 1007 60 (tkF sd).1 := ⟨_, g7, hN7, hv7, hk7⟩
        have hal : ((tkF sd).1.map (trm (lg j) st)).length = (tkF sd).1.length := List.length_map _
        have hA2 := fun j => okWs.at (rwAt.oks gA) j
        refine lv_iload_n hx hb dMo_question_55 rfl (lv_at hl 2 rfl) ?_
        refine lv_iconst (v := nI 2) hx hb dMo_question_56 (by decide) ?_
        refine hw_ic_ge (a := 2) (b := 2) (tgt := 67) hx hb dMo_question_57 (by decide) (by omega) (by omega) (fun cq_16 => ?_) (fun cq_16 => by exfalso; omega)
        refine lv_iload_n hx hb dMo_question_67 rfl (lv_at hl 2 rfl) ?_
        refine lv_iconst (v := nI 2) hx hb dMo_question_68 (by decide) ?_
        refine hw_ic_ne (a := 2) (b := 2) (tgt := 114) hx hb dMo_question_69 (by decide) (by omega) (by omega) (fun cq_17 => by exfalso; omega) (fun cq_17 => ?_)
        refine lv_iload_n hx hb dMo_question_72 rfl (lv_at hl 4 rfl) ?_
        refine hw_if_le (a := dd) (tgt := 110) hx hb dMo_question_73 (by decide) (by omega) (fun cq_18 => by exfalso; omega) (fun cq_18 => ?_)
        refine lv_aload_n hx hb dMo_question_76 rfl (lv_at hl 1 rfl) ?_
        refine hw_get hx hb hts (hwInn inMo) hown hK hZ ff_6 rfl 12 (by decide) (hts (.fieldLink RMo 83 RMo "askedCount" "I") (hwMem mm_377)) (fun _ h => h) rfl dMo_question_77 ?_
        refine lv_iconst (v := nI 1) hx hb dMo_question_80 (by decide) ?_
        refine hw_ic_le (a := (tkF sd).1.length) (b := 1) (tgt := 110) hx hb dMo_question_81 (by decide) (by omega) (by omega) (fun cq_19 => ?_) (fun cq_19 => ?_)
        · refine lv_iconst (v := nI 0) hx hb dMo_question_110 (by decide) ?_
          refine lv_goto (tgt := 144) hx hb dMo_question_111 (by decide) ?_
          refine lv_istore (lv' := [(5, .int (nI 0)), (0, .ref a), (1, .int (nI 2)), (2, .int (nI j)), (3, .int (nI dd)), (4, .int (nI 0))]) hx hb dMo_question_144 hl (by decide) rfl (fun ls hl => ?_)
          refine lv_iconst (v := nI 1) hx hb dMo_question_146 (by decide) ?_
          refine lv_istore (lv' := [(6, .int (nI 1)), (5, .int (nI 0)), (0, .ref a), (1, .int (nI 2)), (2, .int (nI j)), (3, .int (nI dd)), (4, .int (nI 0))]) hx hb dMo_question_147 hl (by decide) rfl (fun ls hl => ?_)
          refine lv_iload hx hb dMo_question_149 (lv_at hl 0 rfl) ?_
          refine lv_aload_n hx hb dMo_question_151 rfl (lv_at hl 2 rfl) ?_
          refine hw_get hx hb hts (hwInn inMo) hown hK hZ ff_6 rfl 1 (by decide) (hts (.fieldLink RMo 62 RMo "records" "I") (hwMem mm_418)) (fun _ h => h) rfl dMo_question_152 ?_
          refine hw_ic_gt (a := 1) (b := its.length) (tgt := 280) hx hb dMo_question_155 (by decide) (by omega) (by omega) (fun cq_20 => ?_) (fun cq_20 => ?_)
          · refine lv_aload_n hx hb dMo_question_280 rfl (lv_at hl 2 rfl) ?_
            refine hw_get hx hb hts (hwInn inMo) hown hK hZ ff_6 rfl 17 (by decide) (hts (.fieldLink RMo 111 RMo "hits" "I") (hwMem mm_409)) (fun _ h => h) rfl dMo_question_281 ?_
            exact hret hZ (by rw [hsN_e (Or.inr (Or.inl (getD_big (by omega))))]; exact ⟨rfl, hFr, ⟨_, _, _, _, _, _, _, _, _, _, _, _, _, _, _, _, _, _, _, _, _, _, _, _, _, _, _, _, _, _, _, _, _, ff_6, g1, g2, g3, g4, g5, g6, gQ, g8, g9, gA, g11, g12, g13, g14, g15, hft, hfg, hfp, hfl, (fun k hk => absurd hk (Nat.not_lt_zero _)), ivec.nil, ivec.nil, ivec.nil⟩⟩) dMo_question_284
          · refine lv_iload hx hb dMo_question_158 (lv_at hl 1 rfl) ?_
            refine hw_if_eq (a := 0) (tgt := 280) hx hb dMo_question_160 (by decide) (by omega) (fun cq_21 => ?_) (fun cq_21 => by exfalso; omega)
            refine lv_aload_n hx hb dMo_question_280 rfl (lv_at hl 2 rfl) ?_
            refine hw_get hx hb hts (hwInn inMo) hown hK hZ ff_6 rfl 17 (by decide) (hts (.fieldLink RMo 111 RMo "hits" "I") (hwMem mm_409)) (fun _ h => h) rfl dMo_question_281 ?_
            exact hret hZ (by rw [hsN_e (Or.inr (Or.inl (getD_big (by omega))))]; exact ⟨rfl, hFr, ⟨_, _, _, _, _, _, _, _, _, _, _, _, _, _, _, _, _, _, _, _, _, _, _, _, _, _, _, _, _, _, _, _, _, ff_6, g1, g2, g3, g4, g5, g6, gQ, g8, g9, gA, g11, g12, g13, g14, g15, hft, hfg, hfp, hfl, (fun k hk => absurd hk (Nat.not_lt_zero _)), ivec.nil, ivec.nil, ivec.nil⟩⟩) dMo_question_284
        · obtain ⟨fz, gz, hNz, hvz, hkz⟩ := gA
          have gA : rwAt K XL21 r10 1010 60 ((tkF sd).1.map (trm (lg j) st)) := ⟨fz, gz, hNz, hvz, hkz⟩
          refine lv_aload_n hx hb dMo_question_84 rfl (lv_at hl 1 rfl) ?_
          refine hw_get hx hb hts (hwInn inMo) hown hK hZ ff_6 rfl 15 (by decide) (hts (.fieldLink RMo 40 RMo "askedTerm" "[J") (hwMem mm_397)) (fun _ h => h) rfl dMo_question_85 ?_
          refine lv_iconst (v := nI 0) hx hb dMo_question_88 (by decide) ?_
          refine hw_lald hx hb hK hZ 1 gz rfl (j := 0) (by omega) (by omega) dMo_question_89 ?_
          refine hw_topl (hvz 0 (by omega)) ?_
          refine lv_lconst (v := lN 0) hx hb dMo_question_90 rfl ?_
          refine hw_lc_eq (a := rW (((tkF sd).1.map (trm (lg j) st)).getD 0 [])) (b := 0) (tgt := 110) hx hb dMo_question_91 dMo_question_92 (by decide) (by first | exact rW_lt63 (hA2 _) | exact rW_lt63 (hQ2 _) | decide) (by first | exact rW_lt63 (hA2 _) | exact rW_lt63 (hQ2 _) | decide) (fun cq_22 => ?_) (fun cq_22 => ?_)
          · refine lv_iconst (v := nI 0) hx hb dMo_question_110 (by decide) ?_
            refine lv_goto (tgt := 144) hx hb dMo_question_111 (by decide) ?_
            refine lv_istore (lv' := [(5, .int (nI 0)), (0, .ref a), (1, .int (nI 2)), (2, .int (nI j)), (3, .int (nI dd)), (4, .int (nI 0))]) hx hb dMo_question_144 hl (by decide) rfl (fun ls hl => ?_)
            refine lv_iconst (v := nI 1) hx hb dMo_question_146 (by decide) ?_
            refine lv_istore (lv' := [(6, .int (nI 1)), (5, .int (nI 0)), (0, .ref a), (1, .int (nI 2)), (2, .int (nI j)), (3, .int (nI dd)), (4, .int (nI 0))]) hx hb dMo_question_147 hl (by decide) rfl (fun ls hl => ?_)
            refine lv_iload hx hb dMo_question_149 (lv_at hl 0 rfl) ?_
            refine lv_aload_n hx hb dMo_question_151 rfl (lv_at hl 2 rfl) ?_
            refine hw_get hx hb hts (hwInn inMo) hown hK hZ ff_6 rfl 1 (by decide) (hts (.fieldLink RMo 62 RMo "records" "I") (hwMem mm_418)) (fun _ h => h) rfl dMo_question_152 ?_
            refine hw_ic_gt (a := 1) (b := its.length) (tgt := 280) hx hb dMo_question_155 (by decide) (by omega) (by omega) (fun cq_23 => ?_) (fun cq_23 => ?_)
            · refine lv_aload_n hx hb dMo_question_280 rfl (lv_at hl 2 rfl) ?_
              refine hw_get hx hb hts (hwInn inMo) hown hK hZ ff_6 rfl 17 (by decide) (hts (.fieldLink RMo 111 RMo "hits" "I") (hwMem mm_409)) (fun _ h => h) rfl dMo_question_281 ?_
              exact hret hZ (by rw [hsN_e (Or.inl ((rW_zero (hA2 _)).mp cq_22))]; exact ⟨rfl, hFr, ⟨_, _, _, _, _, _, _, _, _, _, _, _, _, _, _, _, _, _, _, _, _, _, _, _, _, _, _, _, _, _, _, _, _, ff_6, g1, g2, g3, g4, g5, g6, gQ, g8, g9, gA, g11, g12, g13, g14, g15, hft, hfg, hfp, hfl, (fun k hk => absurd hk (Nat.not_lt_zero _)), ivec.nil, ivec.nil, ivec.nil⟩⟩) dMo_question_284
            · refine lv_iload hx hb dMo_question_158 (lv_at hl 1 rfl) ?_
              refine hw_if_eq (a := 0) (tgt := 280) hx hb dMo_question_160 (by decide) (by omega) (fun cq_24 => ?_) (fun cq_24 => by exfalso; omega)
              refine lv_aload_n hx hb dMo_question_280 rfl (lv_at hl 2 rfl) ?_
              refine hw_get hx hb hts (hwInn inMo) hown hK hZ ff_6 rfl 17 (by decide) (hts (.fieldLink RMo 111 RMo "hits" "I") (hwMem mm_409)) (fun _ h => h) rfl dMo_question_281 ?_
              exact hret hZ (by rw [hsN_e (Or.inl ((rW_zero (hA2 _)).mp cq_22))]; exact ⟨rfl, hFr, ⟨_, _, _, _, _, _, _, _, _, _, _, _, _, _, _, _, _, _, _, _, _, _, _, _, _, _, _, _, _, _, _, _, _, ff_6, g1, g2, g3, g4, g5, g6, gQ, g8, g9, gA, g11, g12, g13, g14, g15, hft, hfg, hfp, hfl, (fun k hk => absurd hk (Nat.not_lt_zero _)), ivec.nil, ivec.nil, ivec.nil⟩⟩) dMo_question_284
          · obtain ⟨fz, gz, hNz, hvz, hkz⟩ := gA
            have gA : rwAt K XL21 r10 1010 60 ((tkF sd).1.map (trm (lg j) st)) := ⟨fz, gz, hNz, hvz, hkz⟩
            refine lv_aload_n hx hb dMo_question_95 rfl (lv_at hl 1 rfl) ?_
            refine hw_get hx hb hts (hwInn inMo) hown hK hZ ff_6 rfl 15 (by decide) (hts (.fieldLink RMo 40 RMo "askedTerm" "[J") (hwMem mm_397)) (fun _ h => h) rfl dMo_question_96 ?_
            refine lv_iconst (v := nI 1) hx hb dMo_question_99 (by decide) ?_
            refine hw_lald hx hb hK hZ 1 gz rfl (j := 1) (by omega) (by omega) dMo_question_100 ?_
            refine hw_topl (hvz 1 (by omega)) ?_
            refine lv_lconst (v := lN 0) hx hb dMo_question_101 rfl ?_
            refine hw_lc_eq (a := rW (((tkF sd).1.map (trm (lg j) st)).getD 1 [])) (b := 0) (tgt := 110) hx hb dMo_question_102 dMo_question_103 (by decide) (by first | exact rW_lt63 (hA2 _) | exact rW_lt63 (hQ2 _) | decide) (by first | exact rW_lt63 (hA2 _) | exact rW_lt63 (hQ2 _) | decide) (fun cq_25 => ?_) (fun cq_25 => ?_)
            · refine lv_iconst (v := nI 0) hx hb dMo_question_110 (by decide) ?_
              refine lv_goto (tgt := 144) hx hb dMo_question_111 (by decide) ?_
              refine lv_istore (lv' := [(5, .int (nI 0)), (0, .ref a), (1, .int (nI 2)), (2, .int (nI j)), (3, .int (nI dd)), (4, .int (nI 0))]) hx hb dMo_question_144 hl (by decide) rfl (fun ls hl => ?_)
              refine lv_iconst (v := nI 1) hx hb dMo_question_146 (by decide) ?_
              refine lv_istore (lv' := [(6, .int (nI 1)), (5, .int (nI 0)), (0, .ref a), (1, .int (nI 2)), (2, .int (nI j)), (3, .int (nI dd)), (4, .int (nI 0))]) hx hb dMo_question_147 hl (by decide) rfl (fun ls hl => ?_)
              refine lv_iload hx hb dMo_question_149 (lv_at hl 0 rfl) ?_
              refine lv_aload_n hx hb dMo_question_151 rfl (lv_at hl 2 rfl) ?_
              refine hw_get hx hb hts (hwInn inMo) hown hK hZ ff_6 rfl 1 (by decide) (hts (.fieldLink RMo 62 RMo "records" "I") (hwMem mm_418)) (fun _ h => h) rfl dMo_question_152 ?_
              refine hw_ic_gt (a := 1) (b := its.length) (tgt := 280) hx hb dMo_question_155 (by decide) (by omega) (by omega) (fun cq_26 => ?_) (fun cq_26 => ?_)
              · refine lv_aload_n hx hb dMo_question_280 rfl (lv_at hl 2 rfl) ?_
                refine hw_get hx hb hts (hwInn inMo) hown hK hZ ff_6 rfl 17 (by decide) (hts (.fieldLink RMo 111 RMo "hits" "I") (hwMem mm_409)) (fun _ h => h) rfl dMo_question_281 ?_
                exact hret hZ (by rw [hsN_e (Or.inr (Or.inl ((rW_zero (hA2 _)).mp cq_25)))]; exact ⟨rfl, hFr, ⟨_, _, _, _, _, _, _, _, _, _, _, _, _, _, _, _, _, _, _, _, _, _, _, _, _, _, _, _, _, _, _, _, _, ff_6, g1, g2, g3, g4, g5, g6, gQ, g8, g9, gA, g11, g12, g13, g14, g15, hft, hfg, hfp, hfl, (fun k hk => absurd hk (Nat.not_lt_zero _)), ivec.nil, ivec.nil, ivec.nil⟩⟩) dMo_question_284
              · refine lv_iload hx hb dMo_question_158 (lv_at hl 1 rfl) ?_
                refine hw_if_eq (a := 0) (tgt := 280) hx hb dMo_question_160 (by decide) (by omega) (fun cq_27 => ?_) (fun cq_27 => by exfalso; omega)
                refine lv_aload_n hx hb dMo_question_280 rfl (lv_at hl 2 rfl) ?_
                refine hw_get hx hb hts (hwInn inMo) hown hK hZ ff_6 rfl 17 (by decide) (hts (.fieldLink RMo 111 RMo "hits" "I") (hwMem mm_409)) (fun _ h => h) rfl dMo_question_281 ?_
                exact hret hZ (by rw [hsN_e (Or.inr (Or.inl ((rW_zero (hA2 _)).mp cq_25)))]; exact ⟨rfl, hFr, ⟨_, _, _, _, _, _, _, _, _, _, _, _, _, _, _, _, _, _, _, _, _, _, _, _, _, _, _, _, _, _, _, _, _, ff_6, g1, g2, g3, g4, g5, g6, gQ, g8, g9, gA, g11, g12, g13, g14, g15, hft, hfg, hfp, hfl, (fun k hk => absurd hk (Nat.not_lt_zero _)), ivec.nil, ivec.nil, ivec.nil⟩⟩) dMo_question_284
            · refine lv_iconst (v := nI 1) hx hb dMo_question_106 (by decide) ?_
              refine lv_goto (tgt := 144) hx hb dMo_question_107 (by decide) ?_
              refine lv_istore (lv' := [(5, .int (nI 1)), (0, .ref a), (1, .int (nI 2)), (2, .int (nI j)), (3, .int (nI dd)), (4, .int (nI 0))]) hx hb dMo_question_144 hl (by decide) rfl (fun ls hl => ?_)
              refine lv_iconst (v := nI 1) hx hb dMo_question_146 (by decide) ?_
              refine lv_istore (lv' := [(6, .int (nI 1)), (5, .int (nI 1)), (0, .ref a), (1, .int (nI 2)), (2, .int (nI j)), (3, .int (nI dd)), (4, .int (nI 0))]) hx hb dMo_question_147 hl (by decide) rfl (fun ls hl => ?_)
              have loop149 : ∀ (fuel : Nat) (n : Nat) (hz9 : List (Nat × Nat × Nat)) (rw9 : List (List Nat)) (rt9 : List (List Nat)) (nw9 : Nat) (z1 : Nat → Int32) (z2 : Nat → Int32) (z3 : Nat → Int32) (XL149 : hwW) (Hh : Heap) (lcs : List Loc) (ls : Array Slot), its.length + 1 - n < fuel → (1 ≤ n) → (n ≤ its.length + 1) → (hz9 = gaN (fun tb => neL tb (((tkF sd).1.map (trm (lg j) st)).getD 0 []) (((tkF sd).1.map (trm (lg j) st)).getD 1 []) dd) (fun tb => tb.countP (fun w => decide (w ≠ []) && (decide (w = ((tkF sd).1.map (trm (lg j) st)).getD 0 [] ∨ w = ((tkF sd).1.map (trm (lg j) st)).getD 1 [])))) (Tf its lg st j) (n - 1)) → (ivec z1 (fun h => h.1) hz9) → (ivec z2 (fun h => h.2.1) hz9) → (ivec z3 (fun h => h.2.2) hz9) → (hwF X XL149 (fun M => 1000 ≤ M ∧ M < 1100)) → (hwH XL149 a 1000 (.inr (10, [.int (nI tz), .int (nI its.length), .ref r1, .int (nI sg.length), .ref r2, .ref r3, .ref r4, .ref r5, .int (nI st.length), .ref r6, .int (nI 0), .ref r7, .int (nI ((tkF sd).1.length)), .ref r8, .ref r9, .ref r10, .int (nI nw9), .int (nI hz9.length), .ref r11, .ref r12, .ref r13, .ref r14, .int (nI nt), .ref r15]))) → (hwH XL149 r1 1001 (.inl (K 2, 31, .inl ft))) → (hwH XL149 r2 1002 (.inl (K 3, 1500, .inl fg))) → (hwH XL149 r3 1003 (.inl (K 0, 1500, .inl fp))) → (hwH XL149 r4 1004 (.inl (K 0, 4, .inl fl))) → (rwAt K XL149 r5 1005 40 st) → (hwH XL149 r6 1006 (.inl (K 3, 100, .inl fd))) → (rwAt K XL149 r7 1007 60 ((tkF sd).1)) → (rwAt K XL149 r8 1008 800 rw9) → (rwAt K XL149 r9 1009 800 rt9) → (rwAt K XL149 r10 1010 60 ((tkF sd).1.map (trm (lg j) st))) → (hwH XL149 r11 1011 (.inl (K 0, 30, .inl z1))) → (hwH XL149 r12 1012 (.inl (K 0, 30, .inl z2))) → (hwH XL149 r13 1013 (.inl (K 0, 30, .inl z3))) → (rwAt K XL149 r14 1014 800 tm) → (hwH XL149 r15 1015 (.inl (K 0, 169, .inl y))) → hwZ D vwCl A s.heap XL149 Hh lcs → lv_has ls 8 [(6, .int (nI n)), (5, .int (nI 1)), (0, .ref a), (1, .int (nI 2)), (2, .int (nI j)), (3, .int (nI dd)), (4, .int (nI 0))] → W p l e ({ frames := 3, cells := 0, slots := 0, locals := 73 } : Room) s m args below meth c Hh lcs 0 0 Q (F0 m 149 ls []) := by
                intro fuel; induction fuel with
                | zero => intro n hz9 rw9 rt9 nw9 z1 z2 z3 XL149 Hh lcs ls hfu; exact absurd hfu (Nat.not_lt_zero _)
                | succ fuel ih149 =>
                  intro n hz9 rw9 rt9 nw9 z1 z2 z3 XL149 Hh lcs ls hfu149 hn1 hn2 hhz hw1 hw2 hw3 hFr gx g1 g2 g3 g4 g5 g6 g7 g8 g9 g10 g11 g12 g13 g14 g15 hZ hl
                  have hz30 : hz9.length ≤ n - 1 := hhz ▸ gaN_len (n - 1)
                  have hBz : okH hz9 := hhz ▸ okH_gaN (fun n t ht => Tf_len htx hsl hj ht) (fun t => List.countP_le_length) (n - 1) (by omega)
                  refine lv_iload hx hb dMo_question_149 (lv_at hl 0 rfl) ?_
                  refine lv_aload_n hx hb dMo_question_151 rfl (lv_at hl 2 rfl) ?_
                  refine hw_get hx hb hts (hwInn inMo) hown hK hZ gx rfl 1 (by decide) (hts (.fieldLink RMo 62 RMo "records" "I") (hwMem mm_418)) (fun _ h => h) rfl dMo_question_152 ?_
                  refine hw_ic_gt (a := n) (b := its.length) (tgt := 280) hx hb dMo_question_155 (by decide) (by omega) (by omega) (fun cq_28 => ?_) (fun cq_28 => ?_)
                  · refine lv_aload_n hx hb dMo_question_280 rfl (lv_at hl 2 rfl) ?_
                    refine hw_get hx hb hts (hwInn inMo) hown hK hZ gx rfl 17 (by decide) (hts (.fieldLink RMo 111 RMo "hits" "I") (hwMem mm_409)) (fun _ h => h) rfl dMo_question_281 ?_
                    exact hret hZ (by rw [hsN_g (fun h => cq_22 ((rW_zero (hA2 _)).mpr h)) (fun h => cq_25 ((rW_zero (hA2 _)).mpr h)) hd1 hd2, ← (show n - 1 = its.length by omega), ← hhz]; exact ⟨rfl, hFr, ⟨_, _, _, _, _, _, _, _, _, _, _, _, _, _, _, _, _, _, _, _, _, _, _, _, _, _, _, _, _, _, _, _, _, gx, g1, g2, g3, g4, g5, g6, g7, g8, g9, g10, g11, g12, g13, g14, g15, hft, hfg, hfp, hfl, (fun k hk => absurd hk (Nat.not_lt_zero _)), hw1, hw2, hw3⟩⟩) dMo_question_284
                  · refine lv_iload hx hb dMo_question_158 (lv_at hl 1 rfl) ?_
                    refine hw_if_eq (a := 1) (tgt := 280) hx hb dMo_question_160 (by decide) (by omega) (fun cq_29 => by exfalso; omega) (fun cq_29 => ?_)
                    refine lv_aload_n hx hb dMo_question_163 rfl (lv_at hl 2 rfl) ?_
                    refine hw_get hx hb hts (hwInn inMo) hown hK hZ gx rfl 2 (by decide) (hts (.fieldLink RMo 7 RMo "there" "[Z") (hwMem mm_419)) (fun _ h => h) rfl dMo_question_164 ?_
                    refine lv_iload hx hb dMo_question_167 (lv_at hl 0 rfl) ?_
                    refine hw_zald hx hb hK hZ 2 g1 rfl (j := n) (by omega) (by omega) dMo_question_169 ?_
                    have hft9 := hft (n - 1) (by omega)
                    rw [show n - 1 + 1 = n by omega] at hft9
                    refine hw_topi hft9 ?_
                    refine hw_bz_eq (tgt := 274) hx hb dMo_question_170 (by decide) (fun cq_30 => ?_) (fun cq_30 => ?_)
                    · refine lv_iinc (v := nI (n + 1)) (lv' := [(6, .int (nI (n + 1))), (5, .int (nI 1)), (0, .ref a), (1, .int (nI 2)), (2, .int (nI j)), (3, .int (nI dd)), (4, .int (nI 0))]) hx hb dMo_question_274 hl (k := 0) rfl (nI_add _ 1) (by decide) rfl (fun ls hl => ?_)
                      refine lv_goto (tgt := 149) hx hb dMo_question_277 (by decide) ?_
                      exact ih149 (n + 1) hz9 rw9 rt9 nw9 z1 z2 z3 _ _ _ _ (by omega) (by omega) (by omega) (gaN_none (by omega) hhz (Tf_f cq_30)) hw1 hw2 hw3 hFr gx g1 g2 g3 g4 g5 g6 g7 g8 g9 g10 g11 g12 g13 g14 g15 hZ (lv_sub hl [0, 1, 2, 3, 4, 5, 6] rfl)
                    · refine lv_aload_n hx hb dMo_question_173 rfl (lv_at hl 2 rfl) ?_
                      refine lv_iload hx hb dMo_question_174 (lv_at hl 0 rfl) ?_
                      refine lv_iload_n hx hb dMo_question_176 rfl (lv_at hl 4 rfl) ?_
                      refine hw_callv (va_runV (As := [.int (nI n), .int (nI j)]) (rest := []) ⟨hx, hb, hml, hown, hts⟩ (m_gather l D K XL149 Hh.size (a := a) (r1 := r1) (r2 := r2) (r3 := r3) (r4 := r4) (r5 := r5) (r6 := r6) (r7 := r7) (r8 := r8) (r9 := r9) (r10 := r10) (r11 := r11) (r12 := r12) (r13 := r13) (r14 := r14) (r15 := r15) (tz := tz) (nr := its.length) (ng := sg.length) (ns := st.length) (nz := 0) (na := (tkF sd).1.length) (nw := nw9) (nh := hz9.length) (nt := nt) (fg := fg) (fp := fp) (fl := fl) (st := st) (rw0 := rw9) (rt0 := rt9) (sg := sg) (n := n) (j := j) (g := (lg j)) gx g2 g3 g4 g5 g8 g9 (by omega) (by omega) (by omega) (by assumption) (by assumption) (by assumption) (by omega) (by omega) (hfl j hj) (hlg j)) (cwV 2 hts (hwGood (hw_4 mm_421 mm_422 mm_423 mm_365 (hwAll mm_420))) rfl rfl rfl (by decide +kernel) ⟨Nat.le_of_ble_eq_true rfl, Nat.le_of_ble_eq_true rfl⟩) (hw_preV hK hO hZ (⟨_, _, gx⟩) rfl) rfl rfl hl.1 rfl (lv_room (Nat.le_of_ble_eq_true rfl)) dMo_question_177 ⟨(show 0 + 0 ≤ 0 by omega), (show 0 + 0 ≤ 0 by omega)⟩) hZ hA (fun X_31 H_32 lc_33 hp hZ => ?_)
                      obtain ⟨hF, hN_34, hN_35, hN_36⟩ := hp
                      have hFr := hwF.tr hFr hF (fun _ h => h) (fun M h => by first | exact False.elim h | ((try dsimp only at h ⊢); omega))
                      have g1 := hF _ _ _ (by intro hNS; first | exact False.elim hNS | ((try dsimp only at hNS); omega)) g1
                      have g2 := hF _ _ _ (by intro hNS; first | exact False.elim hNS | ((try dsimp only at hNS); omega)) g2
                      have g3 := hF _ _ _ (by intro hNS; first | exact False.elim hNS | ((try dsimp only at hNS); omega)) g3
                      have g4 := hF _ _ _ (by intro hNS; first | exact False.elim hNS | ((try dsimp only at hNS); omega)) g4
                      have g5 := rwAt.fr hF (by intro hNS; first | exact False.elim hNS | ((try dsimp only at hNS); omega)) g5
                      have g6 := hF _ _ _ (by intro hNS; first | exact False.elim hNS | ((try dsimp only at hNS); omega)) g6
                      have g7 := rwAt.fr hF (by intro hNS; first | exact False.elim hNS | ((try dsimp only at hNS); omega)) g7
                      have g10 := rwAt.fr hF (by intro hNS; first | exact False.elim hNS | ((try dsimp only at hNS); omega)) g10
                      have g11 := hF _ _ _ (by intro hNS; first | exact False.elim hNS | ((try dsimp only at hNS); omega)) g11
                      have g12 := hF _ _ _ (by intro hNS; first | exact False.elim hNS | ((try dsimp only at hNS); omega)) g12
                      have g13 := hF _ _ _ (by intro hNS; first | exact False.elim hNS | ((try dsimp only at hNS); omega)) g13
                      have g14 := rwAt.fr hF (by intro hNS; first | exact False.elim hNS | ((try dsimp only at hNS); omega)) g14
                      have g15 := hF _ _ _ (by intro hNS; first | exact False.elim hNS | ((try dsimp only at hNS); omega)) g15
                      have ff_37 := hN_34
                      have ff_38 := hN_35
                      have ff_39 := hN_36
                      have htx9 := htx (n - 1) (by omega) j hj
                      rw [show n - 1 + 1 = n by omega] at htx9
                      rw [← htx9] at ff_37 ff_38 ff_39
                      have hwn : ((its.getD (n - 1) hwIt0).2 j).1.length ≤ 600 := by rw [htx9]; exact Nat.le_trans (tkF_len _) (Nat.le_trans (ltL_len _ _) hsl)
                      have hmp : (((its.getD (n - 1) hwIt0).2 j).1.map (trm (lg j) st)).length = ((its.getD (n - 1) hwIt0).2 j).1.length := List.length_map _
                      refine lv_iload_n hx hb dMo_question_180 rfl (lv_at hl 3 rfl) ?_
                      refine hw_if_ne (a := 2) (tgt := 191) hx hb dMo_question_181 (by decide) (by omega) (fun cq_40 => ?_) (fun cq_40 => by exfalso; omega)
                      refine lv_iload_n hx hb dMo_question_191 rfl (lv_at hl 3 rfl) ?_
                      refine lv_iconst (v := nI 1) hx hb dMo_question_192 (by decide) ?_
                      refine hw_ic_ne (a := 2) (b := 1) (tgt := 203) hx hb dMo_question_193 (by decide) (by omega) (by omega) (fun cq_41 => ?_) (fun cq_41 => by exfalso; omega)
                      refine lv_iload_n hx hb dMo_question_203 rfl (lv_at hl 3 rfl) ?_
                      refine lv_iconst (v := nI 2) hx hb dMo_question_204 (by decide) ?_
                      refine hw_ic_ne (a := 2) (b := 2) (tgt := 216) hx hb dMo_question_205 (by decide) (by omega) (by omega) (fun cq_42 => by exfalso; omega) (fun cq_42 => ?_)
                      refine lv_aload_n hx hb dMo_question_208 rfl (lv_at hl 2 rfl) ?_
                      refine lv_iload_n hx hb dMo_question_209 rfl (lv_at hl 5 rfl) ?_
                      refine hw_calli (va_runV (As := [.int (nI dd)]) (rest := []) ⟨hx, hb, hml, hown, hts⟩ (m_near l D K X_31 H_32.size (a := a) (r1 := r1) (r2 := r2) (r3 := r3) (r4 := r4) (r5 := r5) (r6 := r6) (r7 := r7) (r8 := r8) (r9 := r9) (r10 := r10) (r11 := r11) (r12 := r12) (r13 := r13) (r14 := r14) (r15 := r15) (tz := tz) (nr := its.length) (ng := sg.length) (ns := st.length) (nz := 0) (na := (tkF sd).1.length) (nw := ((its.getD (n - 1) hwIt0).2 j).1.length) (nh := hz9.length) (nt := nt) (at_ := ((tkF sd).1.map (trm (lg j) st))) (rt := ((its.getD (n - 1) hwIt0).2 j).1.map (trm (lg j) st)) (dd := dd) ff_37 g10 ff_39 (by omega) (by omega) (by omega)) (cwV 1 hts (hwGood (hw_4 mm_464 mm_465 mm_466 mm_365 (hwAll mm_463))) rfl rfl rfl (by decide +kernel) ⟨Nat.le_of_ble_eq_true rfl, Nat.le_of_ble_eq_true rfl⟩) (hw_preV hK hO hZ (⟨_, _, ff_37⟩) rfl) rfl rfl hl.1 rfl (lv_room (Nat.le_of_ble_eq_true rfl)) dMo_question_210 ⟨(show 0 + 0 ≤ 0 by omega), (show 0 + 0 ≤ 0 by omega)⟩) hZ hA (fun r X_43 H_44 lc_45 hp hZ => ?_)
                      obtain ⟨hr, hy⟩ := hp
                      subst hy
                      refine hw_topi hr ?_
                      refine lv_goto (tgt := 230) hx hb dMo_question_213 (by decide) ?_
                      refine lv_istore (lv' := [(7, .int (bI (neL (((its.getD (n - 1) hwIt0).2 j).1.map (trm (lg j) st)) (((tkF sd).1.map (trm (lg j) st)).getD 0 []) (((tkF sd).1.map (trm (lg j) st)).getD 1 []) dd))), (6, .int (nI n)), (5, .int (nI 1)), (0, .ref a), (1, .int (nI 2)), (2, .int (nI j)), (3, .int (nI dd)), (4, .int (nI 0))]) hx hb dMo_question_230 hl (by decide) rfl (fun ls hl => ?_)
                      refine lv_iload hx hb dMo_question_232 (lv_at hl 0 rfl) ?_
                      refine hw_bz_eq (tgt := 274) hx hb dMo_question_234 (by decide) (fun cq_46 => ?_) (fun cq_46 => ?_)
                      · refine lv_iinc (v := nI (n + 1)) (lv' := [(6, .int (nI (n + 1))), (7, .int (bI (neL (((its.getD (n - 1) hwIt0).2 j).1.map (trm (lg j) st)) (((tkF sd).1.map (trm (lg j) st)).getD 0 []) (((tkF sd).1.map (trm (lg j) st)).getD 1 []) dd))), (5, .int (nI 1)), (0, .ref a), (1, .int (nI 2)), (2, .int (nI j)), (3, .int (nI dd)), (4, .int (nI 0))]) hx hb dMo_question_274 hl (k := 1) rfl (nI_add _ 1) (by decide) rfl (fun ls hl => ?_)
                        refine lv_goto (tgt := 149) hx hb dMo_question_277 (by decide) ?_
                        exact ih149 (n + 1) hz9 (((its.getD (n - 1) hwIt0).2 j).1) (((its.getD (n - 1) hwIt0).2 j).1.map (trm (lg j) st)) (((its.getD (n - 1) hwIt0).2 j).1.length) z1 z2 z3 _ _ _ _ (by omega) (by omega) (by omega) (gaN_no (by omega) hhz (Tf_t cq_30) cq_46) hw1 hw2 hw3 hFr ff_37 g1 g2 g3 g4 g5 g6 g7 ff_38 ff_39 g10 g11 g12 g13 g14 g15 hZ (lv_sub hl [0, 2, 3, 4, 5, 6, 7] rfl)
                      · refine lv_aload_n hx hb dMo_question_237 rfl (lv_at hl 3 rfl) ?_
                        refine lv_iload hx hb dMo_question_238 (lv_at hl 1 rfl) ?_
                        refine lv_iload_n hx hb dMo_question_240 rfl (lv_at hl 4 rfl) ?_
                        refine lv_iconst (v := nI 3) hx hb dMo_question_241 (by decide) ?_
                        refine hw_ic_ne (a := 2) (b := 3) (tgt := 254) hx hb dMo_question_242 (by decide) (by omega) (by omega) (fun cq_47 => ?_) (fun cq_47 => by exfalso; omega)
                        refine lv_aload_n hx hb dMo_question_254 rfl (lv_at hl 3 rfl) ?_
                        refine lv_iload_n hx hb dMo_question_255 rfl (lv_at hl 4 rfl) ?_
                        refine lv_iconst (v := nI 2) hx hb dMo_question_256 (by decide) ?_
                        refine hw_ic_ne (a := 2) (b := 2) (tgt := 264) hx hb dMo_question_257 (by decide) (by omega) (by omega) (fun cq_48 => by exfalso; omega) (fun cq_48 => ?_)
                        refine lv_iconst (v := nI 2) hx hb dMo_question_260 (by decide) ?_
                        refine lv_goto (tgt := 268) hx hb dMo_question_261 (by decide) ?_
                        refine hw_calli (va_runV (As := [.int (nI 2)]) (rest := [.int (nI n), .ref a]) ⟨hx, hb, hml, hown, hts⟩ (m_count l D K X_31 H_44.size (a := a) (r1 := r1) (r2 := r2) (r3 := r3) (r4 := r4) (r5 := r5) (r6 := r6) (r7 := r7) (r8 := r8) (r9 := r9) (r10 := r10) (r11 := r11) (r12 := r12) (r13 := r13) (r14 := r14) (r15 := r15) (tz := tz) (nr := its.length) (ng := sg.length) (ns := st.length) (nz := 0) (na := (tkF sd).1.length) (nw := ((its.getD (n - 1) hwIt0).2 j).1.length) (nh := hz9.length) (nt := nt) (at_ := ((tkF sd).1.map (trm (lg j) st))) (rt := ((its.getD (n - 1) hwIt0).2 j).1.map (trm (lg j) st)) (nn := 2) ff_37 g10 ff_39 (by omega) (by omega)) (cwV 1 hts (hwGood (hw_4 mm_452 mm_453 mm_454 mm_365 (hwAll mm_451))) rfl rfl rfl (by decide +kernel) ⟨Nat.le_of_ble_eq_true rfl, Nat.le_of_ble_eq_true rfl⟩) (hw_preV hK hO hZ (⟨_, _, ff_37⟩) rfl) rfl rfl hl.1 rfl (lv_room (Nat.le_of_ble_eq_true rfl)) dMo_question_268 ⟨(show 0 + 0 ≤ 0 by omega), (show 0 + 0 ≤ 0 by omega)⟩) hZ hA (fun r X_49 H_50 lc_51 hp hZ => ?_)
                        obtain ⟨hr, hy, xx_52⟩ := hp
                        subst hy
                        refine hw_topi hr ?_
                        refine hw_topi (congrArg nI (cnt_near (by omega) (((its.getD (n - 1) hwIt0).2 j).1.map (trm (lg j) st)))) ?_
                        have hcl : (((its.getD (n - 1) hwIt0).2 j).1.map (trm (lg j) st)).countP (fun w => decide (w ≠ []) && (decide (w = ((tkF sd).1.map (trm (lg j) st)).getD 0 [] ∨ w = ((tkF sd).1.map (trm (lg j) st)).getD 1 []))) ≤ (((its.getD (n - 1) hwIt0).2 j).1.map (trm (lg j) st)).length := List.countP_le_length
                        refine hw_callv (va_runV (As := [.int (nI n), .int (nI ((((its.getD (n - 1) hwIt0).2 j).1.map (trm (lg j) st)).countP (fun w => decide (w ≠ []) && (decide (w = ((tkF sd).1.map (trm (lg j) st)).getD 0 [] ∨ w = ((tkF sd).1.map (trm (lg j) st)).getD 1 [])))))]) (rest := []) ⟨hx, hb, hml, hown, hts⟩ (m_found l D K X_31 H_50.size (a := a) (r1 := r1) (r2 := r2) (r3 := r3) (r4 := r4) (r5 := r5) (r6 := r6) (r7 := r7) (r8 := r8) (r9 := r9) (r10 := r10) (r11 := r11) (r12 := r12) (r13 := r13) (r14 := r14) (r15 := r15) (tz := tz) (nr := its.length) (ng := sg.length) (ns := st.length) (nz := 0) (na := (tkF sd).1.length) (nw := ((its.getD (n - 1) hwIt0).2 j).1.length) (nh := hz9.length) (nt := nt) (f1 := z1) (f2 := z2) (f3 := z3) (hs := hz9) (x0 := n) (c0 := (((its.getD (n - 1) hwIt0).2 j).1.map (trm (lg j) st)).countP (fun w => decide (w ≠ []) && (decide (w = ((tkF sd).1.map (trm (lg j) st)).getD 0 [] ∨ w = ((tkF sd).1.map (trm (lg j) st)).getD 1 [])))) ff_37 g11 g12 g13 (by omega) (by omega) hw1 hw2 hw3 hBz (by omega) (by omega)) (cwV 2 hts (hwGood (hw_4 mm_456 mm_457 mm_458 mm_365 (hwAll mm_455))) rfl rfl rfl (by decide +kernel) ⟨Nat.le_of_ble_eq_true rfl, Nat.le_of_ble_eq_true rfl⟩) (hw_preV hK hO hZ (⟨_, _, ff_37⟩) rfl) rfl rfl hl.1 rfl (lv_room (Nat.le_of_ble_eq_true rfl)) dMo_question_271 ⟨(show 0 + 0 ≤ 0 by omega), (show 0 + 0 ≤ 0 by omega)⟩) hZ hA (fun X_53 H_54 lc_55 hp hZ => ?_)
                        obtain ⟨e1_56, e2_57, e3_58, hF, hN_59, hN_60, hN_61, hN_62, xx_63, xx_64, xx_65⟩ := hp
                        have hFr := hwF.tr hFr hF (fun _ h => h) (fun M h => by first | exact False.elim h | ((try dsimp only at h ⊢); omega))
                        have g1 := hF _ _ _ (by intro hNS; first | exact False.elim hNS | ((try dsimp only at hNS); omega)) g1
                        have g2 := hF _ _ _ (by intro hNS; first | exact False.elim hNS | ((try dsimp only at hNS); omega)) g2
                        have g3 := hF _ _ _ (by intro hNS; first | exact False.elim hNS | ((try dsimp only at hNS); omega)) g3
                        have g4 := hF _ _ _ (by intro hNS; first | exact False.elim hNS | ((try dsimp only at hNS); omega)) g4
                        have g5 := rwAt.fr hF (by intro hNS; first | exact False.elim hNS | ((try dsimp only at hNS); omega)) g5
                        have g6 := hF _ _ _ (by intro hNS; first | exact False.elim hNS | ((try dsimp only at hNS); omega)) g6
                        have g7 := rwAt.fr hF (by intro hNS; first | exact False.elim hNS | ((try dsimp only at hNS); omega)) g7
                        have g10 := rwAt.fr hF (by intro hNS; first | exact False.elim hNS | ((try dsimp only at hNS); omega)) g10
                        have g14 := rwAt.fr hF (by intro hNS; first | exact False.elim hNS | ((try dsimp only at hNS); omega)) g14
                        have g15 := hF _ _ _ (by intro hNS; first | exact False.elim hNS | ((try dsimp only at hNS); omega)) g15
                        have ff_38 := rwAt.fr hF (by intro hNS; first | exact False.elim hNS | ((try dsimp only at hNS); omega)) ff_38
                        have ff_39 := rwAt.fr hF (by intro hNS; first | exact False.elim hNS | ((try dsimp only at hNS); omega)) ff_39
                        have ff_66 := hN_59
                        have ff_67 := hN_60
                        have ff_68 := hN_61
                        have ff_69 := hN_62
                        refine lv_iinc (v := nI (n + 1)) (lv' := [(6, .int (nI (n + 1))), (7, .int (bI (neL (((its.getD (n - 1) hwIt0).2 j).1.map (trm (lg j) st)) (((tkF sd).1.map (trm (lg j) st)).getD 0 []) (((tkF sd).1.map (trm (lg j) st)).getD 1 []) dd))), (5, .int (nI 1)), (0, .ref a), (1, .int (nI 2)), (2, .int (nI j)), (3, .int (nI dd)), (4, .int (nI 0))]) hx hb dMo_question_274 hl (k := 1) rfl (nI_add _ 1) (by decide) rfl (fun ls hl => ?_)
                        refine lv_goto (tgt := 149) hx hb dMo_question_277 (by decide) ?_
                        exact ih149 (n + 1) (insH (n, (((its.getD (n - 1) hwIt0).2 j).1.map (trm (lg j) st)).countP (fun w => decide (w ≠ []) && (decide (w = ((tkF sd).1.map (trm (lg j) st)).getD 0 [] ∨ w = ((tkF sd).1.map (trm (lg j) st)).getD 1 []))), ((its.getD (n - 1) hwIt0).2 j).1.length) hz9) (((its.getD (n - 1) hwIt0).2 j).1) (((its.getD (n - 1) hwIt0).2 j).1.map (trm (lg j) st)) (((its.getD (n - 1) hwIt0).2 j).1.length) e1_56 e2_57 e3_58 _ _ _ _ (by omega) (by omega) (by omega) (by have hy9 := gaN_yes (by omega) hhz (Tf_t cq_30) cq_46; rw [hmp] at hy9; rw [ins_adH (by omega)]; exact hy9) xx_63 xx_64 xx_65 hFr ff_66 g1 g2 g3 g4 g5 g6 g7 ff_38 ff_39 g10 ff_67 ff_68 ff_69 g14 g15 hZ (lv_sub hl [0, 2, 3, 4, 5, 6, 7] rfl)
              exact loop149 (its.length + 1 - 1 + 1) 1 ([]) rw rt nw f1 f2 f3 _ _ _ _ (by omega) (by omega) (by omega) rfl ivec.nil ivec.nil ivec.nil hFr ff_6 g1 g2 g3 g4 g5 g6 gQ g8 g9 gA g11 g12 g13 g14 g15 hZ (lv_sub hl [0, 1, 2, 3, 4, 5, 6] rfl)
      · refine lv_aload_n hx hb dMo_question_30 rfl (lv_at hl 1 rfl) ?_
        refine hw_get hx hb hts (hwInn inMo) hown hK hZ ff_6 rfl 15 (by decide) (hts (.fieldLink RMo 40 RMo "askedTerm" "[J") (hwMem mm_397)) (fun _ h => h) rfl dMo_question_31 ?_
        refine lv_iload hx hb dMo_question_34 (lv_at hl 0 rfl) ?_
        refine lv_aload_n hx hb dMo_question_36 rfl (lv_at hl 1 rfl) ?_
        refine lv_aload_n hx hb dMo_question_37 rfl (lv_at hl 1 rfl) ?_
        refine hw_get hx hb hts (hwInn inMo) hown hK hZ ff_6 rfl 11 (by decide) (hts (.fieldLink RMo 31 RMo "asked" "[J") (hwMem mm_383)) (fun _ h => h) rfl dMo_question_38 ?_
        refine lv_iload hx hb dMo_question_41 (lv_at hl 0 rfl) ?_
        refine hw_lald hx hb hK hZ 1 g7 rfl (j := k) (by omega) (by omega) dMo_question_43 ?_
        refine hw_topl (hv7 k (by omega)) ?_
        refine lv_iload_n hx hb dMo_question_44 rfl (lv_at hl 3 rfl) ?_
        refine hw_calll (va_runV (As := [.long (lN (rW ((tkF sd).1.getD k []))), .int (nI j)]) (rest := [.int (nI k), .ref r10]) ⟨hx, hb, hml, hown, hts⟩ (m_stem l D K XL21 Hh.size (a := a) (r1 := r1) (r2 := r2) (r3 := r3) (r4 := r4) (r5 := r5) (r6 := r6) (r7 := r7) (r8 := r8) (r9 := r9) (r10 := r10) (r11 := r11) (r12 := r12) (r13 := r13) (r14 := r14) (r15 := r15) (tz := tz) (nr := its.length) (ng := sg.length) (ns := st.length) (nz := 0) (na := (tkF sd).1.length) (nw := nw) (nh := 0) (nt := nt) (st := st) (fl := fl) (w := ((tkF sd).1.getD k [])) (j := j) (g := (lg j)) ff_6 g5 g4 (by omega) (hQ2 k) (ne_getD hqne (by omega)) (by omega) (hfl j hj) (hlg j)) (cwV 2 hts (hwGood (hw_4 mm_392 mm_393 mm_394 mm_365 (hwAll mm_391))) rfl rfl rfl (by decide +kernel) ⟨Nat.le_of_ble_eq_true rfl, Nat.le_of_ble_eq_true rfl⟩) (hw_preV hK hO hZ (⟨_, _, ff_6⟩) rfl) rfl rfl hl.1 rfl (lv_room (Nat.le_of_ble_eq_true rfl)) dMo_question_45 ⟨(show 0 + 0 ≤ 0 by omega), (show 0 + 0 ≤ 0 by omega)⟩) hZ hA (fun r X_70 H_71 lc_72 hp hZ => ?_)
        obtain ⟨hr, hy⟩ := hp
        subst hy
        refine hw_topl hr ?_
        refine hw_last hx hb hK hZ 1 g10 rfl (j := k) (by omega) (by omega) dMo_question_48 (fun X_73 H_74 lc_75 hZ hF hNw => ?_)
        have hFr := hwF.tr hFr hF (fun _ h => h) (fun M h => by first | exact False.elim h | ((try dsimp only at h ⊢); omega))
        have g1 := hF _ _ _ (by intro hNS; first | exact False.elim hNS | ((try dsimp only at hNS); omega)) g1
        have g2 := hF _ _ _ (by intro hNS; first | exact False.elim hNS | ((try dsimp only at hNS); omega)) g2
        have g3 := hF _ _ _ (by intro hNS; first | exact False.elim hNS | ((try dsimp only at hNS); omega)) g3
        have g4 := hF _ _ _ (by intro hNS; first | exact False.elim hNS | ((try dsimp only at hNS); omega)) g4
        have g5 := rwAt.fr hF (by intro hNS; first | exact False.elim hNS | ((try dsimp only at hNS); omega)) g5
        have g6 := hF _ _ _ (by intro hNS; first | exact False.elim hNS | ((try dsimp only at hNS); omega)) g6
        have g8 := rwAt.fr hF (by intro hNS; first | exact False.elim hNS | ((try dsimp only at hNS); omega)) g8
        have g9 := rwAt.fr hF (by intro hNS; first | exact False.elim hNS | ((try dsimp only at hNS); omega)) g9
        have g11 := hF _ _ _ (by intro hNS; first | exact False.elim hNS | ((try dsimp only at hNS); omega)) g11
        have g12 := hF _ _ _ (by intro hNS; first | exact False.elim hNS | ((try dsimp only at hNS); omega)) g12
        have g13 := hF _ _ _ (by intro hNS; first | exact False.elim hNS | ((try dsimp only at hNS); omega)) g13
        have g14 := rwAt.fr hF (by intro hNS; first | exact False.elim hNS | ((try dsimp only at hNS); omega)) g14
        have g15 := hF _ _ _ (by intro hNS; first | exact False.elim hNS | ((try dsimp only at hNS); omega)) g15
        have ff_6 := hF _ _ _ (by intro hNS; first | exact False.elim hNS | ((try dsimp only at hNS); omega)) ff_6
        have g7 := hF _ _ _ (by intro hNS; first | exact False.elim hNS | ((try dsimp only at hNS); omega)) g7
        have g10 := hNw
        refine lv_iinc (v := nI (k + 1)) (lv' := [(5, .int (nI (k + 1))), (0, .ref a), (1, .int (nI 2)), (2, .int (nI j)), (3, .int (nI dd)), (4, .int (nI 0))]) hx hb dMo_question_49 hl (k := 0) rfl (nI_add _ 1) (by decide) rfl (fun ls hl => ?_)
        refine lv_goto (tgt := 21) hx hb dMo_question_52 (by decide) ?_
        exact ih21 (k + 1) (vp_updL z10 k (lN (rW (trm (lg j) st ((tkF sd).1.getD k []))))) _ _ _ _ (by omega) (by omega) (fun p hp => (Nat.lt_or_eq_of_le (Nat.le_of_lt_succ hp)).elim (fun z => by rw [pk_uLn (by omega)]; exact hz p z) (fun z => by subst z; rw [pk_uLs])) hFr g1 g2 g3 g4 g5 g6 g8 g9 g11 g12 g13 g14 g15 ff_6 g7 g10 hZ (lv_sub hl [0, 1, 2, 3, 4, 5] rfl)
  exact loop21 ((tkF sd).1.length - 0 + 1) 0 f10 _ _ _ _ (by omega) (by omega) (fun p hp => absurd hp (Nat.not_lt_zero _)) hFr g1 g2 g3 g4 g5 g6 g8 g9 g11 g12 g13 g14 g15 ff_6 g7 g10 hZ (lv_sub hl [0, 1, 2, 3, 4, 5] rfl)
set_option maxHeartbeats 4000000 in
set_option maxRecDepth 100000 in
theorem m_q3 (l : Launch) (D : va_G) (K : Nat → ClassId) (X : hwW) (sz : Nat) (a : Nat) (its : hwIt) (sg : List (Nat × Nat)) (lg : Nat → Nat) (st : List (List Nat)) (sd : List Nat) (hs : List (Nat × Nat × Nat)) (j : Nat) (be : Bool) (f0_ : moAt K X a its sg lg st sd hs) (okm : okM its sg lg st sd hs) (hj : j < 4) : Met l yMo_question (.code yMo_question cMo_question 8 (some .int) :: hwG) ({ frames := 3, cells := 0, slots := 0, locals := 73 } : Room) (hwPc D vwCl (hwT K) [.ref a, .int (nI 3), .int (nI j), .int (nI 0), .int (bI be)] X sz) (hwQi D vwCl X sz (fun r Y => r = nI (hsW ((tkF sd).1.getD 0 []) be (Tf its lg st j) its.length).length ∧ hwF X Y (fun M => 1000 ≤ M ∧ M < 1100) ∧ moAt K Y a its sg lg st [] (hsW ((tkF sd).1.getD 0 []) be (Tf its lg st j) its.length))) 0 0 (va_A X.1 sz) := by
  refine hwMeti (cc := cMo_question) (maxL := 8) (by decide) rfl (Nat.le_of_ble_eq_true rfl) (fun p e s m args below meth c ls A Q hx hb hml hown hts hname hret hK hO hZ hA hl => ?_)
  have hl : lv_has ls 8 [(0, .ref a), (1, .int (nI 3)), (2, .int (nI j)), (3, .int (nI 0)), (4, .int (bI be))] := hl
  have hFr : hwF X X (fun M => 1000 ≤ M ∧ M < 1100) := hwF.rf
  obtain ⟨hni3, hsl, hsb, hlg, hsd, hh30, hB, htx⟩ := okm
  obtain ⟨r1, r2, r3, r4, r5, r6, r7, r8, r9, r10, r11, r12, r13, r14, r15, tz, na, nw, nt, ft, fg, fp, fl, fd, f1, f2, f3, qa, rw, rt, at_, tm, y, gx, g1, g2, g3, g4, g5, g6, g7, g8, g9, g10, g11, g12, g13, g14, g15, hft, hfg, hfp, hfl, hfd, hv1, hv2, hv3⟩ := f0_
  have hst40 := rwAt.len g5
  refine lv_aload_n hx hb dMo_question_0 rfl (lv_at hl 0 rfl) ?_
  refine hw_callv (va_runV (As := []) (rest := []) ⟨hx, hb, hml, hown, hts⟩ (m_take l D K X s.heap.size (a := a) (r1 := r1) (r2 := r2) (r3 := r3) (r4 := r4) (r5 := r5) (r6 := r6) (r7 := r7) (r8 := r8) (r9 := r9) (r10 := r10) (r11 := r11) (r12 := r12) (r13 := r13) (r14 := r14) (r15 := r15) (tz := tz) (nr := its.length) (ng := sg.length) (ns := st.length) (nz := sd.length) (na := na) (nw := nw) (nh := hs.length) (nt := nt) (fd := fd) (qa := qa) (sd := sd) gx g6 g7 (by omega) (by omega) (by assumption)) (cwV 0 hts (hwGood (hw_4 mm_437 mm_438 mm_439 mm_365 (hwAll mm_436))) rfl rfl rfl (by decide +kernel) ⟨Nat.le_of_ble_eq_true rfl, Nat.le_of_ble_eq_true rfl⟩) (hw_preV hK hO hZ (⟨_, _, gx⟩) rfl) rfl rfl hl.1 rfl (lv_room (Nat.le_of_ble_eq_true rfl)) dMo_question_1 ⟨(show 0 + 0 ≤ 0 by omega), (show 0 + 0 ≤ 0 by omega)⟩) hZ hA (fun X_1 H_2 lc_3 hp hZ => ?_)
  obtain ⟨hF, hN_4, hN_5⟩ := hp
  have hFr := hwF.tr hFr hF (fun _ h => h) (fun M h => by first | exact False.elim h | ((try dsimp only at h ⊢); omega))
  have g1 := hF _ _ _ (by intro hNS; first | exact False.elim hNS | ((try dsimp only at hNS); omega)) g1
  have g2 := hF _ _ _ (by intro hNS; first | exact False.elim hNS | ((try dsimp only at hNS); omega)) g2
  have g3 := hF _ _ _ (by intro hNS; first | exact False.elim hNS | ((try dsimp only at hNS); omega)) g3
  have g4 := hF _ _ _ (by intro hNS; first | exact False.elim hNS | ((try dsimp only at hNS); omega)) g4
  have g5 := rwAt.fr hF (by intro hNS; first | exact False.elim hNS | ((try dsimp only at hNS); omega)) g5
  have g6 := hF _ _ _ (by intro hNS; first | exact False.elim hNS | ((try dsimp only at hNS); omega)) g6
  have g8 := rwAt.fr hF (by intro hNS; first | exact False.elim hNS | ((try dsimp only at hNS); omega)) g8
  have g9 := rwAt.fr hF (by intro hNS; first | exact False.elim hNS | ((try dsimp only at hNS); omega)) g9
  have g10 := rwAt.fr hF (by intro hNS; first | exact False.elim hNS | ((try dsimp only at hNS); omega)) g10
  have g11 := hF _ _ _ (by intro hNS; first | exact False.elim hNS | ((try dsimp only at hNS); omega)) g11
  have g12 := hF _ _ _ (by intro hNS; first | exact False.elim hNS | ((try dsimp only at hNS); omega)) g12
  have g13 := hF _ _ _ (by intro hNS; first | exact False.elim hNS | ((try dsimp only at hNS); omega)) g13
  have g14 := rwAt.fr hF (by intro hNS; first | exact False.elim hNS | ((try dsimp only at hNS); omega)) g14
  have g15 := hF _ _ _ (by intro hNS; first | exact False.elim hNS | ((try dsimp only at hNS); omega)) g15
  have ff_6 := hN_4
  have ff_7 := hN_5
  have hqn := tkF_len sd
  have hq60 := rwAt.len ff_7
  refine lv_aload_n hx hb dMo_question_4 rfl (lv_at hl 0 rfl) ?_
  refine lv_iconst (v := nI 0) hx hb dMo_question_5 (by decide) ?_
  refine hw_put (ty := .int) (fs' := [.int (nI tz), .int (nI its.length), .ref r1, .int (nI sg.length), .ref r2, .ref r3, .ref r4, .ref r5, .int (nI st.length), .ref r6, .int (nI 0), .ref r7, .int (nI ((tkF sd).1.length)), .ref r8, .ref r9, .ref r10, .int (nI nw), .int (nI 0), .ref r11, .ref r12, .ref r13, .ref r14, .int (nI nt), .ref r15]) hx hb hts (hwInn inMo) tyMo tyMo_ok nmMo hown hK hZ ff_6 rfl 17 (by decide) (hts (.fieldLink RMo 111 RMo "hits" "I") (hwMem mm_409)) (fun _ h => h) rfl (by decide +kernel) rfl rfl (Nat.le_of_ble_eq_true rfl) rfl dMo_question_6 (fun X_8 H_9 lc_10 hZ hF hNw => ?_)
  have hFr := hwF.tr hFr hF (fun _ h => h) (fun M h => by first | exact False.elim h | ((try dsimp only at h ⊢); omega))
  have g1 := hF _ _ _ (by intro hNS; first | exact False.elim hNS | ((try dsimp only at hNS); omega)) g1
  have g2 := hF _ _ _ (by intro hNS; first | exact False.elim hNS | ((try dsimp only at hNS); omega)) g2
  have g3 := hF _ _ _ (by intro hNS; first | exact False.elim hNS | ((try dsimp only at hNS); omega)) g3
  have g4 := hF _ _ _ (by intro hNS; first | exact False.elim hNS | ((try dsimp only at hNS); omega)) g4
  have g5 := rwAt.fr hF (by intro hNS; first | exact False.elim hNS | ((try dsimp only at hNS); omega)) g5
  have g6 := hF _ _ _ (by intro hNS; first | exact False.elim hNS | ((try dsimp only at hNS); omega)) g6
  have g8 := rwAt.fr hF (by intro hNS; first | exact False.elim hNS | ((try dsimp only at hNS); omega)) g8
  have g9 := rwAt.fr hF (by intro hNS; first | exact False.elim hNS | ((try dsimp only at hNS); omega)) g9
  have g10 := rwAt.fr hF (by intro hNS; first | exact False.elim hNS | ((try dsimp only at hNS); omega)) g10
  have g11 := hF _ _ _ (by intro hNS; first | exact False.elim hNS | ((try dsimp only at hNS); omega)) g11
  have g12 := hF _ _ _ (by intro hNS; first | exact False.elim hNS | ((try dsimp only at hNS); omega)) g12
  have g13 := hF _ _ _ (by intro hNS; first | exact False.elim hNS | ((try dsimp only at hNS); omega)) g13
  have g14 := rwAt.fr hF (by intro hNS; first | exact False.elim hNS | ((try dsimp only at hNS); omega)) g14
  have g15 := hF _ _ _ (by intro hNS; first | exact False.elim hNS | ((try dsimp only at hNS); omega)) g15
  have ff_6 := hNw
  have ff_7 := rwAt.fr hF (by intro hNS; first | exact False.elim hNS | ((try dsimp only at hNS); omega)) ff_7
  refine lv_iload_n hx hb dMo_question_9 rfl (lv_at hl 2 rfl) ?_
  refine hw_calli (va_runS (As := [.int (nI j)]) (rest := []) ⟨hx, hb, hml, hown, hts⟩ (m_isField l D K X_8 H_9.size (j := j) (by omega)) (va_cwS 1 hts (hwGood (hw_3 mm_442 mm_441 mm_365 (hwAll mm_440))) rfl rfl rfl (by decide +kernel) ⟨Nat.le_of_ble_eq_true rfl, Nat.le_of_ble_eq_true rfl⟩) (hw_preS hK hO hZ) rfl rfl hl.1 rfl (lv_room (Nat.le_of_ble_eq_true rfl)) dMo_question_10 ⟨(show 0 + 0 ≤ 0 by omega), (show 0 + 0 ≤ 0 by omega)⟩) hZ hA (fun r X_11 H_12 lc_13 hp hZ => ?_)
  obtain ⟨hr, hy⟩ := hp
  subst hy
  refine hw_topi hr ?_
  refine hw_bz_neT (tgt := 18) hx hb dMo_question_13 (by decide) rfl ?_
  obtain ⟨f7, g7, hN7, hv7, hk7⟩ := ff_7
  obtain ⟨f10, g10, hN10, hv10, hk10⟩ := g10
  have hQ2 := fun j => okWs.at hk7 j
  have hqne := tkF_ne sd (fun k hk => hfd k hk ▸ mL_le _)
  refine lv_iconst (v := nI 0) hx hb dMo_question_18 (by decide) ?_
  refine lv_istore (lv' := [(5, .int (nI 0)), (0, .ref a), (1, .int (nI 3)), (2, .int (nI j)), (3, .int (nI 0)), (4, .int (bI be))]) hx hb dMo_question_19 hl (by decide) rfl (fun ls hl => ?_)
  have loop21 : ∀ (fuel : Nat) (k : Nat) (z10 : Nat → Int64) (XL21 : hwW) (Hh : Heap) (lcs : List Loc) (ls : Array Slot), (tkF sd).1.length - k < fuel → (k ≤ (tkF sd).1.length) → (∀ p, p < k → z10 p = lN (rW (trm (lg j) st ((tkF sd).1.getD p [])))) → (hwF X XL21 (fun M => 1000 ≤ M ∧ M < 1100)) → (hwH XL21 r1 1001 (.inl (K 2, 31, .inl ft))) → (hwH XL21 r2 1002 (.inl (K 3, 1500, .inl fg))) → (hwH XL21 r3 1003 (.inl (K 0, 1500, .inl fp))) → (hwH XL21 r4 1004 (.inl (K 0, 4, .inl fl))) → (rwAt K XL21 r5 1005 40 st) → (hwH XL21 r6 1006 (.inl (K 3, 100, .inl fd))) → (rwAt K XL21 r8 1008 800 rw) → (rwAt K XL21 r9 1009 800 rt) → (hwH XL21 r11 1011 (.inl (K 0, 30, .inl f1))) → (hwH XL21 r12 1012 (.inl (K 0, 30, .inl f2))) → (hwH XL21 r13 1013 (.inl (K 0, 30, .inl f3))) → (rwAt K XL21 r14 1014 800 tm) → (hwH XL21 r15 1015 (.inl (K 0, 169, .inl y))) → (hwH XL21 a 1000 (.inr (10, [.int (nI tz), .int (nI its.length), .ref r1, .int (nI sg.length), .ref r2, .ref r3, .ref r4, .ref r5, .int (nI st.length), .ref r6, .int (nI 0), .ref r7, .int (nI ((tkF sd).1.length)), .ref r8, .ref r9, .ref r10, .int (nI nw), .int (nI 0), .ref r11, .ref r12, .ref r13, .ref r14, .int (nI nt), .ref r15]))) → (hwH XL21 r7 1007 (.inl (K 1, 60, .inr (.inl f7)))) → (hwH XL21 r10 1010 (.inl (K 1, 60, .inr (.inl z10)))) → hwZ D vwCl A s.heap XL21 Hh lcs → lv_has ls 8 [(5, .int (nI k)), (0, .ref a), (1, .int (nI 3)), (2, .int (nI j)), (3, .int (nI 0)), (4, .int (bI be))] → W p l e ({ frames := 3, cells := 0, slots := 0, locals := 73 } : Room) s m args below meth c Hh lcs 0 0 Q (F0 m 21 ls []) := by
    intro fuel; induction fuel with
    | zero => intro k z10 XL21 Hh lcs ls hfu; exact absurd hfu (Nat.not_lt_zero _)
    | succ fuel ih21 =>
      intro k z10 XL21 Hh lcs ls hfu21 hk hz hFr g1 g2 g3 g4 g5 g6 g8 g9 g11 g12 g13 g14 g15 ff_6 g7 g10 hZ hl
      refine lv_iload hx hb dMo_question_21 (lv_at hl 0 rfl) ?_
      refine lv_aload_n hx hb dMo_question_23 rfl (lv_at hl 1 rfl) ?_
      refine hw_get hx hb hts (hwInn inMo) hown hK hZ ff_6 rfl 12 (by decide) (hts (.fieldLink RMo 83 RMo "askedCount" "I") (hwMem mm_377)) (fun _ h => h) rfl dMo_question_24 ?_
      refine hw_ic_ge (a := k) (b := (tkF sd).1.length) (tgt := 55) hx hb dMo_question_27 (by decide) (by omega) (by omega) (fun cq_15 => ?_) (fun cq_15 => ?_)
      · have gA : rwAt K XL21 r10 1010 60 ((tkF sd).1.map (trm (lg j) st)) := ⟨_, g10, by rw [List.length_map]; omega, rvec_map (ws := (tkF sd).1) (φ := trm (lg j) st) (fun p hp => hz p (by omega)), okWs_map hk7 (lg j) st⟩
        have gQ : rwAt K XL21 r7 1007 60 (tkF sd).1 := ⟨_, g7, hN7, hv7, hk7⟩
        have hal : ((tkF sd).1.map (trm (lg j) st)).length = (tkF sd).1.length := List.length_map _
        have hA2 := fun j => okWs.at (rwAt.oks gA) j
        refine lv_iload_n hx hb dMo_question_55 rfl (lv_at hl 2 rfl) ?_
        refine lv_iconst (v := nI 2) hx hb dMo_question_56 (by decide) ?_
        refine hw_ic_ge (a := 3) (b := 2) (tgt := 67) hx hb dMo_question_57 (by decide) (by omega) (by omega) (fun cq_16 => ?_) (fun cq_16 => by exfalso; omega)
        refine lv_iload_n hx hb dMo_question_67 rfl (lv_at hl 2 rfl) ?_
        refine lv_iconst (v := nI 2) hx hb dMo_question_68 (by decide) ?_
        refine hw_ic_ne (a := 3) (b := 2) (tgt := 114) hx hb dMo_question_69 (by decide) (by omega) (by omega) (fun cq_17 => ?_) (fun cq_17 => by exfalso; omega)
        refine lv_aload_n hx hb dMo_question_114 rfl (lv_at hl 1 rfl) ?_
        refine hw_get hx hb hts (hwInn inMo) hown hK hZ ff_6 rfl 12 (by decide) (hts (.fieldLink RMo 83 RMo "askedCount" "I") (hwMem mm_377)) (fun _ h => h) rfl dMo_question_115 ?_
        refine hw_if_le (a := (tkF sd).1.length) (tgt := 143) hx hb dMo_question_118 (by decide) (by omega) (fun cq_18 => ?_) (fun cq_18 => ?_)
        · refine lv_iconst (v := nI 0) hx hb dMo_question_143 (by decide) ?_
          refine lv_istore (lv' := [(5, .int (nI 0)), (0, .ref a), (1, .int (nI 3)), (2, .int (nI j)), (3, .int (nI 0)), (4, .int (bI be))]) hx hb dMo_question_144 hl (by decide) rfl (fun ls hl => ?_)
          refine lv_iconst (v := nI 1) hx hb dMo_question_146 (by decide) ?_
          refine lv_istore (lv' := [(6, .int (nI 1)), (5, .int (nI 0)), (0, .ref a), (1, .int (nI 3)), (2, .int (nI j)), (3, .int (nI 0)), (4, .int (bI be))]) hx hb dMo_question_147 hl (by decide) rfl (fun ls hl => ?_)
          refine lv_iload hx hb dMo_question_149 (lv_at hl 0 rfl) ?_
          refine lv_aload_n hx hb dMo_question_151 rfl (lv_at hl 2 rfl) ?_
          refine hw_get hx hb hts (hwInn inMo) hown hK hZ ff_6 rfl 1 (by decide) (hts (.fieldLink RMo 62 RMo "records" "I") (hwMem mm_418)) (fun _ h => h) rfl dMo_question_152 ?_
          refine hw_ic_gt (a := 1) (b := its.length) (tgt := 280) hx hb dMo_question_155 (by decide) (by omega) (by omega) (fun cq_19 => ?_) (fun cq_19 => ?_)
          · refine lv_aload_n hx hb dMo_question_280 rfl (lv_at hl 2 rfl) ?_
            refine hw_get hx hb hts (hwInn inMo) hown hK hZ ff_6 rfl 17 (by decide) (hts (.fieldLink RMo 111 RMo "hits" "I") (hwMem mm_409)) (fun _ h => h) rfl dMo_question_281 ?_
            exact hret hZ (by rw [hsW_e (Or.inl (getD_big (by omega)))]; exact ⟨rfl, hFr, ⟨_, _, _, _, _, _, _, _, _, _, _, _, _, _, _, _, _, _, _, _, _, _, _, _, _, _, _, _, _, _, _, _, _, ff_6, g1, g2, g3, g4, g5, g6, gQ, g8, g9, gA, g11, g12, g13, g14, g15, hft, hfg, hfp, hfl, (fun k hk => absurd hk (Nat.not_lt_zero _)), ivec.nil, ivec.nil, ivec.nil⟩⟩) dMo_question_284
          · refine lv_iload hx hb dMo_question_158 (lv_at hl 1 rfl) ?_
            refine hw_if_eq (a := 0) (tgt := 280) hx hb dMo_question_160 (by decide) (by omega) (fun cq_20 => ?_) (fun cq_20 => by exfalso; omega)
            refine lv_aload_n hx hb dMo_question_280 rfl (lv_at hl 2 rfl) ?_
            refine hw_get hx hb hts (hwInn inMo) hown hK hZ ff_6 rfl 17 (by decide) (hts (.fieldLink RMo 111 RMo "hits" "I") (hwMem mm_409)) (fun _ h => h) rfl dMo_question_281 ?_
            exact hret hZ (by rw [hsW_e (Or.inl (getD_big (by omega)))]; exact ⟨rfl, hFr, ⟨_, _, _, _, _, _, _, _, _, _, _, _, _, _, _, _, _, _, _, _, _, _, _, _, _, _, _, _, _, _, _, _, _, ff_6, g1, g2, g3, g4, g5, g6, gQ, g8, g9, gA, g11, g12, g13, g14, g15, hft, hfg, hfp, hfl, (fun k hk => absurd hk (Nat.not_lt_zero _)), ivec.nil, ivec.nil, ivec.nil⟩⟩) dMo_question_284
        · refine lv_iload hx hb dMo_question_121 (lv_at hl 5 rfl) ?_
          refine hw_bz_eq (tgt := 139) hx hb dMo_question_123 (by decide) (fun cq_21 => ?_) (fun cq_21 => ?_)
          · refine lv_iconst (v := nI 1) hx hb dMo_question_139 (by decide) ?_
            refine lv_goto (tgt := 144) hx hb dMo_question_140 (by decide) ?_
            refine lv_istore (lv' := [(5, .int (nI 1)), (0, .ref a), (1, .int (nI 3)), (2, .int (nI j)), (3, .int (nI 0)), (4, .int (bI be))]) hx hb dMo_question_144 hl (by decide) rfl (fun ls hl => ?_)
            refine lv_iconst (v := nI 1) hx hb dMo_question_146 (by decide) ?_
            refine lv_istore (lv' := [(6, .int (nI 1)), (5, .int (nI 1)), (0, .ref a), (1, .int (nI 3)), (2, .int (nI j)), (3, .int (nI 0)), (4, .int (bI be))]) hx hb dMo_question_147 hl (by decide) rfl (fun ls hl => ?_)
            have loop149 : ∀ (fuel : Nat) (n : Nat) (hz9 : List (Nat × Nat × Nat)) (rw9 : List (List Nat)) (rt9 : List (List Nat)) (nw9 : Nat) (z1 : Nat → Int32) (z2 : Nat → Int32) (z3 : Nat → Int32) (XL149 : hwW) (Hh : Heap) (lcs : List Loc) (ls : Array Slot), its.length + 1 - n < fuel → (1 ≤ n) → (n ≤ its.length + 1) → (hz9 = gaN (fun tb => decide (0 < tb.countP (fun v => decide (v ≠ []) && (bif be then endL v ((tkF sd).1.getD 0 []) else begL v ((tkF sd).1.getD 0 []))))) (fun tb => tb.countP (fun v => decide (v ≠ []) && (bif be then endL v ((tkF sd).1.getD 0 []) else begL v ((tkF sd).1.getD 0 [])))) (Tf its lg st j) (n - 1)) → (ivec z1 (fun h => h.1) hz9) → (ivec z2 (fun h => h.2.1) hz9) → (ivec z3 (fun h => h.2.2) hz9) → (hwF X XL149 (fun M => 1000 ≤ M ∧ M < 1100)) → (hwH XL149 a 1000 (.inr (10, [.int (nI tz), .int (nI its.length), .ref r1, .int (nI sg.length), .ref r2, .ref r3, .ref r4, .ref r5, .int (nI st.length), .ref r6, .int (nI 0), .ref r7, .int (nI ((tkF sd).1.length)), .ref r8, .ref r9, .ref r10, .int (nI nw9), .int (nI hz9.length), .ref r11, .ref r12, .ref r13, .ref r14, .int (nI nt), .ref r15]))) → (hwH XL149 r1 1001 (.inl (K 2, 31, .inl ft))) → (hwH XL149 r2 1002 (.inl (K 3, 1500, .inl fg))) → (hwH XL149 r3 1003 (.inl (K 0, 1500, .inl fp))) → (hwH XL149 r4 1004 (.inl (K 0, 4, .inl fl))) → (rwAt K XL149 r5 1005 40 st) → (hwH XL149 r6 1006 (.inl (K 3, 100, .inl fd))) → (rwAt K XL149 r7 1007 60 ((tkF sd).1)) → (rwAt K XL149 r8 1008 800 rw9) → (rwAt K XL149 r9 1009 800 rt9) → (rwAt K XL149 r10 1010 60 ((tkF sd).1.map (trm (lg j) st))) → (hwH XL149 r11 1011 (.inl (K 0, 30, .inl z1))) → (hwH XL149 r12 1012 (.inl (K 0, 30, .inl z2))) → (hwH XL149 r13 1013 (.inl (K 0, 30, .inl z3))) → (rwAt K XL149 r14 1014 800 tm) → (hwH XL149 r15 1015 (.inl (K 0, 169, .inl y))) → hwZ D vwCl A s.heap XL149 Hh lcs → lv_has ls 8 [(6, .int (nI n)), (5, .int (nI 1)), (0, .ref a), (1, .int (nI 3)), (2, .int (nI j)), (3, .int (nI 0)), (4, .int (bI be))] → W p l e ({ frames := 3, cells := 0, slots := 0, locals := 73 } : Room) s m args below meth c Hh lcs 0 0 Q (F0 m 149 ls []) := by
              intro fuel; induction fuel with
              | zero => intro n hz9 rw9 rt9 nw9 z1 z2 z3 XL149 Hh lcs ls hfu; exact absurd hfu (Nat.not_lt_zero _)
              | succ fuel ih149 =>
                intro n hz9 rw9 rt9 nw9 z1 z2 z3 XL149 Hh lcs ls hfu149 hn1 hn2 hhz hw1 hw2 hw3 hFr gx g1 g2 g3 g4 g5 g6 g7 g8 g9 g10 g11 g12 g13 g14 g15 hZ hl
                have hz30 : hz9.length ≤ n - 1 := hhz ▸ gaN_len (n - 1)
                have hBz : okH hz9 := hhz ▸ okH_gaN (fun n t ht => Tf_len htx hsl hj ht) (fun t => List.countP_le_length) (n - 1) (by omega)
                refine lv_iload hx hb dMo_question_149 (lv_at hl 0 rfl) ?_
                refine lv_aload_n hx hb dMo_question_151 rfl (lv_at hl 2 rfl) ?_
                refine hw_get hx hb hts (hwInn inMo) hown hK hZ gx rfl 1 (by decide) (hts (.fieldLink RMo 62 RMo "records" "I") (hwMem mm_418)) (fun _ h => h) rfl dMo_question_152 ?_
                refine hw_ic_gt (a := n) (b := its.length) (tgt := 280) hx hb dMo_question_155 (by decide) (by omega) (by omega) (fun cq_22 => ?_) (fun cq_22 => ?_)
                · refine lv_aload_n hx hb dMo_question_280 rfl (lv_at hl 2 rfl) ?_
                  refine hw_get hx hb hts (hwInn inMo) hown hK hZ gx rfl 17 (by decide) (hts (.fieldLink RMo 111 RMo "hits" "I") (hwMem mm_409)) (fun _ h => h) rfl dMo_question_281 ?_
                  exact hret hZ (by rw [hsW_g (qne_of hqne (by omega)) (fun h => by rw [cq_21] at h; cases h), ← (show n - 1 = its.length by omega), ← hhz]; exact ⟨rfl, hFr, ⟨_, _, _, _, _, _, _, _, _, _, _, _, _, _, _, _, _, _, _, _, _, _, _, _, _, _, _, _, _, _, _, _, _, gx, g1, g2, g3, g4, g5, g6, g7, g8, g9, g10, g11, g12, g13, g14, g15, hft, hfg, hfp, hfl, (fun k hk => absurd hk (Nat.not_lt_zero _)), hw1, hw2, hw3⟩⟩) dMo_question_284
                · refine lv_iload hx hb dMo_question_158 (lv_at hl 1 rfl) ?_
                  refine hw_if_eq (a := 1) (tgt := 280) hx hb dMo_question_160 (by decide) (by omega) (fun cq_23 => by exfalso; omega) (fun cq_23 => ?_)
                  refine lv_aload_n hx hb dMo_question_163 rfl (lv_at hl 2 rfl) ?_
                  refine hw_get hx hb hts (hwInn inMo) hown hK hZ gx rfl 2 (by decide) (hts (.fieldLink RMo 7 RMo "there" "[Z") (hwMem mm_419)) (fun _ h => h) rfl dMo_question_164 ?_
                  refine lv_iload hx hb dMo_question_167 (lv_at hl 0 rfl) ?_
                  refine hw_zald hx hb hK hZ 2 g1 rfl (j := n) (by omega) (by omega) dMo_question_169 ?_
                  have hft9 := hft (n - 1) (by omega)
                  rw [show n - 1 + 1 = n by omega] at hft9
                  refine hw_topi hft9 ?_
                  refine hw_bz_eq (tgt := 274) hx hb dMo_question_170 (by decide) (fun cq_24 => ?_) (fun cq_24 => ?_)
                  · refine lv_iinc (v := nI (n + 1)) (lv' := [(6, .int (nI (n + 1))), (5, .int (nI 1)), (0, .ref a), (1, .int (nI 3)), (2, .int (nI j)), (3, .int (nI 0)), (4, .int (bI be))]) hx hb dMo_question_274 hl (k := 0) rfl (nI_add _ 1) (by decide) rfl (fun ls hl => ?_)
                    refine lv_goto (tgt := 149) hx hb dMo_question_277 (by decide) ?_
                    exact ih149 (n + 1) hz9 rw9 rt9 nw9 z1 z2 z3 _ _ _ _ (by omega) (by omega) (by omega) (gaN_none (by omega) hhz (Tf_f cq_24)) hw1 hw2 hw3 hFr gx g1 g2 g3 g4 g5 g6 g7 g8 g9 g10 g11 g12 g13 g14 g15 hZ (lv_sub hl [0, 1, 2, 3, 4, 5, 6] rfl)
                  · refine lv_aload_n hx hb dMo_question_173 rfl (lv_at hl 2 rfl) ?_
                    refine lv_iload hx hb dMo_question_174 (lv_at hl 0 rfl) ?_
                    refine lv_iload_n hx hb dMo_question_176 rfl (lv_at hl 4 rfl) ?_
                    refine hw_callv (va_runV (As := [.int (nI n), .int (nI j)]) (rest := []) ⟨hx, hb, hml, hown, hts⟩ (m_gather l D K XL149 Hh.size (a := a) (r1 := r1) (r2 := r2) (r3 := r3) (r4 := r4) (r5 := r5) (r6 := r6) (r7 := r7) (r8 := r8) (r9 := r9) (r10 := r10) (r11 := r11) (r12 := r12) (r13 := r13) (r14 := r14) (r15 := r15) (tz := tz) (nr := its.length) (ng := sg.length) (ns := st.length) (nz := 0) (na := (tkF sd).1.length) (nw := nw9) (nh := hz9.length) (nt := nt) (fg := fg) (fp := fp) (fl := fl) (st := st) (rw0 := rw9) (rt0 := rt9) (sg := sg) (n := n) (j := j) (g := (lg j)) gx g2 g3 g4 g5 g8 g9 (by omega) (by omega) (by omega) (by assumption) (by assumption) (by assumption) (by omega) (by omega) (hfl j hj) (hlg j)) (cwV 2 hts (hwGood (hw_4 mm_421 mm_422 mm_423 mm_365 (hwAll mm_420))) rfl rfl rfl (by decide +kernel) ⟨Nat.le_of_ble_eq_true rfl, Nat.le_of_ble_eq_true rfl⟩) (hw_preV hK hO hZ (⟨_, _, gx⟩) rfl) rfl rfl hl.1 rfl (lv_room (Nat.le_of_ble_eq_true rfl)) dMo_question_177 ⟨(show 0 + 0 ≤ 0 by omega), (show 0 + 0 ≤ 0 by omega)⟩) hZ hA (fun X_25 H_26 lc_27 hp hZ => ?_)
                    obtain ⟨hF, hN_28, hN_29, hN_30⟩ := hp
                    have hFr := hwF.tr hFr hF (fun _ h => h) (fun M h => by first | exact False.elim h | ((try dsimp only at h ⊢); omega))
                    have g1 := hF _ _ _ (by intro hNS; first | exact False.elim hNS | ((try dsimp only at hNS); omega)) g1
                    have g2 := hF _ _ _ (by intro hNS; first | exact False.elim hNS | ((try dsimp only at hNS); omega)) g2
                    have g3 := hF _ _ _ (by intro hNS; first | exact False.elim hNS | ((try dsimp only at hNS); omega)) g3
                    have g4 := hF _ _ _ (by intro hNS; first | exact False.elim hNS | ((try dsimp only at hNS); omega)) g4
                    have g5 := rwAt.fr hF (by intro hNS; first | exact False.elim hNS | ((try dsimp only at hNS); omega)) g5
                    have g6 := hF _ _ _ (by intro hNS; first | exact False.elim hNS | ((try dsimp only at hNS); omega)) g6
                    have g7 := rwAt.fr hF (by intro hNS; first | exact False.elim hNS | ((try dsimp only at hNS); omega)) g7
                    have g10 := rwAt.fr hF (by intro hNS; first | exact False.elim hNS | ((try dsimp only at hNS); omega)) g10
                    have g11 := hF _ _ _ (by intro hNS; first | exact False.elim hNS | ((try dsimp only at hNS); omega)) g11
                    have g12 := hF _ _ _ (by intro hNS; first | exact False.elim hNS | ((try dsimp only at hNS); omega)) g12
                    have g13 := hF _ _ _ (by intro hNS; first | exact False.elim hNS | ((try dsimp only at hNS); omega)) g13
                    have g14 := rwAt.fr hF (by intro hNS; first | exact False.elim hNS | ((try dsimp only at hNS); omega)) g14
                    have g15 := hF _ _ _ (by intro hNS; first | exact False.elim hNS | ((try dsimp only at hNS); omega)) g15
                    have ff_31 := hN_28
                    have ff_32 := hN_29
                    have ff_33 := hN_30
                    have htx9 := htx (n - 1) (by omega) j hj
                    rw [show n - 1 + 1 = n by omega] at htx9
                    rw [← htx9] at ff_31 ff_32 ff_33
                    have hwn : ((its.getD (n - 1) hwIt0).2 j).1.length ≤ 600 := by rw [htx9]; exact Nat.le_trans (tkF_len _) (Nat.le_trans (ltL_len _ _) hsl)
                    have hmp : (((its.getD (n - 1) hwIt0).2 j).1.map (trm (lg j) st)).length = ((its.getD (n - 1) hwIt0).2 j).1.length := List.length_map _
                    refine lv_iload_n hx hb dMo_question_180 rfl (lv_at hl 3 rfl) ?_
                    refine hw_if_ne (a := 3) (tgt := 191) hx hb dMo_question_181 (by decide) (by omega) (fun cq_34 => ?_) (fun cq_34 => by exfalso; omega)
                    refine lv_iload_n hx hb dMo_question_191 rfl (lv_at hl 3 rfl) ?_
                    refine lv_iconst (v := nI 1) hx hb dMo_question_192 (by decide) ?_
                    refine hw_ic_ne (a := 3) (b := 1) (tgt := 203) hx hb dMo_question_193 (by decide) (by omega) (by omega) (fun cq_35 => ?_) (fun cq_35 => by exfalso; omega)
                    refine lv_iload_n hx hb dMo_question_203 rfl (lv_at hl 3 rfl) ?_
                    refine lv_iconst (v := nI 2) hx hb dMo_question_204 (by decide) ?_
                    refine hw_ic_ne (a := 3) (b := 2) (tgt := 216) hx hb dMo_question_205 (by decide) (by omega) (by omega) (fun cq_36 => ?_) (fun cq_36 => by exfalso; omega)
                    refine lv_aload_n hx hb dMo_question_216 rfl (lv_at hl 2 rfl) ?_
                    refine lv_iload hx hb dMo_question_217 (lv_at hl 6 rfl) ?_
                    refine hw_calli (va_runV (As := [.int (bI be)]) (rest := []) ⟨hx, hb, hml, hown, hts⟩ (m_wildC l D K X_25 H_26.size (a := a) (r1 := r1) (r2 := r2) (r3 := r3) (r4 := r4) (r5 := r5) (r6 := r6) (r7 := r7) (r8 := r8) (r9 := r9) (r10 := r10) (r11 := r11) (r12 := r12) (r13 := r13) (r14 := r14) (r15 := r15) (tz := tz) (nr := its.length) (ng := sg.length) (ns := st.length) (nz := 0) (na := (tkF sd).1.length) (nw := ((its.getD (n - 1) hwIt0).2 j).1.length) (nh := hz9.length) (nt := nt) (qa := (tkF sd).1) (rt := ((its.getD (n - 1) hwIt0).2 j).1.map (trm (lg j) st)) (u := ((tkF sd).1.getD 0 [])) (be := be) ff_31 g7 ff_33 (by omega) (by omega) rfl (ne_getD hqne (by omega))) (cwV 1 hts (hwGood (hw_4 mm_468 mm_469 mm_470 mm_365 (hwAll mm_467))) rfl rfl rfl (by decide +kernel) ⟨Nat.le_of_ble_eq_true rfl, Nat.le_of_ble_eq_true rfl⟩) (hw_preV hK hO hZ (⟨_, _, ff_31⟩) rfl) rfl rfl hl.1 rfl (lv_room (Nat.le_of_ble_eq_true rfl)) dMo_question_219 ⟨(show 0 + 0 ≤ 0 by omega), (show 0 + 0 ≤ 0 by omega)⟩) hZ hA (fun r X_37 H_38 lc_39 hp hZ => ?_)
                    obtain ⟨hr, hy, xx_40⟩ := hp
                    subst hy
                    refine hw_topi hr ?_
                    refine hw_if_le (a := (((its.getD (n - 1) hwIt0).2 j).1.map (trm (lg j) st)).countP (fun v => decide (v ≠ []) && (bif be then endL v ((tkF sd).1.getD 0 []) else begL v ((tkF sd).1.getD 0 [])))) (tgt := 229) hx hb dMo_question_222 (by decide) (by omega) (fun cq_41 => ?_) (fun cq_41 => ?_)
                    · refine lv_iconst (v := nI 0) hx hb dMo_question_229 (by decide) ?_
                      refine lv_istore (lv' := [(7, .int (nI 0)), (6, .int (nI n)), (5, .int (nI 1)), (0, .ref a), (1, .int (nI 3)), (2, .int (nI j)), (3, .int (nI 0)), (4, .int (bI be))]) hx hb dMo_question_230 hl (by decide) rfl (fun ls hl => ?_)
                      refine lv_iload hx hb dMo_question_232 (lv_at hl 0 rfl) ?_
                      refine hw_if_eq (a := 0) (tgt := 274) hx hb dMo_question_234 (by decide) (by omega) (fun cq_42 => ?_) (fun cq_42 => by exfalso; omega)
                      refine lv_iinc (v := nI (n + 1)) (lv' := [(6, .int (nI (n + 1))), (7, .int (nI 0)), (5, .int (nI 1)), (0, .ref a), (1, .int (nI 3)), (2, .int (nI j)), (3, .int (nI 0)), (4, .int (bI be))]) hx hb dMo_question_274 hl (k := 1) rfl (nI_add _ 1) (by decide) rfl (fun ls hl => ?_)
                      refine lv_goto (tgt := 149) hx hb dMo_question_277 (by decide) ?_
                      exact ih149 (n + 1) hz9 (((its.getD (n - 1) hwIt0).2 j).1) (((its.getD (n - 1) hwIt0).2 j).1.map (trm (lg j) st)) (((its.getD (n - 1) hwIt0).2 j).1.length) z1 z2 z3 _ _ _ _ (by omega) (by omega) (by omega) (gaN_no (by omega) hhz (Tf_t cq_24) (decide_eq_false (Nat.not_lt.mpr cq_41))) hw1 hw2 hw3 hFr ff_31 g1 g2 g3 g4 g5 g6 g7 ff_32 ff_33 g10 g11 g12 g13 g14 g15 hZ (lv_sub hl [0, 2, 3, 4, 5, 6, 7] rfl)
                    · refine lv_iconst (v := nI 1) hx hb dMo_question_225 (by decide) ?_
                      refine lv_goto (tgt := 230) hx hb dMo_question_226 (by decide) ?_
                      refine lv_istore (lv' := [(7, .int (nI 1)), (6, .int (nI n)), (5, .int (nI 1)), (0, .ref a), (1, .int (nI 3)), (2, .int (nI j)), (3, .int (nI 0)), (4, .int (bI be))]) hx hb dMo_question_230 hl (by decide) rfl (fun ls hl => ?_)
                      refine lv_iload hx hb dMo_question_232 (lv_at hl 0 rfl) ?_
                      refine hw_if_eq (a := 1) (tgt := 274) hx hb dMo_question_234 (by decide) (by omega) (fun cq_43 => by exfalso; omega) (fun cq_43 => ?_)
                      refine lv_aload_n hx hb dMo_question_237 rfl (lv_at hl 3 rfl) ?_
                      refine lv_iload hx hb dMo_question_238 (lv_at hl 1 rfl) ?_
                      refine lv_iload_n hx hb dMo_question_240 rfl (lv_at hl 4 rfl) ?_
                      refine lv_iconst (v := nI 3) hx hb dMo_question_241 (by decide) ?_
                      refine hw_ic_ne (a := 3) (b := 3) (tgt := 254) hx hb dMo_question_242 (by decide) (by omega) (by omega) (fun cq_44 => by exfalso; omega) (fun cq_44 => ?_)
                      refine lv_aload_n hx hb dMo_question_245 rfl (lv_at hl 3 rfl) ?_
                      refine lv_iload hx hb dMo_question_246 (lv_at hl 7 rfl) ?_
                      refine hw_calli (va_runV (As := [.int (bI be)]) (rest := [.int (nI n), .ref a]) ⟨hx, hb, hml, hown, hts⟩ (m_wildC l D K X_25 H_38.size (a := a) (r1 := r1) (r2 := r2) (r3 := r3) (r4 := r4) (r5 := r5) (r6 := r6) (r7 := r7) (r8 := r8) (r9 := r9) (r10 := r10) (r11 := r11) (r12 := r12) (r13 := r13) (r14 := r14) (r15 := r15) (tz := tz) (nr := its.length) (ng := sg.length) (ns := st.length) (nz := 0) (na := (tkF sd).1.length) (nw := ((its.getD (n - 1) hwIt0).2 j).1.length) (nh := hz9.length) (nt := nt) (qa := (tkF sd).1) (rt := ((its.getD (n - 1) hwIt0).2 j).1.map (trm (lg j) st)) (u := ((tkF sd).1.getD 0 [])) (be := be) ff_31 g7 ff_33 (by omega) (by omega) rfl (ne_getD hqne (by omega))) (cwV 1 hts (hwGood (hw_4 mm_468 mm_469 mm_470 mm_365 (hwAll mm_467))) rfl rfl rfl (by decide +kernel) ⟨Nat.le_of_ble_eq_true rfl, Nat.le_of_ble_eq_true rfl⟩) (hw_preV hK hO hZ (⟨_, _, ff_31⟩) rfl) rfl rfl hl.1 rfl (lv_room (Nat.le_of_ble_eq_true rfl)) dMo_question_248 ⟨(show 0 + 0 ≤ 0 by omega), (show 0 + 0 ≤ 0 by omega)⟩) hZ hA (fun r X_45 H_46 lc_47 hp hZ => ?_)
                      obtain ⟨hr, hy, xx_48⟩ := hp
                      subst hy
                      refine hw_topi hr ?_
                      refine lv_goto (tgt := 271) hx hb dMo_question_251 (by decide) ?_
                      have hcl : (((its.getD (n - 1) hwIt0).2 j).1.map (trm (lg j) st)).countP (fun v => decide (v ≠ []) && (bif be then endL v ((tkF sd).1.getD 0 []) else begL v ((tkF sd).1.getD 0 []))) ≤ (((its.getD (n - 1) hwIt0).2 j).1.map (trm (lg j) st)).length := List.countP_le_length
                      refine hw_callv (va_runV (As := [.int (nI n), .int (nI ((((its.getD (n - 1) hwIt0).2 j).1.map (trm (lg j) st)).countP (fun v => decide (v ≠ []) && (bif be then endL v ((tkF sd).1.getD 0 []) else begL v ((tkF sd).1.getD 0 [])))))]) (rest := []) ⟨hx, hb, hml, hown, hts⟩ (m_found l D K X_25 H_46.size (a := a) (r1 := r1) (r2 := r2) (r3 := r3) (r4 := r4) (r5 := r5) (r6 := r6) (r7 := r7) (r8 := r8) (r9 := r9) (r10 := r10) (r11 := r11) (r12 := r12) (r13 := r13) (r14 := r14) (r15 := r15) (tz := tz) (nr := its.length) (ng := sg.length) (ns := st.length) (nz := 0) (na := (tkF sd).1.length) (nw := ((its.getD (n - 1) hwIt0).2 j).1.length) (nh := hz9.length) (nt := nt) (f1 := z1) (f2 := z2) (f3 := z3) (hs := hz9) (x0 := n) (c0 := (((its.getD (n - 1) hwIt0).2 j).1.map (trm (lg j) st)).countP (fun v => decide (v ≠ []) && (bif be then endL v ((tkF sd).1.getD 0 []) else begL v ((tkF sd).1.getD 0 [])))) ff_31 g11 g12 g13 (by omega) (by omega) hw1 hw2 hw3 hBz (by omega) (by omega)) (cwV 2 hts (hwGood (hw_4 mm_456 mm_457 mm_458 mm_365 (hwAll mm_455))) rfl rfl rfl (by decide +kernel) ⟨Nat.le_of_ble_eq_true rfl, Nat.le_of_ble_eq_true rfl⟩) (hw_preV hK hO hZ (⟨_, _, ff_31⟩) rfl) rfl rfl hl.1 rfl (lv_room (Nat.le_of_ble_eq_true rfl)) dMo_question_271 ⟨(show 0 + 0 ≤ 0 by omega), (show 0 + 0 ≤ 0 by omega)⟩) hZ hA (fun X_49 H_50 lc_51 hp hZ => ?_)
                      obtain ⟨e1_52, e2_53, e3_54, hF, hN_55, hN_56, hN_57, hN_58, xx_59, xx_60, xx_61⟩ := hp
                      have hFr := hwF.tr hFr hF (fun _ h => h) (fun M h => by first | exact False.elim h | ((try dsimp only at h ⊢); omega))
                      have g1 := hF _ _ _ (by intro hNS; first | exact False.elim hNS | ((try dsimp only at hNS); omega)) g1
                      have g2 := hF _ _ _ (by intro hNS; first | exact False.elim hNS | ((try dsimp only at hNS); omega)) g2
                      have g3 := hF _ _ _ (by intro hNS; first | exact False.elim hNS | ((try dsimp only at hNS); omega)) g3
                      have g4 := hF _ _ _ (by intro hNS; first | exact False.elim hNS | ((try dsimp only at hNS); omega)) g4
                      have g5 := rwAt.fr hF (by intro hNS; first | exact False.elim hNS | ((try dsimp only at hNS); omega)) g5
                      have g6 := hF _ _ _ (by intro hNS; first | exact False.elim hNS | ((try dsimp only at hNS); omega)) g6
                      have g7 := rwAt.fr hF (by intro hNS; first | exact False.elim hNS | ((try dsimp only at hNS); omega)) g7
                      have g10 := rwAt.fr hF (by intro hNS; first | exact False.elim hNS | ((try dsimp only at hNS); omega)) g10
                      have g14 := rwAt.fr hF (by intro hNS; first | exact False.elim hNS | ((try dsimp only at hNS); omega)) g14
                      have g15 := hF _ _ _ (by intro hNS; first | exact False.elim hNS | ((try dsimp only at hNS); omega)) g15
                      have ff_32 := rwAt.fr hF (by intro hNS; first | exact False.elim hNS | ((try dsimp only at hNS); omega)) ff_32
                      have ff_33 := rwAt.fr hF (by intro hNS; first | exact False.elim hNS | ((try dsimp only at hNS); omega)) ff_33
                      have ff_62 := hN_55
                      have ff_63 := hN_56
                      have ff_64 := hN_57
                      have ff_65 := hN_58
                      refine lv_iinc (v := nI (n + 1)) (lv' := [(6, .int (nI (n + 1))), (7, .int (nI 1)), (5, .int (nI 1)), (0, .ref a), (1, .int (nI 3)), (2, .int (nI j)), (3, .int (nI 0)), (4, .int (bI be))]) hx hb dMo_question_274 hl (k := 1) rfl (nI_add _ 1) (by decide) rfl (fun ls hl => ?_)
                      refine lv_goto (tgt := 149) hx hb dMo_question_277 (by decide) ?_
                      exact ih149 (n + 1) (insH (n, (((its.getD (n - 1) hwIt0).2 j).1.map (trm (lg j) st)).countP (fun v => decide (v ≠ []) && (bif be then endL v ((tkF sd).1.getD 0 []) else begL v ((tkF sd).1.getD 0 []))), ((its.getD (n - 1) hwIt0).2 j).1.length) hz9) (((its.getD (n - 1) hwIt0).2 j).1) (((its.getD (n - 1) hwIt0).2 j).1.map (trm (lg j) st)) (((its.getD (n - 1) hwIt0).2 j).1.length) e1_52 e2_53 e3_54 _ _ _ _ (by omega) (by omega) (by omega) (by have hy9 := gaN_yes (by omega) hhz (Tf_t cq_24) (decide_eq_true cq_41); rw [hmp] at hy9; rw [ins_adH (by omega)]; exact hy9) xx_59 xx_60 xx_61 hFr ff_62 g1 g2 g3 g4 g5 g6 g7 ff_32 ff_33 g10 ff_63 ff_64 ff_65 g14 g15 hZ (lv_sub hl [0, 2, 3, 4, 5, 6, 7] rfl)
            exact loop149 (its.length + 1 - 1 + 1) 1 ([]) rw rt nw f1 f2 f3 _ _ _ _ (by omega) (by omega) (by omega) rfl ivec.nil ivec.nil ivec.nil hFr ff_6 g1 g2 g3 g4 g5 g6 gQ g8 g9 gA g11 g12 g13 g14 g15 hZ (lv_sub hl [0, 1, 2, 3, 4, 5, 6] rfl)
          · obtain ⟨fz, gz, hNz, hvz, hkz⟩ := gQ
            have gQ : rwAt K XL21 r7 1007 60 (tkF sd).1 := ⟨fz, gz, hNz, hvz, hkz⟩
            refine lv_aload_n hx hb dMo_question_126 rfl (lv_at hl 1 rfl) ?_
            refine hw_get hx hb hts (hwInn inMo) hown hK hZ ff_6 rfl 11 (by decide) (hts (.fieldLink RMo 31 RMo "asked" "[J") (hwMem mm_383)) (fun _ h => h) rfl dMo_question_127 ?_
            refine lv_iconst (v := nI 0) hx hb dMo_question_130 (by decide) ?_
            refine hw_lald hx hb hK hZ 1 gz rfl (j := 0) (by omega) (by omega) dMo_question_131 ?_
            refine hw_topl (hvz 0 (by omega)) ?_
            have hQ0 := hQ2 0
            refine hw_calli (va_runS (As := [.long (lN (rW ((tkF sd).1.getD 0 [])))]) (rest := []) ⟨hx, hb, hml, hown, hts⟩ (m_length l D K XL21 Hh.size (w := ((tkF sd).1.getD 0 [])) hQ0) (va_cwS 1 hts (hwGood (hw_3 mm_364 mm_363 mm_365 (hwAll mm_362))) rfl rfl rfl (by decide +kernel) ⟨Nat.le_of_ble_eq_true rfl, Nat.le_of_ble_eq_true rfl⟩) (hw_preS hK hO hZ) rfl rfl hl.1 rfl (lv_room (Nat.le_of_ble_eq_true rfl)) dMo_question_132 ⟨(show 0 + 0 ≤ 0 by omega), (show 0 + 0 ≤ 0 by omega)⟩) hZ hA (fun r X_66 H_67 lc_68 hp hZ => ?_)
            obtain ⟨hr, hy, xx_69⟩ := hp
            subst hy
            refine hw_topi hr ?_
            refine lv_iconst (v := nI 2) hx hb dMo_question_135 (by decide) ?_
            refine hw_ic_le (a := ((tkF sd).1.getD 0 []).length) (b := 2) (tgt := 143) hx hb dMo_question_136 (by decide) (by omega) (by omega) (fun cq_70 => ?_) (fun cq_70 => ?_)
            · refine lv_iconst (v := nI 0) hx hb dMo_question_143 (by decide) ?_
              refine lv_istore (lv' := [(5, .int (nI 0)), (0, .ref a), (1, .int (nI 3)), (2, .int (nI j)), (3, .int (nI 0)), (4, .int (bI be))]) hx hb dMo_question_144 hl (by decide) rfl (fun ls hl => ?_)
              refine lv_iconst (v := nI 1) hx hb dMo_question_146 (by decide) ?_
              refine lv_istore (lv' := [(6, .int (nI 1)), (5, .int (nI 0)), (0, .ref a), (1, .int (nI 3)), (2, .int (nI j)), (3, .int (nI 0)), (4, .int (bI be))]) hx hb dMo_question_147 hl (by decide) rfl (fun ls hl => ?_)
              refine lv_iload hx hb dMo_question_149 (lv_at hl 0 rfl) ?_
              refine lv_aload_n hx hb dMo_question_151 rfl (lv_at hl 2 rfl) ?_
              refine hw_get hx hb hts (hwInn inMo) hown hK hZ ff_6 rfl 1 (by decide) (hts (.fieldLink RMo 62 RMo "records" "I") (hwMem mm_418)) (fun _ h => h) rfl dMo_question_152 ?_
              refine hw_ic_gt (a := 1) (b := its.length) (tgt := 280) hx hb dMo_question_155 (by decide) (by omega) (by omega) (fun cq_71 => ?_) (fun cq_71 => ?_)
              · refine lv_aload_n hx hb dMo_question_280 rfl (lv_at hl 2 rfl) ?_
                refine hw_get hx hb hts (hwInn inMo) hown hK hZ ff_6 rfl 17 (by decide) (hts (.fieldLink RMo 111 RMo "hits" "I") (hwMem mm_409)) (fun _ h => h) rfl dMo_question_281 ?_
                exact hret hZ (by rw [hsW_e (Or.inr ⟨cq_21, by omega⟩)]; exact ⟨rfl, hFr, ⟨_, _, _, _, _, _, _, _, _, _, _, _, _, _, _, _, _, _, _, _, _, _, _, _, _, _, _, _, _, _, _, _, _, ff_6, g1, g2, g3, g4, g5, g6, gQ, g8, g9, gA, g11, g12, g13, g14, g15, hft, hfg, hfp, hfl, (fun k hk => absurd hk (Nat.not_lt_zero _)), ivec.nil, ivec.nil, ivec.nil⟩⟩) dMo_question_284
              · refine lv_iload hx hb dMo_question_158 (lv_at hl 1 rfl) ?_
                refine hw_if_eq (a := 0) (tgt := 280) hx hb dMo_question_160 (by decide) (by omega) (fun cq_72 => ?_) (fun cq_72 => by exfalso; omega)
                refine lv_aload_n hx hb dMo_question_280 rfl (lv_at hl 2 rfl) ?_
                refine hw_get hx hb hts (hwInn inMo) hown hK hZ ff_6 rfl 17 (by decide) (hts (.fieldLink RMo 111 RMo "hits" "I") (hwMem mm_409)) (fun _ h => h) rfl dMo_question_281 ?_
                exact hret hZ (by rw [hsW_e (Or.inr ⟨cq_21, by omega⟩)]; exact ⟨rfl, hFr, ⟨_, _, _, _, _, _, _, _, _, _, _, _, _, _, _, _, _, _, _, _, _, _, _, _, _, _, _, _, _, _, _, _, _, ff_6, g1, g2, g3, g4, g5, g6, gQ, g8, g9, gA, g11, g12, g13, g14, g15, hft, hfg, hfp, hfl, (fun k hk => absurd hk (Nat.not_lt_zero _)), ivec.nil, ivec.nil, ivec.nil⟩⟩) dMo_question_284
            · refine lv_iconst (v := nI 1) hx hb dMo_question_139 (by decide) ?_
              refine lv_goto (tgt := 144) hx hb dMo_question_140 (by decide) ?_
              refine lv_istore (lv' := [(5, .int (nI 1)), (0, .ref a), (1, .int (nI 3)), (2, .int (nI j)), (3, .int (nI 0)), (4, .int (bI be))]) hx hb dMo_question_144 hl (by decide) rfl (fun ls hl => ?_)
              refine lv_iconst (v := nI 1) hx hb dMo_question_146 (by decide) ?_
              refine lv_istore (lv' := [(6, .int (nI 1)), (5, .int (nI 1)), (0, .ref a), (1, .int (nI 3)), (2, .int (nI j)), (3, .int (nI 0)), (4, .int (bI be))]) hx hb dMo_question_147 hl (by decide) rfl (fun ls hl => ?_)
              have loop149 : ∀ (fuel : Nat) (n : Nat) (hz9 : List (Nat × Nat × Nat)) (rw9 : List (List Nat)) (rt9 : List (List Nat)) (nw9 : Nat) (z1 : Nat → Int32) (z2 : Nat → Int32) (z3 : Nat → Int32) (XL149 : hwW) (Hh : Heap) (lcs : List Loc) (ls : Array Slot), its.length + 1 - n < fuel → (1 ≤ n) → (n ≤ its.length + 1) → (hz9 = gaN (fun tb => decide (0 < tb.countP (fun v => decide (v ≠ []) && (bif be then endL v ((tkF sd).1.getD 0 []) else begL v ((tkF sd).1.getD 0 []))))) (fun tb => tb.countP (fun v => decide (v ≠ []) && (bif be then endL v ((tkF sd).1.getD 0 []) else begL v ((tkF sd).1.getD 0 [])))) (Tf its lg st j) (n - 1)) → (ivec z1 (fun h => h.1) hz9) → (ivec z2 (fun h => h.2.1) hz9) → (ivec z3 (fun h => h.2.2) hz9) → (hwF X XL149 (fun M => 1000 ≤ M ∧ M < 1100)) → (hwH XL149 a 1000 (.inr (10, [.int (nI tz), .int (nI its.length), .ref r1, .int (nI sg.length), .ref r2, .ref r3, .ref r4, .ref r5, .int (nI st.length), .ref r6, .int (nI 0), .ref r7, .int (nI ((tkF sd).1.length)), .ref r8, .ref r9, .ref r10, .int (nI nw9), .int (nI hz9.length), .ref r11, .ref r12, .ref r13, .ref r14, .int (nI nt), .ref r15]))) → (hwH XL149 r1 1001 (.inl (K 2, 31, .inl ft))) → (hwH XL149 r2 1002 (.inl (K 3, 1500, .inl fg))) → (hwH XL149 r3 1003 (.inl (K 0, 1500, .inl fp))) → (hwH XL149 r4 1004 (.inl (K 0, 4, .inl fl))) → (rwAt K XL149 r5 1005 40 st) → (hwH XL149 r6 1006 (.inl (K 3, 100, .inl fd))) → (rwAt K XL149 r7 1007 60 ((tkF sd).1)) → (rwAt K XL149 r8 1008 800 rw9) → (rwAt K XL149 r9 1009 800 rt9) → (rwAt K XL149 r10 1010 60 ((tkF sd).1.map (trm (lg j) st))) → (hwH XL149 r11 1011 (.inl (K 0, 30, .inl z1))) → (hwH XL149 r12 1012 (.inl (K 0, 30, .inl z2))) → (hwH XL149 r13 1013 (.inl (K 0, 30, .inl z3))) → (rwAt K XL149 r14 1014 800 tm) → (hwH XL149 r15 1015 (.inl (K 0, 169, .inl y))) → hwZ D vwCl A s.heap XL149 Hh lcs → lv_has ls 8 [(6, .int (nI n)), (5, .int (nI 1)), (0, .ref a), (1, .int (nI 3)), (2, .int (nI j)), (3, .int (nI 0)), (4, .int (bI be))] → W p l e ({ frames := 3, cells := 0, slots := 0, locals := 73 } : Room) s m args below meth c Hh lcs 0 0 Q (F0 m 149 ls []) := by
                intro fuel; induction fuel with
                | zero => intro n hz9 rw9 rt9 nw9 z1 z2 z3 XL149 Hh lcs ls hfu; exact absurd hfu (Nat.not_lt_zero _)
                | succ fuel ih149 =>
                  intro n hz9 rw9 rt9 nw9 z1 z2 z3 XL149 Hh lcs ls hfu149 hn1 hn2 hhz hw1 hw2 hw3 hFr gx g1 g2 g3 g4 g5 g6 g7 g8 g9 g10 g11 g12 g13 g14 g15 hZ hl
                  have hz30 : hz9.length ≤ n - 1 := hhz ▸ gaN_len (n - 1)
                  have hBz : okH hz9 := hhz ▸ okH_gaN (fun n t ht => Tf_len htx hsl hj ht) (fun t => List.countP_le_length) (n - 1) (by omega)
                  refine lv_iload hx hb dMo_question_149 (lv_at hl 0 rfl) ?_
                  refine lv_aload_n hx hb dMo_question_151 rfl (lv_at hl 2 rfl) ?_
                  refine hw_get hx hb hts (hwInn inMo) hown hK hZ gx rfl 1 (by decide) (hts (.fieldLink RMo 62 RMo "records" "I") (hwMem mm_418)) (fun _ h => h) rfl dMo_question_152 ?_
                  refine hw_ic_gt (a := n) (b := its.length) (tgt := 280) hx hb dMo_question_155 (by decide) (by omega) (by omega) (fun cq_73 => ?_) (fun cq_73 => ?_)
                  · refine lv_aload_n hx hb dMo_question_280 rfl (lv_at hl 2 rfl) ?_
                    refine hw_get hx hb hts (hwInn inMo) hown hK hZ gx rfl 17 (by decide) (hts (.fieldLink RMo 111 RMo "hits" "I") (hwMem mm_409)) (fun _ h => h) rfl dMo_question_281 ?_
                    exact hret hZ (by rw [hsW_g (qne_of hqne (by omega)) (fun _ => by omega), ← (show n - 1 = its.length by omega), ← hhz]; exact ⟨rfl, hFr, ⟨_, _, _, _, _, _, _, _, _, _, _, _, _, _, _, _, _, _, _, _, _, _, _, _, _, _, _, _, _, _, _, _, _, gx, g1, g2, g3, g4, g5, g6, g7, g8, g9, g10, g11, g12, g13, g14, g15, hft, hfg, hfp, hfl, (fun k hk => absurd hk (Nat.not_lt_zero _)), hw1, hw2, hw3⟩⟩) dMo_question_284
                  · refine lv_iload hx hb dMo_question_158 (lv_at hl 1 rfl) ?_
                    refine hw_if_eq (a := 1) (tgt := 280) hx hb dMo_question_160 (by decide) (by omega) (fun cq_74 => by exfalso; omega) (fun cq_74 => ?_)
                    refine lv_aload_n hx hb dMo_question_163 rfl (lv_at hl 2 rfl) ?_
                    refine hw_get hx hb hts (hwInn inMo) hown hK hZ gx rfl 2 (by decide) (hts (.fieldLink RMo 7 RMo "there" "[Z") (hwMem mm_419)) (fun _ h => h) rfl dMo_question_164 ?_
                    refine lv_iload hx hb dMo_question_167 (lv_at hl 0 rfl) ?_
                    refine hw_zald hx hb hK hZ 2 g1 rfl (j := n) (by omega) (by omega) dMo_question_169 ?_
                    have hft9 := hft (n - 1) (by omega)
                    rw [show n - 1 + 1 = n by omega] at hft9
                    refine hw_topi hft9 ?_
                    refine hw_bz_eq (tgt := 274) hx hb dMo_question_170 (by decide) (fun cq_75 => ?_) (fun cq_75 => ?_)
                    · refine lv_iinc (v := nI (n + 1)) (lv' := [(6, .int (nI (n + 1))), (5, .int (nI 1)), (0, .ref a), (1, .int (nI 3)), (2, .int (nI j)), (3, .int (nI 0)), (4, .int (bI be))]) hx hb dMo_question_274 hl (k := 0) rfl (nI_add _ 1) (by decide) rfl (fun ls hl => ?_)
                      refine lv_goto (tgt := 149) hx hb dMo_question_277 (by decide) ?_
                      exact ih149 (n + 1) hz9 rw9 rt9 nw9 z1 z2 z3 _ _ _ _ (by omega) (by omega) (by omega) (gaN_none (by omega) hhz (Tf_f cq_75)) hw1 hw2 hw3 hFr gx g1 g2 g3 g4 g5 g6 g7 g8 g9 g10 g11 g12 g13 g14 g15 hZ (lv_sub hl [0, 1, 2, 3, 4, 5, 6] rfl)
                    · refine lv_aload_n hx hb dMo_question_173 rfl (lv_at hl 2 rfl) ?_
                      refine lv_iload hx hb dMo_question_174 (lv_at hl 0 rfl) ?_
                      refine lv_iload_n hx hb dMo_question_176 rfl (lv_at hl 4 rfl) ?_
                      refine hw_callv (va_runV (As := [.int (nI n), .int (nI j)]) (rest := []) ⟨hx, hb, hml, hown, hts⟩ (m_gather l D K XL149 Hh.size (a := a) (r1 := r1) (r2 := r2) (r3 := r3) (r4 := r4) (r5 := r5) (r6 := r6) (r7 := r7) (r8 := r8) (r9 := r9) (r10 := r10) (r11 := r11) (r12 := r12) (r13 := r13) (r14 := r14) (r15 := r15) (tz := tz) (nr := its.length) (ng := sg.length) (ns := st.length) (nz := 0) (na := (tkF sd).1.length) (nw := nw9) (nh := hz9.length) (nt := nt) (fg := fg) (fp := fp) (fl := fl) (st := st) (rw0 := rw9) (rt0 := rt9) (sg := sg) (n := n) (j := j) (g := (lg j)) gx g2 g3 g4 g5 g8 g9 (by omega) (by omega) (by omega) (by assumption) (by assumption) (by assumption) (by omega) (by omega) (hfl j hj) (hlg j)) (cwV 2 hts (hwGood (hw_4 mm_421 mm_422 mm_423 mm_365 (hwAll mm_420))) rfl rfl rfl (by decide +kernel) ⟨Nat.le_of_ble_eq_true rfl, Nat.le_of_ble_eq_true rfl⟩) (hw_preV hK hO hZ (⟨_, _, gx⟩) rfl) rfl rfl hl.1 rfl (lv_room (Nat.le_of_ble_eq_true rfl)) dMo_question_177 ⟨(show 0 + 0 ≤ 0 by omega), (show 0 + 0 ≤ 0 by omega)⟩) hZ hA (fun X_76 H_77 lc_78 hp hZ => ?_)
                      obtain ⟨hF, hN_79, hN_80, hN_81⟩ := hp
                      have hFr := hwF.tr hFr hF (fun _ h => h) (fun M h => by first | exact False.elim h | ((try dsimp only at h ⊢); omega))
                      have g1 := hF _ _ _ (by intro hNS; first | exact False.elim hNS | ((try dsimp only at hNS); omega)) g1
                      have g2 := hF _ _ _ (by intro hNS; first | exact False.elim hNS | ((try dsimp only at hNS); omega)) g2
                      have g3 := hF _ _ _ (by intro hNS; first | exact False.elim hNS | ((try dsimp only at hNS); omega)) g3
                      have g4 := hF _ _ _ (by intro hNS; first | exact False.elim hNS | ((try dsimp only at hNS); omega)) g4
                      have g5 := rwAt.fr hF (by intro hNS; first | exact False.elim hNS | ((try dsimp only at hNS); omega)) g5
                      have g6 := hF _ _ _ (by intro hNS; first | exact False.elim hNS | ((try dsimp only at hNS); omega)) g6
                      have g7 := rwAt.fr hF (by intro hNS; first | exact False.elim hNS | ((try dsimp only at hNS); omega)) g7
                      have g10 := rwAt.fr hF (by intro hNS; first | exact False.elim hNS | ((try dsimp only at hNS); omega)) g10
                      have g11 := hF _ _ _ (by intro hNS; first | exact False.elim hNS | ((try dsimp only at hNS); omega)) g11
                      have g12 := hF _ _ _ (by intro hNS; first | exact False.elim hNS | ((try dsimp only at hNS); omega)) g12
                      have g13 := hF _ _ _ (by intro hNS; first | exact False.elim hNS | ((try dsimp only at hNS); omega)) g13
                      have g14 := rwAt.fr hF (by intro hNS; first | exact False.elim hNS | ((try dsimp only at hNS); omega)) g14
                      have g15 := hF _ _ _ (by intro hNS; first | exact False.elim hNS | ((try dsimp only at hNS); omega)) g15
                      have ff_82 := hN_79
                      have ff_83 := hN_80
                      have ff_84 := hN_81
                      have htx9 := htx (n - 1) (by omega) j hj
                      rw [show n - 1 + 1 = n by omega] at htx9
                      rw [← htx9] at ff_82 ff_83 ff_84
                      have hwn : ((its.getD (n - 1) hwIt0).2 j).1.length ≤ 600 := by rw [htx9]; exact Nat.le_trans (tkF_len _) (Nat.le_trans (ltL_len _ _) hsl)
                      have hmp : (((its.getD (n - 1) hwIt0).2 j).1.map (trm (lg j) st)).length = ((its.getD (n - 1) hwIt0).2 j).1.length := List.length_map _
                      refine lv_iload_n hx hb dMo_question_180 rfl (lv_at hl 3 rfl) ?_
                      refine hw_if_ne (a := 3) (tgt := 191) hx hb dMo_question_181 (by decide) (by omega) (fun cq_85 => ?_) (fun cq_85 => by exfalso; omega)
                      refine lv_iload_n hx hb dMo_question_191 rfl (lv_at hl 3 rfl) ?_
                      refine lv_iconst (v := nI 1) hx hb dMo_question_192 (by decide) ?_
                      refine hw_ic_ne (a := 3) (b := 1) (tgt := 203) hx hb dMo_question_193 (by decide) (by omega) (by omega) (fun cq_86 => ?_) (fun cq_86 => by exfalso; omega)
                      refine lv_iload_n hx hb dMo_question_203 rfl (lv_at hl 3 rfl) ?_
                      refine lv_iconst (v := nI 2) hx hb dMo_question_204 (by decide) ?_
                      refine hw_ic_ne (a := 3) (b := 2) (tgt := 216) hx hb dMo_question_205 (by decide) (by omega) (by omega) (fun cq_87 => ?_) (fun cq_87 => by exfalso; omega)
                      refine lv_aload_n hx hb dMo_question_216 rfl (lv_at hl 2 rfl) ?_
                      refine lv_iload hx hb dMo_question_217 (lv_at hl 6 rfl) ?_
                      refine hw_calli (va_runV (As := [.int (bI be)]) (rest := []) ⟨hx, hb, hml, hown, hts⟩ (m_wildC l D K X_76 H_77.size (a := a) (r1 := r1) (r2 := r2) (r3 := r3) (r4 := r4) (r5 := r5) (r6 := r6) (r7 := r7) (r8 := r8) (r9 := r9) (r10 := r10) (r11 := r11) (r12 := r12) (r13 := r13) (r14 := r14) (r15 := r15) (tz := tz) (nr := its.length) (ng := sg.length) (ns := st.length) (nz := 0) (na := (tkF sd).1.length) (nw := ((its.getD (n - 1) hwIt0).2 j).1.length) (nh := hz9.length) (nt := nt) (qa := (tkF sd).1) (rt := ((its.getD (n - 1) hwIt0).2 j).1.map (trm (lg j) st)) (u := ((tkF sd).1.getD 0 [])) (be := be) ff_82 g7 ff_84 (by omega) (by omega) rfl (ne_getD hqne (by omega))) (cwV 1 hts (hwGood (hw_4 mm_468 mm_469 mm_470 mm_365 (hwAll mm_467))) rfl rfl rfl (by decide +kernel) ⟨Nat.le_of_ble_eq_true rfl, Nat.le_of_ble_eq_true rfl⟩) (hw_preV hK hO hZ (⟨_, _, ff_82⟩) rfl) rfl rfl hl.1 rfl (lv_room (Nat.le_of_ble_eq_true rfl)) dMo_question_219 ⟨(show 0 + 0 ≤ 0 by omega), (show 0 + 0 ≤ 0 by omega)⟩) hZ hA (fun r X_88 H_89 lc_90 hp hZ => ?_)
                      obtain ⟨hr, hy, xx_91⟩ := hp
                      subst hy
                      refine hw_topi hr ?_
                      refine hw_if_le (a := (((its.getD (n - 1) hwIt0).2 j).1.map (trm (lg j) st)).countP (fun v => decide (v ≠ []) && (bif be then endL v ((tkF sd).1.getD 0 []) else begL v ((tkF sd).1.getD 0 [])))) (tgt := 229) hx hb dMo_question_222 (by decide) (by omega) (fun cq_92 => ?_) (fun cq_92 => ?_)
                      · refine lv_iconst (v := nI 0) hx hb dMo_question_229 (by decide) ?_
                        refine lv_istore (lv' := [(7, .int (nI 0)), (6, .int (nI n)), (5, .int (nI 1)), (0, .ref a), (1, .int (nI 3)), (2, .int (nI j)), (3, .int (nI 0)), (4, .int (bI be))]) hx hb dMo_question_230 hl (by decide) rfl (fun ls hl => ?_)
                        refine lv_iload hx hb dMo_question_232 (lv_at hl 0 rfl) ?_
                        refine hw_if_eq (a := 0) (tgt := 274) hx hb dMo_question_234 (by decide) (by omega) (fun cq_93 => ?_) (fun cq_93 => by exfalso; omega)
                        refine lv_iinc (v := nI (n + 1)) (lv' := [(6, .int (nI (n + 1))), (7, .int (nI 0)), (5, .int (nI 1)), (0, .ref a), (1, .int (nI 3)), (2, .int (nI j)), (3, .int (nI 0)), (4, .int (bI be))]) hx hb dMo_question_274 hl (k := 1) rfl (nI_add _ 1) (by decide) rfl (fun ls hl => ?_)
                        refine lv_goto (tgt := 149) hx hb dMo_question_277 (by decide) ?_
                        exact ih149 (n + 1) hz9 (((its.getD (n - 1) hwIt0).2 j).1) (((its.getD (n - 1) hwIt0).2 j).1.map (trm (lg j) st)) (((its.getD (n - 1) hwIt0).2 j).1.length) z1 z2 z3 _ _ _ _ (by omega) (by omega) (by omega) (gaN_no (by omega) hhz (Tf_t cq_75) (decide_eq_false (Nat.not_lt.mpr cq_92))) hw1 hw2 hw3 hFr ff_82 g1 g2 g3 g4 g5 g6 g7 ff_83 ff_84 g10 g11 g12 g13 g14 g15 hZ (lv_sub hl [0, 2, 3, 4, 5, 6, 7] rfl)
                      · refine lv_iconst (v := nI 1) hx hb dMo_question_225 (by decide) ?_
                        refine lv_goto (tgt := 230) hx hb dMo_question_226 (by decide) ?_
                        refine lv_istore (lv' := [(7, .int (nI 1)), (6, .int (nI n)), (5, .int (nI 1)), (0, .ref a), (1, .int (nI 3)), (2, .int (nI j)), (3, .int (nI 0)), (4, .int (bI be))]) hx hb dMo_question_230 hl (by decide) rfl (fun ls hl => ?_)
                        refine lv_iload hx hb dMo_question_232 (lv_at hl 0 rfl) ?_
                        refine hw_if_eq (a := 1) (tgt := 274) hx hb dMo_question_234 (by decide) (by omega) (fun cq_94 => by exfalso; omega) (fun cq_94 => ?_)
                        refine lv_aload_n hx hb dMo_question_237 rfl (lv_at hl 3 rfl) ?_
                        refine lv_iload hx hb dMo_question_238 (lv_at hl 1 rfl) ?_
                        refine lv_iload_n hx hb dMo_question_240 rfl (lv_at hl 4 rfl) ?_
                        refine lv_iconst (v := nI 3) hx hb dMo_question_241 (by decide) ?_
                        refine hw_ic_ne (a := 3) (b := 3) (tgt := 254) hx hb dMo_question_242 (by decide) (by omega) (by omega) (fun cq_95 => by exfalso; omega) (fun cq_95 => ?_)
                        refine lv_aload_n hx hb dMo_question_245 rfl (lv_at hl 3 rfl) ?_
                        refine lv_iload hx hb dMo_question_246 (lv_at hl 7 rfl) ?_
                        refine hw_calli (va_runV (As := [.int (bI be)]) (rest := [.int (nI n), .ref a]) ⟨hx, hb, hml, hown, hts⟩ (m_wildC l D K X_76 H_89.size (a := a) (r1 := r1) (r2 := r2) (r3 := r3) (r4 := r4) (r5 := r5) (r6 := r6) (r7 := r7) (r8 := r8) (r9 := r9) (r10 := r10) (r11 := r11) (r12 := r12) (r13 := r13) (r14 := r14) (r15 := r15) (tz := tz) (nr := its.length) (ng := sg.length) (ns := st.length) (nz := 0) (na := (tkF sd).1.length) (nw := ((its.getD (n - 1) hwIt0).2 j).1.length) (nh := hz9.length) (nt := nt) (qa := (tkF sd).1) (rt := ((its.getD (n - 1) hwIt0).2 j).1.map (trm (lg j) st)) (u := ((tkF sd).1.getD 0 [])) (be := be) ff_82 g7 ff_84 (by omega) (by omega) rfl (ne_getD hqne (by omega))) (cwV 1 hts (hwGood (hw_4 mm_468 mm_469 mm_470 mm_365 (hwAll mm_467))) rfl rfl rfl (by decide +kernel) ⟨Nat.le_of_ble_eq_true rfl, Nat.le_of_ble_eq_true rfl⟩) (hw_preV hK hO hZ (⟨_, _, ff_82⟩) rfl) rfl rfl hl.1 rfl (lv_room (Nat.le_of_ble_eq_true rfl)) dMo_question_248 ⟨(show 0 + 0 ≤ 0 by omega), (show 0 + 0 ≤ 0 by omega)⟩) hZ hA (fun r X_96 H_97 lc_98 hp hZ => ?_)
                        obtain ⟨hr, hy, xx_99⟩ := hp
                        subst hy
                        refine hw_topi hr ?_
                        refine lv_goto (tgt := 271) hx hb dMo_question_251 (by decide) ?_
                        have hcl : (((its.getD (n - 1) hwIt0).2 j).1.map (trm (lg j) st)).countP (fun v => decide (v ≠ []) && (bif be then endL v ((tkF sd).1.getD 0 []) else begL v ((tkF sd).1.getD 0 []))) ≤ (((its.getD (n - 1) hwIt0).2 j).1.map (trm (lg j) st)).length := List.countP_le_length
                        refine hw_callv (va_runV (As := [.int (nI n), .int (nI ((((its.getD (n - 1) hwIt0).2 j).1.map (trm (lg j) st)).countP (fun v => decide (v ≠ []) && (bif be then endL v ((tkF sd).1.getD 0 []) else begL v ((tkF sd).1.getD 0 [])))))]) (rest := []) ⟨hx, hb, hml, hown, hts⟩ (m_found l D K X_76 H_97.size (a := a) (r1 := r1) (r2 := r2) (r3 := r3) (r4 := r4) (r5 := r5) (r6 := r6) (r7 := r7) (r8 := r8) (r9 := r9) (r10 := r10) (r11 := r11) (r12 := r12) (r13 := r13) (r14 := r14) (r15 := r15) (tz := tz) (nr := its.length) (ng := sg.length) (ns := st.length) (nz := 0) (na := (tkF sd).1.length) (nw := ((its.getD (n - 1) hwIt0).2 j).1.length) (nh := hz9.length) (nt := nt) (f1 := z1) (f2 := z2) (f3 := z3) (hs := hz9) (x0 := n) (c0 := (((its.getD (n - 1) hwIt0).2 j).1.map (trm (lg j) st)).countP (fun v => decide (v ≠ []) && (bif be then endL v ((tkF sd).1.getD 0 []) else begL v ((tkF sd).1.getD 0 [])))) ff_82 g11 g12 g13 (by omega) (by omega) hw1 hw2 hw3 hBz (by omega) (by omega)) (cwV 2 hts (hwGood (hw_4 mm_456 mm_457 mm_458 mm_365 (hwAll mm_455))) rfl rfl rfl (by decide +kernel) ⟨Nat.le_of_ble_eq_true rfl, Nat.le_of_ble_eq_true rfl⟩) (hw_preV hK hO hZ (⟨_, _, ff_82⟩) rfl) rfl rfl hl.1 rfl (lv_room (Nat.le_of_ble_eq_true rfl)) dMo_question_271 ⟨(show 0 + 0 ≤ 0 by omega), (show 0 + 0 ≤ 0 by omega)⟩) hZ hA (fun X_100 H_101 lc_102 hp hZ => ?_)
                        obtain ⟨e1_103, e2_104, e3_105, hF, hN_106, hN_107, hN_108, hN_109, xx_110, xx_111, xx_112⟩ := hp
                        have hFr := hwF.tr hFr hF (fun _ h => h) (fun M h => by first | exact False.elim h | ((try dsimp only at h ⊢); omega))
                        have g1 := hF _ _ _ (by intro hNS; first | exact False.elim hNS | ((try dsimp only at hNS); omega)) g1
                        have g2 := hF _ _ _ (by intro hNS; first | exact False.elim hNS | ((try dsimp only at hNS); omega)) g2
                        have g3 := hF _ _ _ (by intro hNS; first | exact False.elim hNS | ((try dsimp only at hNS); omega)) g3
                        have g4 := hF _ _ _ (by intro hNS; first | exact False.elim hNS | ((try dsimp only at hNS); omega)) g4
                        have g5 := rwAt.fr hF (by intro hNS; first | exact False.elim hNS | ((try dsimp only at hNS); omega)) g5
                        have g6 := hF _ _ _ (by intro hNS; first | exact False.elim hNS | ((try dsimp only at hNS); omega)) g6
                        have g7 := rwAt.fr hF (by intro hNS; first | exact False.elim hNS | ((try dsimp only at hNS); omega)) g7
                        have g10 := rwAt.fr hF (by intro hNS; first | exact False.elim hNS | ((try dsimp only at hNS); omega)) g10
                        have g14 := rwAt.fr hF (by intro hNS; first | exact False.elim hNS | ((try dsimp only at hNS); omega)) g14
                        have g15 := hF _ _ _ (by intro hNS; first | exact False.elim hNS | ((try dsimp only at hNS); omega)) g15
                        have ff_83 := rwAt.fr hF (by intro hNS; first | exact False.elim hNS | ((try dsimp only at hNS); omega)) ff_83
                        have ff_84 := rwAt.fr hF (by intro hNS; first | exact False.elim hNS | ((try dsimp only at hNS); omega)) ff_84
                        have ff_113 := hN_106
                        have ff_114 := hN_107
                        have ff_115 := hN_108
                        have ff_116 := hN_109
                        refine lv_iinc (v := nI (n + 1)) (lv' := [(6, .int (nI (n + 1))), (7, .int (nI 1)), (5, .int (nI 1)), (0, .ref a), (1, .int (nI 3)), (2, .int (nI j)), (3, .int (nI 0)), (4, .int (bI be))]) hx hb dMo_question_274 hl (k := 1) rfl (nI_add _ 1) (by decide) rfl (fun ls hl => ?_)
                        refine lv_goto (tgt := 149) hx hb dMo_question_277 (by decide) ?_
                        exact ih149 (n + 1) (insH (n, (((its.getD (n - 1) hwIt0).2 j).1.map (trm (lg j) st)).countP (fun v => decide (v ≠ []) && (bif be then endL v ((tkF sd).1.getD 0 []) else begL v ((tkF sd).1.getD 0 []))), ((its.getD (n - 1) hwIt0).2 j).1.length) hz9) (((its.getD (n - 1) hwIt0).2 j).1) (((its.getD (n - 1) hwIt0).2 j).1.map (trm (lg j) st)) (((its.getD (n - 1) hwIt0).2 j).1.length) e1_103 e2_104 e3_105 _ _ _ _ (by omega) (by omega) (by omega) (by have hy9 := gaN_yes (by omega) hhz (Tf_t cq_75) (decide_eq_true cq_92); rw [hmp] at hy9; rw [ins_adH (by omega)]; exact hy9) xx_110 xx_111 xx_112 hFr ff_113 g1 g2 g3 g4 g5 g6 g7 ff_83 ff_84 g10 ff_114 ff_115 ff_116 g14 g15 hZ (lv_sub hl [0, 2, 3, 4, 5, 6, 7] rfl)
              exact loop149 (its.length + 1 - 1 + 1) 1 ([]) rw rt nw f1 f2 f3 _ _ _ _ (by omega) (by omega) (by omega) rfl ivec.nil ivec.nil ivec.nil hFr ff_6 g1 g2 g3 g4 g5 g6 gQ g8 g9 gA g11 g12 g13 g14 g15 hZ (lv_sub hl [0, 1, 2, 3, 4, 5, 6] rfl)
      · refine lv_aload_n hx hb dMo_question_30 rfl (lv_at hl 1 rfl) ?_
        refine hw_get hx hb hts (hwInn inMo) hown hK hZ ff_6 rfl 15 (by decide) (hts (.fieldLink RMo 40 RMo "askedTerm" "[J") (hwMem mm_397)) (fun _ h => h) rfl dMo_question_31 ?_
        refine lv_iload hx hb dMo_question_34 (lv_at hl 0 rfl) ?_
        refine lv_aload_n hx hb dMo_question_36 rfl (lv_at hl 1 rfl) ?_
        refine lv_aload_n hx hb dMo_question_37 rfl (lv_at hl 1 rfl) ?_
        refine hw_get hx hb hts (hwInn inMo) hown hK hZ ff_6 rfl 11 (by decide) (hts (.fieldLink RMo 31 RMo "asked" "[J") (hwMem mm_383)) (fun _ h => h) rfl dMo_question_38 ?_
        refine lv_iload hx hb dMo_question_41 (lv_at hl 0 rfl) ?_
        refine hw_lald hx hb hK hZ 1 g7 rfl (j := k) (by omega) (by omega) dMo_question_43 ?_
        refine hw_topl (hv7 k (by omega)) ?_
        refine lv_iload_n hx hb dMo_question_44 rfl (lv_at hl 3 rfl) ?_
        refine hw_calll (va_runV (As := [.long (lN (rW ((tkF sd).1.getD k []))), .int (nI j)]) (rest := [.int (nI k), .ref r10]) ⟨hx, hb, hml, hown, hts⟩ (m_stem l D K XL21 Hh.size (a := a) (r1 := r1) (r2 := r2) (r3 := r3) (r4 := r4) (r5 := r5) (r6 := r6) (r7 := r7) (r8 := r8) (r9 := r9) (r10 := r10) (r11 := r11) (r12 := r12) (r13 := r13) (r14 := r14) (r15 := r15) (tz := tz) (nr := its.length) (ng := sg.length) (ns := st.length) (nz := 0) (na := (tkF sd).1.length) (nw := nw) (nh := 0) (nt := nt) (st := st) (fl := fl) (w := ((tkF sd).1.getD k [])) (j := j) (g := (lg j)) ff_6 g5 g4 (by omega) (hQ2 k) (ne_getD hqne (by omega)) (by omega) (hfl j hj) (hlg j)) (cwV 2 hts (hwGood (hw_4 mm_392 mm_393 mm_394 mm_365 (hwAll mm_391))) rfl rfl rfl (by decide +kernel) ⟨Nat.le_of_ble_eq_true rfl, Nat.le_of_ble_eq_true rfl⟩) (hw_preV hK hO hZ (⟨_, _, ff_6⟩) rfl) rfl rfl hl.1 rfl (lv_room (Nat.le_of_ble_eq_true rfl)) dMo_question_45 ⟨(show 0 + 0 ≤ 0 by omega), (show 0 + 0 ≤ 0 by omega)⟩) hZ hA (fun r X_117 H_118 lc_119 hp hZ => ?_)
        obtain ⟨hr, hy⟩ := hp
        subst hy
        refine hw_topl hr ?_
        refine hw_last hx hb hK hZ 1 g10 rfl (j := k) (by omega) (by omega) dMo_question_48 (fun X_120 H_121 lc_122 hZ hF hNw => ?_)
        have hFr := hwF.tr hFr hF (fun _ h => h) (fun M h => by first | exact False.elim h | ((try dsimp only at h ⊢); omega))
        have g1 := hF _ _ _ (by intro hNS; first | exact False.elim hNS | ((try dsimp only at hNS); omega)) g1
        have g2 := hF _ _ _ (by intro hNS; first | exact False.elim hNS | ((try dsimp only at hNS); omega)) g2
        have g3 := hF _ _ _ (by intro hNS; first | exact False.elim hNS | ((try dsimp only at hNS); omega)) g3
        have g4 := hF _ _ _ (by intro hNS; first | exact False.elim hNS | ((try dsimp only at hNS); omega)) g4
        have g5 := rwAt.fr hF (by intro hNS; first | exact False.elim hNS | ((try dsimp only at hNS); omega)) g5
        have g6 := hF _ _ _ (by intro hNS; first | exact False.elim hNS | ((try dsimp only at hNS); omega)) g6
        have g8 := rwAt.fr hF (by intro hNS; first | exact False.elim hNS | ((try dsimp only at hNS); omega)) g8
        have g9 := rwAt.fr hF (by intro hNS; first | exact False.elim hNS | ((try dsimp only at hNS); omega)) g9
        have g11 := hF _ _ _ (by intro hNS; first | exact False.elim hNS | ((try dsimp only at hNS); omega)) g11
        have g12 := hF _ _ _ (by intro hNS; first | exact False.elim hNS | ((try dsimp only at hNS); omega)) g12
        have g13 := hF _ _ _ (by intro hNS; first | exact False.elim hNS | ((try dsimp only at hNS); omega)) g13
        have g14 := rwAt.fr hF (by intro hNS; first | exact False.elim hNS | ((try dsimp only at hNS); omega)) g14
        have g15 := hF _ _ _ (by intro hNS; first | exact False.elim hNS | ((try dsimp only at hNS); omega)) g15
        have ff_6 := hF _ _ _ (by intro hNS; first | exact False.elim hNS | ((try dsimp only at hNS); omega)) ff_6
        have g7 := hF _ _ _ (by intro hNS; first | exact False.elim hNS | ((try dsimp only at hNS); omega)) g7
        have g10 := hNw
        refine lv_iinc (v := nI (k + 1)) (lv' := [(5, .int (nI (k + 1))), (0, .ref a), (1, .int (nI 3)), (2, .int (nI j)), (3, .int (nI 0)), (4, .int (bI be))]) hx hb dMo_question_49 hl (k := 0) rfl (nI_add _ 1) (by decide) rfl (fun ls hl => ?_)
        refine lv_goto (tgt := 21) hx hb dMo_question_52 (by decide) ?_
        exact ih21 (k + 1) (vp_updL z10 k (lN (rW (trm (lg j) st ((tkF sd).1.getD k []))))) _ _ _ _ (by omega) (by omega) (fun p hp => (Nat.lt_or_eq_of_le (Nat.le_of_lt_succ hp)).elim (fun z => by rw [pk_uLn (by omega)]; exact hz p z) (fun z => by subst z; rw [pk_uLs])) hFr g1 g2 g3 g4 g5 g6 g8 g9 g11 g12 g13 g14 g15 ff_6 g7 g10 hZ (lv_sub hl [0, 1, 2, 3, 4, 5] rfl)
  exact loop21 ((tkF sd).1.length - 0 + 1) 0 f10 _ _ _ _ (by omega) (by omega) (fun p hp => absurd hp (Nat.not_lt_zero _)) hFr g1 g2 g3 g4 g5 g6 g8 g9 g11 g12 g13 g14 g15 ff_6 g7 g10 hZ (lv_sub hl [0, 1, 2, 3, 4, 5] rfl)
set_option maxHeartbeats 4000000 in
set_option maxRecDepth 100000 in
theorem m_qB (l : Launch) (D : va_G) (K : Nat → ClassId) (X : hwW) (sz : Nat) (a : Nat) (its : hwIt) (sg : List (Nat × Nat)) (lg : Nat → Nat) (st : List (List Nat)) (sd : List Nat) (hs : List (Nat × Nat × Nat)) (s_ : Int32) (kind : Int32) (d_ : Int32) (e_ : Int32) (f0_ : moAt K X a its sg lg st sd hs) (okm : okM its sg lg st sd hs) (hk : badK kind) : Met l yMo_question (.code yMo_question cMo_question 8 (some .int) :: hwG) ({ frames := 3, cells := 0, slots := 0, locals := 73 } : Room) (hwPc D vwCl (hwT K) [.ref a, .int s_, .int kind, .int d_, .int e_] X sz) (hwQi D vwCl X sz (fun r Y => r = nI 0 ∧ hwF X Y (fun M => 1000 ≤ M ∧ M < 1100) ∧ moAt K Y a its sg lg st [] [])) 0 0 (va_A X.1 sz) := by
  refine hwMeti (cc := cMo_question) (maxL := 8) (by decide) rfl (Nat.le_of_ble_eq_true rfl) (fun p e s m args below meth c ls A Q hx hb hml hown hts hname hret hK hO hZ hA hl => ?_)
  have hl : lv_has ls 8 [(0, .ref a), (1, .int s_), (2, .int kind), (3, .int d_), (4, .int e_)] := hl
  have hFr : hwF X X (fun M => 1000 ≤ M ∧ M < 1100) := hwF.rf
  obtain ⟨hni3, hsl, hsb, hlg, hsd, hh30, hB, htx⟩ := okm
  obtain ⟨r1, r2, r3, r4, r5, r6, r7, r8, r9, r10, r11, r12, r13, r14, r15, tz, na, nw, nt, ft, fg, fp, fl, fd, f1, f2, f3, qa, rw, rt, at_, tm, y, gx, g1, g2, g3, g4, g5, g6, g7, g8, g9, g10, g11, g12, g13, g14, g15, hft, hfg, hfp, hfl, hfd, hv1, hv2, hv3⟩ := f0_
  have hst40 := rwAt.len g5
  refine lv_aload_n hx hb dMo_question_0 rfl (lv_at hl 0 rfl) ?_
  refine hw_callv (va_runV (As := []) (rest := []) ⟨hx, hb, hml, hown, hts⟩ (m_take l D K X s.heap.size (a := a) (r1 := r1) (r2 := r2) (r3 := r3) (r4 := r4) (r5 := r5) (r6 := r6) (r7 := r7) (r8 := r8) (r9 := r9) (r10 := r10) (r11 := r11) (r12 := r12) (r13 := r13) (r14 := r14) (r15 := r15) (tz := tz) (nr := its.length) (ng := sg.length) (ns := st.length) (nz := sd.length) (na := na) (nw := nw) (nh := hs.length) (nt := nt) (fd := fd) (qa := qa) (sd := sd) gx g6 g7 (by omega) (by omega) (by assumption)) (cwV 0 hts (hwGood (hw_4 mm_437 mm_438 mm_439 mm_365 (hwAll mm_436))) rfl rfl rfl (by decide +kernel) ⟨Nat.le_of_ble_eq_true rfl, Nat.le_of_ble_eq_true rfl⟩) (hw_preV hK hO hZ (⟨_, _, gx⟩) rfl) rfl rfl hl.1 rfl (lv_room (Nat.le_of_ble_eq_true rfl)) dMo_question_1 ⟨(show 0 + 0 ≤ 0 by omega), (show 0 + 0 ≤ 0 by omega)⟩) hZ hA (fun X_1 H_2 lc_3 hp hZ => ?_)
  obtain ⟨hF, hN_4, hN_5⟩ := hp
  have hFr := hwF.tr hFr hF (fun _ h => h) (fun M h => by first | exact False.elim h | ((try dsimp only at h ⊢); omega))
  have g1 := hF _ _ _ (by intro hNS; first | exact False.elim hNS | ((try dsimp only at hNS); omega)) g1
  have g2 := hF _ _ _ (by intro hNS; first | exact False.elim hNS | ((try dsimp only at hNS); omega)) g2
  have g3 := hF _ _ _ (by intro hNS; first | exact False.elim hNS | ((try dsimp only at hNS); omega)) g3
  have g4 := hF _ _ _ (by intro hNS; first | exact False.elim hNS | ((try dsimp only at hNS); omega)) g4
  have g5 := rwAt.fr hF (by intro hNS; first | exact False.elim hNS | ((try dsimp only at hNS); omega)) g5
  have g6 := hF _ _ _ (by intro hNS; first | exact False.elim hNS | ((try dsimp only at hNS); omega)) g6
  have g8 := rwAt.fr hF (by intro hNS; first | exact False.elim hNS | ((try dsimp only at hNS); omega)) g8
  have g9 := rwAt.fr hF (by intro hNS; first | exact False.elim hNS | ((try dsimp only at hNS); omega)) g9
  have g10 := rwAt.fr hF (by intro hNS; first | exact False.elim hNS | ((try dsimp only at hNS); omega)) g10
  have g11 := hF _ _ _ (by intro hNS; first | exact False.elim hNS | ((try dsimp only at hNS); omega)) g11
  have g12 := hF _ _ _ (by intro hNS; first | exact False.elim hNS | ((try dsimp only at hNS); omega)) g12
  have g13 := hF _ _ _ (by intro hNS; first | exact False.elim hNS | ((try dsimp only at hNS); omega)) g13
  have g14 := rwAt.fr hF (by intro hNS; first | exact False.elim hNS | ((try dsimp only at hNS); omega)) g14
  have g15 := hF _ _ _ (by intro hNS; first | exact False.elim hNS | ((try dsimp only at hNS); omega)) g15
  have ff_6 := hN_4
  have ff_7 := hN_5
  refine lv_aload_n hx hb dMo_question_4 rfl (lv_at hl 0 rfl) ?_
  refine lv_iconst (v := nI 0) hx hb dMo_question_5 (by decide) ?_
  refine hw_put (ty := .int) (fs' := [.int (nI tz), .int (nI its.length), .ref r1, .int (nI sg.length), .ref r2, .ref r3, .ref r4, .ref r5, .int (nI st.length), .ref r6, .int (nI 0), .ref r7, .int (nI ((tkF sd).1.length)), .ref r8, .ref r9, .ref r10, .int (nI nw), .int (nI 0), .ref r11, .ref r12, .ref r13, .ref r14, .int (nI nt), .ref r15]) hx hb hts (hwInn inMo) tyMo tyMo_ok nmMo hown hK hZ ff_6 rfl 17 (by decide) (hts (.fieldLink RMo 111 RMo "hits" "I") (hwMem mm_409)) (fun _ h => h) rfl (by decide +kernel) rfl rfl (Nat.le_of_ble_eq_true rfl) rfl dMo_question_6 (fun X_8 H_9 lc_10 hZ hF hNw => ?_)
  have hFr := hwF.tr hFr hF (fun _ h => h) (fun M h => by first | exact False.elim h | ((try dsimp only at h ⊢); omega))
  have g1 := hF _ _ _ (by intro hNS; first | exact False.elim hNS | ((try dsimp only at hNS); omega)) g1
  have g2 := hF _ _ _ (by intro hNS; first | exact False.elim hNS | ((try dsimp only at hNS); omega)) g2
  have g3 := hF _ _ _ (by intro hNS; first | exact False.elim hNS | ((try dsimp only at hNS); omega)) g3
  have g4 := hF _ _ _ (by intro hNS; first | exact False.elim hNS | ((try dsimp only at hNS); omega)) g4
  have g5 := rwAt.fr hF (by intro hNS; first | exact False.elim hNS | ((try dsimp only at hNS); omega)) g5
  have g6 := hF _ _ _ (by intro hNS; first | exact False.elim hNS | ((try dsimp only at hNS); omega)) g6
  have g8 := rwAt.fr hF (by intro hNS; first | exact False.elim hNS | ((try dsimp only at hNS); omega)) g8
  have g9 := rwAt.fr hF (by intro hNS; first | exact False.elim hNS | ((try dsimp only at hNS); omega)) g9
  have g10 := rwAt.fr hF (by intro hNS; first | exact False.elim hNS | ((try dsimp only at hNS); omega)) g10
  have g11 := hF _ _ _ (by intro hNS; first | exact False.elim hNS | ((try dsimp only at hNS); omega)) g11
  have g12 := hF _ _ _ (by intro hNS; first | exact False.elim hNS | ((try dsimp only at hNS); omega)) g12
  have g13 := hF _ _ _ (by intro hNS; first | exact False.elim hNS | ((try dsimp only at hNS); omega)) g13
  have g14 := rwAt.fr hF (by intro hNS; first | exact False.elim hNS | ((try dsimp only at hNS); omega)) g14
  have g15 := hF _ _ _ (by intro hNS; first | exact False.elim hNS | ((try dsimp only at hNS); omega)) g15
  have ff_6 := hNw
  have ff_7 := rwAt.fr hF (by intro hNS; first | exact False.elim hNS | ((try dsimp only at hNS); omega)) ff_7
  refine lv_iload_n hx hb dMo_question_9 rfl (lv_at hl 2 rfl) ?_
  refine hw_calli (va_runS (As := [.int kind]) (rest := []) ⟨hx, hb, hml, hown, hts⟩ (m_isFieldB l D K X_8 H_9.size (kind := kind) (by assumption)) (va_cwS 1 hts (hwGood (hw_3 mm_442 mm_441 mm_365 (hwAll mm_440))) rfl rfl rfl (by decide +kernel) ⟨Nat.le_of_ble_eq_true rfl, Nat.le_of_ble_eq_true rfl⟩) (hw_preS hK hO hZ) rfl rfl hl.1 rfl (lv_room (Nat.le_of_ble_eq_true rfl)) dMo_question_10 ⟨(show 0 + 0 ≤ 0 by omega), (show 0 + 0 ≤ 0 by omega)⟩) hZ hA (fun r X_11 H_12 lc_13 hp hZ => ?_)
  obtain ⟨hr, hy⟩ := hp
  subst hy
  refine hw_topi hr ?_
  refine hw_bz_neF (tgt := 18) hx hb dMo_question_13 (by decide) rfl ?_
  refine lv_iconst (v := nI 0) hx hb dMo_question_16 (by decide) ?_
  exact hret hZ ⟨rfl, hFr, ⟨_, _, _, _, _, _, _, _, _, _, _, _, _, _, _, _, _, _, _, _, _, _, _, _, _, _, _, _, _, _, _, _, _, ff_6, g1, g2, g3, g4, g5, g6, ff_7, g8, g9, g10, g11, g12, g13, g14, g15, hft, hfg, hfp, hfl, (fun k hk => absurd hk (Nat.not_lt_zero _)), ivec.nil, ivec.nil, ivec.nil⟩⟩ dMo_question_17
