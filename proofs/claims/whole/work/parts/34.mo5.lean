def lsh (f : Nat → Int64) (l : List (List Nat)) (p : Nat) : Prop := (∀ j, j < p → f j = lN (rW (l.getD j []))) ∧ ∀ j, p ≤ j → j < l.length → f (j + 1) = lN (rW (l.getD j []))
theorem lsh.start {f : Nat → Int64} {l : List (List Nat)} (h : rvec f l) : lsh f l l.length := ⟨h, fun j h1 h2 => absurd h2 (by omega)⟩
theorem lsh.step {f : Nat → Int64} {l : List (List Nat)} {p : Nat} (h : lsh f l p) (hp : 0 < p) : lsh (vp_updL f p (f (p - 1))) l (p - 1) := by
  refine ⟨fun j hj => ?_, fun j h1 h2 => ?_⟩
  · rw [pk_uLn (by omega)]; exact h.1 j (by omega)
  · rcases Nat.lt_or_ge j p with q | q
    · have e : j = p - 1 := by omega
      subst e
      rw [show p - 1 + 1 = p by omega, pk_uLs]
      exact h.1 (p - 1) (by omega)
    · rw [pk_uLn (by omega)]; exact h.2 j q h2
theorem lsh.done {f : Nat → Int64} {l : List (List Nat)} {p : Nat} {x : List Nat} (h : lsh f l p) (hp : p ≤ l.length) : rvec (vp_updL f p (lN (rW x))) (l.take p ++ x :: l.drop p) := by
  intro j hj
  rw [ins_len hp] at hj
  have hl : (l.take p).length = p := by rw [List.length_take]; omega
  rcases Nat.lt_trichotomy j p with q | q | q
  · rw [pk_uLn (by omega), h.1 j q]
    congr 2
    simp [List.getD, List.getElem?_append, hl, q, List.getElem?_take]
    rw [List.getElem?_eq_getElem (by omega)]; rfl
  · subst q
    rw [pk_uLs]
    congr 2
    simp [List.getD, List.getElem?_append, hl]
  · obtain ⟨d, rfl⟩ : ∃ d, j = p + 1 + d := ⟨j - (p + 1), by omega⟩
    have := h.2 (p + d) (by omega) (by omega)
    rw [pk_uLn (by omega), show p + 1 + d = p + d + 1 by omega, this]
    congr 2
    simp [List.getD, List.getElem?_append, hl, show ¬ p + d + 1 < p by omega, show p + d + 1 - p = d + 1 by omega]
def DL (f t : List Nat) (i j : Nat) : Nat := rows t (f.take i) (fun j => j) j
theorem DL_0 (f t : List Nat) (j : Nat) : DL f t 0 j = j := by unfold DL; rw [List.take_zero]; rfl
theorem DL_s {f t : List Nat} {i j : Nat} (hi : 1 ≤ i) (hf : i ≤ f.length) (hj : 1 ≤ j) : DL f t i j = min (if f.getD (i - 1) 0 = t.getD (j - 1) 0 then DL f t (i - 1) (j - 1) else DL f t (i - 1) (j - 1) + 1) (min (DL f t (i - 1) j) (DL f t i (j - 1)) + 1) := by
  obtain ⟨k, rfl⟩ : ∃ k, i = k + 1 := ⟨i - 1, by omega⟩
  unfold DL
  rw [rows_take (by omega), nxt_pos hj, ← rows_take (by omega)]
  rfl
theorem DL_j0 {f t : List Nat} : ∀ {i : Nat}, i ≤ f.length → DL f t i 0 = i
  | 0, _ => DL_0 f t 0
  | i + 1, h => by
    have ih := DL_j0 (f := f) (t := t) (i := i) (by omega)
    unfold DL at ih ⊢
    rw [rows_take (by omega)]
    show rows t (f.take i) (fun j => j) 0 + 1 = i + 1
    rw [ih]
theorem DL_le {f t : List Nat} {i j : Nat} (hi : i ≤ 12) (hj : j ≤ 12) : DL f t i j ≤ 24 := rows_id_le t f i j hi hj
theorem DL_end (f t : List Nat) : DL f t f.length t.length = distL f t := by unfold DL distL; rw [List.take_of_length_le (Nat.le_refl _)]
theorem adW_mem {l : List (List Nat)} {w : List Nat} (h : w ∈ l) : adW l w = l := by
  unfold adW
  split
  · rfl
  · exact insS_mem h
theorem adW_new {l : List (List Nat)} {w : List Nat} (h0 : w ≠ []) (hl : l.length < 750) (h : w ∉ l) : adW l w = ins w l := by rw [adW_ne h0]; exact insS_new hl h
theorem dMo_put_0 : decode cMo_put 0 = .ok (.iconst 0, 1) := by decide +kernel
theorem dMo_put_1 : decode cMo_put 1 = .ok (.istore_n 3, 1) := by decide +kernel
theorem dMo_put_2 : decode cMo_put 2 = .ok (.iload_n 3, 1) := by decide +kernel
theorem dMo_put_3 : decode cMo_put 3 = .ok (.aload_n 0, 1) := by decide +kernel
theorem dMo_put_4 : decode cMo_put 4 = .ok (.getfield 161, 3) := by decide +kernel
theorem dMo_put_7 : decode cMo_put 7 = .ok (.if_icmp .ge 26, 3) := by decide +kernel
theorem dMo_put_10 : decode cMo_put 10 = .ok (.aload_n 0, 1) := by decide +kernel
theorem dMo_put_11 : decode cMo_put 11 = .ok (.getfield 52, 3) := by decide +kernel
theorem dMo_put_14 : decode cMo_put 14 = .ok (.iload_n 3, 1) := by decide +kernel
theorem dMo_put_15 : decode cMo_put 15 = .ok (.laload, 1) := by decide +kernel
theorem dMo_put_16 : decode cMo_put 16 = .ok (.invokestatic 168, 3) := by decide +kernel
theorem dMo_put_19 : decode cMo_put 19 = .ok (.lload_n 1, 1) := by decide +kernel
theorem dMo_put_20 : decode cMo_put 20 = .ok (.invokestatic 168, 3) := by decide +kernel
theorem dMo_put_23 : decode cMo_put 23 = .ok (.lcmp, 1) := by decide +kernel
theorem dMo_put_24 : decode cMo_put 24 = .ok (.ifCond .ge 9, 3) := by decide +kernel
theorem dMo_put_27 : decode cMo_put 27 = .ok (.iinc 3 1, 3) := by decide +kernel
theorem dMo_put_30 : decode cMo_put 30 = .ok (.goto (-28), 3) := by decide +kernel
theorem dMo_put_33 : decode cMo_put 33 = .ok (.lload_n 1, 1) := by decide +kernel
theorem dMo_put_34 : decode cMo_put 34 = .ok (.lconst 0, 1) := by decide +kernel
theorem dMo_put_35 : decode cMo_put 35 = .ok (.lcmp, 1) := by decide +kernel
theorem dMo_put_36 : decode cMo_put 36 = .ok (.ifCond .eq 22, 3) := by decide +kernel
theorem dMo_put_39 : decode cMo_put 39 = .ok (.iload_n 3, 1) := by decide +kernel
theorem dMo_put_40 : decode cMo_put 40 = .ok (.aload_n 0, 1) := by decide +kernel
theorem dMo_put_41 : decode cMo_put 41 = .ok (.getfield 161, 3) := by decide +kernel
theorem dMo_put_44 : decode cMo_put 44 = .ok (.if_icmp .ge 15, 3) := by decide +kernel
theorem dMo_put_47 : decode cMo_put 47 = .ok (.aload_n 0, 1) := by decide +kernel
theorem dMo_put_48 : decode cMo_put 48 = .ok (.getfield 52, 3) := by decide +kernel
theorem dMo_put_51 : decode cMo_put 51 = .ok (.iload_n 3, 1) := by decide +kernel
theorem dMo_put_52 : decode cMo_put 52 = .ok (.laload, 1) := by decide +kernel
theorem dMo_put_53 : decode cMo_put 53 = .ok (.lload_n 1, 1) := by decide +kernel
theorem dMo_put_54 : decode cMo_put 54 = .ok (.lcmp, 1) := by decide +kernel
theorem dMo_put_55 : decode cMo_put 55 = .ok (.ifCond .ne 4, 3) := by decide +kernel
theorem dMo_put_58 : decode cMo_put 58 = .ok (.return_, 1) := by decide +kernel
theorem dMo_put_59 : decode cMo_put 59 = .ok (.aload_n 0, 1) := by decide +kernel
theorem dMo_put_60 : decode cMo_put 60 = .ok (.getfield 161, 3) := by decide +kernel
theorem dMo_put_63 : decode cMo_put 63 = .ok (.istore 4, 2) := by decide +kernel
theorem dMo_put_65 : decode cMo_put 65 = .ok (.iload 4, 2) := by decide +kernel
theorem dMo_put_67 : decode cMo_put 67 = .ok (.iload_n 3, 1) := by decide +kernel
theorem dMo_put_68 : decode cMo_put 68 = .ok (.if_icmp .le 25, 3) := by decide +kernel
theorem dMo_put_71 : decode cMo_put 71 = .ok (.aload_n 0, 1) := by decide +kernel
theorem dMo_put_72 : decode cMo_put 72 = .ok (.getfield 52, 3) := by decide +kernel
theorem dMo_put_75 : decode cMo_put 75 = .ok (.iload 4, 2) := by decide +kernel
theorem dMo_put_77 : decode cMo_put 77 = .ok (.aload_n 0, 1) := by decide +kernel
theorem dMo_put_78 : decode cMo_put 78 = .ok (.getfield 52, 3) := by decide +kernel
theorem dMo_put_81 : decode cMo_put 81 = .ok (.iload 4, 2) := by decide +kernel
theorem dMo_put_83 : decode cMo_put 83 = .ok (.iconst 1, 1) := by decide +kernel
theorem dMo_put_84 : decode cMo_put 84 = .ok (.isub, 1) := by decide +kernel
theorem dMo_put_85 : decode cMo_put 85 = .ok (.laload, 1) := by decide +kernel
theorem dMo_put_86 : decode cMo_put 86 = .ok (.lastore, 1) := by decide +kernel
theorem dMo_put_87 : decode cMo_put 87 = .ok (.iinc 4 (-1), 3) := by decide +kernel
theorem dMo_put_90 : decode cMo_put 90 = .ok (.goto (-25), 3) := by decide +kernel
theorem dMo_put_93 : decode cMo_put 93 = .ok (.aload_n 0, 1) := by decide +kernel
theorem dMo_put_94 : decode cMo_put 94 = .ok (.getfield 52, 3) := by decide +kernel
theorem dMo_put_97 : decode cMo_put 97 = .ok (.iload_n 3, 1) := by decide +kernel
theorem dMo_put_98 : decode cMo_put 98 = .ok (.lload_n 1, 1) := by decide +kernel
theorem dMo_put_99 : decode cMo_put 99 = .ok (.lastore, 1) := by decide +kernel
theorem dMo_put_100 : decode cMo_put 100 = .ok (.aload_n 0, 1) := by decide +kernel
theorem dMo_put_101 : decode cMo_put 101 = .ok (.dup, 1) := by decide +kernel
theorem dMo_put_102 : decode cMo_put 102 = .ok (.getfield 161, 3) := by decide +kernel
theorem dMo_put_105 : decode cMo_put 105 = .ok (.iconst 1, 1) := by decide +kernel
theorem dMo_put_106 : decode cMo_put 106 = .ok (.iadd, 1) := by decide +kernel
theorem dMo_put_107 : decode cMo_put 107 = .ok (.putfield 161, 3) := by decide +kernel
theorem dMo_put_110 : decode cMo_put 110 = .ok (.return_, 1) := by decide +kernel
theorem dMo_list_0 : decode cMo_list 0 = .ok (.aload_n 0, 1) := by decide +kernel
theorem dMo_list_1 : decode cMo_list 1 = .ok (.iconst 0, 1) := by decide +kernel
theorem dMo_list_2 : decode cMo_list 2 = .ok (.putfield 161, 3) := by decide +kernel
theorem dMo_list_5 : decode cMo_list 5 = .ok (.iconst 1, 1) := by decide +kernel
theorem dMo_list_6 : decode cMo_list 6 = .ok (.istore_n 2, 1) := by decide +kernel
theorem dMo_list_7 : decode cMo_list 7 = .ok (.iload_n 2, 1) := by decide +kernel
theorem dMo_list_8 : decode cMo_list 8 = .ok (.aload_n 0, 1) := by decide +kernel
theorem dMo_list_9 : decode cMo_list 9 = .ok (.getfield 62, 3) := by decide +kernel
theorem dMo_list_12 : decode cMo_list 12 = .ok (.if_icmp .gt 50, 3) := by decide +kernel
theorem dMo_list_15 : decode cMo_list 15 = .ok (.aload_n 0, 1) := by decide +kernel
theorem dMo_list_16 : decode cMo_list 16 = .ok (.getfield 7, 3) := by decide +kernel
theorem dMo_list_19 : decode cMo_list 19 = .ok (.iload_n 2, 1) := by decide +kernel
theorem dMo_list_20 : decode cMo_list 20 = .ok (.baload, 1) := by decide +kernel
theorem dMo_list_21 : decode cMo_list 21 = .ok (.ifCond .eq 35, 3) := by decide +kernel
theorem dMo_list_24 : decode cMo_list 24 = .ok (.aload_n 0, 1) := by decide +kernel
theorem dMo_list_25 : decode cMo_list 25 = .ok (.iload_n 2, 1) := by decide +kernel
theorem dMo_list_26 : decode cMo_list 26 = .ok (.iload_n 1, 1) := by decide +kernel
theorem dMo_list_27 : decode cMo_list 27 = .ok (.invokevirtual 132, 3) := by decide +kernel
theorem dMo_list_30 : decode cMo_list 30 = .ok (.iconst 0, 1) := by decide +kernel
theorem dMo_list_31 : decode cMo_list 31 = .ok (.istore_n 3, 1) := by decide +kernel
theorem dMo_list_32 : decode cMo_list 32 = .ok (.iload_n 3, 1) := by decide +kernel
theorem dMo_list_33 : decode cMo_list 33 = .ok (.aload_n 0, 1) := by decide +kernel
theorem dMo_list_34 : decode cMo_list 34 = .ok (.getfield 94, 3) := by decide +kernel
theorem dMo_list_37 : decode cMo_list 37 = .ok (.if_icmp .ge 19, 3) := by decide +kernel
theorem dMo_list_40 : decode cMo_list 40 = .ok (.aload_n 0, 1) := by decide +kernel
theorem dMo_list_41 : decode cMo_list 41 = .ok (.aload_n 0, 1) := by decide +kernel
theorem dMo_list_42 : decode cMo_list 42 = .ok (.getfield 37, 3) := by decide +kernel
theorem dMo_list_45 : decode cMo_list 45 = .ok (.iload_n 3, 1) := by decide +kernel
theorem dMo_list_46 : decode cMo_list 46 = .ok (.laload, 1) := by decide +kernel
theorem dMo_list_47 : decode cMo_list 47 = .ok (.invokevirtual 164, 3) := by decide +kernel
theorem dMo_list_50 : decode cMo_list 50 = .ok (.iinc 3 1, 3) := by decide +kernel
theorem dMo_list_53 : decode cMo_list 53 = .ok (.goto (-21), 3) := by decide +kernel
theorem dMo_list_56 : decode cMo_list 56 = .ok (.iinc 2 1, 3) := by decide +kernel
theorem dMo_list_59 : decode cMo_list 59 = .ok (.goto (-52), 3) := by decide +kernel
theorem dMo_list_62 : decode cMo_list 62 = .ok (.return_, 1) := by decide +kernel
theorem dMo_distance_0 : decode cMo_distance 0 = .ok (.lload_n 1, 1) := by decide +kernel
theorem dMo_distance_1 : decode cMo_distance 1 = .ok (.invokestatic 77, 3) := by decide +kernel
theorem dMo_distance_4 : decode cMo_distance 4 = .ok (.istore 5, 2) := by decide +kernel
theorem dMo_distance_6 : decode cMo_distance 6 = .ok (.lload_n 3, 1) := by decide +kernel
theorem dMo_distance_7 : decode cMo_distance 7 = .ok (.invokestatic 77, 3) := by decide +kernel
theorem dMo_distance_10 : decode cMo_distance 10 = .ok (.istore 6, 2) := by decide +kernel
theorem dMo_distance_12 : decode cMo_distance 12 = .ok (.iconst 0, 1) := by decide +kernel
theorem dMo_distance_13 : decode cMo_distance 13 = .ok (.istore 7, 2) := by decide +kernel
theorem dMo_distance_15 : decode cMo_distance 15 = .ok (.iload 7, 2) := by decide +kernel
theorem dMo_distance_17 : decode cMo_distance 17 = .ok (.iload 5, 2) := by decide +kernel
theorem dMo_distance_19 : decode cMo_distance 19 = .ok (.if_icmp .gt 162, 3) := by decide +kernel
theorem dMo_distance_22 : decode cMo_distance 22 = .ok (.iconst 0, 1) := by decide +kernel
theorem dMo_distance_23 : decode cMo_distance 23 = .ok (.istore 8, 2) := by decide +kernel
theorem dMo_distance_25 : decode cMo_distance 25 = .ok (.iload 8, 2) := by decide +kernel
theorem dMo_distance_27 : decode cMo_distance 27 = .ok (.iload 6, 2) := by decide +kernel
theorem dMo_distance_29 : decode cMo_distance 29 = .ok (.if_icmp .gt 146, 3) := by decide +kernel
theorem dMo_distance_32 : decode cMo_distance 32 = .ok (.iload 7, 2) := by decide +kernel
theorem dMo_distance_34 : decode cMo_distance 34 = .ok (.ifCond .ne 8, 3) := by decide +kernel
theorem dMo_distance_37 : decode cMo_distance 37 = .ok (.iload 8, 2) := by decide +kernel
theorem dMo_distance_39 : decode cMo_distance 39 = .ok (.goto 59, 3) := by decide +kernel
theorem dMo_distance_42 : decode cMo_distance 42 = .ok (.iload 8, 2) := by decide +kernel
theorem dMo_distance_44 : decode cMo_distance 44 = .ok (.ifCond .ne 8, 3) := by decide +kernel
theorem dMo_distance_47 : decode cMo_distance 47 = .ok (.iload 7, 2) := by decide +kernel
theorem dMo_distance_49 : decode cMo_distance 49 = .ok (.goto 49, 3) := by decide +kernel
theorem dMo_distance_52 : decode cMo_distance 52 = .ok (.aload_n 0, 1) := by decide +kernel
theorem dMo_distance_53 : decode cMo_distance 53 = .ok (.getfield 55, 3) := by decide +kernel
theorem dMo_distance_56 : decode cMo_distance 56 = .ok (.bipush 13, 2) := by decide +kernel
theorem dMo_distance_58 : decode cMo_distance 58 = .ok (.iload 7, 2) := by decide +kernel
theorem dMo_distance_60 : decode cMo_distance 60 = .ok (.iconst 1, 1) := by decide +kernel
theorem dMo_distance_61 : decode cMo_distance 61 = .ok (.isub, 1) := by decide +kernel
theorem dMo_distance_62 : decode cMo_distance 62 = .ok (.imul, 1) := by decide +kernel
theorem dMo_distance_63 : decode cMo_distance 63 = .ok (.iload 8, 2) := by decide +kernel
theorem dMo_distance_65 : decode cMo_distance 65 = .ok (.iadd, 1) := by decide +kernel
theorem dMo_distance_66 : decode cMo_distance 66 = .ok (.iconst 1, 1) := by decide +kernel
theorem dMo_distance_67 : decode cMo_distance 67 = .ok (.isub, 1) := by decide +kernel
theorem dMo_distance_68 : decode cMo_distance 68 = .ok (.iaload, 1) := by decide +kernel
theorem dMo_distance_69 : decode cMo_distance 69 = .ok (.lload_n 1, 1) := by decide +kernel
theorem dMo_distance_70 : decode cMo_distance 70 = .ok (.iload 5, 2) := by decide +kernel
theorem dMo_distance_72 : decode cMo_distance 72 = .ok (.iload 7, 2) := by decide +kernel
theorem dMo_distance_74 : decode cMo_distance 74 = .ok (.iconst 1, 1) := by decide +kernel
theorem dMo_distance_75 : decode cMo_distance 75 = .ok (.isub, 1) := by decide +kernel
theorem dMo_distance_76 : decode cMo_distance 76 = .ok (.invokestatic 176, 3) := by decide +kernel
theorem dMo_distance_79 : decode cMo_distance 79 = .ok (.lload_n 3, 1) := by decide +kernel
theorem dMo_distance_80 : decode cMo_distance 80 = .ok (.iload 6, 2) := by decide +kernel
theorem dMo_distance_82 : decode cMo_distance 82 = .ok (.iload 8, 2) := by decide +kernel
theorem dMo_distance_84 : decode cMo_distance 84 = .ok (.iconst 1, 1) := by decide +kernel
theorem dMo_distance_85 : decode cMo_distance 85 = .ok (.isub, 1) := by decide +kernel
theorem dMo_distance_86 : decode cMo_distance 86 = .ok (.invokestatic 176, 3) := by decide +kernel
theorem dMo_distance_89 : decode cMo_distance 89 = .ok (.if_icmp .ne 7, 3) := by decide +kernel
theorem dMo_distance_92 : decode cMo_distance 92 = .ok (.iconst 0, 1) := by decide +kernel
theorem dMo_distance_93 : decode cMo_distance 93 = .ok (.goto 4, 3) := by decide +kernel
theorem dMo_distance_96 : decode cMo_distance 96 = .ok (.iconst 1, 1) := by decide +kernel
theorem dMo_distance_97 : decode cMo_distance 97 = .ok (.iadd, 1) := by decide +kernel
theorem dMo_distance_98 : decode cMo_distance 98 = .ok (.istore 9, 2) := by decide +kernel
theorem dMo_distance_100 : decode cMo_distance 100 = .ok (.iload 7, 2) := by decide +kernel
theorem dMo_distance_102 : decode cMo_distance 102 = .ok (.ifCond .le 52, 3) := by decide +kernel
theorem dMo_distance_105 : decode cMo_distance 105 = .ok (.iload 8, 2) := by decide +kernel
theorem dMo_distance_107 : decode cMo_distance 107 = .ok (.ifCond .le 47, 3) := by decide +kernel
theorem dMo_distance_110 : decode cMo_distance 110 = .ok (.aload_n 0, 1) := by decide +kernel
theorem dMo_distance_111 : decode cMo_distance 111 = .ok (.iload 9, 2) := by decide +kernel
theorem dMo_distance_113 : decode cMo_distance 113 = .ok (.aload_n 0, 1) := by decide +kernel
theorem dMo_distance_114 : decode cMo_distance 114 = .ok (.aload_n 0, 1) := by decide +kernel
theorem dMo_distance_115 : decode cMo_distance 115 = .ok (.getfield 55, 3) := by decide +kernel
theorem dMo_distance_118 : decode cMo_distance 118 = .ok (.bipush 13, 2) := by decide +kernel
theorem dMo_distance_120 : decode cMo_distance 120 = .ok (.iload 7, 2) := by decide +kernel
theorem dMo_distance_122 : decode cMo_distance 122 = .ok (.iconst 1, 1) := by decide +kernel
theorem dMo_distance_123 : decode cMo_distance 123 = .ok (.isub, 1) := by decide +kernel
theorem dMo_distance_124 : decode cMo_distance 124 = .ok (.imul, 1) := by decide +kernel
theorem dMo_distance_125 : decode cMo_distance 125 = .ok (.iload 8, 2) := by decide +kernel
theorem dMo_distance_127 : decode cMo_distance 127 = .ok (.iadd, 1) := by decide +kernel
theorem dMo_distance_128 : decode cMo_distance 128 = .ok (.iaload, 1) := by decide +kernel
theorem dMo_distance_129 : decode cMo_distance 129 = .ok (.aload_n 0, 1) := by decide +kernel
theorem dMo_distance_130 : decode cMo_distance 130 = .ok (.getfield 55, 3) := by decide +kernel
theorem dMo_distance_133 : decode cMo_distance 133 = .ok (.bipush 13, 2) := by decide +kernel
theorem dMo_distance_135 : decode cMo_distance 135 = .ok (.iload 7, 2) := by decide +kernel
theorem dMo_distance_137 : decode cMo_distance 137 = .ok (.imul, 1) := by decide +kernel
theorem dMo_distance_138 : decode cMo_distance 138 = .ok (.iload 8, 2) := by decide +kernel
theorem dMo_distance_140 : decode cMo_distance 140 = .ok (.iadd, 1) := by decide +kernel
theorem dMo_distance_141 : decode cMo_distance 141 = .ok (.iconst 1, 1) := by decide +kernel
theorem dMo_distance_142 : decode cMo_distance 142 = .ok (.isub, 1) := by decide +kernel
theorem dMo_distance_143 : decode cMo_distance 143 = .ok (.iaload, 1) := by decide +kernel
theorem dMo_distance_144 : decode cMo_distance 144 = .ok (.invokevirtual 180, 3) := by decide +kernel
theorem dMo_distance_147 : decode cMo_distance 147 = .ok (.iconst 1, 1) := by decide +kernel
theorem dMo_distance_148 : decode cMo_distance 148 = .ok (.iadd, 1) := by decide +kernel
theorem dMo_distance_149 : decode cMo_distance 149 = .ok (.invokevirtual 180, 3) := by decide +kernel
theorem dMo_distance_152 : decode cMo_distance 152 = .ok (.istore 9, 2) := by decide +kernel
theorem dMo_distance_154 : decode cMo_distance 154 = .ok (.aload_n 0, 1) := by decide +kernel
theorem dMo_distance_155 : decode cMo_distance 155 = .ok (.getfield 55, 3) := by decide +kernel
theorem dMo_distance_158 : decode cMo_distance 158 = .ok (.bipush 13, 2) := by decide +kernel
theorem dMo_distance_160 : decode cMo_distance 160 = .ok (.iload 7, 2) := by decide +kernel
theorem dMo_distance_162 : decode cMo_distance 162 = .ok (.imul, 1) := by decide +kernel
theorem dMo_distance_163 : decode cMo_distance 163 = .ok (.iload 8, 2) := by decide +kernel
theorem dMo_distance_165 : decode cMo_distance 165 = .ok (.iadd, 1) := by decide +kernel
theorem dMo_distance_166 : decode cMo_distance 166 = .ok (.iload 9, 2) := by decide +kernel
theorem dMo_distance_168 : decode cMo_distance 168 = .ok (.iastore, 1) := by decide +kernel
theorem dMo_distance_169 : decode cMo_distance 169 = .ok (.iinc 8 1, 3) := by decide +kernel
theorem dMo_distance_172 : decode cMo_distance 172 = .ok (.goto (-147), 3) := by decide +kernel
theorem dMo_distance_175 : decode cMo_distance 175 = .ok (.iinc 7 1, 3) := by decide +kernel
theorem dMo_distance_178 : decode cMo_distance 178 = .ok (.goto (-163), 3) := by decide +kernel
theorem dMo_distance_181 : decode cMo_distance 181 = .ok (.aload_n 0, 1) := by decide +kernel
theorem dMo_distance_182 : decode cMo_distance 182 = .ok (.getfield 55, 3) := by decide +kernel
theorem dMo_distance_185 : decode cMo_distance 185 = .ok (.bipush 13, 2) := by decide +kernel
theorem dMo_distance_187 : decode cMo_distance 187 = .ok (.iload 5, 2) := by decide +kernel
theorem dMo_distance_189 : decode cMo_distance 189 = .ok (.imul, 1) := by decide +kernel
theorem dMo_distance_190 : decode cMo_distance 190 = .ok (.iload 6, 2) := by decide +kernel
theorem dMo_distance_192 : decode cMo_distance 192 = .ok (.iadd, 1) := by decide +kernel
theorem dMo_distance_193 : decode cMo_distance 193 = .ok (.iaload, 1) := by decide +kernel
theorem dMo_distance_194 : decode cMo_distance 194 = .ok (.ireturn, 1) := by decide +kernel
theorem mm_413 : (.fieldLink RMo 161 RMo "termCount" "I" : Cond) ∈ hwG := hwIx 577 (by decide +kernel) (by decide +kernel)
theorem mm_414 : (.fieldLink RMo 52 RMo "terms" "[J" : Cond) ∈ hwG := hwIx 576 (by decide +kernel) (by decide +kernel)
theorem mm_415 : (.code yMo_aligned cMo_aligned 2 (some .long) : Cond) ∈ hwG := hwIx 761 (by decide +kernel) (by decide +kernel)
theorem mm_416 : (.static yMo_aligned : Cond) ∈ hwG := hwIx 760 (by decide +kernel) (by decide +kernel)
theorem mm_417 : (.methodLink RMo 168 yMo_aligned : Cond) ∈ hwG := hwIx 759 (by decide +kernel) (by decide +kernel)
theorem mm_418 : (.fieldLink RMo 62 RMo "records" "I" : Cond) ∈ hwG := hwIx 556 (by decide +kernel) (by decide +kernel)
theorem mm_419 : (.fieldLink RMo 7 RMo "there" "[Z" : Cond) ∈ hwG := hwIx 557 (by decide +kernel) (by decide +kernel)
theorem mm_420 : (.code yMo_gather cMo_gather 6 none : Cond) ∈ hwG := hwIx 690 (by decide +kernel) (by decide +kernel)
theorem mm_421 : (.methodLink RMo 132 yMo_gather : Cond) ∈ hwG := hwIx 687 (by decide +kernel) (by decide +kernel)
theorem mm_422 : (.instanceMethod yMo_gather : Cond) ∈ hwG := hwIx 689 (by decide +kernel) (by decide +kernel)
theorem mm_423 : (.selects RMo yMo_gather yMo_gather : Cond) ∈ hwG := hwIx 19 (by decide +kernel) (by decide +kernel)
theorem mm_424 : (.code yMo_put cMo_put 5 none : Cond) ∈ hwG := hwIx 758 (by decide +kernel) (by decide +kernel)
theorem mm_425 : (.methodLink RMo 164 yMo_put : Cond) ∈ hwG := hwIx 755 (by decide +kernel) (by decide +kernel)
theorem mm_426 : (.instanceMethod yMo_put : Cond) ∈ hwG := hwIx 757 (by decide +kernel) (by decide +kernel)
theorem mm_427 : (.selects RMo yMo_put yMo_put : Cond) ∈ hwG := hwIx 29 (by decide +kernel) (by decide +kernel)
theorem mm_428 : (.fieldLink RMo 55 RMo "table" "[I" : Cond) ∈ hwG := hwIx 578 (by decide +kernel) (by decide +kernel)
theorem mm_429 : (.code yMo_at cMo_at 4 (some .int) : Cond) ∈ hwG := hwIx 772 (by decide +kernel) (by decide +kernel)
theorem mm_430 : (.static yMo_at : Cond) ∈ hwG := hwIx 771 (by decide +kernel) (by decide +kernel)
theorem mm_431 : (.methodLink RMo 176 yMo_at : Cond) ∈ hwG := hwIx 770 (by decide +kernel) (by decide +kernel)
theorem mm_432 : (.code yMo_least cMo_least 3 (some .int) : Cond) ∈ hwG := hwIx 776 (by decide +kernel) (by decide +kernel)
theorem mm_433 : (.methodLink RMo 180 yMo_least : Cond) ∈ hwG := hwIx 773 (by decide +kernel) (by decide +kernel)
theorem mm_434 : (.instanceMethod yMo_least : Cond) ∈ hwG := hwIx 775 (by decide +kernel) (by decide +kernel)
theorem mm_435 : (.selects RMo yMo_least yMo_least : Cond) ∈ hwG := hwIx 31 (by decide +kernel) (by decide +kernel)
set_option maxHeartbeats 4000000 in
set_option maxRecDepth 100000 in
theorem m_put (l : Launch) (D : va_G) (K : Nat → ClassId) (X : hwW) (sz : Nat) (a : Nat) (r1 : Nat) (r2 : Nat) (r3 : Nat) (r4 : Nat) (r5 : Nat) (r6 : Nat) (r7 : Nat) (r8 : Nat) (r9 : Nat) (r10 : Nat) (r11 : Nat) (r12 : Nat) (r13 : Nat) (r14 : Nat) (r15 : Nat) (tz : Nat) (nr : Nat) (ng : Nat) (ns : Nat) (nz : Nat) (na : Nat) (nw : Nat) (nh : Nat) (nt : Nat) (tm : List (List Nat)) (w : List Nat) (f0_ : hwH X a 1000 (.inr (10, [.int (nI tz), .int (nI nr), .ref r1, .int (nI ng), .ref r2, .ref r3, .ref r4, .ref r5, .int (nI ns), .ref r6, .int (nI nz), .ref r7, .int (nI na), .ref r8, .ref r9, .ref r10, .int (nI nw), .int (nI nh), .ref r11, .ref r12, .ref r13, .ref r14, .int (nI nt), .ref r15]))) (f1_ : rwAt K X r14 1014 800 tm) (hnt : nt = tm.length) (hso : tm.Pairwise (· < ·)) (htl : tm.length < 750) (hw : okW w) : Met l yMo_put (.code yMo_put cMo_put 5 none :: hwG) ({ frames := 2, cells := 0, slots := 0, locals := 43 } : Room) (hwPc D vwCl (hwT K) [.ref a, .long (lN (rW w))] X sz) (hwQv D vwCl X sz (fun Y => hwF X Y (fun M => M = 1000 ∨ M = 1014) ∧ hwH Y a 1000 (.inr (10, [.int (nI tz), .int (nI nr), .ref r1, .int (nI ng), .ref r2, .ref r3, .ref r4, .ref r5, .int (nI ns), .ref r6, .int (nI nz), .ref r7, .int (nI na), .ref r8, .ref r9, .ref r10, .int (nI nw), .int (nI nh), .ref r11, .ref r12, .ref r13, .ref r14, .int (nI ((adW tm w).length)), .ref r15])) ∧ rwAt K Y r14 1014 800 (adW tm w))) 0 0 (va_A X.1 sz) := by
  refine hwMetv (cc := cMo_put) (maxL := 5) (by decide) rfl (Nat.le_of_ble_eq_true rfl) (fun p e s m args below meth c ls A Q hx hb hml hown hts hname hret hK hO hZ hA hl => ?_)
  have hl : lv_has ls 5 [(0, .ref a), (1, .long (lN (rW w)))] := hl
  have hFr : hwF X X (fun M => M = 1000 ∨ M = 1014) := hwF.rf
  subst hnt
  obtain ⟨f14, g14, hN14, hv14, hk14⟩ := f1_
  have hT2 := fun j => okWs.at hk14 j
  refine lv_iconst (v := nI 0) hx hb dMo_put_0 (by decide) ?_
  refine lv_istore_n (lv' := [(3, .int (nI 0)), (0, .ref a), (1, .long (lN (rW w)))]) hx hb dMo_put_1 rfl hl (by decide) rfl (fun ls hl => ?_)
  have loop2 : ∀ (fuel : Nat) (i : Nat) (Hh : Heap) (lcs : List Loc) (ls : Array Slot), tm.length - i < fuel → (i ≤ tm.length) → (∀ j, j < i → tm.getD j [] < w) → hwZ D vwCl A s.heap X Hh lcs → lv_has ls 5 [(3, .int (nI i)), (0, .ref a), (1, .long (lN (rW w)))] → W p l e ({ frames := 2, cells := 0, slots := 0, locals := 43 } : Room) s m args below meth c Hh lcs 0 0 Q (F0 m 2 ls []) := by
    intro fuel; induction fuel with
    | zero => intro i Hh lcs ls hfu; exact absurd hfu (Nat.not_lt_zero _)
    | succ fuel ih2 =>
      intro i Hh lcs ls hfu2 hi hA1 hZ hl
      refine lv_iload_n hx hb dMo_put_2 rfl (lv_at hl 0 rfl) ?_
      refine lv_aload_n hx hb dMo_put_3 rfl (lv_at hl 1 rfl) ?_
      refine hw_get hx hb hts (hwInn inMo) hown hK hZ f0_ rfl 22 (by decide) (hts (.fieldLink RMo 161 RMo "termCount" "I") (hwMem mm_413)) (fun _ h => h) rfl dMo_put_4 ?_
      refine hw_ic_ge (a := i) (b := tm.length) (tgt := 33) hx hb dMo_put_7 (by decide) (by omega) (by omega) (fun cq_1 => ?_) (fun cq_1 => ?_)
      · have hns2 : ∀ j, i ≤ j → j < tm.length → ¬ tm.getD j [] < w := fun j hj hl q => absurd hl (by omega)
        refine lv_lload_n hx hb dMo_put_33 rfl (lv_at hl 2 rfl) ?_
        refine lv_lconst (v := lN 0) hx hb dMo_put_34 rfl ?_
        refine hw_lc_eq (a := rW w) (b := 0) (tgt := 58) hx hb dMo_put_35 dMo_put_36 (by decide) (by first | exact eW_lt63 (by assumption) | exact eW_lt63 (hT2 _) | exact rW_lt63 (by assumption) | exact rW_lt63 (hT2 _) | decide) (by first | exact eW_lt63 (by assumption) | exact eW_lt63 (hT2 _) | exact rW_lt63 (by assumption) | exact rW_lt63 (hT2 _) | decide) (fun cq_2 => ?_) (fun cq_2 => ?_)
        · exact hret hZ (by rw [adW_nil ((rW_zero hw).mp cq_2)]; exact ⟨hFr, f0_, ⟨f14, g14, hN14, hv14, hk14⟩⟩) dMo_put_58
        · refine lv_iload_n hx hb dMo_put_39 rfl (lv_at hl 0 rfl) ?_
          refine lv_aload_n hx hb dMo_put_40 rfl (lv_at hl 1 rfl) ?_
          refine hw_get hx hb hts (hwInn inMo) hown hK hZ f0_ rfl 22 (by decide) (hts (.fieldLink RMo 161 RMo "termCount" "I") (hwMem mm_413)) (fun _ h => h) rfl dMo_put_41 ?_
          refine hw_ic_ge (a := i) (b := tm.length) (tgt := 59) hx hb dMo_put_44 (by decide) (by omega) (by omega) (fun cq_3 => ?_) (fun cq_3 => by exfalso; omega)
          refine lv_aload_n hx hb dMo_put_59 rfl (lv_at hl 1 rfl) ?_
          refine hw_get hx hb hts (hwInn inMo) hown hK hZ f0_ rfl 22 (by decide) (hts (.fieldLink RMo 161 RMo "termCount" "I") (hwMem mm_413)) (fun _ h => h) rfl dMo_put_60 ?_
          refine lv_istore (lv' := [(4, .int (nI tm.length)), (3, .int (nI i)), (0, .ref a), (1, .long (lN (rW w)))]) hx hb dMo_put_63 hl (by decide) rfl (fun ls hl => ?_)
          have loop65 : ∀ (fuel : Nat) (k : Nat) (y14 : Nat → Int64) (XL65 : hwW) (Hh : Heap) (lcs : List Loc) (ls : Array Slot), k - i < fuel → (i ≤ k) → (k ≤ tm.length) → (lsh y14 tm k) → (hwF X XL65 (fun M => M = 1000 ∨ M = 1014)) → (hwH XL65 a 1000 (.inr (10, [.int (nI tz), .int (nI nr), .ref r1, .int (nI ng), .ref r2, .ref r3, .ref r4, .ref r5, .int (nI ns), .ref r6, .int (nI nz), .ref r7, .int (nI na), .ref r8, .ref r9, .ref r10, .int (nI nw), .int (nI nh), .ref r11, .ref r12, .ref r13, .ref r14, .int (nI tm.length), .ref r15]))) → (hwH XL65 r14 1014 (.inl (K 1, 800, .inr (.inl y14)))) → hwZ D vwCl A s.heap XL65 Hh lcs → lv_has ls 5 [(4, .int (nI k)), (3, .int (nI i)), (0, .ref a), (1, .long (lN (rW w)))] → W p l e ({ frames := 2, cells := 0, slots := 0, locals := 43 } : Room) s m args below meth c Hh lcs 0 0 Q (F0 m 65 ls []) := by
            intro fuel; induction fuel with
            | zero => intro k y14 XL65 Hh lcs ls hfu; exact absurd hfu (Nat.not_lt_zero _)
            | succ fuel ih65 =>
              intro k y14 XL65 Hh lcs ls hfu65 hki hkl hsh hFr gx g14 hZ hl
              refine lv_iload hx hb dMo_put_65 (lv_at hl 0 rfl) ?_
              refine lv_iload_n hx hb dMo_put_67 rfl (lv_at hl 1 rfl) ?_
              refine hw_ic_le (a := k) (b := i) (tgt := 93) hx hb dMo_put_68 (by decide) (by omega) (by omega) (fun cq_4 => ?_) (fun cq_4 => by exfalso; omega)
              have hkk : k = i := by omega
              refine lv_aload_n hx hb dMo_put_93 rfl (lv_at hl 2 rfl) ?_
              refine hw_get hx hb hts (hwInn inMo) hown hK hZ gx rfl 21 (by decide) (hts (.fieldLink RMo 52 RMo "terms" "[J") (hwMem mm_414)) (fun _ h => h) rfl dMo_put_94 ?_
              refine lv_iload_n hx hb dMo_put_97 rfl (lv_at hl 1 rfl) ?_
              refine lv_lload_n hx hb dMo_put_98 rfl (lv_at hl 3 rfl) ?_
              refine hw_last hx hb hK hZ 1 g14 rfl (j := i) (by omega) (by omega) dMo_put_99 (fun X_5 H_6 lc_7 hZ hF hNw => ?_)
              have hFr := hwF.tr hFr hF (fun _ h => h) (fun M h => by first | exact False.elim h | ((try dsimp only at h ⊢); omega))
              have gx := hF _ _ _ (by intro hNS; first | exact False.elim hNS | ((try dsimp only at hNS); omega)) gx
              have g14 := hNw
              refine lv_aload_n hx hb dMo_put_100 rfl (lv_at hl 2 rfl) ?_
              refine lv_dup hx hb dMo_put_101 rfl ?_
              refine hw_get hx hb hts (hwInn inMo) hown hK hZ gx rfl 22 (by decide) (hts (.fieldLink RMo 161 RMo "termCount" "I") (hwMem mm_413)) (fun _ h => h) rfl dMo_put_102 ?_
              refine lv_iconst (v := nI 1) hx hb dMo_put_105 (by decide) ?_
              refine lv_iadd hx hb dMo_put_106 ?_
              refine hw_topi (nI_add tm.length 1) ?_
              refine hw_put (ty := .int) (fs' := [.int (nI tz), .int (nI nr), .ref r1, .int (nI ng), .ref r2, .ref r3, .ref r4, .ref r5, .int (nI ns), .ref r6, .int (nI nz), .ref r7, .int (nI na), .ref r8, .ref r9, .ref r10, .int (nI nw), .int (nI nh), .ref r11, .ref r12, .ref r13, .ref r14, .int (nI (tm.length + 1)), .ref r15]) hx hb hts (hwInn inMo) tyMo tyMo_ok nmMo hown hK hZ gx rfl 22 (by decide) (hts (.fieldLink RMo 161 RMo "termCount" "I") (hwMem mm_413)) (fun _ h => h) rfl (by decide +kernel) rfl rfl (Nat.le_of_ble_eq_true rfl) rfl dMo_put_107 (fun X_8 H_9 lc_10 hZ hF hNw => ?_)
              have hFr := hwF.tr hFr hF (fun _ h => h) (fun M h => by first | exact False.elim h | ((try dsimp only at h ⊢); omega))
              have gx := hNw
              have g14 := hF _ _ _ (by intro hNS; first | exact False.elim hNS | ((try dsimp only at hNS); omega)) g14
              exact hret hZ (by rw [adW_new (fun h => cq_2 ((rW_zero hw).mpr h)) (by omega) (not_mem_place hso hA1 hns2 (fun hlt he => absurd hlt (by omega))), ins_place hA1 hns2 (by omega)]; exact ⟨hFr, by rw [ins_len (by omega)]; exact gx, ⟨_, g14, by rw [ins_len (by omega)]; omega, lsh.done (hkk ▸ hsh) (by omega), okWs.ins hk14 hw⟩⟩) dMo_put_110
          exact loop65 (tm.length - i + 1) tm.length f14 _ _ _ _ (by omega) (by omega) (by omega) (lsh.start hv14) hFr f0_ g14 hZ (lv_sub hl [0, 1, 2, 3] rfl)
      · refine lv_aload_n hx hb dMo_put_10 rfl (lv_at hl 1 rfl) ?_
        refine hw_get hx hb hts (hwInn inMo) hown hK hZ f0_ rfl 21 (by decide) (hts (.fieldLink RMo 52 RMo "terms" "[J") (hwMem mm_414)) (fun _ h => h) rfl dMo_put_11 ?_
        refine lv_iload_n hx hb dMo_put_14 rfl (lv_at hl 0 rfl) ?_
        refine hw_lald hx hb hK hZ 1 g14 rfl (j := i) (by omega) (by omega) dMo_put_15 ?_
        refine hw_topl (hv14 i (by omega)) ?_
        refine hw_calll (va_runS (As := [.long (lN (rW (tm.getD i [])))]) (rest := []) ⟨hx, hb, hml, hown, hts⟩ (m_al l D K X Hh.size (w := (tm.getD i [])) (hT2 i)) (va_cwS 1 hts (hwGood (hw_3 mm_417 mm_416 mm_365 (hwAll mm_415))) rfl rfl rfl (by decide +kernel) ⟨Nat.le_of_ble_eq_true rfl, Nat.le_of_ble_eq_true rfl⟩) (hw_preS hK hO hZ) rfl rfl hl.1 rfl (lv_room (Nat.le_of_ble_eq_true rfl)) dMo_put_16 ⟨(show 0 + 0 ≤ 0 by omega), (show 0 + 0 ≤ 0 by omega)⟩) hZ hA (fun r X_11 H_12 lc_13 hp hZ => ?_)
        obtain ⟨hr, hy⟩ := hp
        subst hy
        refine hw_topl hr ?_
        refine lv_lload_n hx hb dMo_put_19 rfl (lv_at hl 2 rfl) ?_
        refine hw_calll (va_runS (As := [.long (lN (rW w))]) (rest := [.long (lN (eW (tm.getD i [])))]) ⟨hx, hb, hml, hown, hts⟩ (m_al l D K X H_12.size (w := w) (by assumption)) (va_cwS 1 hts (hwGood (hw_3 mm_417 mm_416 mm_365 (hwAll mm_415))) rfl rfl rfl (by decide +kernel) ⟨Nat.le_of_ble_eq_true rfl, Nat.le_of_ble_eq_true rfl⟩) (hw_preS hK hO hZ) rfl rfl hl.1 rfl (lv_room (Nat.le_of_ble_eq_true rfl)) dMo_put_20 ⟨(show 0 + 0 ≤ 0 by omega), (show 0 + 0 ≤ 0 by omega)⟩) hZ hA (fun r X_14 H_15 lc_16 hp hZ => ?_)
        obtain ⟨hr, hy⟩ := hp
        subst hy
        refine hw_topl hr ?_
        refine hw_lc_ge (a := eW (tm.getD i [])) (b := eW w) (tgt := 33) hx hb dMo_put_23 dMo_put_24 (by decide) (by first | exact eW_lt63 (by assumption) | exact eW_lt63 (hT2 _) | exact rW_lt63 (by assumption) | exact rW_lt63 (hT2 _) | decide) (by first | exact eW_lt63 (by assumption) | exact eW_lt63 (hT2 _) | exact rW_lt63 (by assumption) | exact rW_lt63 (hT2 _) | decide) (fun cq_17 => ?_) (fun cq_17 => ?_)
        · have hns2 : ∀ j, i ≤ j → j < tm.length → ¬ tm.getD j [] < w := fun j hj hl q => Nat.not_lt.mpr cq_17 ((eW_lex (hT2 i) hw).mpr (sorted_from hso hj hl q))
          refine lv_lload_n hx hb dMo_put_33 rfl (lv_at hl 2 rfl) ?_
          refine lv_lconst (v := lN 0) hx hb dMo_put_34 rfl ?_
          refine hw_lc_eq (a := rW w) (b := 0) (tgt := 58) hx hb dMo_put_35 dMo_put_36 (by decide) (by first | exact eW_lt63 (by assumption) | exact eW_lt63 (hT2 _) | exact rW_lt63 (by assumption) | exact rW_lt63 (hT2 _) | decide) (by first | exact eW_lt63 (by assumption) | exact eW_lt63 (hT2 _) | exact rW_lt63 (by assumption) | exact rW_lt63 (hT2 _) | decide) (fun cq_18 => ?_) (fun cq_18 => ?_)
          · exact hret hZ (by rw [adW_nil ((rW_zero hw).mp cq_18)]; exact ⟨hFr, f0_, ⟨f14, g14, hN14, hv14, hk14⟩⟩) dMo_put_58
          · refine lv_iload_n hx hb dMo_put_39 rfl (lv_at hl 0 rfl) ?_
            refine lv_aload_n hx hb dMo_put_40 rfl (lv_at hl 1 rfl) ?_
            refine hw_get hx hb hts (hwInn inMo) hown hK hZ f0_ rfl 22 (by decide) (hts (.fieldLink RMo 161 RMo "termCount" "I") (hwMem mm_413)) (fun _ h => h) rfl dMo_put_41 ?_
            refine hw_ic_ge (a := i) (b := tm.length) (tgt := 59) hx hb dMo_put_44 (by decide) (by omega) (by omega) (fun cq_19 => by exfalso; omega) (fun cq_19 => ?_)
            refine lv_aload_n hx hb dMo_put_47 rfl (lv_at hl 1 rfl) ?_
            refine hw_get hx hb hts (hwInn inMo) hown hK hZ f0_ rfl 21 (by decide) (hts (.fieldLink RMo 52 RMo "terms" "[J") (hwMem mm_414)) (fun _ h => h) rfl dMo_put_48 ?_
            refine lv_iload_n hx hb dMo_put_51 rfl (lv_at hl 0 rfl) ?_
            refine hw_lald hx hb hK hZ 1 g14 rfl (j := i) (by omega) (by omega) dMo_put_52 ?_
            refine hw_topl (hv14 i (by omega)) ?_
            refine lv_lload_n hx hb dMo_put_53 rfl (lv_at hl 2 rfl) ?_
            refine hw_lc_ne (a := rW (tm.getD i [])) (b := rW w) (tgt := 59) hx hb dMo_put_54 dMo_put_55 (by decide) (by first | exact eW_lt63 (by assumption) | exact eW_lt63 (hT2 _) | exact rW_lt63 (by assumption) | exact rW_lt63 (hT2 _) | decide) (by first | exact eW_lt63 (by assumption) | exact eW_lt63 (hT2 _) | exact rW_lt63 (by assumption) | exact rW_lt63 (hT2 _) | decide) (fun cq_20 => ?_) (fun cq_20 => ?_)
            · refine lv_aload_n hx hb dMo_put_59 rfl (lv_at hl 1 rfl) ?_
              refine hw_get hx hb hts (hwInn inMo) hown hK hZ f0_ rfl 22 (by decide) (hts (.fieldLink RMo 161 RMo "termCount" "I") (hwMem mm_413)) (fun _ h => h) rfl dMo_put_60 ?_
              refine lv_istore (lv' := [(4, .int (nI tm.length)), (3, .int (nI i)), (0, .ref a), (1, .long (lN (rW w)))]) hx hb dMo_put_63 hl (by decide) rfl (fun ls hl => ?_)
              have loop65 : ∀ (fuel : Nat) (k : Nat) (y14 : Nat → Int64) (XL65 : hwW) (Hh : Heap) (lcs : List Loc) (ls : Array Slot), k - i < fuel → (i ≤ k) → (k ≤ tm.length) → (lsh y14 tm k) → (hwF X XL65 (fun M => M = 1000 ∨ M = 1014)) → (hwH XL65 a 1000 (.inr (10, [.int (nI tz), .int (nI nr), .ref r1, .int (nI ng), .ref r2, .ref r3, .ref r4, .ref r5, .int (nI ns), .ref r6, .int (nI nz), .ref r7, .int (nI na), .ref r8, .ref r9, .ref r10, .int (nI nw), .int (nI nh), .ref r11, .ref r12, .ref r13, .ref r14, .int (nI tm.length), .ref r15]))) → (hwH XL65 r14 1014 (.inl (K 1, 800, .inr (.inl y14)))) → hwZ D vwCl A s.heap XL65 Hh lcs → lv_has ls 5 [(4, .int (nI k)), (3, .int (nI i)), (0, .ref a), (1, .long (lN (rW w)))] → W p l e ({ frames := 2, cells := 0, slots := 0, locals := 43 } : Room) s m args below meth c Hh lcs 0 0 Q (F0 m 65 ls []) := by
                intro fuel; induction fuel with
                | zero => intro k y14 XL65 Hh lcs ls hfu; exact absurd hfu (Nat.not_lt_zero _)
                | succ fuel ih65 =>
                  intro k y14 XL65 Hh lcs ls hfu65 hki hkl hsh hFr gx g14 hZ hl
                  refine lv_iload hx hb dMo_put_65 (lv_at hl 0 rfl) ?_
                  refine lv_iload_n hx hb dMo_put_67 rfl (lv_at hl 1 rfl) ?_
                  refine hw_ic_le (a := k) (b := i) (tgt := 93) hx hb dMo_put_68 (by decide) (by omega) (by omega) (fun cq_21 => ?_) (fun cq_21 => ?_)
                  · have hkk : k = i := by omega
                    refine lv_aload_n hx hb dMo_put_93 rfl (lv_at hl 2 rfl) ?_
                    refine hw_get hx hb hts (hwInn inMo) hown hK hZ gx rfl 21 (by decide) (hts (.fieldLink RMo 52 RMo "terms" "[J") (hwMem mm_414)) (fun _ h => h) rfl dMo_put_94 ?_
                    refine lv_iload_n hx hb dMo_put_97 rfl (lv_at hl 1 rfl) ?_
                    refine lv_lload_n hx hb dMo_put_98 rfl (lv_at hl 3 rfl) ?_
                    refine hw_last hx hb hK hZ 1 g14 rfl (j := i) (by omega) (by omega) dMo_put_99 (fun X_22 H_23 lc_24 hZ hF hNw => ?_)
                    have hFr := hwF.tr hFr hF (fun _ h => h) (fun M h => by first | exact False.elim h | ((try dsimp only at h ⊢); omega))
                    have gx := hF _ _ _ (by intro hNS; first | exact False.elim hNS | ((try dsimp only at hNS); omega)) gx
                    have g14 := hNw
                    refine lv_aload_n hx hb dMo_put_100 rfl (lv_at hl 2 rfl) ?_
                    refine lv_dup hx hb dMo_put_101 rfl ?_
                    refine hw_get hx hb hts (hwInn inMo) hown hK hZ gx rfl 22 (by decide) (hts (.fieldLink RMo 161 RMo "termCount" "I") (hwMem mm_413)) (fun _ h => h) rfl dMo_put_102 ?_
                    refine lv_iconst (v := nI 1) hx hb dMo_put_105 (by decide) ?_
                    refine lv_iadd hx hb dMo_put_106 ?_
                    refine hw_topi (nI_add tm.length 1) ?_
                    refine hw_put (ty := .int) (fs' := [.int (nI tz), .int (nI nr), .ref r1, .int (nI ng), .ref r2, .ref r3, .ref r4, .ref r5, .int (nI ns), .ref r6, .int (nI nz), .ref r7, .int (nI na), .ref r8, .ref r9, .ref r10, .int (nI nw), .int (nI nh), .ref r11, .ref r12, .ref r13, .ref r14, .int (nI (tm.length + 1)), .ref r15]) hx hb hts (hwInn inMo) tyMo tyMo_ok nmMo hown hK hZ gx rfl 22 (by decide) (hts (.fieldLink RMo 161 RMo "termCount" "I") (hwMem mm_413)) (fun _ h => h) rfl (by decide +kernel) rfl rfl (Nat.le_of_ble_eq_true rfl) rfl dMo_put_107 (fun X_25 H_26 lc_27 hZ hF hNw => ?_)
                    have hFr := hwF.tr hFr hF (fun _ h => h) (fun M h => by first | exact False.elim h | ((try dsimp only at h ⊢); omega))
                    have gx := hNw
                    have g14 := hF _ _ _ (by intro hNS; first | exact False.elim hNS | ((try dsimp only at hNS); omega)) g14
                    exact hret hZ (by rw [adW_new (fun h => cq_18 ((rW_zero hw).mpr h)) (by omega) (not_mem_place hso hA1 hns2 (fun hlt he => cq_20 ((rW_inj (hT2 _) hw).mpr he))), ins_place hA1 hns2 (by omega)]; exact ⟨hFr, by rw [ins_len (by omega)]; exact gx, ⟨_, g14, by rw [ins_len (by omega)]; omega, lsh.done (hkk ▸ hsh) (by omega), okWs.ins hk14 hw⟩⟩) dMo_put_110
                  · refine lv_aload_n hx hb dMo_put_71 rfl (lv_at hl 2 rfl) ?_
                    refine hw_get hx hb hts (hwInn inMo) hown hK hZ gx rfl 21 (by decide) (hts (.fieldLink RMo 52 RMo "terms" "[J") (hwMem mm_414)) (fun _ h => h) rfl dMo_put_72 ?_
                    refine lv_iload hx hb dMo_put_75 (lv_at hl 0 rfl) ?_
                    refine lv_aload_n hx hb dMo_put_77 rfl (lv_at hl 2 rfl) ?_
                    refine hw_get hx hb hts (hwInn inMo) hown hK hZ gx rfl 21 (by decide) (hts (.fieldLink RMo 52 RMo "terms" "[J") (hwMem mm_414)) (fun _ h => h) rfl dMo_put_78 ?_
                    refine lv_iload hx hb dMo_put_81 (lv_at hl 0 rfl) ?_
                    refine lv_iconst (v := nI 1) hx hb dMo_put_83 (by decide) ?_
                    refine lv_isub hx hb dMo_put_84 ?_
                    refine hw_topi (pk_sub (a := k) (b := 1) (by omega)) ?_
                    refine hw_lald hx hb hK hZ 1 g14 rfl (j := k - 1) (by omega) (by omega) dMo_put_85 ?_
                    refine hw_last hx hb hK hZ 1 g14 rfl (j := k) (by omega) (by omega) dMo_put_86 (fun X_28 H_29 lc_30 hZ hF hNw => ?_)
                    have hFr := hwF.tr hFr hF (fun _ h => h) (fun M h => by first | exact False.elim h | ((try dsimp only at h ⊢); omega))
                    have gx := hF _ _ _ (by intro hNS; first | exact False.elim hNS | ((try dsimp only at hNS); omega)) gx
                    have g14 := hNw
                    refine lv_iinc (v := nI (k - 1)) (lv' := [(4, .int (nI (k - 1))), (3, .int (nI i)), (0, .ref a), (1, .long (lN (rW w)))]) hx hb dMo_put_87 hl (k := 0) rfl (hw_dec (k := 1) (by omega) (by decide)) (by decide) rfl (fun ls hl => ?_)
                    refine lv_goto (tgt := 65) hx hb dMo_put_90 (by decide) ?_
                    exact ih65 (k - 1) (vp_updL y14 k (y14 (k - 1))) _ _ _ _ (by omega) (by omega) (by omega) (hsh.step (by omega)) hFr gx g14 hZ (lv_sub hl [0, 1, 2, 3] rfl)
              exact loop65 (tm.length - i + 1) tm.length f14 _ _ _ _ (by omega) (by omega) (by omega) (lsh.start hv14) hFr f0_ g14 hZ (lv_sub hl [0, 1, 2, 3] rfl)
            · exact hret hZ (by rw [adW_mem (mem_of_getD (by omega) ((rW_inj (hT2 _) hw).mp cq_20))]; exact ⟨hFr, f0_, ⟨f14, g14, hN14, hv14, hk14⟩⟩) dMo_put_58
        · refine lv_iinc (v := nI (i + 1)) (lv' := [(3, .int (nI (i + 1))), (0, .ref a), (1, .long (lN (rW w)))]) hx hb dMo_put_27 hl (k := 0) rfl (nI_add _ 1) (by decide) rfl (fun ls hl => ?_)
          refine lv_goto (tgt := 2) hx hb dMo_put_30 (by decide) ?_
          exact ih2 (i + 1) _ _ _ (by omega) (by omega) (fun j hj => (Nat.lt_or_eq_of_le (Nat.le_of_lt_succ hj)).elim (fun z => hA1 j z) (fun z => by subst z; exact (eW_lex (hT2 _) hw).mp cq_17))  hZ (lv_sub hl [0, 1, 2] rfl)
  exact loop2 (tm.length - 0 + 1) 0 _ _ _ (by omega) (by omega) (fun j hj => absurd hj (Nat.not_lt_zero _))  hZ (lv_sub hl [0, 1, 2] rfl)
set_option maxHeartbeats 4000000 in
set_option maxRecDepth 100000 in
theorem m_list (l : Launch) (D : va_G) (K : Nat → ClassId) (X : hwW) (sz : Nat) (a : Nat) (r1 : Nat) (r2 : Nat) (r3 : Nat) (r4 : Nat) (r5 : Nat) (r6 : Nat) (r7 : Nat) (r8 : Nat) (r9 : Nat) (r10 : Nat) (r11 : Nat) (r12 : Nat) (r13 : Nat) (r14 : Nat) (r15 : Nat) (tz : Nat) (nr : Nat) (ng : Nat) (ns : Nat) (nz : Nat) (na : Nat) (nw : Nat) (nh : Nat) (nt : Nat) (ft : Nat → Int32) (fg : Nat → Int32) (fp : Nat → Int32) (fl : Nat → Int32) (st : List (List Nat)) (rw0 : List (List Nat)) (rt0 : List (List Nat)) (tm0 : List (List Nat)) (sg : List (Nat × Nat)) (its : hwIt) (lg : Nat → Nat) (j : Nat) (f0_ : hwH X a 1000 (.inr (10, [.int (nI tz), .int (nI nr), .ref r1, .int (nI ng), .ref r2, .ref r3, .ref r4, .ref r5, .int (nI ns), .ref r6, .int (nI nz), .ref r7, .int (nI na), .ref r8, .ref r9, .ref r10, .int (nI nw), .int (nI nh), .ref r11, .ref r12, .ref r13, .ref r14, .int (nI nt), .ref r15]))) (f1_ : hwH X r1 1001 (.inl (K 2, 31, .inl ft))) (f2_ : hwH X r2 1002 (.inl (K 3, 1500, .inl fg))) (f3_ : hwH X r3 1003 (.inl (K 0, 1500, .inl fp))) (f4_ : hwH X r4 1004 (.inl (K 0, 4, .inl fl))) (f5_ : rwAt K X r5 1005 40 st) (f6_ : rwAt K X r8 1008 800 rw0) (f7_ : rwAt K X r9 1009 800 rt0) (f8_ : rwAt K X r14 1014 800 tm0) (hns : ns = st.length) (hng : ng = sg.length) (hsl : sg.length ≤ 600) (hfg : ∀ k, k < sg.length → mL (fg k) = (sg.getD k (0, 0)).2) (hfp : ∀ k, k < sg.length → fp k = nI (sg.getD k (0, 0)).1) (hsb : ∀ k, (sg.getD k (0, 0)).1 ≤ 200) (hnr : nr = its.length) (hni3 : its.length ≤ 30) (hft : ∀ i, i < its.length → ft (i + 1) = bI (its.getD i hwIt0).1) (htx : ∀ i, i < its.length → ∀ j, j < 4 → ((its.getD i hwIt0).2 j).1 = (tkF (ltL sg (4 * (i + 1) + j))).1) (hj : j < 4) (hfl : ∀ j, j < 4 → fl j = nI (lg j)) (hlg : ∀ j, lg j < 3) (hbd : ∀ n, n < its.length → ∀ t, Tf its lg st j n = some t → ∀ k, (adAll (liN (Tf its lg st j) n) (t.take k)).length ≤ 600) : Met l yMo_list (.code yMo_list cMo_list 4 none :: hwG) ({ frames := 3, cells := 0, slots := 0, locals := 73 } : Room) (hwPc D vwCl (hwT K) [.ref a, .int (nI j)] X sz) (hwQv D vwCl X sz (fun Y => ∃ (rwz rtz : List (List Nat)) (nwz : Nat), hwF X Y (fun M => M = 1000 ∨ M = 1008 ∨ M = 1009 ∨ M = 1014) ∧ hwH Y a 1000 (.inr (10, [.int (nI tz), .int (nI nr), .ref r1, .int (nI ng), .ref r2, .ref r3, .ref r4, .ref r5, .int (nI ns), .ref r6, .int (nI nz), .ref r7, .int (nI na), .ref r8, .ref r9, .ref r10, .int (nI nwz), .int (nI nh), .ref r11, .ref r12, .ref r13, .ref r14, .int (nI ((liN (Tf its lg st j) its.length).length)), .ref r15])) ∧ rwAt K Y r8 1008 800 rwz ∧ rwAt K Y r9 1009 800 rtz ∧ rwAt K Y r14 1014 800 (liN (Tf its lg st j) its.length))) 0 0 (va_A X.1 sz) := by
  refine hwMetv (cc := cMo_list) (maxL := 4) (by decide) rfl (Nat.le_of_ble_eq_true rfl) (fun p e s m args below meth c ls A Q hx hb hml hown hts hname hret hK hO hZ hA hl => ?_)
  have hl : lv_has ls 4 [(0, .ref a), (1, .int (nI j))] := hl
  have hFr : hwF X X (fun M => M = 1000 ∨ M = 1008 ∨ M = 1009 ∨ M = 1014) := hwF.rf
  refine lv_aload_n hx hb dMo_list_0 rfl (lv_at hl 0 rfl) ?_
  refine lv_iconst (v := nI 0) hx hb dMo_list_1 (by decide) ?_
  refine hw_put (ty := .int) (fs' := [.int (nI tz), .int (nI nr), .ref r1, .int (nI ng), .ref r2, .ref r3, .ref r4, .ref r5, .int (nI ns), .ref r6, .int (nI nz), .ref r7, .int (nI na), .ref r8, .ref r9, .ref r10, .int (nI nw), .int (nI nh), .ref r11, .ref r12, .ref r13, .ref r14, .int (nI 0), .ref r15]) hx hb hts (hwInn inMo) tyMo tyMo_ok nmMo hown hK hZ f0_ rfl 22 (by decide) (hts (.fieldLink RMo 161 RMo "termCount" "I") (hwMem mm_413)) (fun _ h => h) rfl (by decide +kernel) rfl rfl (Nat.le_of_ble_eq_true rfl) rfl dMo_list_2 (fun X_1 H_2 lc_3 hZ hF hNw => ?_)
  have hFr := hwF.tr hFr hF (fun _ h => h) (fun M h => by first | exact False.elim h | ((try dsimp only at h ⊢); omega))
  have f0_ := hNw
  have f1_ := hF _ _ _ (by intro hNS; first | exact False.elim hNS | ((try dsimp only at hNS); omega)) f1_
  have f2_ := hF _ _ _ (by intro hNS; first | exact False.elim hNS | ((try dsimp only at hNS); omega)) f2_
  have f3_ := hF _ _ _ (by intro hNS; first | exact False.elim hNS | ((try dsimp only at hNS); omega)) f3_
  have f4_ := hF _ _ _ (by intro hNS; first | exact False.elim hNS | ((try dsimp only at hNS); omega)) f4_
  have f5_ := rwAt.fr hF (by intro hNS; first | exact False.elim hNS | ((try dsimp only at hNS); omega)) f5_
  have f6_ := rwAt.fr hF (by intro hNS; first | exact False.elim hNS | ((try dsimp only at hNS); omega)) f6_
  have f7_ := rwAt.fr hF (by intro hNS; first | exact False.elim hNS | ((try dsimp only at hNS); omega)) f7_
  have f8_ := rwAt.fr hF (by intro hNS; first | exact False.elim hNS | ((try dsimp only at hNS); omega)) f8_
  have f8_ := rwAt.clr f8_
  refine lv_iconst (v := nI 1) hx hb dMo_list_5 (by decide) ?_
  refine lv_istore_n (lv' := [(2, .int (nI 1)), (0, .ref a), (1, .int (nI j))]) hx hb dMo_list_6 rfl hl (by decide) rfl (fun ls hl => ?_)
  have loop7 : ∀ (fuel : Nat) (n : Nat) (lz : List (List Nat)) (rw : List (List Nat)) (rt : List (List Nat)) (nw1 : Nat) (XL7 : hwW) (Hh : Heap) (lcs : List Loc) (ls : Array Slot), its.length + 1 - n < fuel → (1 ≤ n) → (n ≤ its.length + 1) → (lz = liN (Tf its lg st j) (n - 1)) → (hwF X XL7 (fun M => M = 1000 ∨ M = 1008 ∨ M = 1009 ∨ M = 1014)) → (hwH XL7 a 1000 (.inr (10, [.int (nI tz), .int (nI nr), .ref r1, .int (nI ng), .ref r2, .ref r3, .ref r4, .ref r5, .int (nI ns), .ref r6, .int (nI nz), .ref r7, .int (nI na), .ref r8, .ref r9, .ref r10, .int (nI nw1), .int (nI nh), .ref r11, .ref r12, .ref r13, .ref r14, .int (nI lz.length), .ref r15]))) → (hwH XL7 r1 1001 (.inl (K 2, 31, .inl ft))) → (hwH XL7 r2 1002 (.inl (K 3, 1500, .inl fg))) → (hwH XL7 r3 1003 (.inl (K 0, 1500, .inl fp))) → (hwH XL7 r4 1004 (.inl (K 0, 4, .inl fl))) → (rwAt K XL7 r5 1005 40 st) → (rwAt K XL7 r8 1008 800 rw) → (rwAt K XL7 r9 1009 800 rt) → (rwAt K XL7 r14 1014 800 lz) → hwZ D vwCl A s.heap XL7 Hh lcs → lv_has ls 4 [(2, .int (nI n)), (1, .int (nI j)), (0, .ref a)] → W p l e ({ frames := 3, cells := 0, slots := 0, locals := 73 } : Room) s m args below meth c Hh lcs 0 0 Q (F0 m 7 ls []) := by
    intro fuel; induction fuel with
    | zero => intro n lz rw rt nw1 XL7 Hh lcs ls hfu; exact absurd hfu (Nat.not_lt_zero _)
    | succ fuel ih7 =>
      intro n lz rw rt nw1 XL7 Hh lcs ls hfu7 hn1 hn2 hlz hFr gx gth gg gp gl gst gq gt gtm hZ hl
      refine lv_iload_n hx hb dMo_list_7 rfl (lv_at hl 0 rfl) ?_
      refine lv_aload_n hx hb dMo_list_8 rfl (lv_at hl 2 rfl) ?_
      refine hw_get hx hb hts (hwInn inMo) hown hK hZ gx rfl 1 (by decide) (hts (.fieldLink RMo 62 RMo "records" "I") (hwMem mm_418)) (fun _ h => h) rfl dMo_list_9 ?_
      refine hw_ic_gt (a := n) (b := nr) (tgt := 62) hx hb dMo_list_12 (by decide) (by omega) (by omega) (fun cq_4 => ?_) (fun cq_4 => ?_)
      · exact hret hZ ⟨rw, rt, nw1, hFr, by rw [show its.length = n - 1 by omega, ← hlz]; exact gx, gq, gt, by rw [show its.length = n - 1 by omega, ← hlz]; exact gtm⟩ dMo_list_62
      · refine lv_aload_n hx hb dMo_list_15 rfl (lv_at hl 2 rfl) ?_
        refine hw_get hx hb hts (hwInn inMo) hown hK hZ gx rfl 2 (by decide) (hts (.fieldLink RMo 7 RMo "there" "[Z") (hwMem mm_419)) (fun _ h => h) rfl dMo_list_16 ?_
        refine lv_iload_n hx hb dMo_list_19 rfl (lv_at hl 0 rfl) ?_
        refine hw_zald hx hb hK hZ 2 gth rfl (j := n) (by omega) (by omega) dMo_list_20 ?_
        have hft9 := hft (n - 1) (by omega)
        rw [show n - 1 + 1 = n by omega] at hft9
        refine hw_topi hft9 ?_
        refine hw_bz_eq (tgt := 56) hx hb dMo_list_21 (by decide) (fun cq_5 => ?_) (fun cq_5 => ?_)
        · refine lv_iinc (v := nI (n + 1)) (lv' := [(2, .int (nI (n + 1))), (1, .int (nI j)), (0, .ref a)]) hx hb dMo_list_56 hl (k := 0) rfl (nI_add _ 1) (by decide) rfl (fun ls hl => ?_)
          refine lv_goto (tgt := 7) hx hb dMo_list_59 (by decide) ?_
          exact ih7 (n + 1) lz rw rt nw1 _ _ _ _ (by omega) (by omega) (by omega) (liN_none (by omega) hlz (Tf_f cq_5)) hFr gx gth gg gp gl gst gq gt gtm hZ (lv_sub hl [0, 1, 2] rfl)
        · refine lv_aload_n hx hb dMo_list_24 rfl (lv_at hl 2 rfl) ?_
          refine lv_iload_n hx hb dMo_list_25 rfl (lv_at hl 0 rfl) ?_
          refine lv_iload_n hx hb dMo_list_26 rfl (lv_at hl 1 rfl) ?_
          refine hw_callv (va_runV (As := [.int (nI n), .int (nI j)]) (rest := []) ⟨hx, hb, hml, hown, hts⟩ (m_gather l D K XL7 Hh.size (a := a) (r1 := r1) (r2 := r2) (r3 := r3) (r4 := r4) (r5 := r5) (r6 := r6) (r7 := r7) (r8 := r8) (r9 := r9) (r10 := r10) (r11 := r11) (r12 := r12) (r13 := r13) (r14 := r14) (r15 := r15) (tz := tz) (nr := nr) (ng := ng) (ns := ns) (nz := nz) (na := na) (nw := nw1) (nh := nh) (nt := lz.length) (fg := fg) (fp := fp) (fl := fl) (st := st) (rw0 := rw) (rt0 := rt) (sg := sg) (n := n) (j := j) (g := (lg j)) gx gg gp gl gst gq gt (by omega) (by omega) (by omega) (by assumption) (by assumption) (by assumption) (by omega) (by omega) (hfl j hj) (hlg j)) (cwV 2 hts (hwGood (hw_4 mm_421 mm_422 mm_423 mm_365 (hwAll mm_420))) rfl rfl rfl (by decide +kernel) ⟨Nat.le_of_ble_eq_true rfl, Nat.le_of_ble_eq_true rfl⟩) (hw_preV hK hO hZ (⟨_, _, gx⟩) rfl) rfl rfl hl.1 rfl (lv_room (Nat.le_of_ble_eq_true rfl)) dMo_list_27 ⟨(show 0 + 0 ≤ 0 by omega), (show 0 + 0 ≤ 0 by omega)⟩) hZ hA (fun X_6 H_7 lc_8 hp hZ => ?_)
          obtain ⟨hF, hN_9, hN_10, hN_11⟩ := hp
          have hFr := hwF.tr hFr hF (fun _ h => h) (fun M h => by first | exact False.elim h | ((try dsimp only at h ⊢); omega))
          have gth := hF _ _ _ (by intro hNS; first | exact False.elim hNS | ((try dsimp only at hNS); omega)) gth
          have gg := hF _ _ _ (by intro hNS; first | exact False.elim hNS | ((try dsimp only at hNS); omega)) gg
          have gp := hF _ _ _ (by intro hNS; first | exact False.elim hNS | ((try dsimp only at hNS); omega)) gp
          have gl := hF _ _ _ (by intro hNS; first | exact False.elim hNS | ((try dsimp only at hNS); omega)) gl
          have gst := rwAt.fr hF (by intro hNS; first | exact False.elim hNS | ((try dsimp only at hNS); omega)) gst
          have gtm := rwAt.fr hF (by intro hNS; first | exact False.elim hNS | ((try dsimp only at hNS); omega)) gtm
          have ff_12 := hN_9
          have ff_13 := hN_10
          have ff_14 := hN_11
          have htx9 := htx (n - 1) (by omega) j hj
          rw [show n - 1 + 1 = n by omega] at htx9
          rw [← htx9] at ff_12 ff_13 ff_14
          have hwn : ((its.getD (n - 1) hwIt0).2 j).1.length ≤ 600 := by rw [htx9]; exact Nat.le_trans (tkF_len _) (Nat.le_trans (ltL_len _ _) hsl)
          have hmp : (((its.getD (n - 1) hwIt0).2 j).1.map (trm (lg j) st)).length = ((its.getD (n - 1) hwIt0).2 j).1.length := List.length_map _
          refine lv_iconst (v := nI 0) hx hb dMo_list_30 (by decide) ?_
          refine lv_istore_n (lv' := [(3, .int (nI 0)), (2, .int (nI n)), (1, .int (nI j)), (0, .ref a)]) hx hb dMo_list_31 rfl hl (by decide) rfl (fun ls hl => ?_)
          have loop32 : ∀ (fuel : Nat) (k : Nat) (uz : List (List Nat)) (XL32 : hwW) (Hh : Heap) (lcs : List Loc) (ls : Array Slot), ((its.getD (n - 1) hwIt0).2 j).1.length - k < fuel → (k ≤ ((its.getD (n - 1) hwIt0).2 j).1.length) → (uz = adAll lz ((((its.getD (n - 1) hwIt0).2 j).1.map (trm (lg j) st)).take k)) → (hwF X XL32 (fun M => M = 1000 ∨ M = 1008 ∨ M = 1009 ∨ M = 1014)) → (hwH XL32 a 1000 (.inr (10, [.int (nI tz), .int (nI nr), .ref r1, .int (nI ng), .ref r2, .ref r3, .ref r4, .ref r5, .int (nI ns), .ref r6, .int (nI nz), .ref r7, .int (nI na), .ref r8, .ref r9, .ref r10, .int (nI (((its.getD (n - 1) hwIt0).2 j).1.length)), .int (nI nh), .ref r11, .ref r12, .ref r13, .ref r14, .int (nI uz.length), .ref r15]))) → (hwH XL32 r1 1001 (.inl (K 2, 31, .inl ft))) → (hwH XL32 r2 1002 (.inl (K 3, 1500, .inl fg))) → (hwH XL32 r3 1003 (.inl (K 0, 1500, .inl fp))) → (hwH XL32 r4 1004 (.inl (K 0, 4, .inl fl))) → (rwAt K XL32 r5 1005 40 st) → (rwAt K XL32 r8 1008 800 (((its.getD (n - 1) hwIt0).2 j).1)) → (rwAt K XL32 r9 1009 800 (((its.getD (n - 1) hwIt0).2 j).1.map (trm (lg j) st))) → (rwAt K XL32 r14 1014 800 uz) → hwZ D vwCl A s.heap XL32 Hh lcs → lv_has ls 4 [(3, .int (nI k)), (2, .int (nI n)), (1, .int (nI j)), (0, .ref a)] → W p l e ({ frames := 3, cells := 0, slots := 0, locals := 73 } : Room) s m args below meth c Hh lcs 0 0 Q (F0 m 32 ls []) := by
            intro fuel; induction fuel with
            | zero => intro k uz XL32 Hh lcs ls hfu; exact absurd hfu (Nat.not_lt_zero _)
            | succ fuel ih32 =>
              intro k uz XL32 Hh lcs ls hfu32 hk huz hFr gx gth gg gp gl gst gq gt gtm hZ hl
              have hu6 : uz.length ≤ 600 := huz ▸ (hlz ▸ hbd (n - 1) (by omega) _ (Tf_t cq_5) k)
              have hus : uz.Pairwise (· < ·) := huz ▸ sorted_adAll (hlz ▸ sorted_liN _)
              refine lv_iload_n hx hb dMo_list_32 rfl (lv_at hl 0 rfl) ?_
              refine lv_aload_n hx hb dMo_list_33 rfl (lv_at hl 3 rfl) ?_
              refine hw_get hx hb hts (hwInn inMo) hown hK hZ gx rfl 16 (by decide) (hts (.fieldLink RMo 94 RMo "rowCount" "I") (hwMem mm_387)) (fun _ h => h) rfl dMo_list_34 ?_
              refine hw_ic_ge (a := k) (b := ((its.getD (n - 1) hwIt0).2 j).1.length) (tgt := 56) hx hb dMo_list_37 (by decide) (by omega) (by omega) (fun cq_15 => ?_) (fun cq_15 => ?_)
              · refine lv_iinc (v := nI (n + 1)) (lv' := [(2, .int (nI (n + 1))), (3, .int (nI k)), (1, .int (nI j)), (0, .ref a)]) hx hb dMo_list_56 hl (k := 1) rfl (nI_add _ 1) (by decide) rfl (fun ls hl => ?_)
                refine lv_goto (tgt := 7) hx hb dMo_list_59 (by decide) ?_
                exact ih7 (n + 1) uz (((its.getD (n - 1) hwIt0).2 j).1) (((its.getD (n - 1) hwIt0).2 j).1.map (trm (lg j) st)) (((its.getD (n - 1) hwIt0).2 j).1.length) _ _ _ _ (by omega) (by omega) (by omega) (by rw [huz, show (((its.getD (n - 1) hwIt0).2 j).1.map (trm (lg j) st)).take k = (((its.getD (n - 1) hwIt0).2 j).1.map (trm (lg j) st)) from List.take_of_length_le (by omega)]; exact liN_some (by omega) hlz (Tf_t cq_5)) hFr gx gth gg gp gl gst gq gt gtm hZ (lv_sub hl [0, 2, 3] rfl)
              · obtain ⟨f9, g9, hN9, hv9, hk9⟩ := gt
                have gt : rwAt K XL32 r9 1009 800 (((its.getD (n - 1) hwIt0).2 j).1.map (trm (lg j) st)) := ⟨f9, g9, hN9, hv9, hk9⟩
                have hR2 := fun j => okWs.at hk9 j
                refine lv_aload_n hx hb dMo_list_40 rfl (lv_at hl 3 rfl) ?_
                refine lv_aload_n hx hb dMo_list_41 rfl (lv_at hl 3 rfl) ?_
                refine hw_get hx hb hts (hwInn inMo) hown hK hZ gx rfl 14 (by decide) (hts (.fieldLink RMo 37 RMo "rowTerm" "[J") (hwMem mm_389)) (fun _ h => h) rfl dMo_list_42 ?_
                refine lv_iload_n hx hb dMo_list_45 rfl (lv_at hl 0 rfl) ?_
                refine hw_lald hx hb hK hZ 1 g9 rfl (j := k) (by omega) (by omega) dMo_list_46 ?_
                refine hw_topl (hv9 k (by omega)) ?_
                refine hw_callv (va_runV (As := [.long (lN (rW ((((its.getD (n - 1) hwIt0).2 j).1.map (trm (lg j) st)).getD k [])))]) (rest := []) ⟨hx, hb, hml, hown, hts⟩ (m_put l D K XL32 Hh.size (a := a) (r1 := r1) (r2 := r2) (r3 := r3) (r4 := r4) (r5 := r5) (r6 := r6) (r7 := r7) (r8 := r8) (r9 := r9) (r10 := r10) (r11 := r11) (r12 := r12) (r13 := r13) (r14 := r14) (r15 := r15) (tz := tz) (nr := nr) (ng := ng) (ns := ns) (nz := nz) (na := na) (nw := ((its.getD (n - 1) hwIt0).2 j).1.length) (nh := nh) (nt := uz.length) (tm := uz) (w := ((((its.getD (n - 1) hwIt0).2 j).1.map (trm (lg j) st)).getD k [])) gx gtm (by omega) hus (by omega) (hR2 k)) (cwV 1 hts (hwGood (hw_4 mm_425 mm_426 mm_427 mm_365 (hwAll mm_424))) rfl rfl rfl (by decide +kernel) ⟨Nat.le_of_ble_eq_true rfl, Nat.le_of_ble_eq_true rfl⟩) (hw_preV hK hO hZ (⟨_, _, gx⟩) rfl) rfl rfl hl.1 rfl (lv_room (Nat.le_of_ble_eq_true rfl)) dMo_list_47 ⟨(show 0 + 0 ≤ 0 by omega), (show 0 + 0 ≤ 0 by omega)⟩) hZ hA (fun X_16 H_17 lc_18 hp hZ => ?_)
                obtain ⟨hF, hN_19, hN_20⟩ := hp
                have hFr := hwF.tr hFr hF (fun _ h => h) (fun M h => by first | exact False.elim h | ((try dsimp only at h ⊢); omega))
                have gth := hF _ _ _ (by intro hNS; first | exact False.elim hNS | ((try dsimp only at hNS); omega)) gth
                have gg := hF _ _ _ (by intro hNS; first | exact False.elim hNS | ((try dsimp only at hNS); omega)) gg
                have gp := hF _ _ _ (by intro hNS; first | exact False.elim hNS | ((try dsimp only at hNS); omega)) gp
                have gl := hF _ _ _ (by intro hNS; first | exact False.elim hNS | ((try dsimp only at hNS); omega)) gl
                have gst := rwAt.fr hF (by intro hNS; first | exact False.elim hNS | ((try dsimp only at hNS); omega)) gst
                have gq := rwAt.fr hF (by intro hNS; first | exact False.elim hNS | ((try dsimp only at hNS); omega)) gq
                have gt := rwAt.fr hF (by intro hNS; first | exact False.elim hNS | ((try dsimp only at hNS); omega)) gt
                have ff_21 := hN_19
                have ff_22 := hN_20
                refine lv_iinc (v := nI (k + 1)) (lv' := [(3, .int (nI (k + 1))), (2, .int (nI n)), (1, .int (nI j)), (0, .ref a)]) hx hb dMo_list_50 hl (k := 0) rfl (nI_add _ 1) (by decide) rfl (fun ls hl => ?_)
                refine lv_goto (tgt := 32) hx hb dMo_list_53 (by decide) ?_
                exact ih32 (k + 1) (adW uz ((((its.getD (n - 1) hwIt0).2 j).1.map (trm (lg j) st)).getD k [])) _ _ _ _ (by omega) (by omega) (by rw [adAll_take (by omega), ← huz]) hFr ff_21 gth gg gp gl gst gq gt ff_22 hZ (lv_sub hl [0, 1, 2, 3] rfl)
          exact loop32 (((its.getD (n - 1) hwIt0).2 j).1.length - 0 + 1) 0 lz _ _ _ _ (by omega) (by omega) (by rw [List.take_zero]; rfl) hFr ff_12 gth gg gp gl gst ff_13 ff_14 gtm hZ (lv_sub hl [0, 1, 2, 3] rfl)
  exact loop7 (its.length + 1 - 1 + 1) 1 ([]) rw0 rt0 nw _ _ _ _ (by omega) (by omega) (by omega) rfl hFr f0_ f1_ f2_ f3_ f4_ f5_ f6_ f7_ f8_ hZ (lv_sub hl [0, 2, 1] rfl)
set_option maxHeartbeats 4000000 in
set_option maxRecDepth 100000 in
theorem m_dist (l : Launch) (D : va_G) (K : Nat → ClassId) (X : hwW) (sz : Nat) (a : Nat) (r1 : Nat) (r2 : Nat) (r3 : Nat) (r4 : Nat) (r5 : Nat) (r6 : Nat) (r7 : Nat) (r8 : Nat) (r9 : Nat) (r10 : Nat) (r11 : Nat) (r12 : Nat) (r13 : Nat) (r14 : Nat) (r15 : Nat) (tz : Nat) (nr : Nat) (ng : Nat) (ns : Nat) (nz : Nat) (na : Nat) (nw : Nat) (nh : Nat) (nt : Nat) (y0 : Nat → Int32) (f : List Nat) (t : List Nat) (f0_ : hwH X a 1000 (.inr (10, [.int (nI tz), .int (nI nr), .ref r1, .int (nI ng), .ref r2, .ref r3, .ref r4, .ref r5, .int (nI ns), .ref r6, .int (nI nz), .ref r7, .int (nI na), .ref r8, .ref r9, .ref r10, .int (nI nw), .int (nI nh), .ref r11, .ref r12, .ref r13, .ref r14, .int (nI nt), .ref r15]))) (f1_ : hwH X r15 1015 (.inl (K 0, 169, .inl y0))) (hf : okW f) (ht : okW t) : Met l yMo_distance (.code yMo_distance cMo_distance 10 (some .int) :: hwG) ({ frames := 1, cells := 0, slots := 0, locals := 23 } : Room) (hwPc D vwCl (hwT K) [.ref a, .long (lN (rW f)), .long (lN (rW t))] X sz) (hwQi D vwCl X sz (fun r Y => ∃ yz : Nat → Int32, r = nI (distL f t) ∧ hwF X Y (fun M => M = 1015) ∧ hwH Y r15 1015 (.inl (K 0, 169, .inl yz)))) 0 0 (va_A X.1 sz) := by
  refine hwMeti (cc := cMo_distance) (maxL := 10) (by decide) rfl (Nat.le_of_ble_eq_true rfl) (fun p e s m args below meth c ls A Q hx hb hml hown hts hname hret hK hO hZ hA hl => ?_)
  have hl : lv_has ls 10 [(0, .ref a), (1, .long (lN (rW f))), (3, .long (lN (rW t)))] := hl
  have hFr : hwF X X (fun M => M = 1015) := hwF.rf
  have hf12 := hf.1
  have ht12 := ht.1
  refine lv_lload_n hx hb dMo_distance_0 rfl (lv_at hl 1 rfl) ?_
  refine hw_calli (va_runS (As := [.long (lN (rW f))]) (rest := []) ⟨hx, hb, hml, hown, hts⟩ (m_length l D K X s.heap.size (w := f) (by assumption)) (va_cwS 1 hts (hwGood (hw_3 mm_364 mm_363 mm_365 (hwAll mm_362))) rfl rfl rfl (by decide +kernel) ⟨Nat.le_of_ble_eq_true rfl, Nat.le_of_ble_eq_true rfl⟩) (hw_preS hK hO hZ) rfl rfl hl.1 rfl (lv_room (Nat.le_of_ble_eq_true rfl)) dMo_distance_1 ⟨(show 0 + 0 ≤ 0 by omega), (show 0 + 0 ≤ 0 by omega)⟩) hZ hA (fun r X_1 H_2 lc_3 hp hZ => ?_)
  obtain ⟨hr, hy, xx_4⟩ := hp
  subst hy
  refine hw_topi hr ?_
  refine lv_istore (lv' := [(5, .int (nI f.length)), (0, .ref a), (1, .long (lN (rW f))), (3, .long (lN (rW t)))]) hx hb dMo_distance_4 hl (by decide) rfl (fun ls hl => ?_)
  refine lv_lload_n hx hb dMo_distance_6 rfl (lv_at hl 3 rfl) ?_
  refine hw_calli (va_runS (As := [.long (lN (rW t))]) (rest := []) ⟨hx, hb, hml, hown, hts⟩ (m_length l D K X H_2.size (w := t) (by assumption)) (va_cwS 1 hts (hwGood (hw_3 mm_364 mm_363 mm_365 (hwAll mm_362))) rfl rfl rfl (by decide +kernel) ⟨Nat.le_of_ble_eq_true rfl, Nat.le_of_ble_eq_true rfl⟩) (hw_preS hK hO hZ) rfl rfl hl.1 rfl (lv_room (Nat.le_of_ble_eq_true rfl)) dMo_distance_7 ⟨(show 0 + 0 ≤ 0 by omega), (show 0 + 0 ≤ 0 by omega)⟩) hZ hA (fun r X_5 H_6 lc_7 hp hZ => ?_)
  obtain ⟨hr, hy, xx_8⟩ := hp
  subst hy
  refine hw_topi hr ?_
  refine lv_istore (lv' := [(6, .int (nI t.length)), (5, .int (nI f.length)), (0, .ref a), (1, .long (lN (rW f))), (3, .long (lN (rW t)))]) hx hb dMo_distance_10 hl (by decide) rfl (fun ls hl => ?_)
  refine lv_iconst (v := nI 0) hx hb dMo_distance_12 (by decide) ?_
  refine lv_istore (lv' := [(7, .int (nI 0)), (6, .int (nI t.length)), (5, .int (nI f.length)), (0, .ref a), (1, .long (lN (rW f))), (3, .long (lN (rW t)))]) hx hb dMo_distance_13 hl (by decide) rfl (fun ls hl => ?_)
  have loop15 : ∀ (fuel : Nat) (i : Nat) (y : Nat → Int32) (XL15 : hwW) (Hh : Heap) (lcs : List Loc) (ls : Array Slot), f.length + 1 - i < fuel → (i ≤ f.length + 1) → (∀ u, u < i → ∀ v, v ≤ t.length → y (13 * u + v) = nI (DL f t u v)) → (hwF X XL15 (fun M => M = 1015)) → (hwH XL15 a 1000 (.inr (10, [.int (nI tz), .int (nI nr), .ref r1, .int (nI ng), .ref r2, .ref r3, .ref r4, .ref r5, .int (nI ns), .ref r6, .int (nI nz), .ref r7, .int (nI na), .ref r8, .ref r9, .ref r10, .int (nI nw), .int (nI nh), .ref r11, .ref r12, .ref r13, .ref r14, .int (nI nt), .ref r15]))) → (hwH XL15 r15 1015 (.inl (K 0, 169, .inl y))) → hwZ D vwCl A s.heap XL15 Hh lcs → lv_has ls 10 [(7, .int (nI i)), (5, .int (nI f.length)), (6, .int (nI t.length)), (0, .ref a), (1, .long (lN (rW f))), (3, .long (lN (rW t)))] → W p l e ({ frames := 1, cells := 0, slots := 0, locals := 23 } : Room) s m args below meth c Hh lcs 0 0 Q (F0 m 15 ls []) := by
    intro fuel; induction fuel with
    | zero => intro i y XL15 Hh lcs ls hfu; exact absurd hfu (Nat.not_lt_zero _)
    | succ fuel ih15 =>
      intro i y XL15 Hh lcs ls hfu15 hi hy hFr gx gt hZ hl
      refine lv_iload hx hb dMo_distance_15 (lv_at hl 0 rfl) ?_
      refine lv_iload hx hb dMo_distance_17 (lv_at hl 1 rfl) ?_
      refine hw_ic_gt (a := i) (b := f.length) (tgt := 181) hx hb dMo_distance_19 (by decide) (by omega) (by omega) (fun cq_9 => ?_) (fun cq_9 => ?_)
      · refine lv_aload_n hx hb dMo_distance_181 rfl (lv_at hl 3 rfl) ?_
        refine hw_get hx hb hts (hwInn inMo) hown hK hZ gx rfl 23 (by decide) (hts (.fieldLink RMo 55 RMo "table" "[I") (hwMem mm_428)) (fun _ h => h) rfl dMo_distance_182 ?_
        refine lv_bipush (v := nI 13) hx hb dMo_distance_185 (by decide) ?_
        refine lv_iload hx hb dMo_distance_187 (lv_at hl 1 rfl) ?_
        refine lv_imul hx hb dMo_distance_189 ?_
        refine hw_topi (pk_mul 13 f.length) ?_
        refine lv_iload hx hb dMo_distance_190 (lv_at hl 2 rfl) ?_
        refine lv_iadd hx hb dMo_distance_192 ?_
        refine hw_topi (nI_add (13 * f.length) t.length) ?_
        refine hw_iald hx hb hK hZ 0 gt rfl (j := 13 * f.length + t.length) (by omega) (by omega) dMo_distance_193 ?_
        exact hret hZ ⟨y, by rw [hy f.length (by omega) t.length (Nat.le_refl _), DL_end], hFr, gt⟩ dMo_distance_194
      · refine lv_iconst (v := nI 0) hx hb dMo_distance_22 (by decide) ?_
        refine lv_istore (lv' := [(8, .int (nI 0)), (7, .int (nI i)), (5, .int (nI f.length)), (6, .int (nI t.length)), (0, .ref a), (1, .long (lN (rW f))), (3, .long (lN (rW t)))]) hx hb dMo_distance_23 hl (by decide) rfl (fun ls hl => ?_)
        have loop25 : ∀ (fuel : Nat) (j : Nat) (y : Nat → Int32) (XL25 : hwW) (Hh : Heap) (lcs : List Loc) (ls : Array Slot), t.length + 1 - j < fuel → (j ≤ t.length + 1) → (∀ u, u < i → ∀ v, v ≤ t.length → y (13 * u + v) = nI (DL f t u v)) → (∀ v, v < j → y (13 * i + v) = nI (DL f t i v)) → (hwF X XL25 (fun M => M = 1015)) → (hwH XL25 a 1000 (.inr (10, [.int (nI tz), .int (nI nr), .ref r1, .int (nI ng), .ref r2, .ref r3, .ref r4, .ref r5, .int (nI ns), .ref r6, .int (nI nz), .ref r7, .int (nI na), .ref r8, .ref r9, .ref r10, .int (nI nw), .int (nI nh), .ref r11, .ref r12, .ref r13, .ref r14, .int (nI nt), .ref r15]))) → (hwH XL25 r15 1015 (.inl (K 0, 169, .inl y))) → hwZ D vwCl A s.heap XL25 Hh lcs → lv_has ls 10 [(8, .int (nI j)), (7, .int (nI i)), (5, .int (nI f.length)), (6, .int (nI t.length)), (0, .ref a), (1, .long (lN (rW f))), (3, .long (lN (rW t)))] → W p l e ({ frames := 1, cells := 0, slots := 0, locals := 23 } : Room) s m args below meth c Hh lcs 0 0 Q (F0 m 25 ls []) := by
          intro fuel; induction fuel with
          | zero => intro j y XL25 Hh lcs ls hfu; exact absurd hfu (Nat.not_lt_zero _)
          | succ fuel ih25 =>
            intro j y XL25 Hh lcs ls hfu25 hj hy hz hFr gx gt hZ hl
            refine lv_iload hx hb dMo_distance_25 (lv_at hl 0 rfl) ?_
            refine lv_iload hx hb dMo_distance_27 (lv_at hl 3 rfl) ?_
            refine hw_ic_gt (a := j) (b := t.length) (tgt := 175) hx hb dMo_distance_29 (by decide) (by omega) (by omega) (fun cq_10 => ?_) (fun cq_10 => ?_)
            · refine lv_iinc (v := nI (i + 1)) (lv' := [(7, .int (nI (i + 1))), (8, .int (nI j)), (5, .int (nI f.length)), (6, .int (nI t.length)), (0, .ref a), (1, .long (lN (rW f))), (3, .long (lN (rW t)))]) hx hb dMo_distance_175 hl (k := 1) rfl (nI_add _ 1) (by decide) rfl (fun ls hl => ?_)
              refine lv_goto (tgt := 15) hx hb dMo_distance_178 (by decide) ?_
              exact ih15 (i + 1) y _ _ _ _ (by omega) (by omega) (fun u hu v hv => (Nat.lt_or_eq_of_le (Nat.le_of_lt_succ hu)).elim (fun z => hy u z v hv) (fun z => by subst z; exact hz v (by omega))) hFr gx gt hZ (lv_sub hl [0, 2, 3, 4, 5, 6] rfl)
            · refine lv_iload hx hb dMo_distance_32 (lv_at hl 1 rfl) ?_
              refine hw_if_ne (a := i) (tgt := 42) hx hb dMo_distance_34 (by decide) (by omega) (fun cq_11 => ?_) (fun cq_11 => ?_)
              · refine lv_iload hx hb dMo_distance_42 (lv_at hl 0 rfl) ?_
                refine hw_if_ne (a := j) (tgt := 52) hx hb dMo_distance_44 (by decide) (by omega) (fun cq_12 => ?_) (fun cq_12 => ?_)
                · refine lv_aload_n hx hb dMo_distance_52 rfl (lv_at hl 4 rfl) ?_
                  refine hw_get hx hb hts (hwInn inMo) hown hK hZ gx rfl 23 (by decide) (hts (.fieldLink RMo 55 RMo "table" "[I") (hwMem mm_428)) (fun _ h => h) rfl dMo_distance_53 ?_
                  refine lv_bipush (v := nI 13) hx hb dMo_distance_56 (by decide) ?_
                  refine lv_iload hx hb dMo_distance_58 (lv_at hl 1 rfl) ?_
                  refine lv_iconst (v := nI 1) hx hb dMo_distance_60 (by decide) ?_
                  refine lv_isub hx hb dMo_distance_61 ?_
                  refine hw_topi (pk_sub (a := i) (b := 1) (by omega)) ?_
                  refine lv_imul hx hb dMo_distance_62 ?_
                  refine hw_topi (pk_mul 13 (i - 1)) ?_
                  refine lv_iload hx hb dMo_distance_63 (lv_at hl 0 rfl) ?_
                  refine lv_iadd hx hb dMo_distance_65 ?_
                  refine hw_topi (nI_add (13 * (i - 1)) j) ?_
                  refine lv_iconst (v := nI 1) hx hb dMo_distance_66 (by decide) ?_
                  refine lv_isub hx hb dMo_distance_67 ?_
                  refine hw_topi (pk_sub (a := 13 * (i - 1) + j) (b := 1) (by omega)) ?_
                  refine hw_iald hx hb hK hZ 0 gt rfl (j := 13 * (i - 1) + j - 1) (by omega) (by omega) dMo_distance_68 ?_
                  refine hw_topi (y := nI (DL f t (i - 1) (j - 1))) (by rw [show 13 * (i - 1) + j - 1 = 13 * (i - 1) + (j - 1) by omega]; exact hy (i - 1) (by omega) (j - 1) (by omega)) ?_
                  have hbd_im1_jm1 := DL_le (f := f) (t := t) (i := i - 1) (j := j - 1) (by omega) (by omega)
                  refine lv_lload_n hx hb dMo_distance_69 rfl (lv_at hl 5 rfl) ?_
                  refine lv_iload hx hb dMo_distance_70 (lv_at hl 2 rfl) ?_
                  refine lv_iload hx hb dMo_distance_72 (lv_at hl 1 rfl) ?_
                  refine lv_iconst (v := nI 1) hx hb dMo_distance_74 (by decide) ?_
                  refine lv_isub hx hb dMo_distance_75 ?_
                  refine hw_topi (pk_sub (a := i) (b := 1) (by omega)) ?_
                  refine hw_calli (va_runS (As := [.long (lN (rW f)), .int (nI f.length), .int (nI (i - 1))]) (rest := [.int (nI (DL f t (i - 1) (j - 1)))]) ⟨hx, hb, hml, hown, hts⟩ (m_at l D K XL25 Hh.size (w := f) (k := i - 1) (by assumption) (by omega)) (va_cwS 3 hts (hwGood (hw_3 mm_431 mm_430 mm_365 (hwAll mm_429))) rfl rfl rfl (by decide +kernel) ⟨Nat.le_of_ble_eq_true rfl, Nat.le_of_ble_eq_true rfl⟩) (hw_preS hK hO hZ) rfl rfl hl.1 rfl (lv_room (Nat.le_of_ble_eq_true rfl)) dMo_distance_76 ⟨(show 0 + 0 ≤ 0 by omega), (show 0 + 0 ≤ 0 by omega)⟩) hZ hA (fun r X_13 H_14 lc_15 hp hZ => ?_)
                  obtain ⟨hr, hy, xx_16⟩ := hp
                  subst hy
                  refine hw_topi hr ?_
                  refine lv_lload_n hx hb dMo_distance_79 rfl (lv_at hl 6 rfl) ?_
                  refine lv_iload hx hb dMo_distance_80 (lv_at hl 3 rfl) ?_
                  refine lv_iload hx hb dMo_distance_82 (lv_at hl 0 rfl) ?_
                  refine lv_iconst (v := nI 1) hx hb dMo_distance_84 (by decide) ?_
                  refine lv_isub hx hb dMo_distance_85 ?_
                  refine hw_topi (pk_sub (a := j) (b := 1) (by omega)) ?_
                  refine hw_calli (va_runS (As := [.long (lN (rW t)), .int (nI t.length), .int (nI (j - 1))]) (rest := [.int (nI (f.getD (i - 1) 0)), .int (nI (DL f t (i - 1) (j - 1)))]) ⟨hx, hb, hml, hown, hts⟩ (m_at l D K XL25 H_14.size (w := t) (k := j - 1) (by assumption) (by omega)) (va_cwS 3 hts (hwGood (hw_3 mm_431 mm_430 mm_365 (hwAll mm_429))) rfl rfl rfl (by decide +kernel) ⟨Nat.le_of_ble_eq_true rfl, Nat.le_of_ble_eq_true rfl⟩) (hw_preS hK hO hZ) rfl rfl hl.1 rfl (lv_room (Nat.le_of_ble_eq_true rfl)) dMo_distance_86 ⟨(show 0 + 0 ≤ 0 by omega), (show 0 + 0 ≤ 0 by omega)⟩) hZ hA (fun r X_17 H_18 lc_19 hp hZ => ?_)
                  obtain ⟨hr, hy, xx_20⟩ := hp
                  subst hy
                  refine hw_topi hr ?_
                  refine hw_ic_ne (a := f.getD (i - 1) 0) (b := t.getD (j - 1) 0) (tgt := 96) hx hb dMo_distance_89 (by decide) (by omega) (by omega) (fun cq_21 => ?_) (fun cq_21 => ?_)
                  · refine lv_iconst (v := nI 1) hx hb dMo_distance_96 (by decide) ?_
                    refine lv_iadd hx hb dMo_distance_97 ?_
                    refine hw_topi (nI_add (DL f t (i - 1) (j - 1)) 1) ?_
                    refine lv_istore (lv' := [(9, .int (nI (DL f t (i - 1) (j - 1) + 1))), (8, .int (nI j)), (7, .int (nI i)), (5, .int (nI f.length)), (6, .int (nI t.length)), (0, .ref a), (1, .long (lN (rW f))), (3, .long (lN (rW t)))]) hx hb dMo_distance_98 hl (by decide) rfl (fun ls hl => ?_)
                    refine lv_iload hx hb dMo_distance_100 (lv_at hl 2 rfl) ?_
                    refine hw_if_le (a := i) (tgt := 154) hx hb dMo_distance_102 (by decide) (by omega) (fun cq_22 => by exfalso; omega) (fun cq_22 => ?_)
                    refine lv_iload hx hb dMo_distance_105 (lv_at hl 1 rfl) ?_
                    refine hw_if_le (a := j) (tgt := 154) hx hb dMo_distance_107 (by decide) (by omega) (fun cq_23 => by exfalso; omega) (fun cq_23 => ?_)
                    refine lv_aload_n hx hb dMo_distance_110 rfl (lv_at hl 5 rfl) ?_
                    refine lv_iload hx hb dMo_distance_111 (lv_at hl 0 rfl) ?_
                    refine lv_aload_n hx hb dMo_distance_113 rfl (lv_at hl 5 rfl) ?_
                    refine lv_aload_n hx hb dMo_distance_114 rfl (lv_at hl 5 rfl) ?_
                    refine hw_get hx hb hts (hwInn inMo) hown hK hZ gx rfl 23 (by decide) (hts (.fieldLink RMo 55 RMo "table" "[I") (hwMem mm_428)) (fun _ h => h) rfl dMo_distance_115 ?_
                    refine lv_bipush (v := nI 13) hx hb dMo_distance_118 (by decide) ?_
                    refine lv_iload hx hb dMo_distance_120 (lv_at hl 2 rfl) ?_
                    refine lv_iconst (v := nI 1) hx hb dMo_distance_122 (by decide) ?_
                    refine lv_isub hx hb dMo_distance_123 ?_
                    refine hw_topi (pk_sub (a := i) (b := 1) (by omega)) ?_
                    refine lv_imul hx hb dMo_distance_124 ?_
                    refine hw_topi (pk_mul 13 (i - 1)) ?_
                    refine lv_iload hx hb dMo_distance_125 (lv_at hl 1 rfl) ?_
                    refine lv_iadd hx hb dMo_distance_127 ?_
                    refine hw_topi (nI_add (13 * (i - 1)) j) ?_
                    refine hw_iald hx hb hK hZ 0 gt rfl (j := 13 * (i - 1) + j) (by omega) (by omega) dMo_distance_128 ?_
                    refine hw_topi (y := nI (DL f t (i - 1) j)) (hy (i - 1) (by omega) j (by omega)) ?_
                    have hbd_im1_j := DL_le (f := f) (t := t) (i := i - 1) (j := j) (by omega) (by omega)
                    refine lv_aload_n hx hb dMo_distance_129 rfl (lv_at hl 5 rfl) ?_
                    refine hw_get hx hb hts (hwInn inMo) hown hK hZ gx rfl 23 (by decide) (hts (.fieldLink RMo 55 RMo "table" "[I") (hwMem mm_428)) (fun _ h => h) rfl dMo_distance_130 ?_
                    refine lv_bipush (v := nI 13) hx hb dMo_distance_133 (by decide) ?_
                    refine lv_iload hx hb dMo_distance_135 (lv_at hl 2 rfl) ?_
                    refine lv_imul hx hb dMo_distance_137 ?_
                    refine hw_topi (pk_mul 13 i) ?_
                    refine lv_iload hx hb dMo_distance_138 (lv_at hl 1 rfl) ?_
                    refine lv_iadd hx hb dMo_distance_140 ?_
                    refine hw_topi (nI_add (13 * i) j) ?_
                    refine lv_iconst (v := nI 1) hx hb dMo_distance_141 (by decide) ?_
                    refine lv_isub hx hb dMo_distance_142 ?_
                    refine hw_topi (pk_sub (a := 13 * i + j) (b := 1) (by omega)) ?_
                    refine hw_iald hx hb hK hZ 0 gt rfl (j := 13 * i + j - 1) (by omega) (by omega) dMo_distance_143 ?_
                    refine hw_topi (y := nI (DL f t i (j - 1))) (by rw [show 13 * i + j - 1 = 13 * i + (j - 1) by omega]; exact hz (j - 1) (by omega)) ?_
                    have hbd_i_jm1 := DL_le (f := f) (t := t) (i := i) (j := j - 1) (by omega) (by omega)
                    refine hw_calli (va_runV (As := [.int (nI (DL f t (i - 1) j)), .int (nI (DL f t i (j - 1)))]) (rest := [.int (nI (DL f t (i - 1) (j - 1) + 1)), .ref a]) ⟨hx, hb, hml, hown, hts⟩ (m_least l D K XL25 H_18.size (a := a) (u := DL f t (i - 1) j) (v := DL f t i (j - 1)) (by omega) (by omega)) (cwV 2 hts (hwGood (hw_4 mm_433 mm_434 mm_435 mm_365 (hwAll mm_432))) rfl rfl rfl (by decide +kernel) ⟨Nat.le_of_ble_eq_true rfl, Nat.le_of_ble_eq_true rfl⟩) (hw_preV hK hO hZ (⟨_, _, gx⟩) rfl) rfl rfl hl.1 rfl (lv_room (Nat.le_of_ble_eq_true rfl)) dMo_distance_144 ⟨(show 0 + 0 ≤ 0 by omega), (show 0 + 0 ≤ 0 by omega)⟩) hZ hA (fun r X_24 H_25 lc_26 hp hZ => ?_)
                    obtain ⟨hr, hy, xx_27⟩ := hp
                    subst hy
                    refine hw_topi hr ?_
                    refine lv_iconst (v := nI 1) hx hb dMo_distance_147 (by decide) ?_
                    refine lv_iadd hx hb dMo_distance_148 ?_
                    refine hw_topi (nI_add (min (DL f t (i - 1) j) (DL f t i (j - 1))) 1) ?_
                    refine hw_calli (va_runV (As := [.int (nI (DL f t (i - 1) (j - 1) + 1)), .int (nI (min (DL f t (i - 1) j) (DL f t i (j - 1)) + 1))]) (rest := []) ⟨hx, hb, hml, hown, hts⟩ (m_least l D K XL25 H_25.size (a := a) (u := DL f t (i - 1) (j - 1) + 1) (v := min (DL f t (i - 1) j) (DL f t i (j - 1)) + 1) (by omega) (by omega)) (cwV 2 hts (hwGood (hw_4 mm_433 mm_434 mm_435 mm_365 (hwAll mm_432))) rfl rfl rfl (by decide +kernel) ⟨Nat.le_of_ble_eq_true rfl, Nat.le_of_ble_eq_true rfl⟩) (hw_preV hK hO hZ (⟨_, _, gx⟩) rfl) rfl rfl hl.1 rfl (lv_room (Nat.le_of_ble_eq_true rfl)) dMo_distance_149 ⟨(show 0 + 0 ≤ 0 by omega), (show 0 + 0 ≤ 0 by omega)⟩) hZ hA (fun r X_28 H_29 lc_30 hp hZ => ?_)
                    obtain ⟨hr, hy, xx_31⟩ := hp
                    subst hy
                    refine hw_topi hr ?_
                    refine lv_istore (lv' := [(9, .int (nI (min (DL f t (i - 1) (j - 1) + 1) (min (DL f t (i - 1) j) (DL f t i (j - 1)) + 1)))), (8, .int (nI j)), (7, .int (nI i)), (5, .int (nI f.length)), (6, .int (nI t.length)), (0, .ref a), (1, .long (lN (rW f))), (3, .long (lN (rW t)))]) hx hb dMo_distance_152 hl (by decide) rfl (fun ls hl => ?_)
                    refine lv_aload_n hx hb dMo_distance_154 rfl (lv_at hl 5 rfl) ?_
                    refine hw_get hx hb hts (hwInn inMo) hown hK hZ gx rfl 23 (by decide) (hts (.fieldLink RMo 55 RMo "table" "[I") (hwMem mm_428)) (fun _ h => h) rfl dMo_distance_155 ?_
                    refine lv_bipush (v := nI 13) hx hb dMo_distance_158 (by decide) ?_
                    refine lv_iload hx hb dMo_distance_160 (lv_at hl 2 rfl) ?_
                    refine lv_imul hx hb dMo_distance_162 ?_
                    refine hw_topi (pk_mul 13 i) ?_
                    refine lv_iload hx hb dMo_distance_163 (lv_at hl 1 rfl) ?_
                    refine lv_iadd hx hb dMo_distance_165 ?_
                    refine hw_topi (nI_add (13 * i) j) ?_
                    refine lv_iload hx hb dMo_distance_166 (lv_at hl 0 rfl) ?_
                    refine hw_iast hx hb hK hZ 0 gt rfl (j := 13 * i + j) (by omega) (by omega) dMo_distance_168 (fun X_32 H_33 lc_34 hZ hF hNw => ?_)
                    have hFr := hwF.tr hFr hF (fun _ h => h) (fun M h => by first | exact False.elim h | ((try dsimp only at h ⊢); omega))
                    have gx := hF _ _ _ (by intro hNS; first | exact False.elim hNS | ((try dsimp only at hNS); omega)) gx
                    have gt := hNw
                    refine lv_iinc (v := nI (j + 1)) (lv' := [(8, .int (nI (j + 1))), (9, .int (nI (min (DL f t (i - 1) (j - 1) + 1) (min (DL f t (i - 1) j) (DL f t i (j - 1)) + 1)))), (7, .int (nI i)), (5, .int (nI f.length)), (6, .int (nI t.length)), (0, .ref a), (1, .long (lN (rW f))), (3, .long (lN (rW t)))]) hx hb dMo_distance_169 hl (k := 1) rfl (nI_add _ 1) (by decide) rfl (fun ls hl => ?_)
                    refine lv_goto (tgt := 25) hx hb dMo_distance_172 (by decide) ?_
                    have e9 : DL f t i j = min (DL f t (i - 1) (j - 1) + 1) (min (DL f t (i - 1) j) (DL f t i (j - 1)) + 1) := by rw [DL_s (by omega) (by omega) (by omega), if_neg cq_21]
                    exact ih25 (j + 1) (upd y (13 * i + j) (nI (min (DL f t (i - 1) (j - 1) + 1) (min (DL f t (i - 1) j) (DL f t i (j - 1)) + 1)))) _ _ _ _ (by omega) (by omega) (fun u hu v hv => by rw [pk_un (by omega)]; exact hy u hu v hv) (fun v hv => (Nat.lt_or_eq_of_le (Nat.le_of_lt_succ hv)).elim (fun z => by rw [pk_un (by omega)]; exact hz v z) (fun z => by subst z; rw [pk_us]; exact congrArg nI e9.symm)) hFr gx gt hZ (lv_sub hl [0, 2, 3, 4, 5, 6, 7] rfl)
                  · refine lv_iconst (v := nI 0) hx hb dMo_distance_92 (by decide) ?_
                    refine lv_goto (tgt := 97) hx hb dMo_distance_93 (by decide) ?_
                    refine lv_iadd hx hb dMo_distance_97 ?_
                    refine hw_topi (nI_add (DL f t (i - 1) (j - 1)) 0) ?_
                    refine lv_istore (lv' := [(9, .int (nI (DL f t (i - 1) (j - 1) + 0))), (8, .int (nI j)), (7, .int (nI i)), (5, .int (nI f.length)), (6, .int (nI t.length)), (0, .ref a), (1, .long (lN (rW f))), (3, .long (lN (rW t)))]) hx hb dMo_distance_98 hl (by decide) rfl (fun ls hl => ?_)
                    refine lv_iload hx hb dMo_distance_100 (lv_at hl 2 rfl) ?_
                    refine hw_if_le (a := i) (tgt := 154) hx hb dMo_distance_102 (by decide) (by omega) (fun cq_35 => by exfalso; omega) (fun cq_35 => ?_)
                    refine lv_iload hx hb dMo_distance_105 (lv_at hl 1 rfl) ?_
                    refine hw_if_le (a := j) (tgt := 154) hx hb dMo_distance_107 (by decide) (by omega) (fun cq_36 => by exfalso; omega) (fun cq_36 => ?_)
                    refine lv_aload_n hx hb dMo_distance_110 rfl (lv_at hl 5 rfl) ?_
                    refine lv_iload hx hb dMo_distance_111 (lv_at hl 0 rfl) ?_
                    refine lv_aload_n hx hb dMo_distance_113 rfl (lv_at hl 5 rfl) ?_
                    refine lv_aload_n hx hb dMo_distance_114 rfl (lv_at hl 5 rfl) ?_
                    refine hw_get hx hb hts (hwInn inMo) hown hK hZ gx rfl 23 (by decide) (hts (.fieldLink RMo 55 RMo "table" "[I") (hwMem mm_428)) (fun _ h => h) rfl dMo_distance_115 ?_
                    refine lv_bipush (v := nI 13) hx hb dMo_distance_118 (by decide) ?_
                    refine lv_iload hx hb dMo_distance_120 (lv_at hl 2 rfl) ?_
                    refine lv_iconst (v := nI 1) hx hb dMo_distance_122 (by decide) ?_
                    refine lv_isub hx hb dMo_distance_123 ?_
                    refine hw_topi (pk_sub (a := i) (b := 1) (by omega)) ?_
                    refine lv_imul hx hb dMo_distance_124 ?_
                    refine hw_topi (pk_mul 13 (i - 1)) ?_
                    refine lv_iload hx hb dMo_distance_125 (lv_at hl 1 rfl) ?_
                    refine lv_iadd hx hb dMo_distance_127 ?_
                    refine hw_topi (nI_add (13 * (i - 1)) j) ?_
                    refine hw_iald hx hb hK hZ 0 gt rfl (j := 13 * (i - 1) + j) (by omega) (by omega) dMo_distance_128 ?_
                    refine hw_topi (y := nI (DL f t (i - 1) j)) (hy (i - 1) (by omega) j (by omega)) ?_
                    have hbd_im1_j := DL_le (f := f) (t := t) (i := i - 1) (j := j) (by omega) (by omega)
                    refine lv_aload_n hx hb dMo_distance_129 rfl (lv_at hl 5 rfl) ?_
                    refine hw_get hx hb hts (hwInn inMo) hown hK hZ gx rfl 23 (by decide) (hts (.fieldLink RMo 55 RMo "table" "[I") (hwMem mm_428)) (fun _ h => h) rfl dMo_distance_130 ?_
                    refine lv_bipush (v := nI 13) hx hb dMo_distance_133 (by decide) ?_
                    refine lv_iload hx hb dMo_distance_135 (lv_at hl 2 rfl) ?_
                    refine lv_imul hx hb dMo_distance_137 ?_
                    refine hw_topi (pk_mul 13 i) ?_
                    refine lv_iload hx hb dMo_distance_138 (lv_at hl 1 rfl) ?_
                    refine lv_iadd hx hb dMo_distance_140 ?_
                    refine hw_topi (nI_add (13 * i) j) ?_
                    refine lv_iconst (v := nI 1) hx hb dMo_distance_141 (by decide) ?_
                    refine lv_isub hx hb dMo_distance_142 ?_
                    refine hw_topi (pk_sub (a := 13 * i + j) (b := 1) (by omega)) ?_
                    refine hw_iald hx hb hK hZ 0 gt rfl (j := 13 * i + j - 1) (by omega) (by omega) dMo_distance_143 ?_
                    refine hw_topi (y := nI (DL f t i (j - 1))) (by rw [show 13 * i + j - 1 = 13 * i + (j - 1) by omega]; exact hz (j - 1) (by omega)) ?_
                    have hbd_i_jm1 := DL_le (f := f) (t := t) (i := i) (j := j - 1) (by omega) (by omega)
                    refine hw_calli (va_runV (As := [.int (nI (DL f t (i - 1) j)), .int (nI (DL f t i (j - 1)))]) (rest := [.int (nI (DL f t (i - 1) (j - 1) + 0)), .ref a]) ⟨hx, hb, hml, hown, hts⟩ (m_least l D K XL25 H_18.size (a := a) (u := DL f t (i - 1) j) (v := DL f t i (j - 1)) (by omega) (by omega)) (cwV 2 hts (hwGood (hw_4 mm_433 mm_434 mm_435 mm_365 (hwAll mm_432))) rfl rfl rfl (by decide +kernel) ⟨Nat.le_of_ble_eq_true rfl, Nat.le_of_ble_eq_true rfl⟩) (hw_preV hK hO hZ (⟨_, _, gx⟩) rfl) rfl rfl hl.1 rfl (lv_room (Nat.le_of_ble_eq_true rfl)) dMo_distance_144 ⟨(show 0 + 0 ≤ 0 by omega), (show 0 + 0 ≤ 0 by omega)⟩) hZ hA (fun r X_37 H_38 lc_39 hp hZ => ?_)
                    obtain ⟨hr, hy, xx_40⟩ := hp
                    subst hy
                    refine hw_topi hr ?_
                    refine lv_iconst (v := nI 1) hx hb dMo_distance_147 (by decide) ?_
                    refine lv_iadd hx hb dMo_distance_148 ?_
                    refine hw_topi (nI_add (min (DL f t (i - 1) j) (DL f t i (j - 1))) 1) ?_
                    refine hw_calli (va_runV (As := [.int (nI (DL f t (i - 1) (j - 1) + 0)), .int (nI (min (DL f t (i - 1) j) (DL f t i (j - 1)) + 1))]) (rest := []) ⟨hx, hb, hml, hown, hts⟩ (m_least l D K XL25 H_38.size (a := a) (u := DL f t (i - 1) (j - 1) + 0) (v := min (DL f t (i - 1) j) (DL f t i (j - 1)) + 1) (by omega) (by omega)) (cwV 2 hts (hwGood (hw_4 mm_433 mm_434 mm_435 mm_365 (hwAll mm_432))) rfl rfl rfl (by decide +kernel) ⟨Nat.le_of_ble_eq_true rfl, Nat.le_of_ble_eq_true rfl⟩) (hw_preV hK hO hZ (⟨_, _, gx⟩) rfl) rfl rfl hl.1 rfl (lv_room (Nat.le_of_ble_eq_true rfl)) dMo_distance_149 ⟨(show 0 + 0 ≤ 0 by omega), (show 0 + 0 ≤ 0 by omega)⟩) hZ hA (fun r X_41 H_42 lc_43 hp hZ => ?_)
                    obtain ⟨hr, hy, xx_44⟩ := hp
                    subst hy
                    refine hw_topi hr ?_
                    refine lv_istore (lv' := [(9, .int (nI (min (DL f t (i - 1) (j - 1) + 0) (min (DL f t (i - 1) j) (DL f t i (j - 1)) + 1)))), (8, .int (nI j)), (7, .int (nI i)), (5, .int (nI f.length)), (6, .int (nI t.length)), (0, .ref a), (1, .long (lN (rW f))), (3, .long (lN (rW t)))]) hx hb dMo_distance_152 hl (by decide) rfl (fun ls hl => ?_)
                    refine lv_aload_n hx hb dMo_distance_154 rfl (lv_at hl 5 rfl) ?_
                    refine hw_get hx hb hts (hwInn inMo) hown hK hZ gx rfl 23 (by decide) (hts (.fieldLink RMo 55 RMo "table" "[I") (hwMem mm_428)) (fun _ h => h) rfl dMo_distance_155 ?_
                    refine lv_bipush (v := nI 13) hx hb dMo_distance_158 (by decide) ?_
                    refine lv_iload hx hb dMo_distance_160 (lv_at hl 2 rfl) ?_
                    refine lv_imul hx hb dMo_distance_162 ?_
                    refine hw_topi (pk_mul 13 i) ?_
                    refine lv_iload hx hb dMo_distance_163 (lv_at hl 1 rfl) ?_
                    refine lv_iadd hx hb dMo_distance_165 ?_
                    refine hw_topi (nI_add (13 * i) j) ?_
                    refine lv_iload hx hb dMo_distance_166 (lv_at hl 0 rfl) ?_
                    refine hw_iast hx hb hK hZ 0 gt rfl (j := 13 * i + j) (by omega) (by omega) dMo_distance_168 (fun X_45 H_46 lc_47 hZ hF hNw => ?_)
                    have hFr := hwF.tr hFr hF (fun _ h => h) (fun M h => by first | exact False.elim h | ((try dsimp only at h ⊢); omega))
                    have gx := hF _ _ _ (by intro hNS; first | exact False.elim hNS | ((try dsimp only at hNS); omega)) gx
                    have gt := hNw
                    refine lv_iinc (v := nI (j + 1)) (lv' := [(8, .int (nI (j + 1))), (9, .int (nI (min (DL f t (i - 1) (j - 1) + 0) (min (DL f t (i - 1) j) (DL f t i (j - 1)) + 1)))), (7, .int (nI i)), (5, .int (nI f.length)), (6, .int (nI t.length)), (0, .ref a), (1, .long (lN (rW f))), (3, .long (lN (rW t)))]) hx hb dMo_distance_169 hl (k := 1) rfl (nI_add _ 1) (by decide) rfl (fun ls hl => ?_)
                    refine lv_goto (tgt := 25) hx hb dMo_distance_172 (by decide) ?_
                    have e9 : DL f t i j = min (DL f t (i - 1) (j - 1) + 0) (min (DL f t (i - 1) j) (DL f t i (j - 1)) + 1) := by rw [DL_s (by omega) (by omega) (by omega), if_pos cq_21]; rfl
                    exact ih25 (j + 1) (upd y (13 * i + j) (nI (min (DL f t (i - 1) (j - 1) + 0) (min (DL f t (i - 1) j) (DL f t i (j - 1)) + 1)))) _ _ _ _ (by omega) (by omega) (fun u hu v hv => by rw [pk_un (by omega)]; exact hy u hu v hv) (fun v hv => (Nat.lt_or_eq_of_le (Nat.le_of_lt_succ hv)).elim (fun z => by rw [pk_un (by omega)]; exact hz v z) (fun z => by subst z; rw [pk_us]; exact congrArg nI e9.symm)) hFr gx gt hZ (lv_sub hl [0, 2, 3, 4, 5, 6, 7] rfl)
                · refine lv_iload hx hb dMo_distance_47 (lv_at hl 1 rfl) ?_
                  refine lv_goto (tgt := 98) hx hb dMo_distance_49 (by decide) ?_
                  refine lv_istore (lv' := [(9, .int (nI i)), (8, .int (nI j)), (7, .int (nI i)), (5, .int (nI f.length)), (6, .int (nI t.length)), (0, .ref a), (1, .long (lN (rW f))), (3, .long (lN (rW t)))]) hx hb dMo_distance_98 hl (by decide) rfl (fun ls hl => ?_)
                  refine lv_iload hx hb dMo_distance_100 (lv_at hl 2 rfl) ?_
                  refine hw_if_le (a := i) (tgt := 154) hx hb dMo_distance_102 (by decide) (by omega) (fun cq_48 => by exfalso; omega) (fun cq_48 => ?_)
                  refine lv_iload hx hb dMo_distance_105 (lv_at hl 1 rfl) ?_
                  refine hw_if_le (a := j) (tgt := 154) hx hb dMo_distance_107 (by decide) (by omega) (fun cq_49 => ?_) (fun cq_49 => by exfalso; omega)
                  refine lv_aload_n hx hb dMo_distance_154 rfl (lv_at hl 5 rfl) ?_
                  refine hw_get hx hb hts (hwInn inMo) hown hK hZ gx rfl 23 (by decide) (hts (.fieldLink RMo 55 RMo "table" "[I") (hwMem mm_428)) (fun _ h => h) rfl dMo_distance_155 ?_
                  refine lv_bipush (v := nI 13) hx hb dMo_distance_158 (by decide) ?_
                  refine lv_iload hx hb dMo_distance_160 (lv_at hl 2 rfl) ?_
                  refine lv_imul hx hb dMo_distance_162 ?_
                  refine hw_topi (pk_mul 13 i) ?_
                  refine lv_iload hx hb dMo_distance_163 (lv_at hl 1 rfl) ?_
                  refine lv_iadd hx hb dMo_distance_165 ?_
                  refine hw_topi (nI_add (13 * i) j) ?_
                  refine lv_iload hx hb dMo_distance_166 (lv_at hl 0 rfl) ?_
                  refine hw_iast hx hb hK hZ 0 gt rfl (j := 13 * i + j) (by omega) (by omega) dMo_distance_168 (fun X_50 H_51 lc_52 hZ hF hNw => ?_)
                  have hFr := hwF.tr hFr hF (fun _ h => h) (fun M h => by first | exact False.elim h | ((try dsimp only at h ⊢); omega))
                  have gx := hF _ _ _ (by intro hNS; first | exact False.elim hNS | ((try dsimp only at hNS); omega)) gx
                  have gt := hNw
                  refine lv_iinc (v := nI (j + 1)) (lv' := [(8, .int (nI (j + 1))), (9, .int (nI i)), (7, .int (nI i)), (5, .int (nI f.length)), (6, .int (nI t.length)), (0, .ref a), (1, .long (lN (rW f))), (3, .long (lN (rW t)))]) hx hb dMo_distance_169 hl (k := 1) rfl (nI_add _ 1) (by decide) rfl (fun ls hl => ?_)
                  refine lv_goto (tgt := 25) hx hb dMo_distance_172 (by decide) ?_
                  have e9 : DL f t i j = i := by rw [show j = 0 by omega, DL_j0 (by omega)]
                  exact ih25 (j + 1) (upd y (13 * i + j) (nI i)) _ _ _ _ (by omega) (by omega) (fun u hu v hv => by rw [pk_un (by omega)]; exact hy u hu v hv) (fun v hv => (Nat.lt_or_eq_of_le (Nat.le_of_lt_succ hv)).elim (fun z => by rw [pk_un (by omega)]; exact hz v z) (fun z => by subst z; rw [pk_us]; exact congrArg nI e9.symm)) hFr gx gt hZ (lv_sub hl [0, 2, 3, 4, 5, 6, 7] rfl)
              · refine lv_iload hx hb dMo_distance_37 (lv_at hl 0 rfl) ?_
                refine lv_goto (tgt := 98) hx hb dMo_distance_39 (by decide) ?_
                refine lv_istore (lv' := [(9, .int (nI j)), (8, .int (nI j)), (7, .int (nI i)), (5, .int (nI f.length)), (6, .int (nI t.length)), (0, .ref a), (1, .long (lN (rW f))), (3, .long (lN (rW t)))]) hx hb dMo_distance_98 hl (by decide) rfl (fun ls hl => ?_)
                refine lv_iload hx hb dMo_distance_100 (lv_at hl 2 rfl) ?_
                refine hw_if_le (a := i) (tgt := 154) hx hb dMo_distance_102 (by decide) (by omega) (fun cq_53 => ?_) (fun cq_53 => by exfalso; omega)
                refine lv_aload_n hx hb dMo_distance_154 rfl (lv_at hl 5 rfl) ?_
                refine hw_get hx hb hts (hwInn inMo) hown hK hZ gx rfl 23 (by decide) (hts (.fieldLink RMo 55 RMo "table" "[I") (hwMem mm_428)) (fun _ h => h) rfl dMo_distance_155 ?_
                refine lv_bipush (v := nI 13) hx hb dMo_distance_158 (by decide) ?_
                refine lv_iload hx hb dMo_distance_160 (lv_at hl 2 rfl) ?_
                refine lv_imul hx hb dMo_distance_162 ?_
                refine hw_topi (pk_mul 13 i) ?_
                refine lv_iload hx hb dMo_distance_163 (lv_at hl 1 rfl) ?_
                refine lv_iadd hx hb dMo_distance_165 ?_
                refine hw_topi (nI_add (13 * i) j) ?_
                refine lv_iload hx hb dMo_distance_166 (lv_at hl 0 rfl) ?_
                refine hw_iast hx hb hK hZ 0 gt rfl (j := 13 * i + j) (by omega) (by omega) dMo_distance_168 (fun X_54 H_55 lc_56 hZ hF hNw => ?_)
                have hFr := hwF.tr hFr hF (fun _ h => h) (fun M h => by first | exact False.elim h | ((try dsimp only at h ⊢); omega))
                have gx := hF _ _ _ (by intro hNS; first | exact False.elim hNS | ((try dsimp only at hNS); omega)) gx
                have gt := hNw
                refine lv_iinc (v := nI (j + 1)) (lv' := [(8, .int (nI (j + 1))), (9, .int (nI j)), (7, .int (nI i)), (5, .int (nI f.length)), (6, .int (nI t.length)), (0, .ref a), (1, .long (lN (rW f))), (3, .long (lN (rW t)))]) hx hb dMo_distance_169 hl (k := 1) rfl (nI_add _ 1) (by decide) rfl (fun ls hl => ?_)
                refine lv_goto (tgt := 25) hx hb dMo_distance_172 (by decide) ?_
                have e9 : DL f t i j = j := by rw [show i = 0 by omega, DL_0]
                exact ih25 (j + 1) (upd y (13 * i + j) (nI j)) _ _ _ _ (by omega) (by omega) (fun u hu v hv => by rw [pk_un (by omega)]; exact hy u hu v hv) (fun v hv => (Nat.lt_or_eq_of_le (Nat.le_of_lt_succ hv)).elim (fun z => by rw [pk_un (by omega)]; exact hz v z) (fun z => by subst z; rw [pk_us]; exact congrArg nI e9.symm)) hFr gx gt hZ (lv_sub hl [0, 2, 3, 4, 5, 6, 7] rfl)
        exact loop25 (t.length + 1 - 0 + 1) 0 y _ _ _ _ (by omega) (by omega) hy (fun v hv => absurd hv (Nat.not_lt_zero _)) hFr gx gt hZ (lv_sub hl [0, 1, 2, 3, 4, 5, 6] rfl)
  exact loop15 (f.length + 1 - 0 + 1) 0 y0 _ _ _ _ (by omega) (by omega) (fun u hu => absurd hu (Nat.not_lt_zero _)) hFr f0_ f1_ hZ (lv_sub hl [0, 2, 1, 3, 4, 5] rfl)
