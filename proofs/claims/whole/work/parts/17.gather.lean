/-! what a question gathers: T i the TERMS of record i + 1 in the field, none if it isn't THERE -/
def adH (x : Nat × Nat × Nat) (hs : List (Nat × Nat × Nat)) : List (Nat × Nat × Nat) := if 30 ≤ hs.length then hs else insH x hs
def gaN (M : List (List Nat) → Bool) (Cn : List (List Nat) → Nat) (T : Nat → Option (List (List Nat))) : Nat → List (Nat × Nat × Nat)
  | 0 => []
  | n + 1 => match T n with
    | none => gaN M Cn T n
    | some t => if M t then adH (n + 1, Cn t, t.length) (gaN M Cn T n) else gaN M Cn T n
def Tf (its : hwIt) (lg : Nat → Nat) (ss : List (List Nat)) (j i : Nat) : Option (List (List Nat)) := if (its.getD i hwIt0).1 = true then some (((its.getD i hwIt0).2 j).1.map (trm (lg j) ss)) else none
theorem Tf_f {its : hwIt} {lg : Nat → Nat} {ss : List (List Nat)} {j i : Nat} (h : (its.getD i hwIt0).1 = false) : Tf its lg ss j i = none := by unfold Tf; rw [h]; rfl
theorem Tf_t {its : hwIt} {lg : Nat → Nat} {ss : List (List Nat)} {j i : Nat} (h : (its.getD i hwIt0).1 = true) : Tf its lg ss j i = some (((its.getD i hwIt0).2 j).1.map (trm (lg j) ss)) := by unfold Tf; rw [if_pos h]
theorem gaN_none {M : List (List Nat) → Bool} {Cn : List (List Nat) → Nat} {T : Nat → Option (List (List Nat))} {n : Nat} {hs : List (Nat × Nat × Nat)} (hn : 1 ≤ n) (hh : hs = gaN M Cn T (n - 1)) (h : T (n - 1) = none) : hs = gaN M Cn T (n + 1 - 1) := by
  obtain ⟨k, rfl⟩ : ∃ k, n = k + 1 := ⟨n - 1, by omega⟩
  rw [hh]
  show gaN M Cn T k = (match T k with | none => gaN M Cn T k | some t => if M t then adH (k + 1, Cn t, t.length) (gaN M Cn T k) else gaN M Cn T k)
  rw [show T k = none from h]
theorem gaN_no {M : List (List Nat) → Bool} {Cn : List (List Nat) → Nat} {T : Nat → Option (List (List Nat))} {n : Nat} {hs : List (Nat × Nat × Nat)} {t : List (List Nat)} (hn : 1 ≤ n) (hh : hs = gaN M Cn T (n - 1)) (h : T (n - 1) = some t) (hm : M t = false) : hs = gaN M Cn T (n + 1 - 1) := by
  obtain ⟨k, rfl⟩ : ∃ k, n = k + 1 := ⟨n - 1, by omega⟩
  rw [hh]
  show gaN M Cn T k = (match T k with | none => gaN M Cn T k | some t => if M t then adH (k + 1, Cn t, t.length) (gaN M Cn T k) else gaN M Cn T k)
  rw [show T k = some t from h]
  show _ = if M t then _ else _
  rw [hm]; rfl
theorem gaN_yes {M : List (List Nat) → Bool} {Cn : List (List Nat) → Nat} {T : Nat → Option (List (List Nat))} {n : Nat} {hs : List (Nat × Nat × Nat)} {t : List (List Nat)} (hn : 1 ≤ n) (hh : hs = gaN M Cn T (n - 1)) (h : T (n - 1) = some t) (hm : M t = true) : (if 30 ≤ hs.length then hs else insH (n, Cn t, t.length) hs) = gaN M Cn T (n + 1 - 1) := by
  obtain ⟨k, rfl⟩ : ∃ k, n = k + 1 := ⟨n - 1, by omega⟩
  rw [hh]
  show adH (k + 1, Cn t, t.length) (gaN M Cn T k) = (match T k with | none => gaN M Cn T k | some t => if M t then adH (k + 1, Cn t, t.length) (gaN M Cn T k) else gaN M Cn T k)
  rw [show T k = some t from h]
  show _ = if M t then _ else _
  rw [hm]; rfl
theorem and_f1 {a b : Bool} (h : a = false) : (a && b) = false := by rw [h]; rfl
theorem and_f2 {a b : Bool} (h : b = false) : (a && b) = false := by rw [h, Bool.and_false]
theorem and_tt {a b : Bool} (h : a = true) (h2 : b = true) : (a && b) = true := by rw [h, h2]; rfl
theorem gaN_nil {M : List (List Nat) → Bool} {Cn : List (List Nat) → Nat} {T : Nat → Option (List (List Nat))} (h : ∀ t, M t = false) : ∀ n, gaN M Cn T n = []
  | 0 => rfl
  | n + 1 => by
    have ih := gaN_nil (Cn := Cn) (T := T) h n
    show (match T n with | none => gaN M Cn T n | some t => if M t then adH (n + 1, Cn t, t.length) (gaN M Cn T n) else gaN M Cn T n) = []
    split
    · exact ih
    · rw [h]; exact ih
/-- a field that meets the question has a place that counts -/
theorem gaN_pos {M : List (List Nat) → Bool} {Cn : List (List Nat) → Nat} {T : Nat → Option (List (List Nat))} {n : Nat} (h : ∀ t, M t = true → 1 ≤ Cn t) : gaN M Cn T n = gaN (fun t => decide (0 < Cn t) && M t) Cn T n := by
  have e : M = (fun t => decide (0 < Cn t) && M t) := by
    funext t
    cases hm : M t
    · exact (and_f2 rfl).symm
    · exact (and_tt (decide_eq_true (h t hm)) rfl).symm
  exact congrArg (fun Z => gaN Z Cn T n) e
theorem cnt_one {tb : List (List Nat)} {P : List Nat → Bool} {w : List Nat} (h1 : w ∈ tb) (h2 : P w = true) : 1 ≤ tb.countP P := List.countP_pos_iff.mpr ⟨w, h1, h2⟩
theorem cnt_any {ta tb : List (List Nat)} (h : ta.any (fun t => decide (t ≠ [])) = false) : tb.countP (fun w => decide (w ≠ []) && (decide (w ∈ ta))) = 0 := by
  refine List.countP_eq_zero.mpr (fun w _ hw => ?_)
  have h1 := Bool.and_eq_true_iff.mp hw
  have h2 := List.any_eq_false.mp h w (of_decide_eq_true h1.2)
  exact h2 h1.1
theorem cnt_all {ta tb : List (List Nat)} (hany : ta.any (fun t => decide (t ≠ [])) = true) (hm : ta.all (fun t => decide (t = [] ∨ t ∈ tb)) = true) : 1 ≤ tb.countP (fun w => decide (w ≠ []) && (decide (w ∈ ta))) := by
  obtain ⟨t, ht, hne⟩ := List.any_eq_true.mp hany
  have hne := of_decide_eq_true hne
  have hin := of_decide_eq_true (List.all_eq_true.mp hm t ht)
  exact cnt_one (hin.resolve_left hne) (by rw [decide_eq_true (show t ≠ [] from hne), decide_eq_true ht]; rfl)
theorem cnt_phr {ta tb : List (List Nat)} (hany : ta.any (fun t => decide (t ≠ [])) = true) (hm : phL ta tb = true) : 1 ≤ tb.countP (fun w => decide (w ≠ []) && (decide (w ∈ ta))) := by
  obtain ⟨t, ht, hne⟩ := List.any_eq_true.mp hany
  have hne := of_decide_eq_true hne
  obtain ⟨n, hn, hst⟩ := List.any_eq_true.mp hm
  obtain ⟨i, hi, rfl⟩ := List.getElem_of_mem ht
  have h1 := of_decide_eq_true (List.all_eq_true.mp hst i (List.mem_range.mpr hi))
  have e : ta.getD i [] = ta[i] := by rw [List.getD, List.getElem?_eq_getElem hi]; rfl
  rw [e] at h1
  have h2 := h1.resolve_left hne
  have hlt : n + i < tb.length := by
    rcases Nat.lt_or_ge (n + i) tb.length with q | q
    · exact q
    · have e2 : tb.getD (n + i) [] = [] := by rw [List.getD, List.getElem?_eq_none q]; rfl
      rw [e2] at h2
      exact absurd h2 hne
  have e3 : tb.getD (n + i) [] = tb[n + i] := by rw [List.getD, List.getElem?_eq_getElem hlt]; rfl
  rw [e3] at h2
  exact cnt_one (List.getElem_mem hlt) (by rw [← h2, decide_eq_true (show ta[i] ≠ [] from hne), decide_eq_true ht]; rfl)
theorem cnt_nea {tb : List (List Nat)} {u v : List Nat} {dd : Nat} (hne : u ≠ []) (hm : neL tb u v dd = true) : 1 ≤ tb.countP (fun w => decide (w ≠ []) && (decide (w = u ∨ w = v))) := by
  obtain ⟨p, hp, h1⟩ := List.any_eq_true.mp hm
  have h1 := (of_decide_eq_true h1).1
  have hp := List.mem_range.mp hp
  have e3 : tb.getD p [] = tb[p] := by rw [List.getD, List.getElem?_eq_getElem hp]; rfl
  rw [e3] at h1
  refine cnt_one (List.getElem_mem hp) ?_
  rw [h1, decide_eq_true hne, decide_eq_true (Or.inl rfl)]
  rfl
/-- TERMS come into an ordered row -/
def adW (l : List (List Nat)) (w : List Nat) : List (List Nat) := if w = [] then l else insS 750 l w
def adAll (l : List (List Nat)) (ts : List (List Nat)) : List (List Nat) := ts.foldl adW l
def liN (T : Nat → Option (List (List Nat))) : Nat → List (List Nat)
  | 0 => []
  | n + 1 => match T n with
    | none => liN T n
    | some t => adAll (liN T n) t
theorem liN_none {T : Nat → Option (List (List Nat))} {n : Nat} {l : List (List Nat)} (hn : 1 ≤ n) (hh : l = liN T (n - 1)) (h : T (n - 1) = none) : l = liN T (n + 1 - 1) := by
  obtain ⟨k, rfl⟩ : ∃ k, n = k + 1 := ⟨n - 1, by omega⟩
  rw [hh]
  show liN T k = (match T k with | none => liN T k | some t => adAll (liN T k) t)
  rw [show T k = none from h]
theorem liN_some {T : Nat → Option (List (List Nat))} {n : Nat} {l t : List (List Nat)} (hn : 1 ≤ n) (hh : l = liN T (n - 1)) (h : T (n - 1) = some t) : adAll l t = liN T (n + 1 - 1) := by
  obtain ⟨k, rfl⟩ : ∃ k, n = k + 1 := ⟨n - 1, by omega⟩
  rw [hh]
  show adAll (liN T k) t = (match T k with | none => liN T k | some t => adAll (liN T k) t)
  rw [show T k = some t from h]
theorem adAll_take {l ts : List (List Nat)} {i : Nat} (h : i < ts.length) : adAll l (ts.take (i + 1)) = adW (adAll l (ts.take i)) (ts.getD i []) := by
  unfold adAll
  rw [take_succ_getD h, List.foldl_append]
  rfl
theorem adW_nil {l : List (List Nat)} {w : List Nat} (h : w = []) : adW l w = l := by unfold adW; rw [if_pos h]
theorem adW_ne {l : List (List Nat)} {w : List Nat} (h : w ≠ []) : adW l w = insS 750 l w := by unfold adW; rw [if_neg h]
theorem mem_ins {w v : List Nat} : ∀ {ts : List (List Nat)}, v ∈ ins w ts ↔ v = w ∨ v ∈ ts
  | [] => by simp [ins]
  | x :: xs => by
    unfold ins
    split
    · rw [List.mem_cons, mem_ins, List.mem_cons]
      constructor
      · rintro (h | h | h)
        · exact Or.inr (Or.inl h)
        · exact Or.inl h
        · exact Or.inr (Or.inr h)
      · rintro (h | h | h)
        · exact Or.inr (Or.inl h)
        · exact Or.inl h
        · exact Or.inr (Or.inr h)
    · rw [List.mem_cons]
theorem lex_total {a b : List Nat} (h1 : ¬ a < b) (h2 : a ≠ b) : b < a := by
  rcases Nat.lt_or_ge 0 1 with _ | h
  · exact Classical.byContradiction (fun h3 => h2 (List.le_antisymm (List.not_lt.mp h3) (List.not_lt.mp h1)))
  · omega
theorem sorted_ins {w : List Nat} : ∀ {ts : List (List Nat)}, ts.Pairwise (· < ·) → w ∉ ts → (ins w ts).Pairwise (· < ·)
  | [], _, _ => by simp [ins]
  | x :: xs, hs, hm => by
    have h1 := List.pairwise_cons.mp hs
    unfold ins
    split
    · rename_i hx
      refine List.pairwise_cons.mpr ⟨fun v hv => ?_, sorted_ins h1.2 (fun h => hm (List.mem_cons_of_mem _ h))⟩
      rcases mem_ins.mp hv with h | h
      · rw [h]; exact hx
      · exact h1.1 v h
    · rename_i hx
      have hwx : w < x := lex_total hx (fun h => hm (h ▸ List.mem_cons_self))
      refine List.pairwise_cons.mpr ⟨fun v hv => ?_, hs⟩
      rcases List.mem_cons.mp hv with h | h
      · rw [h]; exact hwx
      · exact lex_trans hwx (h1.1 v h)
theorem sorted_insS {N : Nat} {ts : List (List Nat)} {w : List Nat} (hs : ts.Pairwise (· < ·)) : (insS N ts w).Pairwise (· < ·) := by
  unfold insS
  split
  · exact hs
  · rename_i h
    exact sorted_ins hs (fun q => h (Or.inr q))
theorem sorted_adW {l : List (List Nat)} {w : List Nat} (h : l.Pairwise (· < ·)) : (adW l w).Pairwise (· < ·) := by
  unfold adW
  split
  · exact h
  · exact sorted_insS h
theorem sorted_adAll : ∀ {ts l : List (List Nat)}, l.Pairwise (· < ·) → (adAll l ts).Pairwise (· < ·)
  | [], _, h => h
  | t :: ts, _, h => sorted_adAll (ts := ts) (sorted_adW h)
theorem sorted_liN {T : Nat → Option (List (List Nat))} : ∀ n, (liN T n).Pairwise (· < ·)
  | 0 => List.Pairwise.nil
  | n + 1 => by
    show (match T n with | none => liN T n | some t => adAll (liN T n) t).Pairwise (· < ·)
    have := sorted_liN (T := T) n
    split
    · exact this
    · exact sorted_adAll this
def okIt (its : hwIt) : Prop := ∀ i j, (∀ w ∈ ((its.getD i hwIt0).2 j).1, 1 ≤ w.length) ∧ ((its.getD i hwIt0).2 j).1.length ≤ 600
theorem dIx_readField_0 : decode cIx_readField 0 = .ok (.aload_n 0, 1) := by decide +kernel
theorem dIx_readField_1 : decode cIx_readField 1 = .ok (.iload_n 1, 1) := by decide +kernel
theorem dIx_readField_2 : decode cIx_readField 2 = .ok (.iload_n 2, 1) := by decide +kernel
theorem dIx_readField_3 : decode cIx_readField 3 = .ok (.invokevirtual 63, 3) := by decide +kernel
theorem dIx_readField_6 : decode cIx_readField 6 = .ok (.astore_n 3, 1) := by decide +kernel
theorem dIx_readField_7 : decode cIx_readField 7 = .ok (.aload_n 3, 1) := by decide +kernel
theorem dIx_readField_8 : decode cIx_readField 8 = .ok (.ifnull 10, 3) := by decide +kernel
theorem dIx_readField_11 : decode cIx_readField 11 = .ok (.iload_n 2, 1) := by decide +kernel
theorem dIx_readField_12 : decode cIx_readField 12 = .ok (.invokestatic 162, 3) := by decide +kernel
theorem dIx_readField_15 : decode cIx_readField 15 = .ok (.ifCond .ne 5, 3) := by decide +kernel
theorem dIx_readField_18 : decode cIx_readField 18 = .ok (.iconst 0, 1) := by decide +kernel
theorem dIx_readField_19 : decode cIx_readField 19 = .ok (.ireturn, 1) := by decide +kernel
theorem dIx_readField_20 : decode cIx_readField 20 = .ok (.aload_n 0, 1) := by decide +kernel
theorem dIx_readField_21 : decode cIx_readField 21 = .ok (.getfield 49, 3) := by decide +kernel
theorem dIx_readField_24 : decode cIx_readField 24 = .ok (.aload_n 3, 1) := by decide +kernel
theorem dIx_readField_25 : decode cIx_readField 25 = .ok (.aload_n 0, 1) := by decide +kernel
theorem dIx_readField_26 : decode cIx_readField 26 = .ok (.getfield 15, 3) := by decide +kernel
theorem dIx_readField_29 : decode cIx_readField 29 = .ok (.iload_n 2, 1) := by decide +kernel
theorem dIx_readField_30 : decode cIx_readField 30 = .ok (.iaload, 1) := by decide +kernel
theorem dIx_readField_31 : decode cIx_readField 31 = .ok (.aload_n 0, 1) := by decide +kernel
theorem dIx_readField_32 : decode cIx_readField 32 = .ok (.getfield 31, 3) := by decide +kernel
theorem dIx_readField_35 : decode cIx_readField 35 = .ok (.invokevirtual 175, 3) := by decide +kernel
theorem dIx_readField_38 : decode cIx_readField 38 = .ok (.iconst 1, 1) := by decide +kernel
theorem dIx_readField_39 : decode cIx_readField 39 = .ok (.ireturn, 1) := by decide +kernel
theorem dIx_gather_0 : decode cIx_gather 0 = .ok (.iconst 1, 1) := by decide +kernel
theorem dIx_gather_1 : decode cIx_gather 1 = .ok (.istore_n 3, 1) := by decide +kernel
theorem dIx_gather_2 : decode cIx_gather 2 = .ok (.iload_n 3, 1) := by decide +kernel
theorem dIx_gather_3 : decode cIx_gather 3 = .ok (.aload_n 0, 1) := by decide +kernel
theorem dIx_gather_4 : decode cIx_gather 4 = .ok (.getfield 58, 3) := by decide +kernel
theorem dIx_gather_7 : decode cIx_gather 7 = .ok (.if_icmp .gt 65, 3) := by decide +kernel
theorem dIx_gather_10 : decode cIx_gather 10 = .ok (.aload_n 0, 1) := by decide +kernel
theorem dIx_gather_11 : decode cIx_gather 11 = .ok (.iload_n 3, 1) := by decide +kernel
theorem dIx_gather_12 : decode cIx_gather 12 = .ok (.iload_n 1, 1) := by decide +kernel
theorem dIx_gather_13 : decode cIx_gather 13 = .ok (.invokevirtual 179, 3) := by decide +kernel
theorem dIx_gather_16 : decode cIx_gather 16 = .ok (.ifCond .eq 14, 3) := by decide +kernel
theorem dIx_gather_19 : decode cIx_gather 19 = .ok (.aload_n 2, 1) := by decide +kernel
theorem dIx_gather_20 : decode cIx_gather 20 = .ok (.aload_n 0, 1) := by decide +kernel
theorem dIx_gather_21 : decode cIx_gather 21 = .ok (.getfield 49, 3) := by decide +kernel
theorem dIx_gather_24 : decode cIx_gather 24 = .ok (.invokevirtual 183, 3) := by decide +kernel
theorem dIx_gather_27 : decode cIx_gather 27 = .ok (.goto 4, 3) := by decide +kernel
theorem dIx_gather_30 : decode cIx_gather 30 = .ok (.iconst 0, 1) := by decide +kernel
theorem dIx_gather_31 : decode cIx_gather 31 = .ok (.istore 4, 2) := by decide +kernel
theorem dIx_gather_33 : decode cIx_gather 33 = .ok (.iload 4, 2) := by decide +kernel
theorem dIx_gather_35 : decode cIx_gather 35 = .ok (.ifCond .le 31, 3) := by decide +kernel
theorem dIx_gather_38 : decode cIx_gather 38 = .ok (.aload_n 2, 1) := by decide +kernel
theorem dIx_gather_39 : decode cIx_gather 39 = .ok (.aload_n 0, 1) := by decide +kernel
theorem dIx_gather_40 : decode cIx_gather 40 = .ok (.getfield 49, 3) := by decide +kernel
theorem dIx_gather_43 : decode cIx_gather 43 = .ok (.invokevirtual 189, 3) := by decide +kernel
theorem dIx_gather_46 : decode cIx_gather 46 = .ok (.ifCond .eq 20, 3) := by decide +kernel
theorem dIx_gather_49 : decode cIx_gather 49 = .ok (.aload_n 0, 1) := by decide +kernel
theorem dIx_gather_50 : decode cIx_gather 50 = .ok (.getfield 38, 3) := by decide +kernel
theorem dIx_gather_53 : decode cIx_gather 53 = .ok (.iload_n 3, 1) := by decide +kernel
theorem dIx_gather_54 : decode cIx_gather 54 = .ok (.iload 4, 2) := by decide +kernel
theorem dIx_gather_56 : decode cIx_gather 56 = .ok (.aload_n 0, 1) := by decide +kernel
theorem dIx_gather_57 : decode cIx_gather 57 = .ok (.getfield 49, 3) := by decide +kernel
theorem dIx_gather_60 : decode cIx_gather 60 = .ok (.invokevirtual 193, 3) := by decide +kernel
theorem dIx_gather_63 : decode cIx_gather 63 = .ok (.invokevirtual 194, 3) := by decide +kernel
theorem dIx_gather_66 : decode cIx_gather 66 = .ok (.iinc 3 1, 3) := by decide +kernel
theorem dIx_gather_69 : decode cIx_gather 69 = .ok (.goto (-67), 3) := by decide +kernel
theorem dIx_gather_72 : decode cIx_gather 72 = .ok (.aload_n 0, 1) := by decide +kernel
theorem dIx_gather_73 : decode cIx_gather 73 = .ok (.getfield 38, 3) := by decide +kernel
theorem dIx_gather_76 : decode cIx_gather 76 = .ok (.invokevirtual 197, 3) := by decide +kernel
theorem dIx_gather_79 : decode cIx_gather 79 = .ok (.ireturn, 1) := by decide +kernel
theorem mm_200 : (.code yIx_textOf cIx_textOf 4 (some (.object "WordIndex2$Text")) : Cond) ∈ hwG := hwIx 190 (by decide +kernel) (by decide +kernel)
theorem mm_201 : (.methodLink RIx 63 yIx_textOf : Cond) ∈ hwG := hwIx 187 (by decide +kernel) (by decide +kernel)
theorem mm_202 : (.instanceMethod yIx_textOf : Cond) ∈ hwG := hwIx 189 (by decide +kernel) (by decide +kernel)
theorem mm_203 : (.selects RIx yIx_textOf yIx_textOf : Cond) ∈ hwG := hwIx 0 (by decide +kernel) (by decide +kernel)
theorem mm_204 : (.code yIx_isKind cIx_isKind 1 (some .boolean) : Cond) ∈ hwG := hwIx 258 (by decide +kernel) (by decide +kernel)
theorem mm_205 : (.static yIx_isKind : Cond) ∈ hwG := hwIx 257 (by decide +kernel) (by decide +kernel)
theorem mm_206 : (.methodLink RIx 162 yIx_isKind : Cond) ∈ hwG := hwIx 256 (by decide +kernel) (by decide +kernel)
theorem mm_207 : (.fieldLink RIx 49 RIx "fieldTerms" "LWordIndex2$Terms;" : Cond) ∈ hwG := hwIx 135 (by decide +kernel) (by decide +kernel)
theorem mm_208 : (.fieldLink RIx 15 RIx "languages" "[I" : Cond) ∈ hwG := hwIx 129 (by decide +kernel) (by decide +kernel)
theorem mm_209 : (.fieldLink RIx 31 RIx "stops" "LWordIndex2$WordSet;" : Cond) ∈ hwG := hwIx 132 (by decide +kernel) (by decide +kernel)
theorem mm_210 : (.code yTerms_read cTerms_read 7 none : Cond) ∈ hwG := hwIx 262 (by decide +kernel) (by decide +kernel)
theorem mm_211 : (.methodLink RIx 175 yTerms_read : Cond) ∈ hwG := hwIx 259 (by decide +kernel) (by decide +kernel)
theorem mm_212 : (.instanceMethod yTerms_read : Cond) ∈ hwG := hwIx 260 (by decide +kernel) (by decide +kernel)
theorem mm_213 : (.selects RTerms yTerms_read yTerms_read : Cond) ∈ hwG := hwIx 261 (by decide +kernel) (by decide +kernel)
theorem mm_214 : (.fieldLink RIx 38 RIx "hits" "LWordIndex2$Hits;" : Cond) ∈ hwG := hwIx 133 (by decide +kernel) (by decide +kernel)
theorem mm_215 : (.code yHits_size cHits_size 1 (some .int) : Cond) ∈ hwG := hwIx 428 (by decide +kernel) (by decide +kernel)
theorem mm_216 : (.methodLink RIx 197 yHits_size : Cond) ∈ hwG := hwIx 425 (by decide +kernel) (by decide +kernel)
theorem mm_217 : (.instanceMethod yHits_size : Cond) ∈ hwG := hwIx 426 (by decide +kernel) (by decide +kernel)
theorem mm_218 : (.selects RHits yHits_size yHits_size : Cond) ∈ hwG := hwIx 427 (by decide +kernel) (by decide +kernel)
theorem mm_219 : (.code yIx_readField cIx_readField 4 (some .boolean) : Cond) ∈ hwG := hwIx 325 (by decide +kernel) (by decide +kernel)
theorem mm_220 : (.methodLink RIx 179 yIx_readField : Cond) ∈ hwG := hwIx 322 (by decide +kernel) (by decide +kernel)
theorem mm_221 : (.instanceMethod yIx_readField : Cond) ∈ hwG := hwIx 324 (by decide +kernel) (by decide +kernel)
theorem mm_222 : (.selects RIx yIx_readField yIx_readField : Cond) ∈ hwG := hwIx 7 (by decide +kernel) (by decide +kernel)
theorem mm_223 : (.code ySearch_countIn cSearch_countIn 4 (some .int) : Cond) ∈ hwG := hwIx 333 (by decide +kernel) (by decide +kernel)
theorem mm_224 : (.methodLink RIx 183 ySearch_countIn : Cond) ∈ hwG := hwIx 326 (by decide +kernel) (by decide +kernel)
theorem mm_225 : (.sameMethod RSearch RSearch "countIn" "(LWordIndex2$Terms;)I" : Cond) ∈ hwG := hwIx 328 (by decide +kernel) (by decide +kernel)
theorem mm_226 : (.selects RAllSearch ySearch_countIn ySearch_countIn : Cond) ∈ hwG := hwIx 329 (by decide +kernel) (by decide +kernel)
theorem mm_227 : (.instanceMethod ySearch_countIn : Cond) ∈ hwG := hwIx 327 (by decide +kernel) (by decide +kernel)
theorem mm_228 : (.code yAllSearch_meets cAllSearch_meets 3 (some .boolean) : Cond) ∈ hwG := hwIx 375 (by decide +kernel) (by decide +kernel)
theorem mm_229 : (.methodLink RIx 189 xSearch_meets : Cond) ∈ hwG := hwIx 370 (by decide +kernel) (by decide +kernel)
theorem mm_230 : (.sameMethod RSearch RSearch "meets" "(LWordIndex2$Terms;)Z" : Cond) ∈ hwG := hwIx 372 (by decide +kernel) (by decide +kernel)
theorem mm_231 : (.selects RAllSearch xSearch_meets yAllSearch_meets : Cond) ∈ hwG := hwIx 373 (by decide +kernel) (by decide +kernel)
theorem mm_232 : (.instanceMethod yAllSearch_meets : Cond) ∈ hwG := hwIx 374 (by decide +kernel) (by decide +kernel)
theorem mm_233 : (.methodLink RIx 193 yTerms_size : Cond) ∈ hwG := hwIx 404 (by decide +kernel) (by decide +kernel)
theorem mm_234 : (.code yHits_add cHits_add 5 none : Cond) ∈ hwG := hwIx 408 (by decide +kernel) (by decide +kernel)
theorem mm_235 : (.methodLink RIx 194 yHits_add : Cond) ∈ hwG := hwIx 405 (by decide +kernel) (by decide +kernel)
theorem mm_236 : (.instanceMethod yHits_add : Cond) ∈ hwG := hwIx 406 (by decide +kernel) (by decide +kernel)
theorem mm_237 : (.selects RHits yHits_add yHits_add : Cond) ∈ hwG := hwIx 407 (by decide +kernel) (by decide +kernel)
theorem mm_238 : (.selects RPhraseSearch ySearch_countIn ySearch_countIn : Cond) ∈ hwG := hwIx 331 (by decide +kernel) (by decide +kernel)
theorem mm_239 : (.code yPhraseSearch_meets cPhraseSearch_meets 3 (some .boolean) : Cond) ∈ hwG := hwIx 393 (by decide +kernel) (by decide +kernel)
theorem mm_240 : (.selects RPhraseSearch xSearch_meets yPhraseSearch_meets : Cond) ∈ hwG := hwIx 391 (by decide +kernel) (by decide +kernel)
theorem mm_241 : (.instanceMethod yPhraseSearch_meets : Cond) ∈ hwG := hwIx 392 (by decide +kernel) (by decide +kernel)
theorem mm_242 : (.selects RNearSearch ySearch_countIn ySearch_countIn : Cond) ∈ hwG := hwIx 330 (by decide +kernel) (by decide +kernel)
theorem mm_243 : (.code yNearSearch_meets cNearSearch_meets 3 (some .boolean) : Cond) ∈ hwG := hwIx 380 (by decide +kernel) (by decide +kernel)
theorem mm_244 : (.selects RNearSearch xSearch_meets yNearSearch_meets : Cond) ∈ hwG := hwIx 378 (by decide +kernel) (by decide +kernel)
theorem mm_245 : (.instanceMethod yNearSearch_meets : Cond) ∈ hwG := hwIx 379 (by decide +kernel) (by decide +kernel)
theorem mm_246 : (.selects RWildSearch ySearch_countIn ySearch_countIn : Cond) ∈ hwG := hwIx 332 (by decide +kernel) (by decide +kernel)
theorem mm_247 : (.code yWildSearch_meets cWildSearch_meets 2 (some .boolean) : Cond) ∈ hwG := hwIx 403 (by decide +kernel) (by decide +kernel)
theorem mm_248 : (.selects RWildSearch xSearch_meets yWildSearch_meets : Cond) ∈ hwG := hwIx 401 (by decide +kernel) (by decide +kernel)
theorem mm_249 : (.instanceMethod yWildSearch_meets : Cond) ∈ hwG := hwIx 402 (by decide +kernel) (by decide +kernel)
set_option maxHeartbeats 4000000 in
set_option maxRecDepth 100000 in
theorem c_Ix_read (l : Launch) (D : va_G) (K : Nat → ClassId) (X : hwW) (sz : Nat) (a : Nat) (b0 : Nat) (b1 : Nat) (b2 : Nat) (b3 : Nat) (b4 : Nat) (b5 : Nat) (b6 : Nat) (b7 : Nat) (b8 : Nat) (ni : Nat) (fs : Nat) (qs : Nat) (fi : Nat → Option Nat) (fl : Nat → Int32) (tf : List (List Nat)) (t : Nat) (kt : Nat) (ws : List (List Nat)) (o : Nat) (ss : List (List Nat)) (n : Nat) (j : Nat) (g : Nat) (f0_ : hwH X a 0 (.inr (5, [.ref b0, .int (nI ni), .int (nI fs), .ref b1, .ref b2, .int (nI qs), .ref b3, .ref b4, .ref b5, .ref b6, .ref b7, .ref b8]))) (f1_ : hwH X b0 1 (.inl (K 4, 30, .inr (.inr (.inr (.inr fi)))))) (f2_ : hwH X b1 2 (.inl (K 0, 4, .inl fl))) (f3_ : tmAt K X b6 8 750 tf) (f4_ : txAt K X t kt ws o) (f5_ : seAt K X b3 6 40 ss) (hn1 : 1 ≤ n) (hn2 : n ≤ ni) (hni : ni ≤ 30) (hj : j < 4) (hpt : ptAt K X fi (n - 1) j true t) (hkt : 10 ≤ kt) (hfl : fl j = nI g) (hg : g < 3) (hwl : ws.length ≤ 750) (hne : ∀ w ∈ ws, 1 ≤ w.length) (hs : ss.Pairwise (· < ·)) : Met l yIx_readField (.code yIx_readField cIx_readField 4 (some .boolean) :: hwG) ({ frames := 5, cells := 0, slots := 0, locals := 115 } : Room) (hwPc D vwCl (hwT K) [.ref a, .int (nI n), .int (nI j)] X sz) (hwQi D vwCl X sz (fun r Y => r = bI true ∧ hwF X Y (fun M => M = 16 ∨ M = 17) ∧ tmAt K Y b6 8 750 (ws.map (trm g ss)))) 0 0 (va_A X.1 sz) := by
  refine hwMetz (cc := cIx_readField) (maxL := 4) (by decide) rfl (Nat.le_of_ble_eq_true rfl) (fun p e s m args below meth c ls A Q hx hb hml hown hts hname hret hK hO hZ hA hl => ?_)
  have hl : lv_has ls 4 [(0, .ref a), (1, .int (nI n)), (2, .int (nI j))] := hl
  have hFr : hwF X X (fun M => M = 16 ∨ M = 17) := hwF.rf
  refine lv_aload_n hx hb dIx_readField_0 rfl (lv_at hl 0 rfl) ?_
  refine lv_iload_n hx hb dIx_readField_1 rfl (lv_at hl 1 rfl) ?_
  refine lv_iload_n hx hb dIx_readField_2 rfl (lv_at hl 2 rfl) ?_
  refine hw_callq (va_runV (As := [.int (nI n), .int (nI j)]) (rest := []) ⟨hx, hb, hml, hown, hts⟩ (c_Ix_text l D K X s.heap.size (a := a) (b0 := b0) (b1 := b1) (b2 := b2) (b3 := b3) (b4 := b4) (b5 := b5) (b6 := b6) (b7 := b7) (b8 := b8) (ni := ni) (fs := fs) (qs := qs) (fi := fi) (n := n) (j := j) (th := true) (t := t) f0_ f1_ (by omega) (by omega) (by omega) (by omega) (by assumption) rfl) (cwV 2 hts (hwGood (hw_4 mm_201 mm_202 mm_203 mm_188 (hwAll mm_200))) rfl rfl rfl (by decide +kernel) ⟨Nat.le_of_ble_eq_true rfl, Nat.le_of_ble_eq_true rfl⟩) (hw_preV hK hO hZ (⟨_, _, f0_⟩) rfl) rfl rfl hl.1 rfl (lv_room (Nat.le_of_ble_eq_true rfl)) dIx_readField_3 ⟨(show 0 + 0 ≤ 0 by omega), (show 0 + 0 ≤ 0 by omega)⟩) hZ hA (fun r X_1 H_2 lc_3 hp hZ => ?_)
  obtain ⟨hr, hy⟩ := hp
  subst hy
  refine hw_top (y := .ref t) (by rw [hr]; rfl) ?_
  refine lv_astore_n (lv' := [(3, .ref t), (0, .ref a), (1, .int (nI n)), (2, .int (nI j))]) hx hb dIx_readField_6 rfl hl (by decide) rfl (fun ls hl => ?_)
  refine lv_aload_n hx hb dIx_readField_7 rfl (lv_at hl 0 rfl) ?_
  refine lv_ifnull hx hb dIx_readField_8 ?_
  refine lv_iload_n hx hb dIx_readField_11 rfl (lv_at hl 3 rfl) ?_
  refine hw_calli (va_runS (As := [.int (nI j)]) (rest := []) ⟨hx, hb, hml, hown, hts⟩ (c_Ix_isKind l D K X H_2.size (j := j) (by omega)) (va_cwS 1 hts (hwGood (hw_3 mm_206 mm_205 mm_188 (hwAll mm_204))) rfl rfl rfl (by decide +kernel) ⟨Nat.le_of_ble_eq_true rfl, Nat.le_of_ble_eq_true rfl⟩) (hw_preS hK hO hZ) rfl rfl hl.1 rfl (lv_room (Nat.le_of_ble_eq_true rfl)) dIx_readField_12 ⟨(show 0 + 0 ≤ 0 by omega), (show 0 + 0 ≤ 0 by omega)⟩) hZ hA (fun r X_4 H_5 lc_6 hp hZ => ?_)
  obtain ⟨hr, hy⟩ := hp
  subst hy
  refine hw_topi hr ?_
  refine hw_bz_neT (tgt := 20) hx hb dIx_readField_15 (by decide) rfl ?_
  refine lv_aload_n hx hb dIx_readField_20 rfl (lv_at hl 1 rfl) ?_
  refine hw_get hx hb hts (hwInn inIx) hown hK hZ f0_ rfl 9 (by decide) (hts (.fieldLink RIx 49 RIx "fieldTerms" "LWordIndex2$Terms;") (hwMem mm_207)) (fun _ h => h) rfl dIx_readField_21 ?_
  refine lv_aload_n hx hb dIx_readField_24 rfl (lv_at hl 0 rfl) ?_
  refine lv_aload_n hx hb dIx_readField_25 rfl (lv_at hl 1 rfl) ?_
  refine hw_get hx hb hts (hwInn inIx) hown hK hZ f0_ rfl 3 (by decide) (hts (.fieldLink RIx 15 RIx "languages" "[I") (hwMem mm_208)) (fun _ h => h) rfl dIx_readField_26 ?_
  refine lv_iload_n hx hb dIx_readField_29 rfl (lv_at hl 3 rfl) ?_
  refine hw_iald hx hb hK hZ 0 f2_ rfl (j := j) (by omega) (by omega) dIx_readField_30 ?_
  refine hw_topi hfl ?_
  refine lv_aload_n hx hb dIx_readField_31 rfl (lv_at hl 1 rfl) ?_
  refine hw_get hx hb hts (hwInn inIx) hown hK hZ f0_ rfl 6 (by decide) (hts (.fieldLink RIx 31 RIx "stops" "LWordIndex2$WordSet;") (hwMem mm_209)) (fun _ h => h) rfl dIx_readField_32 ?_
  refine hw_callv (va_runV (As := [.ref t, .int (nI g), .ref b3]) (rest := []) ⟨hx, hb, hml, hown, hts⟩ (c_Tm_read l D K X H_5.size (a := b6) (k := 8) (N := 750) (ts := tf) (t := t) (kt := kt) (ws := ws) (o := o) (s0 := b3) (ks := 6) (Ns := 40) (ss := ss) (g := g) f3_ f4_ f5_ (by omega) (by omega) (by omega) (by omega) (by assumption) (by assumption)) (cwV 3 hts (hwGood (hw_4 mm_211 mm_212 mm_213 mm_89 (hwAll mm_210))) rfl rfl rfl (by decide +kernel) ⟨Nat.le_of_ble_eq_true rfl, Nat.le_of_ble_eq_true rfl⟩) (hw_preV hK hO hZ (tmAt.ob f3_) rfl) rfl rfl hl.1 rfl (lv_room (Nat.le_of_ble_eq_true rfl)) dIx_readField_35 ⟨(show 0 + 0 ≤ 0 by omega), (show 0 + 0 ≤ 0 by omega)⟩) hZ hA (fun X_8 H_9 lc_10 hp hZ => ?_)
  obtain ⟨hF, hN_11⟩ := hp
  have hFr := hwF.tr hFr hF (fun _ h => h) (fun M h => by first | exact False.elim h | ((try dsimp only at h ⊢); omega))
  have f0_ := hF _ _ _ (by intro hNS; first | exact False.elim hNS | ((try dsimp only at hNS); omega)) f0_
  have f1_ := hF _ _ _ (by intro hNS; first | exact False.elim hNS | ((try dsimp only at hNS); omega)) f1_
  have f2_ := hF _ _ _ (by intro hNS; first | exact False.elim hNS | ((try dsimp only at hNS); omega)) f2_
  have f4_ := txAt.fr hF (by intro hNS; first | exact False.elim hNS | ((try dsimp only at hNS); omega)) (by intro hNS; first | exact False.elim hNS | ((try dsimp only at hNS); omega)) f4_
  have f5_ := seAt.fr hF (by intro hNS; first | exact False.elim hNS | ((try dsimp only at hNS); omega)) (by intro hNS; first | exact False.elim hNS | ((try dsimp only at hNS); omega)) f5_
  have ff_12 := hN_11
  refine lv_iconst (v := nI 1) hx hb dIx_readField_38 (by decide) ?_
  exact hret (by decide) hZ ⟨rfl, hFr, ff_12⟩ dIx_readField_39
set_option maxHeartbeats 4000000 in
set_option maxRecDepth 100000 in
theorem c_Ix_readF (l : Launch) (D : va_G) (K : Nat → ClassId) (X : hwW) (sz : Nat) (a : Nat) (b0 : Nat) (b1 : Nat) (b2 : Nat) (b3 : Nat) (b4 : Nat) (b5 : Nat) (b6 : Nat) (b7 : Nat) (b8 : Nat) (ni : Nat) (fs : Nat) (qs : Nat) (fi : Nat → Option Nat) (n : Nat) (kind : Int32) (f0_ : hwH X a 0 (.inr (5, [.ref b0, .int (nI ni), .int (nI fs), .ref b1, .ref b2, .int (nI qs), .ref b3, .ref b4, .ref b5, .ref b6, .ref b7, .ref b8]))) (f1_ : hwH X b0 1 (.inl (K 4, 30, .inr (.inr (.inr (.inr fi)))))) (hn1 : 1 ≤ n) (hn2 : n ≤ ni) (hni : ni ≤ 30) (hpi : piAt X fi (n - 1) false) : Met l yIx_readField (.code yIx_readField cIx_readField 4 (some .boolean) :: hwG) ({ frames := 5, cells := 0, slots := 0, locals := 115 } : Room) (hwPc D vwCl (hwT K) [.ref a, .int (nI n), .int kind] X sz) (hwQi D vwCl X sz (fun r Y => r = bI false ∧ X = Y)) 0 0 (va_A X.1 sz) := by
  refine hwMetz (cc := cIx_readField) (maxL := 4) (by decide) rfl (Nat.le_of_ble_eq_true rfl) (fun p e s m args below meth c ls A Q hx hb hml hown hts hname hret hK hO hZ hA hl => ?_)
  have hl : lv_has ls 4 [(0, .ref a), (1, .int (nI n)), (2, .int kind)] := hl
  refine lv_aload_n hx hb dIx_readField_0 rfl (lv_at hl 0 rfl) ?_
  refine lv_iload_n hx hb dIx_readField_1 rfl (lv_at hl 1 rfl) ?_
  refine lv_iload_n hx hb dIx_readField_2 rfl (lv_at hl 2 rfl) ?_
  refine hw_callq (va_runV (As := [.int (nI n), .int kind]) (rest := []) ⟨hx, hb, hml, hown, hts⟩ (c_Ix_textF l D K X s.heap.size (a := a) (b0 := b0) (b1 := b1) (b2 := b2) (b3 := b3) (b4 := b4) (b5 := b5) (b6 := b6) (b7 := b7) (b8 := b8) (ni := ni) (fs := fs) (qs := qs) (fi := fi) (n := n) (kind := kind) (th := false) f0_ f1_ (by omega) (by omega) (by omega) (by assumption) rfl) (cwV 2 hts (hwGood (hw_4 mm_201 mm_202 mm_203 mm_188 (hwAll mm_200))) rfl rfl rfl (by decide +kernel) ⟨Nat.le_of_ble_eq_true rfl, Nat.le_of_ble_eq_true rfl⟩) (hw_preV hK hO hZ (⟨_, _, f0_⟩) rfl) rfl rfl hl.1 rfl (lv_room (Nat.le_of_ble_eq_true rfl)) dIx_readField_3 ⟨(show 0 + 0 ≤ 0 by omega), (show 0 + 0 ≤ 0 by omega)⟩) hZ hA (fun r X_1 H_2 lc_3 hp hZ => ?_)
  obtain ⟨hr, hy⟩ := hp
  subst hy
  refine hw_top (y := .null) (by rw [hr]; rfl) ?_
  refine lv_astore_nN (lv' := [(3, .null), (0, .ref a), (1, .int (nI n)), (2, .int kind)]) hx hb dIx_readField_6 rfl hl (by decide) rfl (fun ls hl => ?_)
  refine lv_aload_nN hx hb dIx_readField_7 rfl (lv_at hl 0 rfl) ?_
  refine lv_ifnullN (tgt := 18) hx hb dIx_readField_8 (by decide) ?_
  refine lv_iconst (v := nI 0) hx hb dIx_readField_18 (by decide) ?_
  exact hret (by decide) hZ ⟨rfl, rfl⟩ dIx_readField_19
set_option maxHeartbeats 4000000 in
set_option maxRecDepth 100000 in
theorem c_Ix_readK (l : Launch) (D : va_G) (K : Nat → ClassId) (X : hwW) (sz : Nat) (a : Nat) (b0 : Nat) (b1 : Nat) (b2 : Nat) (b3 : Nat) (b4 : Nat) (b5 : Nat) (b6 : Nat) (b7 : Nat) (b8 : Nat) (ni : Nat) (fs : Nat) (qs : Nat) (fi : Nat → Option Nat) (n : Nat) (kind : Int32) (t : Nat) (f0_ : hwH X a 0 (.inr (5, [.ref b0, .int (nI ni), .int (nI fs), .ref b1, .ref b2, .int (nI qs), .ref b3, .ref b4, .ref b5, .ref b6, .ref b7, .ref b8]))) (f1_ : hwH X b0 1 (.inl (K 4, 30, .inr (.inr (.inr (.inr fi)))))) (hn1 : 1 ≤ n) (hn2 : n ≤ ni) (hni : ni ≤ 30) (hpt : ptAt K X fi (n - 1) 0 true t) (hk : badK kind) : Met l yIx_readField (.code yIx_readField cIx_readField 4 (some .boolean) :: hwG) ({ frames := 5, cells := 0, slots := 0, locals := 115 } : Room) (hwPc D vwCl (hwT K) [.ref a, .int (nI n), .int kind] X sz) (hwQi D vwCl X sz (fun r Y => r = bI false ∧ X = Y)) 0 0 (va_A X.1 sz) := by
  refine hwMetz (cc := cIx_readField) (maxL := 4) (by decide) rfl (Nat.le_of_ble_eq_true rfl) (fun p e s m args below meth c ls A Q hx hb hml hown hts hname hret hK hO hZ hA hl => ?_)
  have hl : lv_has ls 4 [(0, .ref a), (1, .int (nI n)), (2, .int kind)] := hl
  refine lv_aload_n hx hb dIx_readField_0 rfl (lv_at hl 0 rfl) ?_
  refine lv_iload_n hx hb dIx_readField_1 rfl (lv_at hl 1 rfl) ?_
  refine lv_iload_n hx hb dIx_readField_2 rfl (lv_at hl 2 rfl) ?_
  refine hw_callq (va_runV (As := [.int (nI n), .int kind]) (rest := []) ⟨hx, hb, hml, hown, hts⟩ (c_Ix_textK l D K X s.heap.size (a := a) (b0 := b0) (b1 := b1) (b2 := b2) (b3 := b3) (b4 := b4) (b5 := b5) (b6 := b6) (b7 := b7) (b8 := b8) (ni := ni) (fs := fs) (qs := qs) (fi := fi) (n := n) (kind := kind) (th := true) (t := t) f0_ f1_ (by omega) (by omega) (by omega) (by assumption) rfl (by assumption)) (cwV 2 hts (hwGood (hw_4 mm_201 mm_202 mm_203 mm_188 (hwAll mm_200))) rfl rfl rfl (by decide +kernel) ⟨Nat.le_of_ble_eq_true rfl, Nat.le_of_ble_eq_true rfl⟩) (hw_preV hK hO hZ (⟨_, _, f0_⟩) rfl) rfl rfl hl.1 rfl (lv_room (Nat.le_of_ble_eq_true rfl)) dIx_readField_3 ⟨(show 0 + 0 ≤ 0 by omega), (show 0 + 0 ≤ 0 by omega)⟩) hZ hA (fun r X_1 H_2 lc_3 hp hZ => ?_)
  obtain ⟨hr, hy⟩ := hp
  subst hy
  refine hw_top (y := .null) (by rw [hr]; rfl) ?_
  refine lv_astore_nN (lv' := [(3, .null), (0, .ref a), (1, .int (nI n)), (2, .int kind)]) hx hb dIx_readField_6 rfl hl (by decide) rfl (fun ls hl => ?_)
  refine lv_aload_nN hx hb dIx_readField_7 rfl (lv_at hl 0 rfl) ?_
  refine lv_ifnullN (tgt := 18) hx hb dIx_readField_8 (by decide) ?_
  refine lv_iconst (v := nI 0) hx hb dIx_readField_18 (by decide) ?_
  exact hret (by decide) hZ ⟨rfl, rfl⟩ dIx_readField_19
set_option maxHeartbeats 4000000 in
set_option maxRecDepth 100000 in
theorem c_Ix_gatherAll (l : Launch) (D : va_G) (K : Nat → ClassId) (X : hwW) (sz : Nat) (a : Nat) (b0 : Nat) (b1 : Nat) (b2 : Nat) (b3 : Nat) (b4 : Nat) (b5 : Nat) (b6 : Nat) (b7 : Nat) (b8 : Nat) (ni : Nat) (fs : Nat) (qs : Nat) (fi : Nat → Option Nat) (fl : Nat → Int32) (its : hwIt) (lg : Nat → Nat) (tf : List (List Nat)) (ss : List (List Nat)) (hs0 : List (Nat × Nat × Nat)) (so : Nat) (Lo : Nat) (ta : List (List Nat)) (j : Nat) (f0_ : hwH X a 0 (.inr (5, [.ref b0, .int (nI ni), .int (nI fs), .ref b1, .ref b2, .int (nI qs), .ref b3, .ref b4, .ref b5, .ref b6, .ref b7, .ref b8]))) (f1_ : hwH X b0 1 (.inl (K 4, 30, .inr (.inr (.inr (.inr fi)))))) (f2_ : itsAt K X fi its) (f3_ : hwH X b1 2 (.inl (K 0, 4, .inl fl))) (f4_ : tmAt K X b6 8 750 tf) (f5_ : seAt K X b3 6 40 ss) (f6_ : hiAt K X b4 hs0) (f7_ : hwH X so Lo (.inr (6, [.ref b5]))) (f8_ : tmAt K X b5 7 50 ta) (hni : ni = its.length) (hni3 : its.length ≤ 30) (hj : j < 4) (hfl : ∀ j, j < 4 → fl j = nI (lg j)) (hlg : ∀ j, lg j < 3) (hok : okIt its) (hs : ss.Pairwise (· < ·)) (hh0 : hs0 = []) (hLo : Lo = 52) : Met l yIx_gather (.code yIx_gather cIx_gather 5 (some .int) :: hwG) ({ frames := 6, cells := 0, slots := 0, locals := 138 } : Room) (hwPc D vwCl (hwT K) [.ref a, .int (nI j), .ref so] X sz) (hwQi D vwCl X sz (fun r Y => ∃ tz : List (List Nat), r = nI (gaN (fun tb => decide (0 < tb.countP (fun w => decide (w ≠ []) && (decide (w ∈ ta)))) && ta.all (fun t => decide (t = [] ∨ t ∈ tb))) (fun tb => tb.countP (fun w => decide (w ≠ []) && (decide (w ∈ ta)))) (Tf its lg ss j) ni).length ∧ hwF X Y (fun M => M = 16 ∨ M = 17 ∨ (60 ≤ M ∧ M ≤ 63)) ∧ tmAt K Y b6 8 750 tz ∧ hiAt K Y b4 (gaN (fun tb => decide (0 < tb.countP (fun w => decide (w ≠ []) && (decide (w ∈ ta)))) && ta.all (fun t => decide (t = [] ∨ t ∈ tb))) (fun tb => tb.countP (fun w => decide (w ≠ []) && (decide (w ∈ ta)))) (Tf its lg ss j) ni))) 0 0 (va_A X.1 sz) := by
  refine hwMeti (cc := cIx_gather) (maxL := 5) (by decide) rfl (Nat.le_of_ble_eq_true rfl) (fun p e s m args below meth c ls A Q hx hb hml hown hts hname hret hK hO hZ hA hl => ?_)
  have hl : lv_has ls 5 [(0, .ref a), (1, .int (nI j)), (2, .ref so)] := hl
  have hFr : hwF X X (fun M => M = 16 ∨ M = 17 ∨ (60 ≤ M ∧ M ≤ 63)) := hwF.rf
  refine lv_iconst (v := nI 1) hx hb dIx_gather_0 (by decide) ?_
  refine lv_istore_n (lv' := [(3, .int (nI 1)), (0, .ref a), (1, .int (nI j)), (2, .ref so)]) hx hb dIx_gather_1 rfl hl (by decide) rfl (fun ls hl => ?_)
  have loop2 : ∀ (fuel : Nat) (n : Nat) (hz : List (Nat × Nat × Nat)) (tz : List (List Nat)) (XL2 : hwW) (Hh : Heap) (lcs : List Loc) (ls : Array Slot), ni + 1 - n < fuel → (1 ≤ n) → (n ≤ ni + 1) → (hz = gaN (fun tb => decide (0 < tb.countP (fun w => decide (w ≠ []) && (decide (w ∈ ta)))) && ta.all (fun t => decide (t = [] ∨ t ∈ tb))) (fun tb => tb.countP (fun w => decide (w ≠ []) && (decide (w ∈ ta)))) (Tf its lg ss j) (n - 1)) → (hwF X XL2 (fun M => M = 16 ∨ M = 17 ∨ (60 ≤ M ∧ M ≤ 63))) → (hwH XL2 a 0 (.inr (5, [.ref b0, .int (nI ni), .int (nI fs), .ref b1, .ref b2, .int (nI qs), .ref b3, .ref b4, .ref b5, .ref b6, .ref b7, .ref b8]))) → (hwH XL2 b0 1 (.inl (K 4, 30, .inr (.inr (.inr (.inr fi)))))) → (itsAt K XL2 fi its) → (hwH XL2 b1 2 (.inl (K 0, 4, .inl fl))) → (tmAt K XL2 b6 8 750 tz) → (seAt K XL2 b3 6 40 ss) → (hiAt K XL2 b4 hz) → (hwH XL2 so Lo (.inr (6, [.ref b5]))) → (tmAt K XL2 b5 7 50 ta) → hwZ D vwCl A s.heap XL2 Hh lcs → lv_has ls 5 [(3, .int (nI n)), (0, .ref a), (1, .int (nI j)), (2, .ref so)] → W p l e ({ frames := 6, cells := 0, slots := 0, locals := 138 } : Room) s m args below meth c Hh lcs 0 0 Q (F0 m 2 ls []) := by
    intro fuel; induction fuel with
    | zero => intro n hz tz XL2 Hh lcs ls hfu; exact absurd hfu (Nat.not_lt_zero _)
    | succ fuel ih2 =>
      intro n hz tz XL2 Hh lcs ls hfu2 hn1 hn2 hhz hFr gx gi gt gl gf gs gh go ga hZ hl
      refine lv_iload_n hx hb dIx_gather_2 rfl (lv_at hl 0 rfl) ?_
      refine lv_aload_n hx hb dIx_gather_3 rfl (lv_at hl 1 rfl) ?_
      refine hw_get hx hb hts (hwInn inIx) hown hK hZ gx rfl 1 (by decide) (hts (.fieldLink RIx 58 RIx "itemCount" "I") (hwMem mm_182)) (fun _ h => h) rfl dIx_gather_4 ?_
      refine hw_ic_gt (a := n) (b := ni) (tgt := 72) hx hb dIx_gather_7 (by decide) (by omega) (by omega) (fun cq_1 => ?_) (fun cq_1 => ?_)
      · refine lv_aload_n hx hb dIx_gather_72 rfl (lv_at hl 1 rfl) ?_
        refine hw_get hx hb hts (hwInn inIx) hown hK hZ gx rfl 7 (by decide) (hts (.fieldLink RIx 38 RIx "hits" "LWordIndex2$Hits;") (hwMem mm_214)) (fun _ h => h) rfl dIx_gather_73 ?_
        refine hw_calli (va_runV (As := []) (rest := []) ⟨hx, hb, hml, hown, hts⟩ (c_Hi_sizeP l D K XL2 Hh.size (a := b4) (hs := hz) gh) (cwV 0 hts (hwGood (hw_4 mm_216 mm_217 mm_218 mm_95 (hwAll mm_215))) rfl rfl rfl (by decide +kernel) ⟨Nat.le_of_ble_eq_true rfl, Nat.le_of_ble_eq_true rfl⟩) (hw_preV hK hO hZ (hiAt.ob gh) rfl) rfl rfl hl.1 rfl (lv_room (Nat.le_of_ble_eq_true rfl)) dIx_gather_76 ⟨(show 0 + 0 ≤ 0 by omega), (show 0 + 0 ≤ 0 by omega)⟩) hZ hA (fun r X_2 H_3 lc_4 hp hZ => ?_)
        obtain ⟨hr, hy, xx_5⟩ := hp
        subst hy
        refine hw_topi hr ?_
        exact hret hZ ⟨tz, by rw [hhz, show n - 1 = ni by omega], hFr, gf, by rw [show ni = n - 1 by omega, ← hhz]; exact gh⟩ dIx_gather_79
      · cases hth : (its.getD (n - 1) hwIt0).1
        · have hpi := itsAt.pi gt (i := n - 1) (by omega)
          rw [hth] at hpi
          refine lv_aload_n hx hb dIx_gather_10 rfl (lv_at hl 1 rfl) ?_
          refine lv_iload_n hx hb dIx_gather_11 rfl (lv_at hl 0 rfl) ?_
          refine lv_iload_n hx hb dIx_gather_12 rfl (lv_at hl 2 rfl) ?_
          refine hw_calli (va_runV (As := [.int (nI n), .int (nI j)]) (rest := []) ⟨hx, hb, hml, hown, hts⟩ (c_Ix_readF l D K XL2 Hh.size (a := a) (b0 := b0) (b1 := b1) (b2 := b2) (b3 := b3) (b4 := b4) (b5 := b5) (b6 := b6) (b7 := b7) (b8 := b8) (ni := ni) (fs := fs) (qs := qs) (fi := fi) (n := n) (kind := nI j) gx gi (by omega) (by omega) (by omega) (by assumption)) (cwV 2 hts (hwGood (hw_4 mm_220 mm_221 mm_222 mm_188 (hwAll mm_219))) rfl rfl rfl (by decide +kernel) ⟨Nat.le_of_ble_eq_true rfl, Nat.le_of_ble_eq_true rfl⟩) (hw_preV hK hO hZ (⟨_, _, gx⟩) rfl) rfl rfl hl.1 rfl (lv_room (Nat.le_of_ble_eq_true rfl)) dIx_gather_13 ⟨(show 0 + 0 ≤ 0 by omega), (show 0 + 0 ≤ 0 by omega)⟩) hZ hA (fun r X_6 H_7 lc_8 hp hZ => ?_)
          obtain ⟨hr, hy⟩ := hp
          subst hy
          refine hw_topi hr ?_
          refine hw_bz_eqT (tgt := 30) hx hb dIx_gather_16 (by decide) rfl ?_
          refine lv_iconst (v := nI 0) hx hb dIx_gather_30 (by decide) ?_
          refine lv_istore (lv' := [(4, .int (nI 0)), (3, .int (nI n)), (0, .ref a), (1, .int (nI j)), (2, .ref so)]) hx hb dIx_gather_31 hl (by decide) rfl (fun ls hl => ?_)
          refine lv_iload hx hb dIx_gather_33 (lv_at hl 0 rfl) ?_
          refine hw_if_le (a := 0) (tgt := 66) hx hb dIx_gather_35 (by decide) (by omega) (fun cq_10 => ?_) (fun cq_10 => by exfalso; omega)
          refine lv_iinc (v := nI (n + 1)) (lv' := [(3, .int (nI (n + 1))), (4, .int (nI 0)), (0, .ref a), (1, .int (nI j)), (2, .ref so)]) hx hb dIx_gather_66 hl (k := 1) rfl (nI_add _ 1) (by decide) rfl (fun ls hl => ?_)
          refine lv_goto (tgt := 2) hx hb dIx_gather_69 (by decide) ?_
          exact ih2 (n + 1) hz tz _ _ _ _ (by omega) (by omega) (by omega) (gaN_none (by omega) hhz (Tf_f hth)) hFr gx gi gt gl gf gs gh go ga hZ (lv_sub hl [0, 2, 3, 4] rfl)
        · obtain ⟨t, hpt, htx⟩ := itsAt.pt gt (i := n - 1) (j := j) (by omega) (by omega)
          rw [hth] at hpt
          have hlen : (((its.getD (n - 1) hwIt0).2 j).1.map (trm (lg j) ss)).length ≤ 600 := by rw [List.length_map]; exact (hok (n - 1) j).2
          refine lv_aload_n hx hb dIx_gather_10 rfl (lv_at hl 1 rfl) ?_
          refine lv_iload_n hx hb dIx_gather_11 rfl (lv_at hl 0 rfl) ?_
          refine lv_iload_n hx hb dIx_gather_12 rfl (lv_at hl 2 rfl) ?_
          refine hw_calli (va_runV (As := [.int (nI n), .int (nI j)]) (rest := []) ⟨hx, hb, hml, hown, hts⟩ (c_Ix_read l D K XL2 Hh.size (a := a) (b0 := b0) (b1 := b1) (b2 := b2) (b3 := b3) (b4 := b4) (b5 := b5) (b6 := b6) (b7 := b7) (b8 := b8) (ni := ni) (fs := fs) (qs := qs) (fi := fi) (fl := fl) (tf := tz) (t := t) (kt := 55 + 10 * (n - 1) + j) (ws := ((its.getD (n - 1) hwIt0).2 j).1) (o := ((its.getD (n - 1) hwIt0).2 j).2) (ss := ss) (n := n) (j := j) (g := (lg j)) gx gi gl gf htx gs (by omega) (by omega) (by omega) (by omega) (by assumption) (by omega) (hfl j hj) (hlg j) (Nat.le_trans (hok (n - 1) j).2 (by decide)) (hok (n - 1) j).1 (by assumption)) (cwV 2 hts (hwGood (hw_4 mm_220 mm_221 mm_222 mm_188 (hwAll mm_219))) rfl rfl rfl (by decide +kernel) ⟨Nat.le_of_ble_eq_true rfl, Nat.le_of_ble_eq_true rfl⟩) (hw_preV hK hO hZ (⟨_, _, gx⟩) rfl) rfl rfl hl.1 rfl (lv_room (Nat.le_of_ble_eq_true rfl)) dIx_gather_13 ⟨(show 0 + 0 ≤ 0 by omega), (show 0 + 0 ≤ 0 by omega)⟩) hZ hA (fun r X_11 H_12 lc_13 hp hZ => ?_)
          obtain ⟨hr, hF, hN_14⟩ := hp
          have hFr := hwF.tr hFr hF (fun _ h => h) (fun M h => by first | exact False.elim h | ((try dsimp only at h ⊢); omega))
          have gx := hF _ _ _ (by intro hNS; first | exact False.elim hNS | ((try dsimp only at hNS); omega)) gx
          have gi := hF _ _ _ (by intro hNS; first | exact False.elim hNS | ((try dsimp only at hNS); omega)) gi
          have gt := itsAt.fr hF (fun M h1 h2 hNS => by first | exact False.elim hNS | ((try dsimp only at hNS); omega)) gt
          have gl := hF _ _ _ (by intro hNS; first | exact False.elim hNS | ((try dsimp only at hNS); omega)) gl
          have gs := seAt.fr hF (by intro hNS; first | exact False.elim hNS | ((try dsimp only at hNS); omega)) (by intro hNS; first | exact False.elim hNS | ((try dsimp only at hNS); omega)) gs
          have gh := hiAt.fr hF (by intro hNS; first | exact False.elim hNS | ((try dsimp only at hNS); omega)) (by intro hNS; first | exact False.elim hNS | ((try dsimp only at hNS); omega)) (by intro hNS; first | exact False.elim hNS | ((try dsimp only at hNS); omega)) (by intro hNS; first | exact False.elim hNS | ((try dsimp only at hNS); omega)) gh
          have go := hF _ _ _ (by intro hNS; first | exact False.elim hNS | ((try dsimp only at hNS); omega)) go
          have ga := tmAt.fr hF (by intro hNS; first | exact False.elim hNS | ((try dsimp only at hNS); omega)) (by intro hNS; first | exact False.elim hNS | ((try dsimp only at hNS); omega)) ga
          have htx := txAt.fr hF (by intro hNS; first | exact False.elim hNS | ((try dsimp only at hNS); omega)) (by intro hNS; first | exact False.elim hNS | ((try dsimp only at hNS); omega)) htx
          have ff_15 := hN_14
          refine hw_topi hr ?_
          refine hw_bz_eqF (tgt := 30) hx hb dIx_gather_16 (by decide) rfl ?_
          refine lv_aload_n hx hb dIx_gather_19 rfl (lv_at hl 3 rfl) ?_
          refine lv_aload_n hx hb dIx_gather_20 rfl (lv_at hl 1 rfl) ?_
          refine hw_get hx hb hts (hwInn inIx) hown hK hZ gx rfl 9 (by decide) (hts (.fieldLink RIx 49 RIx "fieldTerms" "LWordIndex2$Terms;") (hwMem mm_207)) (fun _ h => h) rfl dIx_gather_21 ?_
          refine hw_calli (va_runU (As := [.ref b6]) (rest := []) ⟨hx, hb, hml, hown, hts⟩ (c_All_count l D K X_11 H_12.size (o := so) (L := Lo) (a := b5) (ka := 7) (Na := 50) (ta := ta) (b := b6) (kb := 8) (Nb := 750) (tb := (((its.getD (n - 1) hwIt0).2 j).1).map (trm (lg j) ss)) go ga ff_15) (va_cwU (owner := RSearch) 1 hts (hwGood (hw_5 mm_224 mm_225 mm_226 mm_227 mm_109 (hwAll mm_223))) rfl rfl rfl rfl (by decide +kernel) ⟨Nat.le_of_ble_eq_true rfl, Nat.le_of_ble_eq_true rfl⟩) (hw_preV hK hO hZ (⟨_, _, go⟩) rfl) rfl rfl hl.1 rfl (lv_room (Nat.le_of_ble_eq_true rfl)) dIx_gather_24 ⟨(show 0 + 0 ≤ 0 by omega), (show 0 + 0 ≤ 0 by omega)⟩) hZ hA (fun r X_17 H_18 lc_19 hp hZ => ?_)
          obtain ⟨hr, hy, xx_20⟩ := hp
          subst hy
          refine hw_topi hr ?_
          refine lv_goto (tgt := 31) hx hb dIx_gather_27 (by decide) ?_
          refine lv_istore (lv' := [(4, .int (nI (((((its.getD (n - 1) hwIt0).2 j).1).map (trm (lg j) ss)).countP (fun w => decide (w ≠ []) && (decide (w ∈ ta)))))), (3, .int (nI n)), (0, .ref a), (1, .int (nI j)), (2, .ref so)]) hx hb dIx_gather_31 hl (by decide) rfl (fun ls hl => ?_)
          refine lv_iload hx hb dIx_gather_33 (lv_at hl 0 rfl) ?_
          refine hw_if_le (a := ((((its.getD (n - 1) hwIt0).2 j).1).map (trm (lg j) ss)).countP (fun w => decide (w ≠ []) && (decide (w ∈ ta)))) (tgt := 66) hx hb dIx_gather_35 (by decide) (by omega) (fun cq_21 => ?_) (fun cq_21 => ?_)
          · refine lv_iinc (v := nI (n + 1)) (lv' := [(3, .int (nI (n + 1))), (4, .int (nI (((((its.getD (n - 1) hwIt0).2 j).1).map (trm (lg j) ss)).countP (fun w => decide (w ≠ []) && (decide (w ∈ ta)))))), (0, .ref a), (1, .int (nI j)), (2, .ref so)]) hx hb dIx_gather_66 hl (k := 1) rfl (nI_add _ 1) (by decide) rfl (fun ls hl => ?_)
            refine lv_goto (tgt := 2) hx hb dIx_gather_69 (by decide) ?_
            exact ih2 (n + 1) hz ((((its.getD (n - 1) hwIt0).2 j).1).map (trm (lg j) ss)) _ _ _ _ (by omega) (by omega) (by omega) (gaN_no (by omega) hhz (Tf_t hth) (and_f1 (decide_eq_false (Nat.not_lt.mpr cq_21)))) hFr gx gi gt gl ff_15 gs gh go ga hZ (lv_sub hl [0, 2, 3, 4] rfl)
          · refine lv_aload_n hx hb dIx_gather_38 rfl (lv_at hl 4 rfl) ?_
            refine lv_aload_n hx hb dIx_gather_39 rfl (lv_at hl 2 rfl) ?_
            refine hw_get hx hb hts (hwInn inIx) hown hK hZ gx rfl 9 (by decide) (hts (.fieldLink RIx 49 RIx "fieldTerms" "LWordIndex2$Terms;") (hwMem mm_207)) (fun _ h => h) rfl dIx_gather_40 ?_
            refine hw_calli (va_runU (As := [.ref b6]) (rest := []) ⟨hx, hb, hml, hown, hts⟩ (c_All_meets l D K X_11 H_18.size (o := so) (L := Lo) (a := b5) (ka := 7) (Na := 50) (ta := ta) (b := b6) (kb := 8) (Nb := 750) (tb := (((its.getD (n - 1) hwIt0).2 j).1).map (trm (lg j) ss)) go ga ff_15) (va_cwA (owner := RSearch) 1 hts (hwGood (hw_5 mm_229 mm_230 mm_231 mm_232 mm_139 (hwAll mm_228))) rfl rfl rfl (hO.2 _ (List.mem_of_getElem? (i := 6) rfl)) (by decide +kernel) ⟨Nat.le_of_ble_eq_true rfl, Nat.le_of_ble_eq_true rfl⟩) (hw_preV hK hO hZ (⟨_, _, go⟩) rfl) rfl rfl hl.1 rfl (lv_room (Nat.le_of_ble_eq_true rfl)) dIx_gather_43 ⟨(show 0 + 0 ≤ 0 by omega), (show 0 + 0 ≤ 0 by omega)⟩) hZ hA (fun r X_22 H_23 lc_24 hp hZ => ?_)
            obtain ⟨hr, hy⟩ := hp
            subst hy
            refine hw_topi hr ?_
            refine hw_bz_eq (tgt := 66) hx hb dIx_gather_46 (by decide) (fun cq_25 => ?_) (fun cq_25 => ?_)
            · refine lv_iinc (v := nI (n + 1)) (lv' := [(3, .int (nI (n + 1))), (4, .int (nI (((((its.getD (n - 1) hwIt0).2 j).1).map (trm (lg j) ss)).countP (fun w => decide (w ≠ []) && (decide (w ∈ ta)))))), (0, .ref a), (1, .int (nI j)), (2, .ref so)]) hx hb dIx_gather_66 hl (k := 1) rfl (nI_add _ 1) (by decide) rfl (fun ls hl => ?_)
              refine lv_goto (tgt := 2) hx hb dIx_gather_69 (by decide) ?_
              exact ih2 (n + 1) hz ((((its.getD (n - 1) hwIt0).2 j).1).map (trm (lg j) ss)) _ _ _ _ (by omega) (by omega) (by omega) (gaN_no (by omega) hhz (Tf_t hth) (and_f2 cq_25)) hFr gx gi gt gl ff_15 gs gh go ga hZ (lv_sub hl [0, 2, 3, 4] rfl)
            · refine lv_aload_n hx hb dIx_gather_49 rfl (lv_at hl 2 rfl) ?_
              refine hw_get hx hb hts (hwInn inIx) hown hK hZ gx rfl 7 (by decide) (hts (.fieldLink RIx 38 RIx "hits" "LWordIndex2$Hits;") (hwMem mm_214)) (fun _ h => h) rfl dIx_gather_50 ?_
              refine lv_iload_n hx hb dIx_gather_53 rfl (lv_at hl 1 rfl) ?_
              refine lv_iload hx hb dIx_gather_54 (lv_at hl 0 rfl) ?_
              refine lv_aload_n hx hb dIx_gather_56 rfl (lv_at hl 2 rfl) ?_
              refine hw_get hx hb hts (hwInn inIx) hown hK hZ gx rfl 9 (by decide) (hts (.fieldLink RIx 49 RIx "fieldTerms" "LWordIndex2$Terms;") (hwMem mm_207)) (fun _ h => h) rfl dIx_gather_57 ?_
              refine hw_calli (va_runV (As := []) (rest := [.int (nI (((((its.getD (n - 1) hwIt0).2 j).1).map (trm (lg j) ss)).countP (fun w => decide (w ≠ []) && (decide (w ∈ ta))))), .int (nI n), .ref b4]) ⟨hx, hb, hml, hown, hts⟩ (c_Tm_size l D K X_11 H_23.size (a := b6) (k := 8) (N := 750) (ts := (((its.getD (n - 1) hwIt0).2 j).1).map (trm (lg j) ss)) ff_15) (cwV 0 hts (hwGood (hw_4 mm_233 mm_131 mm_132 mm_89 (hwAll mm_129))) rfl rfl rfl (by decide +kernel) ⟨Nat.le_of_ble_eq_true rfl, Nat.le_of_ble_eq_true rfl⟩) (hw_preV hK hO hZ (tmAt.ob ff_15) rfl) rfl rfl hl.1 rfl (lv_room (Nat.le_of_ble_eq_true rfl)) dIx_gather_60 ⟨(show 0 + 0 ≤ 0 by omega), (show 0 + 0 ≤ 0 by omega)⟩) hZ hA (fun r X_26 H_27 lc_28 hp hZ => ?_)
              obtain ⟨hr, hy⟩ := hp
              subst hy
              refine hw_topi hr ?_
              refine hw_callv (va_runV (As := [.int (nI n), .int (nI (((((its.getD (n - 1) hwIt0).2 j).1).map (trm (lg j) ss)).countP (fun w => decide (w ≠ []) && (decide (w ∈ ta))))), .int (nI (((((its.getD (n - 1) hwIt0).2 j).1).map (trm (lg j) ss)).length))]) (rest := []) ⟨hx, hb, hml, hown, hts⟩ (c_Hi_add l D K X_11 H_27.size (a := b4) (hs := hz) (x0 := n) (c0 := ((((its.getD (n - 1) hwIt0).2 j).1).map (trm (lg j) ss)).countP (fun w => decide (w ≠ []) && (decide (w ∈ ta)))) (z0 := ((((its.getD (n - 1) hwIt0).2 j).1).map (trm (lg j) ss)).length) gh (by omega) (by omega) (by omega)) (cwV 3 hts (hwGood (hw_4 mm_235 mm_236 mm_237 mm_95 (hwAll mm_234))) rfl rfl rfl (by decide +kernel) ⟨Nat.le_of_ble_eq_true rfl, Nat.le_of_ble_eq_true rfl⟩) (hw_preV hK hO hZ (hiAt.ob gh) rfl) rfl rfl hl.1 rfl (lv_room (Nat.le_of_ble_eq_true rfl)) dIx_gather_63 ⟨(show 0 + 0 ≤ 0 by omega), (show 0 + 0 ≤ 0 by omega)⟩) hZ hA (fun X_29 H_30 lc_31 hp hZ => ?_)
              obtain ⟨hF, hN_32⟩ := hp
              have hFr := hwF.tr hFr hF (fun _ h => h) (fun M h => by first | exact False.elim h | ((try dsimp only at h ⊢); omega))
              have gx := hF _ _ _ (by intro hNS; first | exact False.elim hNS | ((try dsimp only at hNS); omega)) gx
              have gi := hF _ _ _ (by intro hNS; first | exact False.elim hNS | ((try dsimp only at hNS); omega)) gi
              have gt := itsAt.fr hF (fun M h1 h2 hNS => by first | exact False.elim hNS | ((try dsimp only at hNS); omega)) gt
              have gl := hF _ _ _ (by intro hNS; first | exact False.elim hNS | ((try dsimp only at hNS); omega)) gl
              have gs := seAt.fr hF (by intro hNS; first | exact False.elim hNS | ((try dsimp only at hNS); omega)) (by intro hNS; first | exact False.elim hNS | ((try dsimp only at hNS); omega)) gs
              have go := hF _ _ _ (by intro hNS; first | exact False.elim hNS | ((try dsimp only at hNS); omega)) go
              have ga := tmAt.fr hF (by intro hNS; first | exact False.elim hNS | ((try dsimp only at hNS); omega)) (by intro hNS; first | exact False.elim hNS | ((try dsimp only at hNS); omega)) ga
              have htx := txAt.fr hF (by intro hNS; first | exact False.elim hNS | ((try dsimp only at hNS); omega)) (by intro hNS; first | exact False.elim hNS | ((try dsimp only at hNS); omega)) htx
              have ff_15 := tmAt.fr hF (by intro hNS; first | exact False.elim hNS | ((try dsimp only at hNS); omega)) (by intro hNS; first | exact False.elim hNS | ((try dsimp only at hNS); omega)) ff_15
              have ff_33 := hN_32
              refine lv_iinc (v := nI (n + 1)) (lv' := [(3, .int (nI (n + 1))), (4, .int (nI (((((its.getD (n - 1) hwIt0).2 j).1).map (trm (lg j) ss)).countP (fun w => decide (w ≠ []) && (decide (w ∈ ta)))))), (0, .ref a), (1, .int (nI j)), (2, .ref so)]) hx hb dIx_gather_66 hl (k := 1) rfl (nI_add _ 1) (by decide) rfl (fun ls hl => ?_)
              refine lv_goto (tgt := 2) hx hb dIx_gather_69 (by decide) ?_
              exact ih2 (n + 1) (if 30 ≤ hz.length then hz else insH (n, ((((its.getD (n - 1) hwIt0).2 j).1).map (trm (lg j) ss)).countP (fun w => decide (w ≠ []) && (decide (w ∈ ta))), ((((its.getD (n - 1) hwIt0).2 j).1).map (trm (lg j) ss)).length) hz) ((((its.getD (n - 1) hwIt0).2 j).1).map (trm (lg j) ss)) _ _ _ _ (by omega) (by omega) (by omega) (gaN_yes (by omega) hhz (Tf_t hth) (and_tt (decide_eq_true cq_21) cq_25)) hFr gx gi gt gl ff_15 gs ff_33 go ga hZ (lv_sub hl [0, 2, 3, 4] rfl)
  exact loop2 (ni + 1 - 1 + 1) 1 hs0 tf _ _ _ _ (by omega) (by omega) (by omega) (by rw [hh0]; rfl) hFr f0_ f1_ f2_ f3_ f4_ f5_ f6_ f7_ f8_ hZ (lv_sub hl [0, 1, 2, 3] rfl)
set_option maxHeartbeats 4000000 in
set_option maxRecDepth 100000 in
theorem c_Ix_gatherPhr (l : Launch) (D : va_G) (K : Nat → ClassId) (X : hwW) (sz : Nat) (a : Nat) (b0 : Nat) (b1 : Nat) (b2 : Nat) (b3 : Nat) (b4 : Nat) (b5 : Nat) (b6 : Nat) (b7 : Nat) (b8 : Nat) (ni : Nat) (fs : Nat) (qs : Nat) (fi : Nat → Option Nat) (fl : Nat → Int32) (its : hwIt) (lg : Nat → Nat) (tf : List (List Nat)) (ss : List (List Nat)) (hs0 : List (Nat × Nat × Nat)) (so : Nat) (Lo : Nat) (ta : List (List Nat)) (j : Nat) (f0_ : hwH X a 0 (.inr (5, [.ref b0, .int (nI ni), .int (nI fs), .ref b1, .ref b2, .int (nI qs), .ref b3, .ref b4, .ref b5, .ref b6, .ref b7, .ref b8]))) (f1_ : hwH X b0 1 (.inl (K 4, 30, .inr (.inr (.inr (.inr fi)))))) (f2_ : itsAt K X fi its) (f3_ : hwH X b1 2 (.inl (K 0, 4, .inl fl))) (f4_ : tmAt K X b6 8 750 tf) (f5_ : seAt K X b3 6 40 ss) (f6_ : hiAt K X b4 hs0) (f7_ : hwH X so Lo (.inr (7, [.ref b5]))) (f8_ : tmAt K X b5 7 50 ta) (hni : ni = its.length) (hni3 : its.length ≤ 30) (hj : j < 4) (hfl : ∀ j, j < 4 → fl j = nI (lg j)) (hlg : ∀ j, lg j < 3) (hok : okIt its) (hs : ss.Pairwise (· < ·)) (hh0 : hs0 = []) (hLo : Lo = 52) : Met l yIx_gather (.code yIx_gather cIx_gather 5 (some .int) :: hwG) ({ frames := 6, cells := 0, slots := 0, locals := 138 } : Room) (hwPc D vwCl (hwT K) [.ref a, .int (nI j), .ref so] X sz) (hwQi D vwCl X sz (fun r Y => ∃ tz : List (List Nat), r = nI (gaN (fun tb => decide (0 < tb.countP (fun w => decide (w ≠ []) && (decide (w ∈ ta)))) && phL ta tb) (fun tb => tb.countP (fun w => decide (w ≠ []) && (decide (w ∈ ta)))) (Tf its lg ss j) ni).length ∧ hwF X Y (fun M => M = 16 ∨ M = 17 ∨ (60 ≤ M ∧ M ≤ 63)) ∧ tmAt K Y b6 8 750 tz ∧ hiAt K Y b4 (gaN (fun tb => decide (0 < tb.countP (fun w => decide (w ≠ []) && (decide (w ∈ ta)))) && phL ta tb) (fun tb => tb.countP (fun w => decide (w ≠ []) && (decide (w ∈ ta)))) (Tf its lg ss j) ni))) 0 0 (va_A X.1 sz) := by
  refine hwMeti (cc := cIx_gather) (maxL := 5) (by decide) rfl (Nat.le_of_ble_eq_true rfl) (fun p e s m args below meth c ls A Q hx hb hml hown hts hname hret hK hO hZ hA hl => ?_)
  have hl : lv_has ls 5 [(0, .ref a), (1, .int (nI j)), (2, .ref so)] := hl
  have hFr : hwF X X (fun M => M = 16 ∨ M = 17 ∨ (60 ≤ M ∧ M ≤ 63)) := hwF.rf
  refine lv_iconst (v := nI 1) hx hb dIx_gather_0 (by decide) ?_
  refine lv_istore_n (lv' := [(3, .int (nI 1)), (0, .ref a), (1, .int (nI j)), (2, .ref so)]) hx hb dIx_gather_1 rfl hl (by decide) rfl (fun ls hl => ?_)
  have loop2 : ∀ (fuel : Nat) (n : Nat) (hz : List (Nat × Nat × Nat)) (tz : List (List Nat)) (XL2 : hwW) (Hh : Heap) (lcs : List Loc) (ls : Array Slot), ni + 1 - n < fuel → (1 ≤ n) → (n ≤ ni + 1) → (hz = gaN (fun tb => decide (0 < tb.countP (fun w => decide (w ≠ []) && (decide (w ∈ ta)))) && phL ta tb) (fun tb => tb.countP (fun w => decide (w ≠ []) && (decide (w ∈ ta)))) (Tf its lg ss j) (n - 1)) → (hwF X XL2 (fun M => M = 16 ∨ M = 17 ∨ (60 ≤ M ∧ M ≤ 63))) → (hwH XL2 a 0 (.inr (5, [.ref b0, .int (nI ni), .int (nI fs), .ref b1, .ref b2, .int (nI qs), .ref b3, .ref b4, .ref b5, .ref b6, .ref b7, .ref b8]))) → (hwH XL2 b0 1 (.inl (K 4, 30, .inr (.inr (.inr (.inr fi)))))) → (itsAt K XL2 fi its) → (hwH XL2 b1 2 (.inl (K 0, 4, .inl fl))) → (tmAt K XL2 b6 8 750 tz) → (seAt K XL2 b3 6 40 ss) → (hiAt K XL2 b4 hz) → (hwH XL2 so Lo (.inr (7, [.ref b5]))) → (tmAt K XL2 b5 7 50 ta) → hwZ D vwCl A s.heap XL2 Hh lcs → lv_has ls 5 [(3, .int (nI n)), (0, .ref a), (1, .int (nI j)), (2, .ref so)] → W p l e ({ frames := 6, cells := 0, slots := 0, locals := 138 } : Room) s m args below meth c Hh lcs 0 0 Q (F0 m 2 ls []) := by
    intro fuel; induction fuel with
    | zero => intro n hz tz XL2 Hh lcs ls hfu; exact absurd hfu (Nat.not_lt_zero _)
    | succ fuel ih2 =>
      intro n hz tz XL2 Hh lcs ls hfu2 hn1 hn2 hhz hFr gx gi gt gl gf gs gh go ga hZ hl
      refine lv_iload_n hx hb dIx_gather_2 rfl (lv_at hl 0 rfl) ?_
      refine lv_aload_n hx hb dIx_gather_3 rfl (lv_at hl 1 rfl) ?_
      refine hw_get hx hb hts (hwInn inIx) hown hK hZ gx rfl 1 (by decide) (hts (.fieldLink RIx 58 RIx "itemCount" "I") (hwMem mm_182)) (fun _ h => h) rfl dIx_gather_4 ?_
      refine hw_ic_gt (a := n) (b := ni) (tgt := 72) hx hb dIx_gather_7 (by decide) (by omega) (by omega) (fun cq_1 => ?_) (fun cq_1 => ?_)
      · refine lv_aload_n hx hb dIx_gather_72 rfl (lv_at hl 1 rfl) ?_
        refine hw_get hx hb hts (hwInn inIx) hown hK hZ gx rfl 7 (by decide) (hts (.fieldLink RIx 38 RIx "hits" "LWordIndex2$Hits;") (hwMem mm_214)) (fun _ h => h) rfl dIx_gather_73 ?_
        refine hw_calli (va_runV (As := []) (rest := []) ⟨hx, hb, hml, hown, hts⟩ (c_Hi_sizeP l D K XL2 Hh.size (a := b4) (hs := hz) gh) (cwV 0 hts (hwGood (hw_4 mm_216 mm_217 mm_218 mm_95 (hwAll mm_215))) rfl rfl rfl (by decide +kernel) ⟨Nat.le_of_ble_eq_true rfl, Nat.le_of_ble_eq_true rfl⟩) (hw_preV hK hO hZ (hiAt.ob gh) rfl) rfl rfl hl.1 rfl (lv_room (Nat.le_of_ble_eq_true rfl)) dIx_gather_76 ⟨(show 0 + 0 ≤ 0 by omega), (show 0 + 0 ≤ 0 by omega)⟩) hZ hA (fun r X_2 H_3 lc_4 hp hZ => ?_)
        obtain ⟨hr, hy, xx_5⟩ := hp
        subst hy
        refine hw_topi hr ?_
        exact hret hZ ⟨tz, by rw [hhz, show n - 1 = ni by omega], hFr, gf, by rw [show ni = n - 1 by omega, ← hhz]; exact gh⟩ dIx_gather_79
      · cases hth : (its.getD (n - 1) hwIt0).1
        · have hpi := itsAt.pi gt (i := n - 1) (by omega)
          rw [hth] at hpi
          refine lv_aload_n hx hb dIx_gather_10 rfl (lv_at hl 1 rfl) ?_
          refine lv_iload_n hx hb dIx_gather_11 rfl (lv_at hl 0 rfl) ?_
          refine lv_iload_n hx hb dIx_gather_12 rfl (lv_at hl 2 rfl) ?_
          refine hw_calli (va_runV (As := [.int (nI n), .int (nI j)]) (rest := []) ⟨hx, hb, hml, hown, hts⟩ (c_Ix_readF l D K XL2 Hh.size (a := a) (b0 := b0) (b1 := b1) (b2 := b2) (b3 := b3) (b4 := b4) (b5 := b5) (b6 := b6) (b7 := b7) (b8 := b8) (ni := ni) (fs := fs) (qs := qs) (fi := fi) (n := n) (kind := nI j) gx gi (by omega) (by omega) (by omega) (by assumption)) (cwV 2 hts (hwGood (hw_4 mm_220 mm_221 mm_222 mm_188 (hwAll mm_219))) rfl rfl rfl (by decide +kernel) ⟨Nat.le_of_ble_eq_true rfl, Nat.le_of_ble_eq_true rfl⟩) (hw_preV hK hO hZ (⟨_, _, gx⟩) rfl) rfl rfl hl.1 rfl (lv_room (Nat.le_of_ble_eq_true rfl)) dIx_gather_13 ⟨(show 0 + 0 ≤ 0 by omega), (show 0 + 0 ≤ 0 by omega)⟩) hZ hA (fun r X_6 H_7 lc_8 hp hZ => ?_)
          obtain ⟨hr, hy⟩ := hp
          subst hy
          refine hw_topi hr ?_
          refine hw_bz_eqT (tgt := 30) hx hb dIx_gather_16 (by decide) rfl ?_
          refine lv_iconst (v := nI 0) hx hb dIx_gather_30 (by decide) ?_
          refine lv_istore (lv' := [(4, .int (nI 0)), (3, .int (nI n)), (0, .ref a), (1, .int (nI j)), (2, .ref so)]) hx hb dIx_gather_31 hl (by decide) rfl (fun ls hl => ?_)
          refine lv_iload hx hb dIx_gather_33 (lv_at hl 0 rfl) ?_
          refine hw_if_le (a := 0) (tgt := 66) hx hb dIx_gather_35 (by decide) (by omega) (fun cq_10 => ?_) (fun cq_10 => by exfalso; omega)
          refine lv_iinc (v := nI (n + 1)) (lv' := [(3, .int (nI (n + 1))), (4, .int (nI 0)), (0, .ref a), (1, .int (nI j)), (2, .ref so)]) hx hb dIx_gather_66 hl (k := 1) rfl (nI_add _ 1) (by decide) rfl (fun ls hl => ?_)
          refine lv_goto (tgt := 2) hx hb dIx_gather_69 (by decide) ?_
          exact ih2 (n + 1) hz tz _ _ _ _ (by omega) (by omega) (by omega) (gaN_none (by omega) hhz (Tf_f hth)) hFr gx gi gt gl gf gs gh go ga hZ (lv_sub hl [0, 2, 3, 4] rfl)
        · obtain ⟨t, hpt, htx⟩ := itsAt.pt gt (i := n - 1) (j := j) (by omega) (by omega)
          rw [hth] at hpt
          have hlen : (((its.getD (n - 1) hwIt0).2 j).1.map (trm (lg j) ss)).length ≤ 600 := by rw [List.length_map]; exact (hok (n - 1) j).2
          refine lv_aload_n hx hb dIx_gather_10 rfl (lv_at hl 1 rfl) ?_
          refine lv_iload_n hx hb dIx_gather_11 rfl (lv_at hl 0 rfl) ?_
          refine lv_iload_n hx hb dIx_gather_12 rfl (lv_at hl 2 rfl) ?_
          refine hw_calli (va_runV (As := [.int (nI n), .int (nI j)]) (rest := []) ⟨hx, hb, hml, hown, hts⟩ (c_Ix_read l D K XL2 Hh.size (a := a) (b0 := b0) (b1 := b1) (b2 := b2) (b3 := b3) (b4 := b4) (b5 := b5) (b6 := b6) (b7 := b7) (b8 := b8) (ni := ni) (fs := fs) (qs := qs) (fi := fi) (fl := fl) (tf := tz) (t := t) (kt := 55 + 10 * (n - 1) + j) (ws := ((its.getD (n - 1) hwIt0).2 j).1) (o := ((its.getD (n - 1) hwIt0).2 j).2) (ss := ss) (n := n) (j := j) (g := (lg j)) gx gi gl gf htx gs (by omega) (by omega) (by omega) (by omega) (by assumption) (by omega) (hfl j hj) (hlg j) (Nat.le_trans (hok (n - 1) j).2 (by decide)) (hok (n - 1) j).1 (by assumption)) (cwV 2 hts (hwGood (hw_4 mm_220 mm_221 mm_222 mm_188 (hwAll mm_219))) rfl rfl rfl (by decide +kernel) ⟨Nat.le_of_ble_eq_true rfl, Nat.le_of_ble_eq_true rfl⟩) (hw_preV hK hO hZ (⟨_, _, gx⟩) rfl) rfl rfl hl.1 rfl (lv_room (Nat.le_of_ble_eq_true rfl)) dIx_gather_13 ⟨(show 0 + 0 ≤ 0 by omega), (show 0 + 0 ≤ 0 by omega)⟩) hZ hA (fun r X_11 H_12 lc_13 hp hZ => ?_)
          obtain ⟨hr, hF, hN_14⟩ := hp
          have hFr := hwF.tr hFr hF (fun _ h => h) (fun M h => by first | exact False.elim h | ((try dsimp only at h ⊢); omega))
          have gx := hF _ _ _ (by intro hNS; first | exact False.elim hNS | ((try dsimp only at hNS); omega)) gx
          have gi := hF _ _ _ (by intro hNS; first | exact False.elim hNS | ((try dsimp only at hNS); omega)) gi
          have gt := itsAt.fr hF (fun M h1 h2 hNS => by first | exact False.elim hNS | ((try dsimp only at hNS); omega)) gt
          have gl := hF _ _ _ (by intro hNS; first | exact False.elim hNS | ((try dsimp only at hNS); omega)) gl
          have gs := seAt.fr hF (by intro hNS; first | exact False.elim hNS | ((try dsimp only at hNS); omega)) (by intro hNS; first | exact False.elim hNS | ((try dsimp only at hNS); omega)) gs
          have gh := hiAt.fr hF (by intro hNS; first | exact False.elim hNS | ((try dsimp only at hNS); omega)) (by intro hNS; first | exact False.elim hNS | ((try dsimp only at hNS); omega)) (by intro hNS; first | exact False.elim hNS | ((try dsimp only at hNS); omega)) (by intro hNS; first | exact False.elim hNS | ((try dsimp only at hNS); omega)) gh
          have go := hF _ _ _ (by intro hNS; first | exact False.elim hNS | ((try dsimp only at hNS); omega)) go
          have ga := tmAt.fr hF (by intro hNS; first | exact False.elim hNS | ((try dsimp only at hNS); omega)) (by intro hNS; first | exact False.elim hNS | ((try dsimp only at hNS); omega)) ga
          have htx := txAt.fr hF (by intro hNS; first | exact False.elim hNS | ((try dsimp only at hNS); omega)) (by intro hNS; first | exact False.elim hNS | ((try dsimp only at hNS); omega)) htx
          have ff_15 := hN_14
          refine hw_topi hr ?_
          refine hw_bz_eqF (tgt := 30) hx hb dIx_gather_16 (by decide) rfl ?_
          refine lv_aload_n hx hb dIx_gather_19 rfl (lv_at hl 3 rfl) ?_
          refine lv_aload_n hx hb dIx_gather_20 rfl (lv_at hl 1 rfl) ?_
          refine hw_get hx hb hts (hwInn inIx) hown hK hZ gx rfl 9 (by decide) (hts (.fieldLink RIx 49 RIx "fieldTerms" "LWordIndex2$Terms;") (hwMem mm_207)) (fun _ h => h) rfl dIx_gather_21 ?_
          refine hw_calli (va_runU (As := [.ref b6]) (rest := []) ⟨hx, hb, hml, hown, hts⟩ (c_Phr_count l D K X_11 H_12.size (o := so) (L := Lo) (a := b5) (ka := 7) (Na := 50) (ta := ta) (b := b6) (kb := 8) (Nb := 750) (tb := (((its.getD (n - 1) hwIt0).2 j).1).map (trm (lg j) ss)) go ga ff_15) (va_cwU (owner := RSearch) 1 hts (hwGood (hw_5 mm_224 mm_225 mm_238 mm_227 mm_109 (hwAll mm_223))) rfl rfl rfl rfl (by decide +kernel) ⟨Nat.le_of_ble_eq_true rfl, Nat.le_of_ble_eq_true rfl⟩) (hw_preV hK hO hZ (⟨_, _, go⟩) rfl) rfl rfl hl.1 rfl (lv_room (Nat.le_of_ble_eq_true rfl)) dIx_gather_24 ⟨(show 0 + 0 ≤ 0 by omega), (show 0 + 0 ≤ 0 by omega)⟩) hZ hA (fun r X_17 H_18 lc_19 hp hZ => ?_)
          obtain ⟨hr, hy, xx_20⟩ := hp
          subst hy
          refine hw_topi hr ?_
          refine lv_goto (tgt := 31) hx hb dIx_gather_27 (by decide) ?_
          refine lv_istore (lv' := [(4, .int (nI (((((its.getD (n - 1) hwIt0).2 j).1).map (trm (lg j) ss)).countP (fun w => decide (w ≠ []) && (decide (w ∈ ta)))))), (3, .int (nI n)), (0, .ref a), (1, .int (nI j)), (2, .ref so)]) hx hb dIx_gather_31 hl (by decide) rfl (fun ls hl => ?_)
          refine lv_iload hx hb dIx_gather_33 (lv_at hl 0 rfl) ?_
          refine hw_if_le (a := ((((its.getD (n - 1) hwIt0).2 j).1).map (trm (lg j) ss)).countP (fun w => decide (w ≠ []) && (decide (w ∈ ta)))) (tgt := 66) hx hb dIx_gather_35 (by decide) (by omega) (fun cq_21 => ?_) (fun cq_21 => ?_)
          · refine lv_iinc (v := nI (n + 1)) (lv' := [(3, .int (nI (n + 1))), (4, .int (nI (((((its.getD (n - 1) hwIt0).2 j).1).map (trm (lg j) ss)).countP (fun w => decide (w ≠ []) && (decide (w ∈ ta)))))), (0, .ref a), (1, .int (nI j)), (2, .ref so)]) hx hb dIx_gather_66 hl (k := 1) rfl (nI_add _ 1) (by decide) rfl (fun ls hl => ?_)
            refine lv_goto (tgt := 2) hx hb dIx_gather_69 (by decide) ?_
            exact ih2 (n + 1) hz ((((its.getD (n - 1) hwIt0).2 j).1).map (trm (lg j) ss)) _ _ _ _ (by omega) (by omega) (by omega) (gaN_no (by omega) hhz (Tf_t hth) (and_f1 (decide_eq_false (Nat.not_lt.mpr cq_21)))) hFr gx gi gt gl ff_15 gs gh go ga hZ (lv_sub hl [0, 2, 3, 4] rfl)
          · refine lv_aload_n hx hb dIx_gather_38 rfl (lv_at hl 4 rfl) ?_
            refine lv_aload_n hx hb dIx_gather_39 rfl (lv_at hl 2 rfl) ?_
            refine hw_get hx hb hts (hwInn inIx) hown hK hZ gx rfl 9 (by decide) (hts (.fieldLink RIx 49 RIx "fieldTerms" "LWordIndex2$Terms;") (hwMem mm_207)) (fun _ h => h) rfl dIx_gather_40 ?_
            refine hw_calli (va_runU (As := [.ref b6]) (rest := []) ⟨hx, hb, hml, hown, hts⟩ (c_Phr_meets l D K X_11 H_18.size (o := so) (L := Lo) (a := b5) (ka := 7) (Na := 50) (ta := ta) (b := b6) (kb := 8) (Nb := 750) (tb := (((its.getD (n - 1) hwIt0).2 j).1).map (trm (lg j) ss)) go ga ff_15) (va_cwA (owner := RSearch) 1 hts (hwGood (hw_5 mm_229 mm_230 mm_240 mm_241 mm_143 (hwAll mm_239))) rfl rfl rfl (hO.2 _ (List.mem_of_getElem? (i := 6) rfl)) (by decide +kernel) ⟨Nat.le_of_ble_eq_true rfl, Nat.le_of_ble_eq_true rfl⟩) (hw_preV hK hO hZ (⟨_, _, go⟩) rfl) rfl rfl hl.1 rfl (lv_room (Nat.le_of_ble_eq_true rfl)) dIx_gather_43 ⟨(show 0 + 0 ≤ 0 by omega), (show 0 + 0 ≤ 0 by omega)⟩) hZ hA (fun r X_22 H_23 lc_24 hp hZ => ?_)
            obtain ⟨hr, hy⟩ := hp
            subst hy
            refine hw_topi hr ?_
            refine hw_bz_eq (tgt := 66) hx hb dIx_gather_46 (by decide) (fun cq_25 => ?_) (fun cq_25 => ?_)
            · refine lv_iinc (v := nI (n + 1)) (lv' := [(3, .int (nI (n + 1))), (4, .int (nI (((((its.getD (n - 1) hwIt0).2 j).1).map (trm (lg j) ss)).countP (fun w => decide (w ≠ []) && (decide (w ∈ ta)))))), (0, .ref a), (1, .int (nI j)), (2, .ref so)]) hx hb dIx_gather_66 hl (k := 1) rfl (nI_add _ 1) (by decide) rfl (fun ls hl => ?_)
              refine lv_goto (tgt := 2) hx hb dIx_gather_69 (by decide) ?_
              exact ih2 (n + 1) hz ((((its.getD (n - 1) hwIt0).2 j).1).map (trm (lg j) ss)) _ _ _ _ (by omega) (by omega) (by omega) (gaN_no (by omega) hhz (Tf_t hth) (and_f2 cq_25)) hFr gx gi gt gl ff_15 gs gh go ga hZ (lv_sub hl [0, 2, 3, 4] rfl)
            · refine lv_aload_n hx hb dIx_gather_49 rfl (lv_at hl 2 rfl) ?_
              refine hw_get hx hb hts (hwInn inIx) hown hK hZ gx rfl 7 (by decide) (hts (.fieldLink RIx 38 RIx "hits" "LWordIndex2$Hits;") (hwMem mm_214)) (fun _ h => h) rfl dIx_gather_50 ?_
              refine lv_iload_n hx hb dIx_gather_53 rfl (lv_at hl 1 rfl) ?_
              refine lv_iload hx hb dIx_gather_54 (lv_at hl 0 rfl) ?_
              refine lv_aload_n hx hb dIx_gather_56 rfl (lv_at hl 2 rfl) ?_
              refine hw_get hx hb hts (hwInn inIx) hown hK hZ gx rfl 9 (by decide) (hts (.fieldLink RIx 49 RIx "fieldTerms" "LWordIndex2$Terms;") (hwMem mm_207)) (fun _ h => h) rfl dIx_gather_57 ?_
              refine hw_calli (va_runV (As := []) (rest := [.int (nI (((((its.getD (n - 1) hwIt0).2 j).1).map (trm (lg j) ss)).countP (fun w => decide (w ≠ []) && (decide (w ∈ ta))))), .int (nI n), .ref b4]) ⟨hx, hb, hml, hown, hts⟩ (c_Tm_size l D K X_11 H_23.size (a := b6) (k := 8) (N := 750) (ts := (((its.getD (n - 1) hwIt0).2 j).1).map (trm (lg j) ss)) ff_15) (cwV 0 hts (hwGood (hw_4 mm_233 mm_131 mm_132 mm_89 (hwAll mm_129))) rfl rfl rfl (by decide +kernel) ⟨Nat.le_of_ble_eq_true rfl, Nat.le_of_ble_eq_true rfl⟩) (hw_preV hK hO hZ (tmAt.ob ff_15) rfl) rfl rfl hl.1 rfl (lv_room (Nat.le_of_ble_eq_true rfl)) dIx_gather_60 ⟨(show 0 + 0 ≤ 0 by omega), (show 0 + 0 ≤ 0 by omega)⟩) hZ hA (fun r X_26 H_27 lc_28 hp hZ => ?_)
              obtain ⟨hr, hy⟩ := hp
              subst hy
              refine hw_topi hr ?_
              refine hw_callv (va_runV (As := [.int (nI n), .int (nI (((((its.getD (n - 1) hwIt0).2 j).1).map (trm (lg j) ss)).countP (fun w => decide (w ≠ []) && (decide (w ∈ ta))))), .int (nI (((((its.getD (n - 1) hwIt0).2 j).1).map (trm (lg j) ss)).length))]) (rest := []) ⟨hx, hb, hml, hown, hts⟩ (c_Hi_add l D K X_11 H_27.size (a := b4) (hs := hz) (x0 := n) (c0 := ((((its.getD (n - 1) hwIt0).2 j).1).map (trm (lg j) ss)).countP (fun w => decide (w ≠ []) && (decide (w ∈ ta)))) (z0 := ((((its.getD (n - 1) hwIt0).2 j).1).map (trm (lg j) ss)).length) gh (by omega) (by omega) (by omega)) (cwV 3 hts (hwGood (hw_4 mm_235 mm_236 mm_237 mm_95 (hwAll mm_234))) rfl rfl rfl (by decide +kernel) ⟨Nat.le_of_ble_eq_true rfl, Nat.le_of_ble_eq_true rfl⟩) (hw_preV hK hO hZ (hiAt.ob gh) rfl) rfl rfl hl.1 rfl (lv_room (Nat.le_of_ble_eq_true rfl)) dIx_gather_63 ⟨(show 0 + 0 ≤ 0 by omega), (show 0 + 0 ≤ 0 by omega)⟩) hZ hA (fun X_29 H_30 lc_31 hp hZ => ?_)
              obtain ⟨hF, hN_32⟩ := hp
              have hFr := hwF.tr hFr hF (fun _ h => h) (fun M h => by first | exact False.elim h | ((try dsimp only at h ⊢); omega))
              have gx := hF _ _ _ (by intro hNS; first | exact False.elim hNS | ((try dsimp only at hNS); omega)) gx
              have gi := hF _ _ _ (by intro hNS; first | exact False.elim hNS | ((try dsimp only at hNS); omega)) gi
              have gt := itsAt.fr hF (fun M h1 h2 hNS => by first | exact False.elim hNS | ((try dsimp only at hNS); omega)) gt
              have gl := hF _ _ _ (by intro hNS; first | exact False.elim hNS | ((try dsimp only at hNS); omega)) gl
              have gs := seAt.fr hF (by intro hNS; first | exact False.elim hNS | ((try dsimp only at hNS); omega)) (by intro hNS; first | exact False.elim hNS | ((try dsimp only at hNS); omega)) gs
              have go := hF _ _ _ (by intro hNS; first | exact False.elim hNS | ((try dsimp only at hNS); omega)) go
              have ga := tmAt.fr hF (by intro hNS; first | exact False.elim hNS | ((try dsimp only at hNS); omega)) (by intro hNS; first | exact False.elim hNS | ((try dsimp only at hNS); omega)) ga
              have htx := txAt.fr hF (by intro hNS; first | exact False.elim hNS | ((try dsimp only at hNS); omega)) (by intro hNS; first | exact False.elim hNS | ((try dsimp only at hNS); omega)) htx
              have ff_15 := tmAt.fr hF (by intro hNS; first | exact False.elim hNS | ((try dsimp only at hNS); omega)) (by intro hNS; first | exact False.elim hNS | ((try dsimp only at hNS); omega)) ff_15
              have ff_33 := hN_32
              refine lv_iinc (v := nI (n + 1)) (lv' := [(3, .int (nI (n + 1))), (4, .int (nI (((((its.getD (n - 1) hwIt0).2 j).1).map (trm (lg j) ss)).countP (fun w => decide (w ≠ []) && (decide (w ∈ ta)))))), (0, .ref a), (1, .int (nI j)), (2, .ref so)]) hx hb dIx_gather_66 hl (k := 1) rfl (nI_add _ 1) (by decide) rfl (fun ls hl => ?_)
              refine lv_goto (tgt := 2) hx hb dIx_gather_69 (by decide) ?_
              exact ih2 (n + 1) (if 30 ≤ hz.length then hz else insH (n, ((((its.getD (n - 1) hwIt0).2 j).1).map (trm (lg j) ss)).countP (fun w => decide (w ≠ []) && (decide (w ∈ ta))), ((((its.getD (n - 1) hwIt0).2 j).1).map (trm (lg j) ss)).length) hz) ((((its.getD (n - 1) hwIt0).2 j).1).map (trm (lg j) ss)) _ _ _ _ (by omega) (by omega) (by omega) (gaN_yes (by omega) hhz (Tf_t hth) (and_tt (decide_eq_true cq_21) cq_25)) hFr gx gi gt gl ff_15 gs ff_33 go ga hZ (lv_sub hl [0, 2, 3, 4] rfl)
  exact loop2 (ni + 1 - 1 + 1) 1 hs0 tf _ _ _ _ (by omega) (by omega) (by omega) (by rw [hh0]; rfl) hFr f0_ f1_ f2_ f3_ f4_ f5_ f6_ f7_ f8_ hZ (lv_sub hl [0, 1, 2, 3] rfl)
set_option maxHeartbeats 4000000 in
set_option maxRecDepth 100000 in
theorem c_Ix_gatherNea (l : Launch) (D : va_G) (K : Nat → ClassId) (X : hwW) (sz : Nat) (a : Nat) (b0 : Nat) (b1 : Nat) (b2 : Nat) (b3 : Nat) (b4 : Nat) (b5 : Nat) (b6 : Nat) (b7 : Nat) (b8 : Nat) (ni : Nat) (fs : Nat) (qs : Nat) (fi : Nat → Option Nat) (fl : Nat → Int32) (its : hwIt) (lg : Nat → Nat) (tf : List (List Nat)) (ss : List (List Nat)) (hs0 : List (Nat × Nat × Nat)) (so : Nat) (Lo : Nat) (u : List Nat) (v : List Nat) (dd : Nat) (j : Nat) (f0_ : hwH X a 0 (.inr (5, [.ref b0, .int (nI ni), .int (nI fs), .ref b1, .ref b2, .int (nI qs), .ref b3, .ref b4, .ref b5, .ref b6, .ref b7, .ref b8]))) (f1_ : hwH X b0 1 (.inl (K 4, 30, .inr (.inr (.inr (.inr fi)))))) (f2_ : itsAt K X fi its) (f3_ : hwH X b1 2 (.inl (K 0, 4, .inl fl))) (f4_ : tmAt K X b6 8 750 tf) (f5_ : seAt K X b3 6 40 ss) (f6_ : hiAt K X b4 hs0) (f7_ : hwH X so Lo (.inr (8, [.long (lN (eW u)), .long (lN (eW v)), .int (nI dd)]))) (hni : ni = its.length) (hni3 : its.length ≤ 30) (hj : j < 4) (hfl : ∀ j, j < 4 → fl j = nI (lg j)) (hlg : ∀ j, lg j < 3) (hok : okIt its) (hs : ss.Pairwise (· < ·)) (hh0 : hs0 = []) (hLo : Lo = 52) (hu : okW u) (hv : okW v) (hdd : dd < 2147483648) : Met l yIx_gather (.code yIx_gather cIx_gather 5 (some .int) :: hwG) ({ frames := 6, cells := 0, slots := 0, locals := 138 } : Room) (hwPc D vwCl (hwT K) [.ref a, .int (nI j), .ref so] X sz) (hwQi D vwCl X sz (fun r Y => ∃ tz : List (List Nat), r = nI (gaN (fun tb => decide (0 < tb.countP (fun w => decide (w ≠ []) && (decide (w = u ∨ w = v)))) && neL tb u v dd) (fun tb => tb.countP (fun w => decide (w ≠ []) && (decide (w = u ∨ w = v)))) (Tf its lg ss j) ni).length ∧ hwF X Y (fun M => M = 16 ∨ M = 17 ∨ (60 ≤ M ∧ M ≤ 63)) ∧ tmAt K Y b6 8 750 tz ∧ hiAt K Y b4 (gaN (fun tb => decide (0 < tb.countP (fun w => decide (w ≠ []) && (decide (w = u ∨ w = v)))) && neL tb u v dd) (fun tb => tb.countP (fun w => decide (w ≠ []) && (decide (w = u ∨ w = v)))) (Tf its lg ss j) ni))) 0 0 (va_A X.1 sz) := by
  refine hwMeti (cc := cIx_gather) (maxL := 5) (by decide) rfl (Nat.le_of_ble_eq_true rfl) (fun p e s m args below meth c ls A Q hx hb hml hown hts hname hret hK hO hZ hA hl => ?_)
  have hl : lv_has ls 5 [(0, .ref a), (1, .int (nI j)), (2, .ref so)] := hl
  have hFr : hwF X X (fun M => M = 16 ∨ M = 17 ∨ (60 ≤ M ∧ M ≤ 63)) := hwF.rf
  refine lv_iconst (v := nI 1) hx hb dIx_gather_0 (by decide) ?_
  refine lv_istore_n (lv' := [(3, .int (nI 1)), (0, .ref a), (1, .int (nI j)), (2, .ref so)]) hx hb dIx_gather_1 rfl hl (by decide) rfl (fun ls hl => ?_)
  have loop2 : ∀ (fuel : Nat) (n : Nat) (hz : List (Nat × Nat × Nat)) (tz : List (List Nat)) (XL2 : hwW) (Hh : Heap) (lcs : List Loc) (ls : Array Slot), ni + 1 - n < fuel → (1 ≤ n) → (n ≤ ni + 1) → (hz = gaN (fun tb => decide (0 < tb.countP (fun w => decide (w ≠ []) && (decide (w = u ∨ w = v)))) && neL tb u v dd) (fun tb => tb.countP (fun w => decide (w ≠ []) && (decide (w = u ∨ w = v)))) (Tf its lg ss j) (n - 1)) → (hwF X XL2 (fun M => M = 16 ∨ M = 17 ∨ (60 ≤ M ∧ M ≤ 63))) → (hwH XL2 a 0 (.inr (5, [.ref b0, .int (nI ni), .int (nI fs), .ref b1, .ref b2, .int (nI qs), .ref b3, .ref b4, .ref b5, .ref b6, .ref b7, .ref b8]))) → (hwH XL2 b0 1 (.inl (K 4, 30, .inr (.inr (.inr (.inr fi)))))) → (itsAt K XL2 fi its) → (hwH XL2 b1 2 (.inl (K 0, 4, .inl fl))) → (tmAt K XL2 b6 8 750 tz) → (seAt K XL2 b3 6 40 ss) → (hiAt K XL2 b4 hz) → (hwH XL2 so Lo (.inr (8, [.long (lN (eW u)), .long (lN (eW v)), .int (nI dd)]))) → hwZ D vwCl A s.heap XL2 Hh lcs → lv_has ls 5 [(3, .int (nI n)), (0, .ref a), (1, .int (nI j)), (2, .ref so)] → W p l e ({ frames := 6, cells := 0, slots := 0, locals := 138 } : Room) s m args below meth c Hh lcs 0 0 Q (F0 m 2 ls []) := by
    intro fuel; induction fuel with
    | zero => intro n hz tz XL2 Hh lcs ls hfu; exact absurd hfu (Nat.not_lt_zero _)
    | succ fuel ih2 =>
      intro n hz tz XL2 Hh lcs ls hfu2 hn1 hn2 hhz hFr gx gi gt gl gf gs gh go hZ hl
      refine lv_iload_n hx hb dIx_gather_2 rfl (lv_at hl 0 rfl) ?_
      refine lv_aload_n hx hb dIx_gather_3 rfl (lv_at hl 1 rfl) ?_
      refine hw_get hx hb hts (hwInn inIx) hown hK hZ gx rfl 1 (by decide) (hts (.fieldLink RIx 58 RIx "itemCount" "I") (hwMem mm_182)) (fun _ h => h) rfl dIx_gather_4 ?_
      refine hw_ic_gt (a := n) (b := ni) (tgt := 72) hx hb dIx_gather_7 (by decide) (by omega) (by omega) (fun cq_1 => ?_) (fun cq_1 => ?_)
      · refine lv_aload_n hx hb dIx_gather_72 rfl (lv_at hl 1 rfl) ?_
        refine hw_get hx hb hts (hwInn inIx) hown hK hZ gx rfl 7 (by decide) (hts (.fieldLink RIx 38 RIx "hits" "LWordIndex2$Hits;") (hwMem mm_214)) (fun _ h => h) rfl dIx_gather_73 ?_
        refine hw_calli (va_runV (As := []) (rest := []) ⟨hx, hb, hml, hown, hts⟩ (c_Hi_sizeP l D K XL2 Hh.size (a := b4) (hs := hz) gh) (cwV 0 hts (hwGood (hw_4 mm_216 mm_217 mm_218 mm_95 (hwAll mm_215))) rfl rfl rfl (by decide +kernel) ⟨Nat.le_of_ble_eq_true rfl, Nat.le_of_ble_eq_true rfl⟩) (hw_preV hK hO hZ (hiAt.ob gh) rfl) rfl rfl hl.1 rfl (lv_room (Nat.le_of_ble_eq_true rfl)) dIx_gather_76 ⟨(show 0 + 0 ≤ 0 by omega), (show 0 + 0 ≤ 0 by omega)⟩) hZ hA (fun r X_2 H_3 lc_4 hp hZ => ?_)
        obtain ⟨hr, hy, xx_5⟩ := hp
        subst hy
        refine hw_topi hr ?_
        exact hret hZ ⟨tz, by rw [hhz, show n - 1 = ni by omega], hFr, gf, by rw [show ni = n - 1 by omega, ← hhz]; exact gh⟩ dIx_gather_79
      · cases hth : (its.getD (n - 1) hwIt0).1
        · have hpi := itsAt.pi gt (i := n - 1) (by omega)
          rw [hth] at hpi
          refine lv_aload_n hx hb dIx_gather_10 rfl (lv_at hl 1 rfl) ?_
          refine lv_iload_n hx hb dIx_gather_11 rfl (lv_at hl 0 rfl) ?_
          refine lv_iload_n hx hb dIx_gather_12 rfl (lv_at hl 2 rfl) ?_
          refine hw_calli (va_runV (As := [.int (nI n), .int (nI j)]) (rest := []) ⟨hx, hb, hml, hown, hts⟩ (c_Ix_readF l D K XL2 Hh.size (a := a) (b0 := b0) (b1 := b1) (b2 := b2) (b3 := b3) (b4 := b4) (b5 := b5) (b6 := b6) (b7 := b7) (b8 := b8) (ni := ni) (fs := fs) (qs := qs) (fi := fi) (n := n) (kind := nI j) gx gi (by omega) (by omega) (by omega) (by assumption)) (cwV 2 hts (hwGood (hw_4 mm_220 mm_221 mm_222 mm_188 (hwAll mm_219))) rfl rfl rfl (by decide +kernel) ⟨Nat.le_of_ble_eq_true rfl, Nat.le_of_ble_eq_true rfl⟩) (hw_preV hK hO hZ (⟨_, _, gx⟩) rfl) rfl rfl hl.1 rfl (lv_room (Nat.le_of_ble_eq_true rfl)) dIx_gather_13 ⟨(show 0 + 0 ≤ 0 by omega), (show 0 + 0 ≤ 0 by omega)⟩) hZ hA (fun r X_6 H_7 lc_8 hp hZ => ?_)
          obtain ⟨hr, hy⟩ := hp
          subst hy
          refine hw_topi hr ?_
          refine hw_bz_eqT (tgt := 30) hx hb dIx_gather_16 (by decide) rfl ?_
          refine lv_iconst (v := nI 0) hx hb dIx_gather_30 (by decide) ?_
          refine lv_istore (lv' := [(4, .int (nI 0)), (3, .int (nI n)), (0, .ref a), (1, .int (nI j)), (2, .ref so)]) hx hb dIx_gather_31 hl (by decide) rfl (fun ls hl => ?_)
          refine lv_iload hx hb dIx_gather_33 (lv_at hl 0 rfl) ?_
          refine hw_if_le (a := 0) (tgt := 66) hx hb dIx_gather_35 (by decide) (by omega) (fun cq_10 => ?_) (fun cq_10 => by exfalso; omega)
          refine lv_iinc (v := nI (n + 1)) (lv' := [(3, .int (nI (n + 1))), (4, .int (nI 0)), (0, .ref a), (1, .int (nI j)), (2, .ref so)]) hx hb dIx_gather_66 hl (k := 1) rfl (nI_add _ 1) (by decide) rfl (fun ls hl => ?_)
          refine lv_goto (tgt := 2) hx hb dIx_gather_69 (by decide) ?_
          exact ih2 (n + 1) hz tz _ _ _ _ (by omega) (by omega) (by omega) (gaN_none (by omega) hhz (Tf_f hth)) hFr gx gi gt gl gf gs gh go hZ (lv_sub hl [0, 2, 3, 4] rfl)
        · obtain ⟨t, hpt, htx⟩ := itsAt.pt gt (i := n - 1) (j := j) (by omega) (by omega)
          rw [hth] at hpt
          have hlen : (((its.getD (n - 1) hwIt0).2 j).1.map (trm (lg j) ss)).length ≤ 600 := by rw [List.length_map]; exact (hok (n - 1) j).2
          refine lv_aload_n hx hb dIx_gather_10 rfl (lv_at hl 1 rfl) ?_
          refine lv_iload_n hx hb dIx_gather_11 rfl (lv_at hl 0 rfl) ?_
          refine lv_iload_n hx hb dIx_gather_12 rfl (lv_at hl 2 rfl) ?_
          refine hw_calli (va_runV (As := [.int (nI n), .int (nI j)]) (rest := []) ⟨hx, hb, hml, hown, hts⟩ (c_Ix_read l D K XL2 Hh.size (a := a) (b0 := b0) (b1 := b1) (b2 := b2) (b3 := b3) (b4 := b4) (b5 := b5) (b6 := b6) (b7 := b7) (b8 := b8) (ni := ni) (fs := fs) (qs := qs) (fi := fi) (fl := fl) (tf := tz) (t := t) (kt := 55 + 10 * (n - 1) + j) (ws := ((its.getD (n - 1) hwIt0).2 j).1) (o := ((its.getD (n - 1) hwIt0).2 j).2) (ss := ss) (n := n) (j := j) (g := (lg j)) gx gi gl gf htx gs (by omega) (by omega) (by omega) (by omega) (by assumption) (by omega) (hfl j hj) (hlg j) (Nat.le_trans (hok (n - 1) j).2 (by decide)) (hok (n - 1) j).1 (by assumption)) (cwV 2 hts (hwGood (hw_4 mm_220 mm_221 mm_222 mm_188 (hwAll mm_219))) rfl rfl rfl (by decide +kernel) ⟨Nat.le_of_ble_eq_true rfl, Nat.le_of_ble_eq_true rfl⟩) (hw_preV hK hO hZ (⟨_, _, gx⟩) rfl) rfl rfl hl.1 rfl (lv_room (Nat.le_of_ble_eq_true rfl)) dIx_gather_13 ⟨(show 0 + 0 ≤ 0 by omega), (show 0 + 0 ≤ 0 by omega)⟩) hZ hA (fun r X_11 H_12 lc_13 hp hZ => ?_)
          obtain ⟨hr, hF, hN_14⟩ := hp
          have hFr := hwF.tr hFr hF (fun _ h => h) (fun M h => by first | exact False.elim h | ((try dsimp only at h ⊢); omega))
          have gx := hF _ _ _ (by intro hNS; first | exact False.elim hNS | ((try dsimp only at hNS); omega)) gx
          have gi := hF _ _ _ (by intro hNS; first | exact False.elim hNS | ((try dsimp only at hNS); omega)) gi
          have gt := itsAt.fr hF (fun M h1 h2 hNS => by first | exact False.elim hNS | ((try dsimp only at hNS); omega)) gt
          have gl := hF _ _ _ (by intro hNS; first | exact False.elim hNS | ((try dsimp only at hNS); omega)) gl
          have gs := seAt.fr hF (by intro hNS; first | exact False.elim hNS | ((try dsimp only at hNS); omega)) (by intro hNS; first | exact False.elim hNS | ((try dsimp only at hNS); omega)) gs
          have gh := hiAt.fr hF (by intro hNS; first | exact False.elim hNS | ((try dsimp only at hNS); omega)) (by intro hNS; first | exact False.elim hNS | ((try dsimp only at hNS); omega)) (by intro hNS; first | exact False.elim hNS | ((try dsimp only at hNS); omega)) (by intro hNS; first | exact False.elim hNS | ((try dsimp only at hNS); omega)) gh
          have go := hF _ _ _ (by intro hNS; first | exact False.elim hNS | ((try dsimp only at hNS); omega)) go
          have htx := txAt.fr hF (by intro hNS; first | exact False.elim hNS | ((try dsimp only at hNS); omega)) (by intro hNS; first | exact False.elim hNS | ((try dsimp only at hNS); omega)) htx
          have ff_15 := hN_14
          refine hw_topi hr ?_
          refine hw_bz_eqF (tgt := 30) hx hb dIx_gather_16 (by decide) rfl ?_
          refine lv_aload_n hx hb dIx_gather_19 rfl (lv_at hl 3 rfl) ?_
          refine lv_aload_n hx hb dIx_gather_20 rfl (lv_at hl 1 rfl) ?_
          refine hw_get hx hb hts (hwInn inIx) hown hK hZ gx rfl 9 (by decide) (hts (.fieldLink RIx 49 RIx "fieldTerms" "LWordIndex2$Terms;") (hwMem mm_207)) (fun _ h => h) rfl dIx_gather_21 ?_
          refine hw_calli (va_runU (As := [.ref b6]) (rest := []) ⟨hx, hb, hml, hown, hts⟩ (c_Nea_count l D K X_11 H_12.size (o := so) (L := Lo) (u := u) (v := v) (dd := dd) (b := b6) (kb := 8) (Nb := 750) (tb := (((its.getD (n - 1) hwIt0).2 j).1).map (trm (lg j) ss)) go ff_15 (by assumption) (by assumption) (by omega)) (va_cwU (owner := RSearch) 1 hts (hwGood (hw_5 mm_224 mm_225 mm_242 mm_227 mm_109 (hwAll mm_223))) rfl rfl rfl rfl (by decide +kernel) ⟨Nat.le_of_ble_eq_true rfl, Nat.le_of_ble_eq_true rfl⟩) (hw_preV hK hO hZ (⟨_, _, go⟩) rfl) rfl rfl hl.1 rfl (lv_room (Nat.le_of_ble_eq_true rfl)) dIx_gather_24 ⟨(show 0 + 0 ≤ 0 by omega), (show 0 + 0 ≤ 0 by omega)⟩) hZ hA (fun r X_17 H_18 lc_19 hp hZ => ?_)
          obtain ⟨hr, hy, xx_20⟩ := hp
          subst hy
          refine hw_topi hr ?_
          refine lv_goto (tgt := 31) hx hb dIx_gather_27 (by decide) ?_
          refine lv_istore (lv' := [(4, .int (nI (((((its.getD (n - 1) hwIt0).2 j).1).map (trm (lg j) ss)).countP (fun w => decide (w ≠ []) && (decide (w = u ∨ w = v)))))), (3, .int (nI n)), (0, .ref a), (1, .int (nI j)), (2, .ref so)]) hx hb dIx_gather_31 hl (by decide) rfl (fun ls hl => ?_)
          refine lv_iload hx hb dIx_gather_33 (lv_at hl 0 rfl) ?_
          refine hw_if_le (a := ((((its.getD (n - 1) hwIt0).2 j).1).map (trm (lg j) ss)).countP (fun w => decide (w ≠ []) && (decide (w = u ∨ w = v)))) (tgt := 66) hx hb dIx_gather_35 (by decide) (by omega) (fun cq_21 => ?_) (fun cq_21 => ?_)
          · refine lv_iinc (v := nI (n + 1)) (lv' := [(3, .int (nI (n + 1))), (4, .int (nI (((((its.getD (n - 1) hwIt0).2 j).1).map (trm (lg j) ss)).countP (fun w => decide (w ≠ []) && (decide (w = u ∨ w = v)))))), (0, .ref a), (1, .int (nI j)), (2, .ref so)]) hx hb dIx_gather_66 hl (k := 1) rfl (nI_add _ 1) (by decide) rfl (fun ls hl => ?_)
            refine lv_goto (tgt := 2) hx hb dIx_gather_69 (by decide) ?_
            exact ih2 (n + 1) hz ((((its.getD (n - 1) hwIt0).2 j).1).map (trm (lg j) ss)) _ _ _ _ (by omega) (by omega) (by omega) (gaN_no (by omega) hhz (Tf_t hth) (and_f1 (decide_eq_false (Nat.not_lt.mpr cq_21)))) hFr gx gi gt gl ff_15 gs gh go hZ (lv_sub hl [0, 2, 3, 4] rfl)
          · refine lv_aload_n hx hb dIx_gather_38 rfl (lv_at hl 4 rfl) ?_
            refine lv_aload_n hx hb dIx_gather_39 rfl (lv_at hl 2 rfl) ?_
            refine hw_get hx hb hts (hwInn inIx) hown hK hZ gx rfl 9 (by decide) (hts (.fieldLink RIx 49 RIx "fieldTerms" "LWordIndex2$Terms;") (hwMem mm_207)) (fun _ h => h) rfl dIx_gather_40 ?_
            refine hw_calli (va_runU (As := [.ref b6]) (rest := []) ⟨hx, hb, hml, hown, hts⟩ (c_Nea_meets l D K X_11 H_18.size (o := so) (L := Lo) (u := u) (v := v) (dd := dd) (b := b6) (kb := 8) (Nb := 750) (tb := (((its.getD (n - 1) hwIt0).2 j).1).map (trm (lg j) ss)) go ff_15 (by assumption) (by assumption) (by omega)) (va_cwA (owner := RSearch) 1 hts (hwGood (hw_5 mm_229 mm_230 mm_244 mm_245 mm_147 (hwAll mm_243))) rfl rfl rfl (hO.2 _ (List.mem_of_getElem? (i := 6) rfl)) (by decide +kernel) ⟨Nat.le_of_ble_eq_true rfl, Nat.le_of_ble_eq_true rfl⟩) (hw_preV hK hO hZ (⟨_, _, go⟩) rfl) rfl rfl hl.1 rfl (lv_room (Nat.le_of_ble_eq_true rfl)) dIx_gather_43 ⟨(show 0 + 0 ≤ 0 by omega), (show 0 + 0 ≤ 0 by omega)⟩) hZ hA (fun r X_22 H_23 lc_24 hp hZ => ?_)
            obtain ⟨hr, hy⟩ := hp
            subst hy
            refine hw_topi hr ?_
            refine hw_bz_eq (tgt := 66) hx hb dIx_gather_46 (by decide) (fun cq_25 => ?_) (fun cq_25 => ?_)
            · refine lv_iinc (v := nI (n + 1)) (lv' := [(3, .int (nI (n + 1))), (4, .int (nI (((((its.getD (n - 1) hwIt0).2 j).1).map (trm (lg j) ss)).countP (fun w => decide (w ≠ []) && (decide (w = u ∨ w = v)))))), (0, .ref a), (1, .int (nI j)), (2, .ref so)]) hx hb dIx_gather_66 hl (k := 1) rfl (nI_add _ 1) (by decide) rfl (fun ls hl => ?_)
              refine lv_goto (tgt := 2) hx hb dIx_gather_69 (by decide) ?_
              exact ih2 (n + 1) hz ((((its.getD (n - 1) hwIt0).2 j).1).map (trm (lg j) ss)) _ _ _ _ (by omega) (by omega) (by omega) (gaN_no (by omega) hhz (Tf_t hth) (and_f2 cq_25)) hFr gx gi gt gl ff_15 gs gh go hZ (lv_sub hl [0, 2, 3, 4] rfl)
            · refine lv_aload_n hx hb dIx_gather_49 rfl (lv_at hl 2 rfl) ?_
              refine hw_get hx hb hts (hwInn inIx) hown hK hZ gx rfl 7 (by decide) (hts (.fieldLink RIx 38 RIx "hits" "LWordIndex2$Hits;") (hwMem mm_214)) (fun _ h => h) rfl dIx_gather_50 ?_
              refine lv_iload_n hx hb dIx_gather_53 rfl (lv_at hl 1 rfl) ?_
              refine lv_iload hx hb dIx_gather_54 (lv_at hl 0 rfl) ?_
              refine lv_aload_n hx hb dIx_gather_56 rfl (lv_at hl 2 rfl) ?_
              refine hw_get hx hb hts (hwInn inIx) hown hK hZ gx rfl 9 (by decide) (hts (.fieldLink RIx 49 RIx "fieldTerms" "LWordIndex2$Terms;") (hwMem mm_207)) (fun _ h => h) rfl dIx_gather_57 ?_
              refine hw_calli (va_runV (As := []) (rest := [.int (nI (((((its.getD (n - 1) hwIt0).2 j).1).map (trm (lg j) ss)).countP (fun w => decide (w ≠ []) && (decide (w = u ∨ w = v))))), .int (nI n), .ref b4]) ⟨hx, hb, hml, hown, hts⟩ (c_Tm_size l D K X_11 H_23.size (a := b6) (k := 8) (N := 750) (ts := (((its.getD (n - 1) hwIt0).2 j).1).map (trm (lg j) ss)) ff_15) (cwV 0 hts (hwGood (hw_4 mm_233 mm_131 mm_132 mm_89 (hwAll mm_129))) rfl rfl rfl (by decide +kernel) ⟨Nat.le_of_ble_eq_true rfl, Nat.le_of_ble_eq_true rfl⟩) (hw_preV hK hO hZ (tmAt.ob ff_15) rfl) rfl rfl hl.1 rfl (lv_room (Nat.le_of_ble_eq_true rfl)) dIx_gather_60 ⟨(show 0 + 0 ≤ 0 by omega), (show 0 + 0 ≤ 0 by omega)⟩) hZ hA (fun r X_26 H_27 lc_28 hp hZ => ?_)
              obtain ⟨hr, hy⟩ := hp
              subst hy
              refine hw_topi hr ?_
              refine hw_callv (va_runV (As := [.int (nI n), .int (nI (((((its.getD (n - 1) hwIt0).2 j).1).map (trm (lg j) ss)).countP (fun w => decide (w ≠ []) && (decide (w = u ∨ w = v))))), .int (nI (((((its.getD (n - 1) hwIt0).2 j).1).map (trm (lg j) ss)).length))]) (rest := []) ⟨hx, hb, hml, hown, hts⟩ (c_Hi_add l D K X_11 H_27.size (a := b4) (hs := hz) (x0 := n) (c0 := ((((its.getD (n - 1) hwIt0).2 j).1).map (trm (lg j) ss)).countP (fun w => decide (w ≠ []) && (decide (w = u ∨ w = v)))) (z0 := ((((its.getD (n - 1) hwIt0).2 j).1).map (trm (lg j) ss)).length) gh (by omega) (by omega) (by omega)) (cwV 3 hts (hwGood (hw_4 mm_235 mm_236 mm_237 mm_95 (hwAll mm_234))) rfl rfl rfl (by decide +kernel) ⟨Nat.le_of_ble_eq_true rfl, Nat.le_of_ble_eq_true rfl⟩) (hw_preV hK hO hZ (hiAt.ob gh) rfl) rfl rfl hl.1 rfl (lv_room (Nat.le_of_ble_eq_true rfl)) dIx_gather_63 ⟨(show 0 + 0 ≤ 0 by omega), (show 0 + 0 ≤ 0 by omega)⟩) hZ hA (fun X_29 H_30 lc_31 hp hZ => ?_)
              obtain ⟨hF, hN_32⟩ := hp
              have hFr := hwF.tr hFr hF (fun _ h => h) (fun M h => by first | exact False.elim h | ((try dsimp only at h ⊢); omega))
              have gx := hF _ _ _ (by intro hNS; first | exact False.elim hNS | ((try dsimp only at hNS); omega)) gx
              have gi := hF _ _ _ (by intro hNS; first | exact False.elim hNS | ((try dsimp only at hNS); omega)) gi
              have gt := itsAt.fr hF (fun M h1 h2 hNS => by first | exact False.elim hNS | ((try dsimp only at hNS); omega)) gt
              have gl := hF _ _ _ (by intro hNS; first | exact False.elim hNS | ((try dsimp only at hNS); omega)) gl
              have gs := seAt.fr hF (by intro hNS; first | exact False.elim hNS | ((try dsimp only at hNS); omega)) (by intro hNS; first | exact False.elim hNS | ((try dsimp only at hNS); omega)) gs
              have go := hF _ _ _ (by intro hNS; first | exact False.elim hNS | ((try dsimp only at hNS); omega)) go
              have htx := txAt.fr hF (by intro hNS; first | exact False.elim hNS | ((try dsimp only at hNS); omega)) (by intro hNS; first | exact False.elim hNS | ((try dsimp only at hNS); omega)) htx
              have ff_15 := tmAt.fr hF (by intro hNS; first | exact False.elim hNS | ((try dsimp only at hNS); omega)) (by intro hNS; first | exact False.elim hNS | ((try dsimp only at hNS); omega)) ff_15
              have ff_33 := hN_32
              refine lv_iinc (v := nI (n + 1)) (lv' := [(3, .int (nI (n + 1))), (4, .int (nI (((((its.getD (n - 1) hwIt0).2 j).1).map (trm (lg j) ss)).countP (fun w => decide (w ≠ []) && (decide (w = u ∨ w = v)))))), (0, .ref a), (1, .int (nI j)), (2, .ref so)]) hx hb dIx_gather_66 hl (k := 1) rfl (nI_add _ 1) (by decide) rfl (fun ls hl => ?_)
              refine lv_goto (tgt := 2) hx hb dIx_gather_69 (by decide) ?_
              exact ih2 (n + 1) (if 30 ≤ hz.length then hz else insH (n, ((((its.getD (n - 1) hwIt0).2 j).1).map (trm (lg j) ss)).countP (fun w => decide (w ≠ []) && (decide (w = u ∨ w = v))), ((((its.getD (n - 1) hwIt0).2 j).1).map (trm (lg j) ss)).length) hz) ((((its.getD (n - 1) hwIt0).2 j).1).map (trm (lg j) ss)) _ _ _ _ (by omega) (by omega) (by omega) (gaN_yes (by omega) hhz (Tf_t hth) (and_tt (decide_eq_true cq_21) cq_25)) hFr gx gi gt gl ff_15 gs ff_33 go hZ (lv_sub hl [0, 2, 3, 4] rfl)
  exact loop2 (ni + 1 - 1 + 1) 1 hs0 tf _ _ _ _ (by omega) (by omega) (by omega) (by rw [hh0]; rfl) hFr f0_ f1_ f2_ f3_ f4_ f5_ f6_ f7_ hZ (lv_sub hl [0, 1, 2, 3] rfl)
set_option maxHeartbeats 4000000 in
set_option maxRecDepth 100000 in
theorem c_Ix_gatherWil (l : Launch) (D : va_G) (K : Nat → ClassId) (X : hwW) (sz : Nat) (a : Nat) (b0 : Nat) (b1 : Nat) (b2 : Nat) (b3 : Nat) (b4 : Nat) (b5 : Nat) (b6 : Nat) (b7 : Nat) (b8 : Nat) (ni : Nat) (fs : Nat) (qs : Nat) (fi : Nat → Option Nat) (fl : Nat → Int32) (its : hwIt) (lg : Nat → Nat) (tf : List (List Nat)) (ss : List (List Nat)) (hs0 : List (Nat × Nat × Nat)) (so : Nat) (Lo : Nat) (u : List Nat) (be : Bool) (j : Nat) (f0_ : hwH X a 0 (.inr (5, [.ref b0, .int (nI ni), .int (nI fs), .ref b1, .ref b2, .int (nI qs), .ref b3, .ref b4, .ref b5, .ref b6, .ref b7, .ref b8]))) (f1_ : hwH X b0 1 (.inl (K 4, 30, .inr (.inr (.inr (.inr fi)))))) (f2_ : itsAt K X fi its) (f3_ : hwH X b1 2 (.inl (K 0, 4, .inl fl))) (f4_ : tmAt K X b6 8 750 tf) (f5_ : seAt K X b3 6 40 ss) (f6_ : hiAt K X b4 hs0) (f7_ : hwH X so Lo (.inr (9, [.long (lN (eW u)), .int (bI be)]))) (hni : ni = its.length) (hni3 : its.length ≤ 30) (hj : j < 4) (hfl : ∀ j, j < 4 → fl j = nI (lg j)) (hlg : ∀ j, lg j < 3) (hok : okIt its) (hs : ss.Pairwise (· < ·)) (hh0 : hs0 = []) (hLo : Lo = 52) (hu : okW u) : Met l yIx_gather (.code yIx_gather cIx_gather 5 (some .int) :: hwG) ({ frames := 6, cells := 0, slots := 0, locals := 138 } : Room) (hwPc D vwCl (hwT K) [.ref a, .int (nI j), .ref so] X sz) (hwQi D vwCl X sz (fun r Y => ∃ tz : List (List Nat), r = nI (gaN (fun tb => decide (0 < tb.countP (fun w => decide (w ≠ []) && (bif be then endL w u else begL w u)))) (fun tb => tb.countP (fun w => decide (w ≠ []) && (bif be then endL w u else begL w u))) (Tf its lg ss j) ni).length ∧ hwF X Y (fun M => M = 16 ∨ M = 17 ∨ (60 ≤ M ∧ M ≤ 63)) ∧ tmAt K Y b6 8 750 tz ∧ hiAt K Y b4 (gaN (fun tb => decide (0 < tb.countP (fun w => decide (w ≠ []) && (bif be then endL w u else begL w u)))) (fun tb => tb.countP (fun w => decide (w ≠ []) && (bif be then endL w u else begL w u))) (Tf its lg ss j) ni))) 0 0 (va_A X.1 sz) := by
  refine hwMeti (cc := cIx_gather) (maxL := 5) (by decide) rfl (Nat.le_of_ble_eq_true rfl) (fun p e s m args below meth c ls A Q hx hb hml hown hts hname hret hK hO hZ hA hl => ?_)
  have hl : lv_has ls 5 [(0, .ref a), (1, .int (nI j)), (2, .ref so)] := hl
  have hFr : hwF X X (fun M => M = 16 ∨ M = 17 ∨ (60 ≤ M ∧ M ≤ 63)) := hwF.rf
  refine lv_iconst (v := nI 1) hx hb dIx_gather_0 (by decide) ?_
  refine lv_istore_n (lv' := [(3, .int (nI 1)), (0, .ref a), (1, .int (nI j)), (2, .ref so)]) hx hb dIx_gather_1 rfl hl (by decide) rfl (fun ls hl => ?_)
  have loop2 : ∀ (fuel : Nat) (n : Nat) (hz : List (Nat × Nat × Nat)) (tz : List (List Nat)) (XL2 : hwW) (Hh : Heap) (lcs : List Loc) (ls : Array Slot), ni + 1 - n < fuel → (1 ≤ n) → (n ≤ ni + 1) → (hz = gaN (fun tb => decide (0 < tb.countP (fun w => decide (w ≠ []) && (bif be then endL w u else begL w u)))) (fun tb => tb.countP (fun w => decide (w ≠ []) && (bif be then endL w u else begL w u))) (Tf its lg ss j) (n - 1)) → (hwF X XL2 (fun M => M = 16 ∨ M = 17 ∨ (60 ≤ M ∧ M ≤ 63))) → (hwH XL2 a 0 (.inr (5, [.ref b0, .int (nI ni), .int (nI fs), .ref b1, .ref b2, .int (nI qs), .ref b3, .ref b4, .ref b5, .ref b6, .ref b7, .ref b8]))) → (hwH XL2 b0 1 (.inl (K 4, 30, .inr (.inr (.inr (.inr fi)))))) → (itsAt K XL2 fi its) → (hwH XL2 b1 2 (.inl (K 0, 4, .inl fl))) → (tmAt K XL2 b6 8 750 tz) → (seAt K XL2 b3 6 40 ss) → (hiAt K XL2 b4 hz) → (hwH XL2 so Lo (.inr (9, [.long (lN (eW u)), .int (bI be)]))) → hwZ D vwCl A s.heap XL2 Hh lcs → lv_has ls 5 [(3, .int (nI n)), (0, .ref a), (1, .int (nI j)), (2, .ref so)] → W p l e ({ frames := 6, cells := 0, slots := 0, locals := 138 } : Room) s m args below meth c Hh lcs 0 0 Q (F0 m 2 ls []) := by
    intro fuel; induction fuel with
    | zero => intro n hz tz XL2 Hh lcs ls hfu; exact absurd hfu (Nat.not_lt_zero _)
    | succ fuel ih2 =>
      intro n hz tz XL2 Hh lcs ls hfu2 hn1 hn2 hhz hFr gx gi gt gl gf gs gh go hZ hl
      refine lv_iload_n hx hb dIx_gather_2 rfl (lv_at hl 0 rfl) ?_
      refine lv_aload_n hx hb dIx_gather_3 rfl (lv_at hl 1 rfl) ?_
      refine hw_get hx hb hts (hwInn inIx) hown hK hZ gx rfl 1 (by decide) (hts (.fieldLink RIx 58 RIx "itemCount" "I") (hwMem mm_182)) (fun _ h => h) rfl dIx_gather_4 ?_
      refine hw_ic_gt (a := n) (b := ni) (tgt := 72) hx hb dIx_gather_7 (by decide) (by omega) (by omega) (fun cq_1 => ?_) (fun cq_1 => ?_)
      · refine lv_aload_n hx hb dIx_gather_72 rfl (lv_at hl 1 rfl) ?_
        refine hw_get hx hb hts (hwInn inIx) hown hK hZ gx rfl 7 (by decide) (hts (.fieldLink RIx 38 RIx "hits" "LWordIndex2$Hits;") (hwMem mm_214)) (fun _ h => h) rfl dIx_gather_73 ?_
        refine hw_calli (va_runV (As := []) (rest := []) ⟨hx, hb, hml, hown, hts⟩ (c_Hi_sizeP l D K XL2 Hh.size (a := b4) (hs := hz) gh) (cwV 0 hts (hwGood (hw_4 mm_216 mm_217 mm_218 mm_95 (hwAll mm_215))) rfl rfl rfl (by decide +kernel) ⟨Nat.le_of_ble_eq_true rfl, Nat.le_of_ble_eq_true rfl⟩) (hw_preV hK hO hZ (hiAt.ob gh) rfl) rfl rfl hl.1 rfl (lv_room (Nat.le_of_ble_eq_true rfl)) dIx_gather_76 ⟨(show 0 + 0 ≤ 0 by omega), (show 0 + 0 ≤ 0 by omega)⟩) hZ hA (fun r X_2 H_3 lc_4 hp hZ => ?_)
        obtain ⟨hr, hy, xx_5⟩ := hp
        subst hy
        refine hw_topi hr ?_
        exact hret hZ ⟨tz, by rw [hhz, show n - 1 = ni by omega], hFr, gf, by rw [show ni = n - 1 by omega, ← hhz]; exact gh⟩ dIx_gather_79
      · cases hth : (its.getD (n - 1) hwIt0).1
        · have hpi := itsAt.pi gt (i := n - 1) (by omega)
          rw [hth] at hpi
          refine lv_aload_n hx hb dIx_gather_10 rfl (lv_at hl 1 rfl) ?_
          refine lv_iload_n hx hb dIx_gather_11 rfl (lv_at hl 0 rfl) ?_
          refine lv_iload_n hx hb dIx_gather_12 rfl (lv_at hl 2 rfl) ?_
          refine hw_calli (va_runV (As := [.int (nI n), .int (nI j)]) (rest := []) ⟨hx, hb, hml, hown, hts⟩ (c_Ix_readF l D K XL2 Hh.size (a := a) (b0 := b0) (b1 := b1) (b2 := b2) (b3 := b3) (b4 := b4) (b5 := b5) (b6 := b6) (b7 := b7) (b8 := b8) (ni := ni) (fs := fs) (qs := qs) (fi := fi) (n := n) (kind := nI j) gx gi (by omega) (by omega) (by omega) (by assumption)) (cwV 2 hts (hwGood (hw_4 mm_220 mm_221 mm_222 mm_188 (hwAll mm_219))) rfl rfl rfl (by decide +kernel) ⟨Nat.le_of_ble_eq_true rfl, Nat.le_of_ble_eq_true rfl⟩) (hw_preV hK hO hZ (⟨_, _, gx⟩) rfl) rfl rfl hl.1 rfl (lv_room (Nat.le_of_ble_eq_true rfl)) dIx_gather_13 ⟨(show 0 + 0 ≤ 0 by omega), (show 0 + 0 ≤ 0 by omega)⟩) hZ hA (fun r X_6 H_7 lc_8 hp hZ => ?_)
          obtain ⟨hr, hy⟩ := hp
          subst hy
          refine hw_topi hr ?_
          refine hw_bz_eqT (tgt := 30) hx hb dIx_gather_16 (by decide) rfl ?_
          refine lv_iconst (v := nI 0) hx hb dIx_gather_30 (by decide) ?_
          refine lv_istore (lv' := [(4, .int (nI 0)), (3, .int (nI n)), (0, .ref a), (1, .int (nI j)), (2, .ref so)]) hx hb dIx_gather_31 hl (by decide) rfl (fun ls hl => ?_)
          refine lv_iload hx hb dIx_gather_33 (lv_at hl 0 rfl) ?_
          refine hw_if_le (a := 0) (tgt := 66) hx hb dIx_gather_35 (by decide) (by omega) (fun cq_10 => ?_) (fun cq_10 => by exfalso; omega)
          refine lv_iinc (v := nI (n + 1)) (lv' := [(3, .int (nI (n + 1))), (4, .int (nI 0)), (0, .ref a), (1, .int (nI j)), (2, .ref so)]) hx hb dIx_gather_66 hl (k := 1) rfl (nI_add _ 1) (by decide) rfl (fun ls hl => ?_)
          refine lv_goto (tgt := 2) hx hb dIx_gather_69 (by decide) ?_
          exact ih2 (n + 1) hz tz _ _ _ _ (by omega) (by omega) (by omega) (gaN_none (by omega) hhz (Tf_f hth)) hFr gx gi gt gl gf gs gh go hZ (lv_sub hl [0, 2, 3, 4] rfl)
        · obtain ⟨t, hpt, htx⟩ := itsAt.pt gt (i := n - 1) (j := j) (by omega) (by omega)
          rw [hth] at hpt
          have hlen : (((its.getD (n - 1) hwIt0).2 j).1.map (trm (lg j) ss)).length ≤ 600 := by rw [List.length_map]; exact (hok (n - 1) j).2
          refine lv_aload_n hx hb dIx_gather_10 rfl (lv_at hl 1 rfl) ?_
          refine lv_iload_n hx hb dIx_gather_11 rfl (lv_at hl 0 rfl) ?_
          refine lv_iload_n hx hb dIx_gather_12 rfl (lv_at hl 2 rfl) ?_
          refine hw_calli (va_runV (As := [.int (nI n), .int (nI j)]) (rest := []) ⟨hx, hb, hml, hown, hts⟩ (c_Ix_read l D K XL2 Hh.size (a := a) (b0 := b0) (b1 := b1) (b2 := b2) (b3 := b3) (b4 := b4) (b5 := b5) (b6 := b6) (b7 := b7) (b8 := b8) (ni := ni) (fs := fs) (qs := qs) (fi := fi) (fl := fl) (tf := tz) (t := t) (kt := 55 + 10 * (n - 1) + j) (ws := ((its.getD (n - 1) hwIt0).2 j).1) (o := ((its.getD (n - 1) hwIt0).2 j).2) (ss := ss) (n := n) (j := j) (g := (lg j)) gx gi gl gf htx gs (by omega) (by omega) (by omega) (by omega) (by assumption) (by omega) (hfl j hj) (hlg j) (Nat.le_trans (hok (n - 1) j).2 (by decide)) (hok (n - 1) j).1 (by assumption)) (cwV 2 hts (hwGood (hw_4 mm_220 mm_221 mm_222 mm_188 (hwAll mm_219))) rfl rfl rfl (by decide +kernel) ⟨Nat.le_of_ble_eq_true rfl, Nat.le_of_ble_eq_true rfl⟩) (hw_preV hK hO hZ (⟨_, _, gx⟩) rfl) rfl rfl hl.1 rfl (lv_room (Nat.le_of_ble_eq_true rfl)) dIx_gather_13 ⟨(show 0 + 0 ≤ 0 by omega), (show 0 + 0 ≤ 0 by omega)⟩) hZ hA (fun r X_11 H_12 lc_13 hp hZ => ?_)
          obtain ⟨hr, hF, hN_14⟩ := hp
          have hFr := hwF.tr hFr hF (fun _ h => h) (fun M h => by first | exact False.elim h | ((try dsimp only at h ⊢); omega))
          have gx := hF _ _ _ (by intro hNS; first | exact False.elim hNS | ((try dsimp only at hNS); omega)) gx
          have gi := hF _ _ _ (by intro hNS; first | exact False.elim hNS | ((try dsimp only at hNS); omega)) gi
          have gt := itsAt.fr hF (fun M h1 h2 hNS => by first | exact False.elim hNS | ((try dsimp only at hNS); omega)) gt
          have gl := hF _ _ _ (by intro hNS; first | exact False.elim hNS | ((try dsimp only at hNS); omega)) gl
          have gs := seAt.fr hF (by intro hNS; first | exact False.elim hNS | ((try dsimp only at hNS); omega)) (by intro hNS; first | exact False.elim hNS | ((try dsimp only at hNS); omega)) gs
          have gh := hiAt.fr hF (by intro hNS; first | exact False.elim hNS | ((try dsimp only at hNS); omega)) (by intro hNS; first | exact False.elim hNS | ((try dsimp only at hNS); omega)) (by intro hNS; first | exact False.elim hNS | ((try dsimp only at hNS); omega)) (by intro hNS; first | exact False.elim hNS | ((try dsimp only at hNS); omega)) gh
          have go := hF _ _ _ (by intro hNS; first | exact False.elim hNS | ((try dsimp only at hNS); omega)) go
          have htx := txAt.fr hF (by intro hNS; first | exact False.elim hNS | ((try dsimp only at hNS); omega)) (by intro hNS; first | exact False.elim hNS | ((try dsimp only at hNS); omega)) htx
          have ff_15 := hN_14
          refine hw_topi hr ?_
          refine hw_bz_eqF (tgt := 30) hx hb dIx_gather_16 (by decide) rfl ?_
          refine lv_aload_n hx hb dIx_gather_19 rfl (lv_at hl 3 rfl) ?_
          refine lv_aload_n hx hb dIx_gather_20 rfl (lv_at hl 1 rfl) ?_
          refine hw_get hx hb hts (hwInn inIx) hown hK hZ gx rfl 9 (by decide) (hts (.fieldLink RIx 49 RIx "fieldTerms" "LWordIndex2$Terms;") (hwMem mm_207)) (fun _ h => h) rfl dIx_gather_21 ?_
          refine hw_calli (va_runU (As := [.ref b6]) (rest := []) ⟨hx, hb, hml, hown, hts⟩ (c_Wil_count l D K X_11 H_12.size (o := so) (L := Lo) (u := u) (be := be) (b := b6) (kb := 8) (Nb := 750) (tb := (((its.getD (n - 1) hwIt0).2 j).1).map (trm (lg j) ss)) go ff_15 (by assumption)) (va_cwU (owner := RSearch) 1 hts (hwGood (hw_5 mm_224 mm_225 mm_246 mm_227 mm_109 (hwAll mm_223))) rfl rfl rfl rfl (by decide +kernel) ⟨Nat.le_of_ble_eq_true rfl, Nat.le_of_ble_eq_true rfl⟩) (hw_preV hK hO hZ (⟨_, _, go⟩) rfl) rfl rfl hl.1 rfl (lv_room (Nat.le_of_ble_eq_true rfl)) dIx_gather_24 ⟨(show 0 + 0 ≤ 0 by omega), (show 0 + 0 ≤ 0 by omega)⟩) hZ hA (fun r X_17 H_18 lc_19 hp hZ => ?_)
          obtain ⟨hr, hy, xx_20⟩ := hp
          subst hy
          refine hw_topi hr ?_
          refine lv_goto (tgt := 31) hx hb dIx_gather_27 (by decide) ?_
          refine lv_istore (lv' := [(4, .int (nI (((((its.getD (n - 1) hwIt0).2 j).1).map (trm (lg j) ss)).countP (fun w => decide (w ≠ []) && (bif be then endL w u else begL w u))))), (3, .int (nI n)), (0, .ref a), (1, .int (nI j)), (2, .ref so)]) hx hb dIx_gather_31 hl (by decide) rfl (fun ls hl => ?_)
          refine lv_iload hx hb dIx_gather_33 (lv_at hl 0 rfl) ?_
          refine hw_if_le (a := ((((its.getD (n - 1) hwIt0).2 j).1).map (trm (lg j) ss)).countP (fun w => decide (w ≠ []) && (bif be then endL w u else begL w u))) (tgt := 66) hx hb dIx_gather_35 (by decide) (by omega) (fun cq_21 => ?_) (fun cq_21 => ?_)
          · refine lv_iinc (v := nI (n + 1)) (lv' := [(3, .int (nI (n + 1))), (4, .int (nI (((((its.getD (n - 1) hwIt0).2 j).1).map (trm (lg j) ss)).countP (fun w => decide (w ≠ []) && (bif be then endL w u else begL w u))))), (0, .ref a), (1, .int (nI j)), (2, .ref so)]) hx hb dIx_gather_66 hl (k := 1) rfl (nI_add _ 1) (by decide) rfl (fun ls hl => ?_)
            refine lv_goto (tgt := 2) hx hb dIx_gather_69 (by decide) ?_
            exact ih2 (n + 1) hz ((((its.getD (n - 1) hwIt0).2 j).1).map (trm (lg j) ss)) _ _ _ _ (by omega) (by omega) (by omega) (gaN_no (by omega) hhz (Tf_t hth) (decide_eq_false (Nat.not_lt.mpr cq_21))) hFr gx gi gt gl ff_15 gs gh go hZ (lv_sub hl [0, 2, 3, 4] rfl)
          · refine lv_aload_n hx hb dIx_gather_38 rfl (lv_at hl 4 rfl) ?_
            refine lv_aload_n hx hb dIx_gather_39 rfl (lv_at hl 2 rfl) ?_
            refine hw_get hx hb hts (hwInn inIx) hown hK hZ gx rfl 9 (by decide) (hts (.fieldLink RIx 49 RIx "fieldTerms" "LWordIndex2$Terms;") (hwMem mm_207)) (fun _ h => h) rfl dIx_gather_40 ?_
            refine hw_calli (va_runU (As := [.ref b6]) (rest := []) ⟨hx, hb, hml, hown, hts⟩ (c_Wil_meets l D K X_11 H_18.size (o := so) (L := Lo) (u := u) (be := be) (b := b6) (kb := 8) (Nb := 750) (tb := (((its.getD (n - 1) hwIt0).2 j).1).map (trm (lg j) ss)) go ff_15 (by assumption)) (va_cwA (owner := RSearch) 1 hts (hwGood (hw_5 mm_229 mm_230 mm_248 mm_249 mm_151 (hwAll mm_247))) rfl rfl rfl (hO.2 _ (List.mem_of_getElem? (i := 6) rfl)) (by decide +kernel) ⟨Nat.le_of_ble_eq_true rfl, Nat.le_of_ble_eq_true rfl⟩) (hw_preV hK hO hZ (⟨_, _, go⟩) rfl) rfl rfl hl.1 rfl (lv_room (Nat.le_of_ble_eq_true rfl)) dIx_gather_43 ⟨(show 0 + 0 ≤ 0 by omega), (show 0 + 0 ≤ 0 by omega)⟩) hZ hA (fun r X_22 H_23 lc_24 hp hZ => ?_)
            obtain ⟨hr, hy⟩ := hp
            subst hy
            refine hw_topi hr ?_
            refine hw_bz_eqF (tgt := 66) hx hb dIx_gather_46 (by decide) rfl ?_
            refine lv_aload_n hx hb dIx_gather_49 rfl (lv_at hl 2 rfl) ?_
            refine hw_get hx hb hts (hwInn inIx) hown hK hZ gx rfl 7 (by decide) (hts (.fieldLink RIx 38 RIx "hits" "LWordIndex2$Hits;") (hwMem mm_214)) (fun _ h => h) rfl dIx_gather_50 ?_
            refine lv_iload_n hx hb dIx_gather_53 rfl (lv_at hl 1 rfl) ?_
            refine lv_iload hx hb dIx_gather_54 (lv_at hl 0 rfl) ?_
            refine lv_aload_n hx hb dIx_gather_56 rfl (lv_at hl 2 rfl) ?_
            refine hw_get hx hb hts (hwInn inIx) hown hK hZ gx rfl 9 (by decide) (hts (.fieldLink RIx 49 RIx "fieldTerms" "LWordIndex2$Terms;") (hwMem mm_207)) (fun _ h => h) rfl dIx_gather_57 ?_
            refine hw_calli (va_runV (As := []) (rest := [.int (nI (((((its.getD (n - 1) hwIt0).2 j).1).map (trm (lg j) ss)).countP (fun w => decide (w ≠ []) && (bif be then endL w u else begL w u)))), .int (nI n), .ref b4]) ⟨hx, hb, hml, hown, hts⟩ (c_Tm_size l D K X_11 H_23.size (a := b6) (k := 8) (N := 750) (ts := (((its.getD (n - 1) hwIt0).2 j).1).map (trm (lg j) ss)) ff_15) (cwV 0 hts (hwGood (hw_4 mm_233 mm_131 mm_132 mm_89 (hwAll mm_129))) rfl rfl rfl (by decide +kernel) ⟨Nat.le_of_ble_eq_true rfl, Nat.le_of_ble_eq_true rfl⟩) (hw_preV hK hO hZ (tmAt.ob ff_15) rfl) rfl rfl hl.1 rfl (lv_room (Nat.le_of_ble_eq_true rfl)) dIx_gather_60 ⟨(show 0 + 0 ≤ 0 by omega), (show 0 + 0 ≤ 0 by omega)⟩) hZ hA (fun r X_26 H_27 lc_28 hp hZ => ?_)
            obtain ⟨hr, hy⟩ := hp
            subst hy
            refine hw_topi hr ?_
            refine hw_callv (va_runV (As := [.int (nI n), .int (nI (((((its.getD (n - 1) hwIt0).2 j).1).map (trm (lg j) ss)).countP (fun w => decide (w ≠ []) && (bif be then endL w u else begL w u)))), .int (nI (((((its.getD (n - 1) hwIt0).2 j).1).map (trm (lg j) ss)).length))]) (rest := []) ⟨hx, hb, hml, hown, hts⟩ (c_Hi_add l D K X_11 H_27.size (a := b4) (hs := hz) (x0 := n) (c0 := ((((its.getD (n - 1) hwIt0).2 j).1).map (trm (lg j) ss)).countP (fun w => decide (w ≠ []) && (bif be then endL w u else begL w u))) (z0 := ((((its.getD (n - 1) hwIt0).2 j).1).map (trm (lg j) ss)).length) gh (by omega) (by omega) (by omega)) (cwV 3 hts (hwGood (hw_4 mm_235 mm_236 mm_237 mm_95 (hwAll mm_234))) rfl rfl rfl (by decide +kernel) ⟨Nat.le_of_ble_eq_true rfl, Nat.le_of_ble_eq_true rfl⟩) (hw_preV hK hO hZ (hiAt.ob gh) rfl) rfl rfl hl.1 rfl (lv_room (Nat.le_of_ble_eq_true rfl)) dIx_gather_63 ⟨(show 0 + 0 ≤ 0 by omega), (show 0 + 0 ≤ 0 by omega)⟩) hZ hA (fun X_29 H_30 lc_31 hp hZ => ?_)
            obtain ⟨hF, hN_32⟩ := hp
            have hFr := hwF.tr hFr hF (fun _ h => h) (fun M h => by first | exact False.elim h | ((try dsimp only at h ⊢); omega))
            have gx := hF _ _ _ (by intro hNS; first | exact False.elim hNS | ((try dsimp only at hNS); omega)) gx
            have gi := hF _ _ _ (by intro hNS; first | exact False.elim hNS | ((try dsimp only at hNS); omega)) gi
            have gt := itsAt.fr hF (fun M h1 h2 hNS => by first | exact False.elim hNS | ((try dsimp only at hNS); omega)) gt
            have gl := hF _ _ _ (by intro hNS; first | exact False.elim hNS | ((try dsimp only at hNS); omega)) gl
            have gs := seAt.fr hF (by intro hNS; first | exact False.elim hNS | ((try dsimp only at hNS); omega)) (by intro hNS; first | exact False.elim hNS | ((try dsimp only at hNS); omega)) gs
            have go := hF _ _ _ (by intro hNS; first | exact False.elim hNS | ((try dsimp only at hNS); omega)) go
            have htx := txAt.fr hF (by intro hNS; first | exact False.elim hNS | ((try dsimp only at hNS); omega)) (by intro hNS; first | exact False.elim hNS | ((try dsimp only at hNS); omega)) htx
            have ff_15 := tmAt.fr hF (by intro hNS; first | exact False.elim hNS | ((try dsimp only at hNS); omega)) (by intro hNS; first | exact False.elim hNS | ((try dsimp only at hNS); omega)) ff_15
            have ff_33 := hN_32
            refine lv_iinc (v := nI (n + 1)) (lv' := [(3, .int (nI (n + 1))), (4, .int (nI (((((its.getD (n - 1) hwIt0).2 j).1).map (trm (lg j) ss)).countP (fun w => decide (w ≠ []) && (bif be then endL w u else begL w u))))), (0, .ref a), (1, .int (nI j)), (2, .ref so)]) hx hb dIx_gather_66 hl (k := 1) rfl (nI_add _ 1) (by decide) rfl (fun ls hl => ?_)
            refine lv_goto (tgt := 2) hx hb dIx_gather_69 (by decide) ?_
            exact ih2 (n + 1) (if 30 ≤ hz.length then hz else insH (n, ((((its.getD (n - 1) hwIt0).2 j).1).map (trm (lg j) ss)).countP (fun w => decide (w ≠ []) && (bif be then endL w u else begL w u)), ((((its.getD (n - 1) hwIt0).2 j).1).map (trm (lg j) ss)).length) hz) ((((its.getD (n - 1) hwIt0).2 j).1).map (trm (lg j) ss)) _ _ _ _ (by omega) (by omega) (by omega) (gaN_yes (by omega) hhz (Tf_t hth) (decide_eq_true cq_21)) hFr gx gi gt gl ff_15 gs ff_33 go hZ (lv_sub hl [0, 2, 3, 4] rfl)
  exact loop2 (ni + 1 - 1 + 1) 1 hs0 tf _ _ _ _ (by omega) (by omega) (by omega) (by rw [hh0]; rfl) hFr f0_ f1_ f2_ f3_ f4_ f5_ f6_ f7_ hZ (lv_sub hl [0, 1, 2, 3] rfl)
set_option maxHeartbeats 4000000 in
set_option maxRecDepth 100000 in
theorem c_Ix_gatherK (l : Launch) (D : va_G) (K : Nat → ClassId) (X : hwW) (sz : Nat) (a : Nat) (b0 : Nat) (b1 : Nat) (b2 : Nat) (b3 : Nat) (b4 : Nat) (b5 : Nat) (b6 : Nat) (b7 : Nat) (b8 : Nat) (ni : Nat) (fs : Nat) (qs : Nat) (fi : Nat → Option Nat) (its : hwIt) (hs0 : List (Nat × Nat × Nat)) (so : Nat) (kind : Int32) (f0_ : hwH X a 0 (.inr (5, [.ref b0, .int (nI ni), .int (nI fs), .ref b1, .ref b2, .int (nI qs), .ref b3, .ref b4, .ref b5, .ref b6, .ref b7, .ref b8]))) (f1_ : hwH X b0 1 (.inl (K 4, 30, .inr (.inr (.inr (.inr fi)))))) (f2_ : itsAt K X fi its) (f3_ : hiAt K X b4 hs0) (hni : ni = its.length) (hni3 : its.length ≤ 30) (hk : badK kind) : Met l yIx_gather (.code yIx_gather cIx_gather 5 (some .int) :: hwG) ({ frames := 6, cells := 0, slots := 0, locals := 138 } : Room) (hwPc D vwCl (hwT K) [.ref a, .int kind, .ref so] X sz) (hwQi D vwCl X sz (fun r Y => r = nI hs0.length ∧ X = Y)) 0 0 (va_A X.1 sz) := by
  refine hwMeti (cc := cIx_gather) (maxL := 5) (by decide) rfl (Nat.le_of_ble_eq_true rfl) (fun p e s m args below meth c ls A Q hx hb hml hown hts hname hret hK hO hZ hA hl => ?_)
  have hl : lv_has ls 5 [(0, .ref a), (1, .int kind), (2, .ref so)] := hl
  refine lv_iconst (v := nI 1) hx hb dIx_gather_0 (by decide) ?_
  refine lv_istore_n (lv' := [(3, .int (nI 1)), (0, .ref a), (1, .int kind), (2, .ref so)]) hx hb dIx_gather_1 rfl hl (by decide) rfl (fun ls hl => ?_)
  have loop2 : ∀ (fuel : Nat) (n : Nat) (Hh : Heap) (lcs : List Loc) (ls : Array Slot), ni + 1 - n < fuel → (1 ≤ n) → (n ≤ ni + 1) → hwZ D vwCl A s.heap X Hh lcs → lv_has ls 5 [(3, .int (nI n)), (0, .ref a), (1, .int kind), (2, .ref so)] → W p l e ({ frames := 6, cells := 0, slots := 0, locals := 138 } : Room) s m args below meth c Hh lcs 0 0 Q (F0 m 2 ls []) := by
    intro fuel; induction fuel with
    | zero => intro n Hh lcs ls hfu; exact absurd hfu (Nat.not_lt_zero _)
    | succ fuel ih2 =>
      intro n Hh lcs ls hfu2 hn1 hn2 hZ hl
      refine lv_iload_n hx hb dIx_gather_2 rfl (lv_at hl 0 rfl) ?_
      refine lv_aload_n hx hb dIx_gather_3 rfl (lv_at hl 1 rfl) ?_
      refine hw_get hx hb hts (hwInn inIx) hown hK hZ f0_ rfl 1 (by decide) (hts (.fieldLink RIx 58 RIx "itemCount" "I") (hwMem mm_182)) (fun _ h => h) rfl dIx_gather_4 ?_
      refine hw_ic_gt (a := n) (b := ni) (tgt := 72) hx hb dIx_gather_7 (by decide) (by omega) (by omega) (fun cq_1 => ?_) (fun cq_1 => ?_)
      · refine lv_aload_n hx hb dIx_gather_72 rfl (lv_at hl 1 rfl) ?_
        refine hw_get hx hb hts (hwInn inIx) hown hK hZ f0_ rfl 7 (by decide) (hts (.fieldLink RIx 38 RIx "hits" "LWordIndex2$Hits;") (hwMem mm_214)) (fun _ h => h) rfl dIx_gather_73 ?_
        refine hw_calli (va_runV (As := []) (rest := []) ⟨hx, hb, hml, hown, hts⟩ (c_Hi_sizeP l D K X Hh.size (a := b4) (hs := hs0) f3_) (cwV 0 hts (hwGood (hw_4 mm_216 mm_217 mm_218 mm_95 (hwAll mm_215))) rfl rfl rfl (by decide +kernel) ⟨Nat.le_of_ble_eq_true rfl, Nat.le_of_ble_eq_true rfl⟩) (hw_preV hK hO hZ (hiAt.ob f3_) rfl) rfl rfl hl.1 rfl (lv_room (Nat.le_of_ble_eq_true rfl)) dIx_gather_76 ⟨(show 0 + 0 ≤ 0 by omega), (show 0 + 0 ≤ 0 by omega)⟩) hZ hA (fun r X_2 H_3 lc_4 hp hZ => ?_)
        obtain ⟨hr, hy, xx_5⟩ := hp
        subst hy
        refine hw_topi hr ?_
        exact hret hZ ⟨rfl, rfl⟩ dIx_gather_79
      · cases hth : (its.getD (n - 1) hwIt0).1
        · have hpi := itsAt.pi f2_ (i := n - 1) (by omega)
          rw [hth] at hpi
          refine lv_aload_n hx hb dIx_gather_10 rfl (lv_at hl 1 rfl) ?_
          refine lv_iload_n hx hb dIx_gather_11 rfl (lv_at hl 0 rfl) ?_
          refine lv_iload_n hx hb dIx_gather_12 rfl (lv_at hl 2 rfl) ?_
          refine hw_calli (va_runV (As := [.int (nI n), .int kind]) (rest := []) ⟨hx, hb, hml, hown, hts⟩ (c_Ix_readF l D K X Hh.size (a := a) (b0 := b0) (b1 := b1) (b2 := b2) (b3 := b3) (b4 := b4) (b5 := b5) (b6 := b6) (b7 := b7) (b8 := b8) (ni := ni) (fs := fs) (qs := qs) (fi := fi) (n := n) (kind := kind) f0_ f1_ (by omega) (by omega) (by omega) (by assumption)) (cwV 2 hts (hwGood (hw_4 mm_220 mm_221 mm_222 mm_188 (hwAll mm_219))) rfl rfl rfl (by decide +kernel) ⟨Nat.le_of_ble_eq_true rfl, Nat.le_of_ble_eq_true rfl⟩) (hw_preV hK hO hZ (⟨_, _, f0_⟩) rfl) rfl rfl hl.1 rfl (lv_room (Nat.le_of_ble_eq_true rfl)) dIx_gather_13 ⟨(show 0 + 0 ≤ 0 by omega), (show 0 + 0 ≤ 0 by omega)⟩) hZ hA (fun r X_6 H_7 lc_8 hp hZ => ?_)
          obtain ⟨hr, hy⟩ := hp
          subst hy
          refine hw_topi hr ?_
          refine hw_bz_eqT (tgt := 30) hx hb dIx_gather_16 (by decide) rfl ?_
          refine lv_iconst (v := nI 0) hx hb dIx_gather_30 (by decide) ?_
          refine lv_istore (lv' := [(4, .int (nI 0)), (3, .int (nI n)), (0, .ref a), (1, .int kind), (2, .ref so)]) hx hb dIx_gather_31 hl (by decide) rfl (fun ls hl => ?_)
          refine lv_iload hx hb dIx_gather_33 (lv_at hl 0 rfl) ?_
          refine hw_if_le (a := 0) (tgt := 66) hx hb dIx_gather_35 (by decide) (by omega) (fun cq_10 => ?_) (fun cq_10 => by exfalso; omega)
          refine lv_iinc (v := nI (n + 1)) (lv' := [(3, .int (nI (n + 1))), (4, .int (nI 0)), (0, .ref a), (1, .int kind), (2, .ref so)]) hx hb dIx_gather_66 hl (k := 1) rfl (nI_add _ 1) (by decide) rfl (fun ls hl => ?_)
          refine lv_goto (tgt := 2) hx hb dIx_gather_69 (by decide) ?_
          exact ih2 (n + 1) _ _ _ (by omega) (by omega) (by omega)  hZ (lv_sub hl [0, 2, 3, 4] rfl)
        · obtain ⟨t, hpt, htx⟩ := itsAt.pt f2_ (i := n - 1) (j := 0) (by omega) (by omega)
          rw [hth] at hpt
          refine lv_aload_n hx hb dIx_gather_10 rfl (lv_at hl 1 rfl) ?_
          refine lv_iload_n hx hb dIx_gather_11 rfl (lv_at hl 0 rfl) ?_
          refine lv_iload_n hx hb dIx_gather_12 rfl (lv_at hl 2 rfl) ?_
          refine hw_calli (va_runV (As := [.int (nI n), .int kind]) (rest := []) ⟨hx, hb, hml, hown, hts⟩ (c_Ix_readK l D K X Hh.size (a := a) (b0 := b0) (b1 := b1) (b2 := b2) (b3 := b3) (b4 := b4) (b5 := b5) (b6 := b6) (b7 := b7) (b8 := b8) (ni := ni) (fs := fs) (qs := qs) (fi := fi) (n := n) (kind := kind) (t := t) f0_ f1_ (by omega) (by omega) (by omega) (by assumption) (by assumption)) (cwV 2 hts (hwGood (hw_4 mm_220 mm_221 mm_222 mm_188 (hwAll mm_219))) rfl rfl rfl (by decide +kernel) ⟨Nat.le_of_ble_eq_true rfl, Nat.le_of_ble_eq_true rfl⟩) (hw_preV hK hO hZ (⟨_, _, f0_⟩) rfl) rfl rfl hl.1 rfl (lv_room (Nat.le_of_ble_eq_true rfl)) dIx_gather_13 ⟨(show 0 + 0 ≤ 0 by omega), (show 0 + 0 ≤ 0 by omega)⟩) hZ hA (fun r X_11 H_12 lc_13 hp hZ => ?_)
          obtain ⟨hr, hy⟩ := hp
          subst hy
          refine hw_topi hr ?_
          refine hw_bz_eqT (tgt := 30) hx hb dIx_gather_16 (by decide) rfl ?_
          refine lv_iconst (v := nI 0) hx hb dIx_gather_30 (by decide) ?_
          refine lv_istore (lv' := [(4, .int (nI 0)), (3, .int (nI n)), (0, .ref a), (1, .int kind), (2, .ref so)]) hx hb dIx_gather_31 hl (by decide) rfl (fun ls hl => ?_)
          refine lv_iload hx hb dIx_gather_33 (lv_at hl 0 rfl) ?_
          refine hw_if_le (a := 0) (tgt := 66) hx hb dIx_gather_35 (by decide) (by omega) (fun cq_15 => ?_) (fun cq_15 => by exfalso; omega)
          refine lv_iinc (v := nI (n + 1)) (lv' := [(3, .int (nI (n + 1))), (4, .int (nI 0)), (0, .ref a), (1, .int kind), (2, .ref so)]) hx hb dIx_gather_66 hl (k := 1) rfl (nI_add _ 1) (by decide) rfl (fun ls hl => ?_)
          refine lv_goto (tgt := 2) hx hb dIx_gather_69 (by decide) ?_
          exact ih2 (n + 1) _ _ _ (by omega) (by omega) (by omega)  hZ (lv_sub hl [0, 2, 3, 4] rfl)
  exact loop2 (ni + 1 - 1 + 1) 1 _ _ _ (by omega) (by omega) (by omega)  hZ (lv_sub hl [0, 1, 2, 3] rfl)
