/-! THE STATE of the class, by its cells. A row of words in an array; labels 2 * k (the object) and 2 * k + 1 (its array). -/
def lvec (f : Nat → Int64) (ws : List (List Nat)) : Prop := ∀ p, p < ws.length → f p = lN (eW (ws.getD p []))
def okWs (ws : List (List Nat)) : Prop := ∀ w ∈ ws, okW w
theorem okWs.at {ws : List (List Nat)} (h : okWs ws) (p : Nat) : okW (ws.getD p []) := by
  by_cases q : p < ws.length
  · have e : ws.getD p [] = ws[p] := by simp [List.getD, q]
    rw [e]; exact h _ (List.getElem_mem q)
  · have e : ws.getD p [] = [] := by simp [List.getD, Nat.le_of_not_lt q]
    rw [e]; exact okW_nil
theorem okWs.app {us vs : List (List Nat)} (h : okWs us) (h2 : okWs vs) : okWs (us ++ vs) := fun w hw => (List.mem_append.mp hw).elim (h w) (h2 w)
theorem okWs.one {w : List Nat} (h : okW w) : okWs [w] := fun v hv => by rw [List.mem_singleton.mp hv]; exact h
theorem okWs.nil : okWs [] := fun _ h => absurd h List.not_mem_nil
theorem okWs.init {us : List (List Nat)} {w : List Nat} (h : okWs (us ++ [w])) : okWs us ∧ okW w := ⟨fun v hv => h v (List.mem_append_left _ hv), h w (List.mem_append_right _ (List.mem_singleton.mpr rfl))⟩
theorem getD_app_last {us : List (List Nat)} {w : List Nat} : (us ++ [w]).getD us.length [] = w := by simp [List.getD]
theorem getD_app_lo {us vs : List (List Nat)} {p : Nat} (h : p < us.length) : (us ++ vs).getD p [] = us.getD p [] := by simp [List.getD, List.getElem?_append_left h]
theorem lvec.nil {f : Nat → Int64} : lvec f [] := fun _ h => absurd h (Nat.not_lt_zero _)
theorem lvec.last {f : Nat → Int64} {us : List (List Nat)} {w : List Nat} (h : lvec f (us ++ [w])) : f us.length = lN (eW w) := by
  rw [h us.length (by simp), getD_app_last]
theorem lvec.setLast {f : Nat → Int64} {us : List (List Nat)} {w v : List Nat} (h : lvec f (us ++ [w])) : lvec (vp_updL f us.length (lN (eW v))) (us ++ [v]) := by
  intro p hp
  have hp' : p < us.length + 1 := by simpa using hp
  by_cases q : p = us.length
  · subst q; rw [pk_uLs, getD_app_last]
  · have hq : p < us.length := by omega
    rw [pk_uLn q, h p (by simp; omega), getD_app_lo hq, getD_app_lo hq]
theorem lvec.push {f : Nat → Int64} {us : List (List Nat)} {v : List Nat} (h : lvec f us) : lvec (vp_updL f us.length (lN (eW v))) (us ++ [v]) := by
  intro p hp
  have hp' : p < us.length + 1 := by simpa using hp
  by_cases q : p = us.length
  · subst q; rw [pk_uLs, getD_app_last]
  · have hq : p < us.length := by omega
    rw [pk_uLn q, h p hq, getD_app_lo hq]
theorem lvec.at {f : Nat → Int64} {us : List (List Nat)} (h : lvec f us) {p : Nat} (hp : p < us.length) : f p = lN (eW (us.getD p [])) := h p hp
theorem getD_big {us : List (List Nat)} {p : Nat} (h : us.length ≤ p) : us.getD p [] = [] := by simp [List.getD, h]
def txAt (K : Nat → ClassId) (X : hwW) (a k : Nat) (ws : List (List Nat)) (o : Nat) : Prop := ∃ (q N : Nat) (f : Nat → Int64), hwH X a (2 * k) (.inr (3, [.ref q, .int (nI ws.length), .int (nI o)])) ∧ hwH X q (2 * k + 1) (.inl (K 1, N, .inr (.inl f))) ∧ ws.length ≤ N ∧ N ≤ 3000 ∧ lvec f ws ∧ okWs ws
def seAt (K : Nat → ClassId) (X : hwW) (a k N : Nat) (ss : List (List Nat)) : Prop := ∃ (q : Nat) (f : Nat → Int64), hwH X a (2 * k) (.inr (4, [.ref q, .int (nI ss.length)])) ∧ hwH X q (2 * k + 1) (.inl (K 1, N, .inr (.inl f))) ∧ ss.length ≤ N ∧ N ≤ 3000 ∧ lvec f ss ∧ okWs ss
def tmAt (K : Nat → ClassId) (X : hwW) (a k N : Nat) (ts : List (List Nat)) : Prop := ∃ (q : Nat) (f : Nat → Int64), hwH X a (2 * k) (.inr (2, [.ref q, .int (nI ts.length)])) ∧ hwH X q (2 * k + 1) (.inl (K 1, N, .inr (.inl f))) ∧ ts.length ≤ N ∧ N ≤ 3000 ∧ lvec f ts ∧ okWs ts
theorem txAt.fr {K : Nat → ClassId} {X Y : hwW} {S : Nat → Prop} {a k : Nat} {ws : List (List Nat)} {o : Nat} (hF : hwF X Y S) (h1 : ¬ S (2 * k)) (h2 : ¬ S (2 * k + 1)) (h : txAt K X a k ws o) : txAt K Y a k ws o := by
  obtain ⟨q, N, f, f0, f1, r⟩ := h
  exact ⟨q, N, f, hF _ _ _ h1 f0, hF _ _ _ h2 f1, r⟩
theorem seAt.fr {K : Nat → ClassId} {X Y : hwW} {S : Nat → Prop} {a k N : Nat} {ws : List (List Nat)} (hF : hwF X Y S) (h1 : ¬ S (2 * k)) (h2 : ¬ S (2 * k + 1)) (h : seAt K X a k N ws) : seAt K Y a k N ws := by
  obtain ⟨q, f, f0, f1, r⟩ := h
  exact ⟨q, f, hF _ _ _ h1 f0, hF _ _ _ h2 f1, r⟩
theorem tmAt.fr {K : Nat → ClassId} {X Y : hwW} {S : Nat → Prop} {a k N : Nat} {ws : List (List Nat)} (hF : hwF X Y S) (h1 : ¬ S (2 * k)) (h2 : ¬ S (2 * k + 1)) (h : tmAt K X a k N ws) : tmAt K Y a k N ws := by
  obtain ⟨q, f, f0, f1, r⟩ := h
  exact ⟨q, f, hF _ _ _ h1 f0, hF _ _ _ h2 f1, r⟩
theorem txAt.ob {K : Nat → ClassId} {X : hwW} {a k : Nat} {ws : List (List Nat)} {o : Nat} (h : txAt K X a k ws o) : ∃ (L : Nat) (fs : List Value), hwH X a L (.inr (3, fs)) := by
  obtain ⟨q, N, f, f0, -⟩ := h
  exact ⟨_, _, f0⟩
theorem seAt.ob {K : Nat → ClassId} {X : hwW} {a k N : Nat} {ws : List (List Nat)} (h : seAt K X a k N ws) : ∃ (L : Nat) (fs : List Value), hwH X a L (.inr (4, fs)) := by
  obtain ⟨q, f, f0, -⟩ := h
  exact ⟨_, _, f0⟩
theorem tmAt.ob {K : Nat → ClassId} {X : hwW} {a k N : Nat} {ws : List (List Nat)} (h : tmAt K X a k N ws) : ∃ (L : Nat) (fs : List Value), hwH X a L (.inr (2, fs)) := by
  obtain ⟨q, f, f0, -⟩ := h
  exact ⟨_, _, f0⟩
/-- a sign comes behind a row of words: x its letter, or 0 -/
def tk (s : List (List Nat) × Nat) (x : Nat) : List (List Nat) × Nat := if x = 0 then (s.1, 0) else if s.2 = 0 then (s.1 ++ [[x]], 1) else if s.2 < 12 then (s.1.dropLast ++ [s.1.getLastD [] ++ [x]], s.2 + 1) else s
def txG (ws : List (List Nat)) (o : Nat) : Prop := (∀ w ∈ ws, 1 ≤ w.length) ∧ (o = 0 ∨ ∃ us w, ws = us ++ [w] ∧ w.length = o)
theorem tk_0 (ws : List (List Nat)) (o : Nat) {x : Nat} (h : x = 0) : tk (ws, o) x = (ws, 0) := by simp [tk, h]
theorem tk_A (ws : List (List Nat)) {x : Nat} (h : x ≠ 0) : tk (ws, 0) x = (ws ++ [[x]], 1) := by simp [tk, h]
theorem tk_B (us : List (List Nat)) (w : List Nat) {x : Nat} (h : x ≠ 0) (h1 : w.length ≠ 0) (h2 : w.length < 12) : tk (us ++ [w], w.length) x = (us ++ [w ++ [x]], w.length + 1) := by simp [tk, h, h1, h2]
theorem tk_C (us : List (List Nat)) (w : List Nat) {x : Nat} (h : x ≠ 0) (h2 : 12 ≤ w.length) : tk (us ++ [w], w.length) x = (us ++ [w], w.length) := by
  have h1 : w.length ≠ 0 := by omega
  have h3 : ¬ w.length < 12 := by omega
  simp [tk, h, h1, h3]
def trm (g : Nat) (ss : List (List Nat)) (w : List Nat) : List Nat := if w ∈ ss then [] else stemL g w
theorem okW_trm {w : List Nat} (h : okW w) (g : Nat) (ss : List (List Nat)) : okW (trm g ss w) := by
  unfold trm; split
  · exact okW_nil
  · exact okW_stem h g
theorem seAt.len {K : Nat → ClassId} {X : hwW} {a k N : Nat} {ws : List (List Nat)} (h : seAt K X a k N ws) : ws.length ≤ 3000 := by
  obtain ⟨q, f, f0, f1, h1, h2, -⟩ := h
  exact Nat.le_trans h1 h2
theorem tmAt.len {K : Nat → ClassId} {X : hwW} {a k N : Nat} {ws : List (List Nat)} (h : tmAt K X a k N ws) : ws.length ≤ 3000 := by
  obtain ⟨q, f, f0, f1, h1, h2, -⟩ := h
  exact Nat.le_trans h1 h2
theorem txAt.oks {K : Nat → ClassId} {X : hwW} {a k : Nat} {ws : List (List Nat)} {o : Nat} (h : txAt K X a k ws o) : okWs ws := by
  obtain ⟨q, N, f, f0, f1, h1, h2, h3, h4⟩ := h
  exact h4
theorem seAt.oks {K : Nat → ClassId} {X : hwW} {a k N : Nat} {ws : List (List Nat)} (h : seAt K X a k N ws) : okWs ws := by
  obtain ⟨q, f, f0, f1, h1, h2, h3, h4⟩ := h
  exact h4
theorem tmAt.oks {K : Nat → ClassId} {X : hwW} {a k N : Nat} {ws : List (List Nat)} (h : tmAt K X a k N ws) : okWs ws := by
  obtain ⟨q, f, f0, f1, h1, h2, h3, h4⟩ := h
  exact h4
theorem okWs.ins {ts : List (List Nat)} {w : List Nat} {p : Nat} (h : okWs ts) (hw : okW w) : okWs (ts.take p ++ w :: ts.drop p) := by
  intro v hv
  rcases List.mem_append.mp hv with q | q
  · exact h v (List.mem_of_mem_take q)
  · rcases List.mem_cons.mp q with q | q
    · rw [q]; exact hw
    · exact h v (List.mem_of_mem_drop q)
theorem lvec.ins {f : Nat → Int64} {ts : List (List Nat)} {w : List Nat} {p : Nat} (h : lvec f ts) (hp : p ≤ ts.length) : lvec (vp_updL (va_cpy f f p (p + 1) (ts.length - p)) p (lN (eW w))) (ts.take p ++ w :: ts.drop p) := by
  intro j hj
  rw [ins_len hp] at hj
  have hl : (ts.take p).length = p := by rw [List.length_take]; omega
  rcases Nat.lt_trichotomy j p with q | q | q
  · rw [pk_uLn (by omega), pk_cpy_out (Or.inl (by omega)), h j (by omega)]
    congr 2
    simp [List.getD, List.getElem?_append, hl, q, List.getElem?_take]
    rw [List.getElem?_eq_getElem (by omega)]; rfl
  · subst q
    rw [pk_uLs]
    congr 2
    simp [List.getD, List.getElem?_append, hl]
  · rw [pk_uLn (by omega), pk_cpy_in (by omega) (by omega), h _ (by omega)]
    congr 2
    obtain ⟨d, rfl⟩ : ∃ d, j = p + 1 + d := ⟨j - (p + 1), by omega⟩
    have e1 : p + (p + 1 + d - (p + 1)) = p + d := by omega
    have e2 : ¬ p + 1 + d < p := by omega
    have e3 : p + 1 + d - p = d + 1 := by omega
    simp [List.getD, List.getElem?_append, hl, e1, e2, e3]
theorem dArrays_copyOf_0 : decode cArrays_copyOf 0 = .ok (.iload_n 1, 1) := by decide +kernel
theorem dArrays_copyOf_1 : decode cArrays_copyOf 1 = .ok (.aload_n 0, 1) := by decide +kernel
theorem dArrays_copyOf_2 : decode cArrays_copyOf 2 = .ok (.arraylength, 1) := by decide +kernel
theorem dArrays_copyOf_3 : decode cArrays_copyOf 3 = .ok (.if_icmp .ne 11, 3) := by decide +kernel
theorem dArrays_copyOf_6 : decode cArrays_copyOf 6 = .ok (.aload_n 0, 1) := by decide +kernel
theorem dArrays_copyOf_7 : decode cArrays_copyOf 7 = .ok (.invokevirtual 319, 3) := by decide +kernel
theorem dArrays_copyOf_10 : decode cArrays_copyOf 10 = .ok (.checkcast 320, 3) := by decide +kernel
theorem dArrays_copyOf_13 : decode cArrays_copyOf 13 = .ok (.areturn, 1) := by decide +kernel
theorem dArrays_copyOf_14 : decode cArrays_copyOf 14 = .ok (.iload_n 1, 1) := by decide +kernel
theorem dArrays_copyOf_15 : decode cArrays_copyOf 15 = .ok (.newarray .long, 2) := by decide +kernel
theorem dArrays_copyOf_17 : decode cArrays_copyOf 17 = .ok (.astore_n 2, 1) := by decide +kernel
theorem dArrays_copyOf_18 : decode cArrays_copyOf 18 = .ok (.aload_n 0, 1) := by decide +kernel
theorem dArrays_copyOf_19 : decode cArrays_copyOf 19 = .ok (.iconst 0, 1) := by decide +kernel
theorem dArrays_copyOf_20 : decode cArrays_copyOf 20 = .ok (.aload_n 2, 1) := by decide +kernel
theorem dArrays_copyOf_21 : decode cArrays_copyOf 21 = .ok (.iconst 0, 1) := by decide +kernel
theorem dArrays_copyOf_22 : decode cArrays_copyOf 22 = .ok (.aload_n 0, 1) := by decide +kernel
theorem dArrays_copyOf_23 : decode cArrays_copyOf 23 = .ok (.arraylength, 1) := by decide +kernel
theorem dArrays_copyOf_24 : decode cArrays_copyOf 24 = .ok (.iload_n 1, 1) := by decide +kernel
theorem dArrays_copyOf_25 : decode cArrays_copyOf 25 = .ok (.invokestatic 304, 3) := by decide +kernel
theorem dArrays_copyOf_28 : decode cArrays_copyOf 28 = .ok (.invokestatic 150, 3) := by decide +kernel
theorem dArrays_copyOf_31 : decode cArrays_copyOf 31 = .ok (.aload_n 2, 1) := by decide +kernel
theorem dArrays_copyOf_32 : decode cArrays_copyOf 32 = .ok (.areturn, 1) := by decide +kernel
theorem dText_init_0 : decode cText_init 0 = .ok (.aload_n 0, 1) := by decide +kernel
theorem dText_init_1 : decode cText_init 1 = .ok (.invokespecial 3, 3) := by decide +kernel
theorem dText_init_4 : decode cText_init 4 = .ok (.aload_n 0, 1) := by decide +kernel
theorem dText_init_5 : decode cText_init 5 = .ok (.iconst 4, 1) := by decide +kernel
theorem dText_init_6 : decode cText_init 6 = .ok (.newarray .long, 2) := by decide +kernel
theorem dText_init_8 : decode cText_init 8 = .ok (.putfield 9, 3) := by decide +kernel
theorem dText_init_11 : decode cText_init 11 = .ok (.return_, 1) := by decide +kernel
theorem dText_size_0 : decode cText_size 0 = .ok (.aload_n 0, 1) := by decide +kernel
theorem dText_size_1 : decode cText_size 1 = .ok (.getfield 15, 3) := by decide +kernel
theorem dText_size_4 : decode cText_size 4 = .ok (.ireturn, 1) := by decide +kernel
theorem dText_wordAt_0 : decode cText_wordAt 0 = .ok (.iload_n 1, 1) := by decide +kernel
theorem dText_wordAt_1 : decode cText_wordAt 1 = .ok (.ifCond .lt 20, 3) := by decide +kernel
theorem dText_wordAt_4 : decode cText_wordAt 4 = .ok (.iload_n 1, 1) := by decide +kernel
theorem dText_wordAt_5 : decode cText_wordAt 5 = .ok (.aload_n 0, 1) := by decide +kernel
theorem dText_wordAt_6 : decode cText_wordAt 6 = .ok (.getfield 15, 3) := by decide +kernel
theorem dText_wordAt_9 : decode cText_wordAt 9 = .ok (.if_icmp .ge 12, 3) := by decide +kernel
theorem dText_wordAt_12 : decode cText_wordAt 12 = .ok (.iload_n 1, 1) := by decide +kernel
theorem dText_wordAt_13 : decode cText_wordAt 13 = .ok (.aload_n 0, 1) := by decide +kernel
theorem dText_wordAt_14 : decode cText_wordAt 14 = .ok (.getfield 9, 3) := by decide +kernel
theorem dText_wordAt_17 : decode cText_wordAt 17 = .ok (.arraylength, 1) := by decide +kernel
theorem dText_wordAt_18 : decode cText_wordAt 18 = .ok (.if_icmp .lt 7, 3) := by decide +kernel
theorem dText_wordAt_21 : decode cText_wordAt 21 = .ok (.lconst 0, 1) := by decide +kernel
theorem dText_wordAt_22 : decode cText_wordAt 22 = .ok (.goto 9, 3) := by decide +kernel
theorem dText_wordAt_25 : decode cText_wordAt 25 = .ok (.aload_n 0, 1) := by decide +kernel
theorem dText_wordAt_26 : decode cText_wordAt 26 = .ok (.getfield 9, 3) := by decide +kernel
theorem dText_wordAt_29 : decode cText_wordAt 29 = .ok (.iload_n 1, 1) := by decide +kernel
theorem dText_wordAt_30 : decode cText_wordAt 30 = .ok (.laload, 1) := by decide +kernel
theorem dText_wordAt_31 : decode cText_wordAt 31 = .ok (.lreturn, 1) := by decide +kernel
theorem dText_clear_0 : decode cText_clear 0 = .ok (.aload_n 0, 1) := by decide +kernel
theorem dText_clear_1 : decode cText_clear 1 = .ok (.iconst 0, 1) := by decide +kernel
theorem dText_clear_2 : decode cText_clear 2 = .ok (.putfield 15, 3) := by decide +kernel
theorem dText_clear_5 : decode cText_clear 5 = .ok (.aload_n 0, 1) := by decide +kernel
theorem dText_clear_6 : decode cText_clear 6 = .ok (.iconst 0, 1) := by decide +kernel
theorem dText_clear_7 : decode cText_clear 7 = .ok (.putfield 19, 3) := by decide +kernel
theorem dText_clear_10 : decode cText_clear 10 = .ok (.return_, 1) := by decide +kernel
theorem dText_beginWord_0 : decode cText_beginWord 0 = .ok (.aload_n 0, 1) := by decide +kernel
theorem dText_beginWord_1 : decode cText_beginWord 1 = .ok (.getfield 15, 3) := by decide +kernel
theorem dText_beginWord_4 : decode cText_beginWord 4 = .ok (.aload_n 0, 1) := by decide +kernel
theorem dText_beginWord_5 : decode cText_beginWord 5 = .ok (.getfield 9, 3) := by decide +kernel
theorem dText_beginWord_8 : decode cText_beginWord 8 = .ok (.arraylength, 1) := by decide +kernel
theorem dText_beginWord_9 : decode cText_beginWord 9 = .ok (.if_icmp .lt 22, 3) := by decide +kernel
theorem dText_beginWord_12 : decode cText_beginWord 12 = .ok (.aload_n 0, 1) := by decide +kernel
theorem dText_beginWord_13 : decode cText_beginWord 13 = .ok (.aload_n 0, 1) := by decide +kernel
theorem dText_beginWord_14 : decode cText_beginWord 14 = .ok (.getfield 9, 3) := by decide +kernel
theorem dText_beginWord_17 : decode cText_beginWord 17 = .ok (.iconst 2, 1) := by decide +kernel
theorem dText_beginWord_18 : decode cText_beginWord 18 = .ok (.aload_n 0, 1) := by decide +kernel
theorem dText_beginWord_19 : decode cText_beginWord 19 = .ok (.getfield 15, 3) := by decide +kernel
theorem dText_beginWord_22 : decode cText_beginWord 22 = .ok (.imul, 1) := by decide +kernel
theorem dText_beginWord_23 : decode cText_beginWord 23 = .ok (.iconst 4, 1) := by decide +kernel
theorem dText_beginWord_24 : decode cText_beginWord 24 = .ok (.iadd, 1) := by decide +kernel
theorem dText_beginWord_25 : decode cText_beginWord 25 = .ok (.invokestatic 35, 3) := by decide +kernel
theorem dText_beginWord_28 : decode cText_beginWord 28 = .ok (.putfield 9, 3) := by decide +kernel
theorem dText_beginWord_31 : decode cText_beginWord 31 = .ok (.aload_n 0, 1) := by decide +kernel
theorem dText_beginWord_32 : decode cText_beginWord 32 = .ok (.getfield 9, 3) := by decide +kernel
theorem dText_beginWord_35 : decode cText_beginWord 35 = .ok (.aload_n 0, 1) := by decide +kernel
theorem dText_beginWord_36 : decode cText_beginWord 36 = .ok (.getfield 15, 3) := by decide +kernel
theorem dText_beginWord_39 : decode cText_beginWord 39 = .ok (.lconst 0, 1) := by decide +kernel
theorem dText_beginWord_40 : decode cText_beginWord 40 = .ok (.lastore, 1) := by decide +kernel
theorem dText_beginWord_41 : decode cText_beginWord 41 = .ok (.aload_n 0, 1) := by decide +kernel
theorem dText_beginWord_42 : decode cText_beginWord 42 = .ok (.dup, 1) := by decide +kernel
theorem dText_beginWord_43 : decode cText_beginWord 43 = .ok (.getfield 15, 3) := by decide +kernel
theorem dText_beginWord_46 : decode cText_beginWord 46 = .ok (.iconst 1, 1) := by decide +kernel
theorem dText_beginWord_47 : decode cText_beginWord 47 = .ok (.iadd, 1) := by decide +kernel
theorem dText_beginWord_48 : decode cText_beginWord 48 = .ok (.putfield 15, 3) := by decide +kernel
theorem dText_beginWord_51 : decode cText_beginWord 51 = .ok (.return_, 1) := by decide +kernel
theorem dText_take_0 : decode cText_take 0 = .ok (.iload_n 1, 1) := by decide +kernel
theorem dText_take_1 : decode cText_take 1 = .ok (.sipush 255, 3) := by decide +kernel
theorem dText_take_4 : decode cText_take 4 = .ok (.iand, 1) := by decide +kernel
theorem dText_take_5 : decode cText_take 5 = .ok (.invokestatic 22, 3) := by decide +kernel
theorem dText_take_8 : decode cText_take 8 = .ok (.istore_n 2, 1) := by decide +kernel
theorem dText_take_9 : decode cText_take 9 = .ok (.iload_n 2, 1) := by decide +kernel
theorem dText_take_10 : decode cText_take 10 = .ok (.ifCond .ne 9, 3) := by decide +kernel
theorem dText_take_13 : decode cText_take 13 = .ok (.aload_n 0, 1) := by decide +kernel
theorem dText_take_14 : decode cText_take 14 = .ok (.iconst 0, 1) := by decide +kernel
theorem dText_take_15 : decode cText_take 15 = .ok (.putfield 19, 3) := by decide +kernel
theorem dText_take_18 : decode cText_take 18 = .ok (.return_, 1) := by decide +kernel
theorem dText_take_19 : decode cText_take 19 = .ok (.aload_n 0, 1) := by decide +kernel
theorem dText_take_20 : decode cText_take 20 = .ok (.getfield 19, 3) := by decide +kernel
theorem dText_take_23 : decode cText_take 23 = .ok (.ifCond .ne 7, 3) := by decide +kernel
theorem dText_take_26 : decode cText_take 26 = .ok (.aload_n 0, 1) := by decide +kernel
theorem dText_take_27 : decode cText_take 27 = .ok (.invokevirtual 28, 3) := by decide +kernel
theorem dText_take_30 : decode cText_take 30 = .ok (.aload_n 0, 1) := by decide +kernel
theorem dText_take_31 : decode cText_take 31 = .ok (.getfield 15, 3) := by decide +kernel
theorem dText_take_34 : decode cText_take 34 = .ok (.iconst 1, 1) := by decide +kernel
theorem dText_take_35 : decode cText_take 35 = .ok (.isub, 1) := by decide +kernel
theorem dText_take_36 : decode cText_take 36 = .ok (.istore_n 3, 1) := by decide +kernel
theorem dText_take_37 : decode cText_take 37 = .ok (.aload_n 0, 1) := by decide +kernel
theorem dText_take_38 : decode cText_take 38 = .ok (.getfield 19, 3) := by decide +kernel
theorem dText_take_41 : decode cText_take 41 = .ok (.bipush 12, 2) := by decide +kernel
theorem dText_take_43 : decode cText_take 43 = .ok (.if_icmp .ge 46, 3) := by decide +kernel
theorem dText_take_46 : decode cText_take 46 = .ok (.iload_n 3, 1) := by decide +kernel
theorem dText_take_47 : decode cText_take 47 = .ok (.ifCond .lt 42, 3) := by decide +kernel
theorem dText_take_50 : decode cText_take 50 = .ok (.iload_n 3, 1) := by decide +kernel
theorem dText_take_51 : decode cText_take 51 = .ok (.aload_n 0, 1) := by decide +kernel
theorem dText_take_52 : decode cText_take 52 = .ok (.getfield 9, 3) := by decide +kernel
theorem dText_take_55 : decode cText_take 55 = .ok (.arraylength, 1) := by decide +kernel
theorem dText_take_56 : decode cText_take 56 = .ok (.if_icmp .ge 33, 3) := by decide +kernel
theorem dText_take_59 : decode cText_take 59 = .ok (.aload_n 0, 1) := by decide +kernel
theorem dText_take_60 : decode cText_take 60 = .ok (.getfield 9, 3) := by decide +kernel
theorem dText_take_63 : decode cText_take 63 = .ok (.iload_n 3, 1) := by decide +kernel
theorem dText_take_64 : decode cText_take 64 = .ok (.aload_n 0, 1) := by decide +kernel
theorem dText_take_65 : decode cText_take 65 = .ok (.getfield 9, 3) := by decide +kernel
theorem dText_take_68 : decode cText_take 68 = .ok (.iload_n 3, 1) := by decide +kernel
theorem dText_take_69 : decode cText_take 69 = .ok (.laload, 1) := by decide +kernel
theorem dText_take_70 : decode cText_take 70 = .ok (.aload_n 0, 1) := by decide +kernel
theorem dText_take_71 : decode cText_take 71 = .ok (.getfield 19, 3) := by decide +kernel
theorem dText_take_74 : decode cText_take 74 = .ok (.iload_n 2, 1) := by decide +kernel
theorem dText_take_75 : decode cText_take 75 = .ok (.invokestatic 31, 3) := by decide +kernel
theorem dText_take_78 : decode cText_take 78 = .ok (.lastore, 1) := by decide +kernel
theorem dText_take_79 : decode cText_take 79 = .ok (.aload_n 0, 1) := by decide +kernel
theorem dText_take_80 : decode cText_take 80 = .ok (.dup, 1) := by decide +kernel
theorem dText_take_81 : decode cText_take 81 = .ok (.getfield 19, 3) := by decide +kernel
theorem dText_take_84 : decode cText_take 84 = .ok (.iconst 1, 1) := by decide +kernel
theorem dText_take_85 : decode cText_take 85 = .ok (.iadd, 1) := by decide +kernel
theorem dText_take_86 : decode cText_take 86 = .ok (.putfield 19, 3) := by decide +kernel
theorem dText_take_89 : decode cText_take 89 = .ok (.return_, 1) := by decide +kernel
theorem mm_24 : (.arrayClass .long : Cond) ∈ hwG := hwIx 76 (by decide +kernel) (by decide +kernel)
theorem mm_25 : (.methodLink RArrays 304 Lib.Math.min.name : Cond) ∈ hwG := hwIx 220 (by decide +kernel) (by decide +kernel)
theorem mm_26 : (.methodLink RArrays 150 arraycopyName : Cond) ∈ hwG := hwIx 223 (by decide +kernel) (by decide +kernel)
theorem mm_27 : (.native arraycopyName : Cond) ∈ hwG := hwIx 225 (by decide +kernel) (by decide +kernel)
theorem mm_28 : (.static arraycopyName : Cond) ∈ hwG := hwIx 224 (by decide +kernel) (by decide +kernel)
theorem mm_29 : (.initialized "java/lang/System" : Cond) ∈ hwG := hwIx 43 (by decide +kernel) (by decide +kernel)
theorem mm_30 : (.methodLink RText 3 objectInit : Cond) ∈ hwG := hwIx 64 (by decide +kernel) (by decide +kernel)
theorem mm_31 : (.instanceMethod objectInit : Cond) ∈ hwG := hwIx 55 (by decide +kernel) (by decide +kernel)
theorem mm_32 : (.code objectInit ⟨#[0xb1]⟩ 1 none : Cond) ∈ hwG := hwIx 56 (by decide +kernel) (by decide +kernel)
theorem mm_33 : (.fieldLink RText 9 RText "words" "[J" : Cond) ∈ hwG := hwIx 65 (by decide +kernel) (by decide +kernel)
theorem mm_34 : (.fieldLink RText 15 RText "count" "I" : Cond) ∈ hwG := hwIx 66 (by decide +kernel) (by decide +kernel)
theorem mm_35 : (.fieldLink RText 19 RText "openLetters" "I" : Cond) ∈ hwG := hwIx 67 (by decide +kernel) (by decide +kernel)
theorem mm_36 : (.code yArrays_copyOf cArrays_copyOf 3 (some (.array .long)) : Cond) ∈ hwG := hwIx 212 (by decide +kernel) (by decide +kernel)
theorem mm_37 : (.static yArrays_copyOf : Cond) ∈ hwG := hwIx 211 (by decide +kernel) (by decide +kernel)
theorem mm_38 : (.methodLink RText 35 yArrays_copyOf : Cond) ∈ hwG := hwIx 210 (by decide +kernel) (by decide +kernel)
theorem mm_39 : (.initialized RArrays : Cond) ∈ hwG := hwIx 42 (by decide +kernel) (by decide +kernel)
theorem mm_40 : (.methodLink RText 22 yWord_letterOf : Cond) ∈ hwG := hwIx 203 (by decide +kernel) (by decide +kernel)
theorem mm_41 : (.code yText_beginWord cText_beginWord 1 none : Cond) ∈ hwG := hwIx 209 (by decide +kernel) (by decide +kernel)
theorem mm_42 : (.methodLink RText 28 yText_beginWord : Cond) ∈ hwG := hwIx 206 (by decide +kernel) (by decide +kernel)
theorem mm_43 : (.instanceMethod yText_beginWord : Cond) ∈ hwG := hwIx 208 (by decide +kernel) (by decide +kernel)
theorem mm_44 : (.selects RText yText_beginWord yText_beginWord : Cond) ∈ hwG := hwIx 2 (by decide +kernel) (by decide +kernel)
theorem mm_45 : (.initialized RText : Cond) ∈ hwG := hwIx 34 (by decide +kernel) (by decide +kernel)
theorem mm_46 : (.code yWord_with cWord_with 4 (some .long) : Cond) ∈ hwG := hwIx 228 (by decide +kernel) (by decide +kernel)
theorem mm_47 : (.static yWord_with : Cond) ∈ hwG := hwIx 227 (by decide +kernel) (by decide +kernel)
theorem mm_48 : (.methodLink RText 31 yWord_with : Cond) ∈ hwG := hwIx 226 (by decide +kernel) (by decide +kernel)
set_option maxHeartbeats 4000000 in
set_option maxRecDepth 100000 in
theorem c_copyOf (l : Launch) (D : va_G) (K : Nat → ClassId) (X : hwW) (sz : Nat) (q : Nat) (L : Nat) (N : Nat) (f : Nat → Int64) (n : Nat) (L1 : Nat) (f0_ : hwH X q L (.inl (K 1, N, .inr (.inl f)))) (hn : N < n) (hm : n ≤ 100000) : Met l yArrays_copyOf (.code yArrays_copyOf cArrays_copyOf 3 (some (.array .long)) :: hwG) ({ frames := 1, cells := 1, slots := n, locals := 26 } : Room) (hwPc D vwCl (hwT K) [.ref q, .int (nI n)] X sz) (hwQq D vwCl X sz (fun r Y => ∃ (q1 : Nat) (f1 : Nat → Int64), r = some q1 ∧ hwF X Y (fun M => M = L1) ∧ hwH Y q1 L1 (.inl (K 1, n, .inr (.inl f1))) ∧ ∀ p, p < N → f1 p = f p)) 1 n (va_A X.1 sz) := by
  refine hwMetq (cc := cArrays_copyOf) (maxL := 3) (rt := (.array .long)) (by first | exact Or.inl ⟨_, rfl⟩ | exact Or.inr ⟨_, rfl⟩) (by decide) rfl (Nat.le_of_ble_eq_true rfl) (fun p e s m args below meth c ls A Q hx hb hml hown hts hname hret hK hO hZ hA hl => ?_)
  have hl : lv_has ls 3 [(0, .ref q), (1, .int (nI n))] := hl
  have hFr : hwF X X (fun M => M = L1) := hwF.rf
  refine lv_iload_n hx hb dArrays_copyOf_0 rfl (lv_at hl 1 rfl) ?_
  refine lv_aload_n hx hb dArrays_copyOf_1 rfl (lv_at hl 0 rfl) ?_
  refine hw_alen hx hb hK hZ 1 f0_ rfl dArrays_copyOf_2 ?_
  refine hw_ic_ne (a := n) (b := N) (tgt := 14) hx hb dArrays_copyOf_3 (by decide) (by omega) (by omega) (fun cq_1 => ?_) (fun cq_1 => by exfalso; omega)
  refine lv_iload_n hx hb dArrays_copyOf_14 rfl (lv_at hl 1 rfl) ?_
  refine hw_newa (atype := .long) (ty := .long) (a0 := (n, .inr (.inl (fun _ => 0)))) (N := n) hx hb (hts (.arrayClass .long) (hwMem mm_24)) rfl hK hZ hA 1 rfl (fun _ _ => rfl) (fun _ => rfl) (by omega) (by show _ * _ ≤ _; first | decide | (simp only [componentBytes]; omega)) (show 0 + 1 ≤ 1 by omega) (show 0 + n ≤ n by omega) dArrays_copyOf_15 L1 (fun qq_2 X_3 H_4 hZ hF hNw => ?_)
  have hFr := hwF.tr hFr hF (fun _ h => h) (fun M h => by first | exact False.elim h | ((try dsimp only at h ⊢); omega))
  have f0_ := hF _ _ _ (by intro hNS; first | exact False.elim hNS | ((try dsimp only at hNS); omega)) f0_
  have ff_6 := hNw
  refine lv_astore_n (lv' := [(2, .ref qq_2), (0, .ref q), (1, .int (nI n))]) hx hb dArrays_copyOf_17 rfl hl (by decide) rfl (fun ls hl => ?_)
  refine lv_aload_n hx hb dArrays_copyOf_18 rfl (lv_at hl 1 rfl) ?_
  refine lv_iconst (v := nI 0) hx hb dArrays_copyOf_19 (by decide) ?_
  refine lv_aload_n hx hb dArrays_copyOf_20 rfl (lv_at hl 0 rfl) ?_
  refine lv_iconst (v := nI 0) hx hb dArrays_copyOf_21 (by decide) ?_
  refine lv_aload_n hx hb dArrays_copyOf_22 rfl (lv_at hl 1 rfl) ?_
  refine hw_alen hx hb hK hZ 1 f0_ rfl dArrays_copyOf_23 ?_
  refine lv_iload_n hx hb dArrays_copyOf_24 rfl (lv_at hl 2 rfl) ?_
  refine va_mmin hx hb (hml.trans hl.1.symm) hown (hts (.methodLink RArrays 304 Lib.Math.min.name) (hwMem mm_25)) (hts (.static Lib.Math.min.name) (hwMem mm_18)) (hts (.initialized "java/lang/Math") (hwMem mm_19)) (hts (.code Lib.Math.min.name Lib.Math.min.code 2 (some .int)) (hwMem mm_20)) (Nat.le_of_ble_eq_true rfl) (Nat.le_of_ble_eq_true rfl) (show 1 ≤ 1 by omega) (show 0 + n ≤ n by omega) dArrays_copyOf_25 ?_
  refine hw_topi (hw_nmin (a := N) (b := n) (by omega) (by omega)) ?_
  refine hw_topi (congrArg nI (Nat.min_eq_left (by omega))) ?_
  refine hw_copyl (sp := 0) (dp := 0) (n := N) hx hb (hml.trans hl.1.symm) hown (hts (.methodLink RArrays 150 arraycopyName) (hwMem mm_26)) (hts (.native arraycopyName) (hwMem mm_27)) (hts (.static arraycopyName) (hwMem mm_28)) (hts (.initialized "java/lang/System") (hwMem mm_29)) hK hZ 1 1 f0_ ff_6 rfl rfl (by omega) (by omega) (by omega) (by omega) (Nat.le_of_ble_eq_true rfl) (Nat.le_of_ble_eq_true rfl) dArrays_copyOf_28 (fun X_7 H_8 lc_9 hZ hF hNw => ?_)
  have hFr := hwF.tr hFr hF (fun _ h => h) (fun M h => by first | exact False.elim h | ((try dsimp only at h ⊢); omega))
  have ff_6 := hNw
  refine lv_aload_n hx hb dArrays_copyOf_31 rfl (lv_at hl 0 rfl) ?_
  refine W.widen (k := 1) (n := n) (by omega) (by omega) ?_
  exact hret (vv := .ref qq_2) (v := some qq_2) rfl hZ ⟨qq_2, _, rfl, hFr, ff_6, fun p hp => by rw [pk_cpy_in (by omega) (by omega)]; congr 1; omega⟩ dArrays_copyOf_32
set_option maxHeartbeats 4000000 in
set_option maxRecDepth 100000 in
theorem c_Tx_init (l : Launch) (D : va_G) (K : Nat → ClassId) (X : hwW) (sz : Nat) (a : Nat) (k : Nat) (f0_ : hwH X a (2 * k) (.inr (3, [.null, .int (nI 0), .int (nI 0)]))) : Met l yText_init (.code yText_init cText_init 1 none :: hwG) ({ frames := 1, cells := 1, slots := 4, locals := 20 } : Room) (hwPc D vwCl (hwT K) [.ref a] X sz) (hwQv D vwCl X sz (fun Y => hwF X Y (fun M => M = 2 * k ∨ M = 2 * k + 1) ∧ txAt K Y a k [] 0)) 1 4 (va_A X.1 sz) := by
  refine hwMetv (cc := cText_init) (maxL := 1) (by decide) rfl (Nat.le_of_ble_eq_true rfl) (fun p e s m args below meth c ls A Q hx hb hml hown hts hname hret hK hO hZ hA hl => ?_)
  have hl : lv_has ls 1 [(0, .ref a)] := hl
  have hFr : hwF X X (fun M => M = 2 * k ∨ M = 2 * k + 1) := hwF.rf
  refine lv_aload_n hx hb dText_init_0 rfl (lv_at hl 0 rfl) ?_
  refine W.objInit hx hb hown (hts (.methodLink RText 3 objectInit) (hwMem mm_30)) (hts (.instanceMethod objectInit) (hwMem mm_31)) (hts (.code objectInit ⟨#[0xb1]⟩ 1 none) (hwMem mm_32)) rfl (by rw [hml]; exact hl.1) rfl dText_init_1 (Nat.le_of_ble_eq_true rfl) (Nat.le_of_ble_eq_true rfl) ?_
  refine W.eq (g2 := F0 m 4 ls []) rfl ?_
  refine lv_aload_n hx hb dText_init_4 rfl (lv_at hl 0 rfl) ?_
  refine lv_iconst (v := nI 4) hx hb dText_init_5 (by decide) ?_
  refine hw_newa (atype := .long) (ty := .long) (a0 := (4, .inr (.inl (fun _ => 0)))) (N := 4) hx hb (hts (.arrayClass .long) (hwMem mm_24)) rfl hK hZ hA 1 rfl (fun _ _ => rfl) (fun _ => rfl) (by omega) (by show _ * _ ≤ _; first | decide | (simp only [componentBytes]; omega)) (show 0 + 1 ≤ 1 by omega) (show 0 + 4 ≤ 4 by omega) dText_init_6 (2 * k + 1) (fun qq_1 X_2 H_3 hZ hF hNw => ?_)
  have hFr := hwF.tr hFr hF (fun _ h => h) (fun M h => by first | exact False.elim h | ((try dsimp only at h ⊢); omega))
  have f0_ := hF _ _ _ (by intro hNS; first | exact False.elim hNS | ((try dsimp only at hNS); omega)) f0_
  have ff_5 := hNw
  refine hw_put (ty := (.array .long)) (fs' := [.ref qq_1, .int (nI 0), .int (nI 0)]) hx hb hts (hwInn inText) tyText tyText_ok nmText hown hK hZ f0_ rfl 0 (by decide) (hts (.fieldLink RText 9 RText "words" "[J") (hwMem mm_33)) (fun _ h => h) rfl (by decide +kernel) rfl rfl (Nat.le_of_ble_eq_true rfl) rfl dText_init_8 (fun X_6 H_7 lc_8 hZ hF hNw => ?_)
  have hFr := hwF.tr hFr hF (fun _ h => h) (fun M h => by first | exact False.elim h | ((try dsimp only at h ⊢); omega))
  have f0_ := hNw
  have ff_5 := hF _ _ _ (by intro hNS; first | exact False.elim hNS | ((try dsimp only at hNS); omega)) ff_5
  refine W.widen (k := 1) (n := 4) (by omega) (by omega) ?_
  exact hret hZ ⟨hFr, qq_1, 4, _, f0_, ff_5, Nat.zero_le _, by decide, lvec.nil, okWs.nil⟩ dText_init_11
set_option maxHeartbeats 4000000 in
set_option maxRecDepth 100000 in
theorem c_Tx_size (l : Launch) (D : va_G) (K : Nat → ClassId) (X : hwW) (sz : Nat) (a : Nat) (k : Nat) (ws : List (List Nat)) (o : Nat) (f0_ : txAt K X a k ws o) : Met l yText_size (.code yText_size cText_size 1 (some .int) :: hwG) ({ frames := 0, cells := 0, slots := 0, locals := 0 } : Room) (hwPc D vwCl (hwT K) [.ref a] X sz) (hwQi D vwCl X sz (fun r Y => r = nI ws.length ∧ X = Y)) 0 0 (va_A X.1 sz) := by
  refine hwMeti (cc := cText_size) (maxL := 1) (by decide) rfl (Nat.le_of_ble_eq_true rfl) (fun p e s m args below meth c ls A Q hx hb hml hown hts hname hret hK hO hZ hA hl => ?_)
  have hl : lv_has ls 1 [(0, .ref a)] := hl
  obtain ⟨q, N, f, g0, g1, hN, hM, hv, hk⟩ := f0_
  refine lv_aload_n hx hb dText_size_0 rfl (lv_at hl 0 rfl) ?_
  refine hw_get hx hb hts (hwInn inText) hown hK hZ g0 rfl 1 (by decide) (hts (.fieldLink RText 15 RText "count" "I") (hwMem mm_34)) (fun _ h => h) rfl dText_size_1 ?_
  exact hret hZ ⟨rfl, rfl⟩ dText_size_4
set_option maxHeartbeats 4000000 in
set_option maxRecDepth 100000 in
theorem c_Tx_at (l : Launch) (D : va_G) (K : Nat → ClassId) (X : hwW) (sz : Nat) (a : Nat) (k : Nat) (ws : List (List Nat)) (o : Nat) (j : Nat) (f0_ : txAt K X a k ws o) (hj : j < 2147483648) : Met l yText_wordAt (.code yText_wordAt cText_wordAt 2 (some .long) :: hwG) ({ frames := 0, cells := 0, slots := 0, locals := 0 } : Room) (hwPc D vwCl (hwT K) [.ref a, .int (nI j)] X sz) (hwQl D vwCl X sz (fun r Y => r = lN (eW (ws.getD j [])) ∧ X = Y)) 0 0 (va_A X.1 sz) := by
  refine hwMetl (cc := cText_wordAt) (maxL := 2) (by decide) rfl (Nat.le_of_ble_eq_true rfl) (fun p e s m args below meth c ls A Q hx hb hml hown hts hname hret hK hO hZ hA hl => ?_)
  have hl : lv_has ls 2 [(0, .ref a), (1, .int (nI j))] := hl
  obtain ⟨q, N, f, g0, g1, hN, hM, hv, hk⟩ := f0_
  refine lv_iload_n hx hb dText_wordAt_0 rfl (lv_at hl 1 rfl) ?_
  refine hw_if_lt (a := j) (tgt := 21) hx hb dText_wordAt_1 (by decide) (by omega) (fun cq_1 => by exfalso; omega) (fun cq_1 => ?_)
  refine lv_iload_n hx hb dText_wordAt_4 rfl (lv_at hl 1 rfl) ?_
  refine lv_aload_n hx hb dText_wordAt_5 rfl (lv_at hl 0 rfl) ?_
  refine hw_get hx hb hts (hwInn inText) hown hK hZ g0 rfl 1 (by decide) (hts (.fieldLink RText 15 RText "count" "I") (hwMem mm_34)) (fun _ h => h) rfl dText_wordAt_6 ?_
  refine hw_ic_ge (a := j) (b := ws.length) (tgt := 21) hx hb dText_wordAt_9 (by decide) (by omega) (by omega) (fun cq_2 => ?_) (fun cq_2 => ?_)
  · refine lv_lconst (v := lN 0) hx hb dText_wordAt_21 rfl ?_
    refine lv_goto (tgt := 31) hx hb dText_wordAt_22 (by decide) ?_
    exact hret hZ ⟨by first | exact hv j (by omega) | (rw [getD_big (by omega)]; rfl), rfl⟩ dText_wordAt_31
  · refine lv_iload_n hx hb dText_wordAt_12 rfl (lv_at hl 1 rfl) ?_
    refine lv_aload_n hx hb dText_wordAt_13 rfl (lv_at hl 0 rfl) ?_
    refine hw_get hx hb hts (hwInn inText) hown hK hZ g0 rfl 0 (by decide) (hts (.fieldLink RText 9 RText "words" "[J") (hwMem mm_33)) (fun _ h => h) rfl dText_wordAt_14 ?_
    refine hw_alen hx hb hK hZ 1 g1 rfl dText_wordAt_17 ?_
    refine hw_ic_lt (a := j) (b := N) (tgt := 25) hx hb dText_wordAt_18 (by decide) (by omega) (by omega) (fun cq_3 => ?_) (fun cq_3 => by exfalso; omega)
    refine lv_aload_n hx hb dText_wordAt_25 rfl (lv_at hl 0 rfl) ?_
    refine hw_get hx hb hts (hwInn inText) hown hK hZ g0 rfl 0 (by decide) (hts (.fieldLink RText 9 RText "words" "[J") (hwMem mm_33)) (fun _ h => h) rfl dText_wordAt_26 ?_
    refine lv_iload_n hx hb dText_wordAt_29 rfl (lv_at hl 1 rfl) ?_
    refine hw_lald hx hb hK hZ 1 g1 rfl (j := j) (by omega) (by omega) dText_wordAt_30 ?_
    exact hret hZ ⟨by first | exact hv j (by omega) | (rw [getD_big (by omega)]; rfl), rfl⟩ dText_wordAt_31
set_option maxHeartbeats 4000000 in
set_option maxRecDepth 100000 in
theorem c_Tx_clear (l : Launch) (D : va_G) (K : Nat → ClassId) (X : hwW) (sz : Nat) (a : Nat) (k : Nat) (ws : List (List Nat)) (o : Nat) (f0_ : txAt K X a k ws o) : Met l yText_clear (.code yText_clear cText_clear 1 none :: hwG) ({ frames := 0, cells := 0, slots := 0, locals := 0 } : Room) (hwPc D vwCl (hwT K) [.ref a] X sz) (hwQv D vwCl X sz (fun Y => hwF X Y (fun M => M = 2 * k ∨ M = 2 * k + 1) ∧ txAt K Y a k [] 0)) 0 0 (va_A X.1 sz) := by
  refine hwMetv (cc := cText_clear) (maxL := 1) (by decide) rfl (Nat.le_of_ble_eq_true rfl) (fun p e s m args below meth c ls A Q hx hb hml hown hts hname hret hK hO hZ hA hl => ?_)
  have hl : lv_has ls 1 [(0, .ref a)] := hl
  have hFr : hwF X X (fun M => M = 2 * k ∨ M = 2 * k + 1) := hwF.rf
  obtain ⟨q, N, f, g0, g1, hN, hM, hv, hk⟩ := f0_
  refine lv_aload_n hx hb dText_clear_0 rfl (lv_at hl 0 rfl) ?_
  refine lv_iconst (v := nI 0) hx hb dText_clear_1 (by decide) ?_
  refine hw_put (ty := .int) (fs' := [.ref q, .int (nI 0), .int (nI o)]) hx hb hts (hwInn inText) tyText tyText_ok nmText hown hK hZ g0 rfl 1 (by decide) (hts (.fieldLink RText 15 RText "count" "I") (hwMem mm_34)) (fun _ h => h) rfl (by decide +kernel) rfl rfl (Nat.le_of_ble_eq_true rfl) rfl dText_clear_2 (fun X_1 H_2 lc_3 hZ hF hNw => ?_)
  have hFr := hwF.tr hFr hF (fun _ h => h) (fun M h => by first | exact False.elim h | ((try dsimp only at h ⊢); omega))
  have g0 := hNw
  have g1 := hF _ _ _ (by intro hNS; first | exact False.elim hNS | ((try dsimp only at hNS); omega)) g1
  refine lv_aload_n hx hb dText_clear_5 rfl (lv_at hl 0 rfl) ?_
  refine lv_iconst (v := nI 0) hx hb dText_clear_6 (by decide) ?_
  refine hw_put (ty := .int) (fs' := [.ref q, .int (nI 0), .int (nI 0)]) hx hb hts (hwInn inText) tyText tyText_ok nmText hown hK hZ g0 rfl 2 (by decide) (hts (.fieldLink RText 19 RText "openLetters" "I") (hwMem mm_35)) (fun _ h => h) rfl (by decide +kernel) rfl rfl (Nat.le_of_ble_eq_true rfl) rfl dText_clear_7 (fun X_4 H_5 lc_6 hZ hF hNw => ?_)
  have hFr := hwF.tr hFr hF (fun _ h => h) (fun M h => by first | exact False.elim h | ((try dsimp only at h ⊢); omega))
  have g0 := hNw
  have g1 := hF _ _ _ (by intro hNS; first | exact False.elim hNS | ((try dsimp only at hNS); omega)) g1
  exact hret hZ ⟨hFr, q, N, f, g0, g1, Nat.zero_le _, hM, lvec.nil, okWs.nil⟩ dText_clear_10
set_option maxHeartbeats 4000000 in
set_option maxRecDepth 100000 in
theorem c_Tx_begin (l : Launch) (D : va_G) (K : Nat → ClassId) (X : hwW) (sz : Nat) (a : Nat) (k : Nat) (ws : List (List Nat)) (o : Nat) (f0_ : txAt K X a k ws o) (sl : ws.length ≤ 600) : Met l yText_beginWord (.code yText_beginWord cText_beginWord 1 none :: hwG) ({ frames := 2, cells := 1, slots := 1300, locals := 48 } : Room) (hwPc D vwCl (hwT K) [.ref a] X sz) (hwQv D vwCl X sz (fun Y => hwF X Y (fun M => M = 2 * k ∨ M = 2 * k + 1) ∧ txAt K Y a k (ws ++ [[]]) o)) 1 1300 (va_A X.1 sz) := by
  refine hwMetv (cc := cText_beginWord) (maxL := 1) (by decide) rfl (Nat.le_of_ble_eq_true rfl) (fun p e s m args below meth c ls A Q hx hb hml hown hts hname hret hK hO hZ hA hl => ?_)
  have hl : lv_has ls 1 [(0, .ref a)] := hl
  have hFr : hwF X X (fun M => M = 2 * k ∨ M = 2 * k + 1) := hwF.rf
  obtain ⟨q, N, f, g0, g1, hN, hM, hv, hk⟩ := f0_
  refine lv_aload_n hx hb dText_beginWord_0 rfl (lv_at hl 0 rfl) ?_
  refine hw_get hx hb hts (hwInn inText) hown hK hZ g0 rfl 1 (by decide) (hts (.fieldLink RText 15 RText "count" "I") (hwMem mm_34)) (fun _ h => h) rfl dText_beginWord_1 ?_
  refine lv_aload_n hx hb dText_beginWord_4 rfl (lv_at hl 0 rfl) ?_
  refine hw_get hx hb hts (hwInn inText) hown hK hZ g0 rfl 0 (by decide) (hts (.fieldLink RText 9 RText "words" "[J") (hwMem mm_33)) (fun _ h => h) rfl dText_beginWord_5 ?_
  refine hw_alen hx hb hK hZ 1 g1 rfl dText_beginWord_8 ?_
  refine hw_ic_lt (a := ws.length) (b := N) (tgt := 31) hx hb dText_beginWord_9 (by decide) (by omega) (by omega) (fun cq_1 => ?_) (fun cq_1 => ?_)
  · refine lv_aload_n hx hb dText_beginWord_31 rfl (lv_at hl 0 rfl) ?_
    refine hw_get hx hb hts (hwInn inText) hown hK hZ g0 rfl 0 (by decide) (hts (.fieldLink RText 9 RText "words" "[J") (hwMem mm_33)) (fun _ h => h) rfl dText_beginWord_32 ?_
    refine lv_aload_n hx hb dText_beginWord_35 rfl (lv_at hl 0 rfl) ?_
    refine hw_get hx hb hts (hwInn inText) hown hK hZ g0 rfl 1 (by decide) (hts (.fieldLink RText 15 RText "count" "I") (hwMem mm_34)) (fun _ h => h) rfl dText_beginWord_36 ?_
    refine lv_lconst (v := lN 0) hx hb dText_beginWord_39 rfl ?_
    refine hw_last hx hb hK hZ 1 g1 rfl (j := ws.length) (by omega) (by omega) dText_beginWord_40 (fun X_2 H_3 lc_4 hZ hF hNw => ?_)
    have hFr := hwF.tr hFr hF (fun _ h => h) (fun M h => by first | exact False.elim h | ((try dsimp only at h ⊢); omega))
    have g0 := hF _ _ _ (by intro hNS; first | exact False.elim hNS | ((try dsimp only at hNS); omega)) g0
    have g1 := hNw
    refine lv_aload_n hx hb dText_beginWord_41 rfl (lv_at hl 0 rfl) ?_
    refine lv_dup hx hb dText_beginWord_42 rfl ?_
    refine hw_get hx hb hts (hwInn inText) hown hK hZ g0 rfl 1 (by decide) (hts (.fieldLink RText 15 RText "count" "I") (hwMem mm_34)) (fun _ h => h) rfl dText_beginWord_43 ?_
    refine lv_iconst (v := nI 1) hx hb dText_beginWord_46 (by decide) ?_
    refine lv_iadd hx hb dText_beginWord_47 ?_
    refine hw_topi (nI_add ws.length 1) ?_
    refine hw_put (ty := .int) (fs' := [.ref q, .int (nI (ws.length + 1)), .int (nI o)]) hx hb hts (hwInn inText) tyText tyText_ok nmText hown hK hZ g0 rfl 1 (by decide) (hts (.fieldLink RText 15 RText "count" "I") (hwMem mm_34)) (fun _ h => h) rfl (by decide +kernel) rfl rfl (Nat.le_of_ble_eq_true rfl) rfl dText_beginWord_48 (fun X_5 H_6 lc_7 hZ hF hNw => ?_)
    have hFr := hwF.tr hFr hF (fun _ h => h) (fun M h => by first | exact False.elim h | ((try dsimp only at h ⊢); omega))
    have g0 := hNw
    have g1 := hF _ _ _ (by intro hNS; first | exact False.elim hNS | ((try dsimp only at hNS); omega)) g1
    refine W.widen (k := 1) (n := 1300) (by omega) (by omega) ?_
    exact hret hZ ⟨hFr, q, N, _, by rw [List.length_append]; exact g0, g1, by rw [List.length_append]; show ws.length + 1 ≤ _; omega, by omega, lvec.push (v := []) hv, hk.app (okWs.one okW_nil)⟩ dText_beginWord_51
  · refine lv_aload_n hx hb dText_beginWord_12 rfl (lv_at hl 0 rfl) ?_
    refine lv_aload_n hx hb dText_beginWord_13 rfl (lv_at hl 0 rfl) ?_
    refine hw_get hx hb hts (hwInn inText) hown hK hZ g0 rfl 0 (by decide) (hts (.fieldLink RText 9 RText "words" "[J") (hwMem mm_33)) (fun _ h => h) rfl dText_beginWord_14 ?_
    refine lv_iconst (v := nI 2) hx hb dText_beginWord_17 (by decide) ?_
    refine lv_aload_n hx hb dText_beginWord_18 rfl (lv_at hl 0 rfl) ?_
    refine hw_get hx hb hts (hwInn inText) hown hK hZ g0 rfl 1 (by decide) (hts (.fieldLink RText 15 RText "count" "I") (hwMem mm_34)) (fun _ h => h) rfl dText_beginWord_19 ?_
    refine lv_imul hx hb dText_beginWord_22 ?_
    refine hw_topi (pk_mul 2 ws.length) ?_
    refine lv_iconst (v := nI 4) hx hb dText_beginWord_23 (by decide) ?_
    refine lv_iadd hx hb dText_beginWord_24 ?_
    refine hw_topi (nI_add (2 * ws.length) 4) ?_
    refine hw_callq (va_runS (As := [.ref q, .int (nI (2 * ws.length + 4))]) (rest := [.ref a]) ⟨hx, hb, hml, hown, hts⟩ (c_copyOf l D K X s.heap.size (q := q) (L := 2 * k + 1) (N := N) (f := f) (n := 2 * ws.length + 4) (L1 := 2 * k + 1) g1 (by omega) (by omega)) (va_cwS 2 hts (hwGood (hw_3 mm_38 mm_37 mm_39 (hwAll mm_36))) rfl rfl rfl (by decide +kernel) ⟨Nat.le_of_ble_eq_true rfl, Nat.le_of_ble_eq_true rfl⟩) (hw_preS hK hO hZ) rfl rfl hl.1 rfl (lv_room (Nat.le_of_ble_eq_true rfl)) dText_beginWord_25 ⟨(show 0 + 1 ≤ 1 by omega), (show 0 + (2 * ws.length + 4) ≤ 1300 by omega)⟩) hZ hA (fun r X_8 H_9 lc_10 hp hZ => ?_)
    obtain ⟨qz_11, fz_12, hr, hF, hN_13, xx_14⟩ := hp
    have hFr := hwF.tr hFr hF (fun _ h => h) (fun M h => by first | exact False.elim h | ((try dsimp only at h ⊢); omega))
    have g0 := hF _ _ _ (by intro hNS; first | exact False.elim hNS | ((try dsimp only at hNS); omega)) g0
    have ff_15 := hN_13
    refine hw_top (y := .ref qz_11) (by rw [hr]; rfl) ?_
    refine hw_put (ty := (.array .long)) (fs' := [.ref qz_11, .int (nI ws.length), .int (nI o)]) hx hb hts (hwInn inText) tyText tyText_ok nmText hown hK hZ g0 rfl 0 (by decide) (hts (.fieldLink RText 9 RText "words" "[J") (hwMem mm_33)) (fun _ h => h) rfl (by decide +kernel) rfl rfl (Nat.le_of_ble_eq_true rfl) rfl dText_beginWord_28 (fun X_16 H_17 lc_18 hZ hF hNw => ?_)
    have hFr := hwF.tr hFr hF (fun _ h => h) (fun M h => by first | exact False.elim h | ((try dsimp only at h ⊢); omega))
    have g0 := hNw
    have ff_15 := hF _ _ _ (by intro hNS; first | exact False.elim hNS | ((try dsimp only at hNS); omega)) ff_15
    refine lv_aload_n hx hb dText_beginWord_31 rfl (lv_at hl 0 rfl) ?_
    refine hw_get hx hb hts (hwInn inText) hown hK hZ g0 rfl 0 (by decide) (hts (.fieldLink RText 9 RText "words" "[J") (hwMem mm_33)) (fun _ h => h) rfl dText_beginWord_32 ?_
    refine lv_aload_n hx hb dText_beginWord_35 rfl (lv_at hl 0 rfl) ?_
    refine hw_get hx hb hts (hwInn inText) hown hK hZ g0 rfl 1 (by decide) (hts (.fieldLink RText 15 RText "count" "I") (hwMem mm_34)) (fun _ h => h) rfl dText_beginWord_36 ?_
    refine lv_lconst (v := lN 0) hx hb dText_beginWord_39 rfl ?_
    refine hw_last hx hb hK hZ 1 ff_15 rfl (j := ws.length) (by omega) (by omega) dText_beginWord_40 (fun X_19 H_20 lc_21 hZ hF hNw => ?_)
    have hFr := hwF.tr hFr hF (fun _ h => h) (fun M h => by first | exact False.elim h | ((try dsimp only at h ⊢); omega))
    have g0 := hF _ _ _ (by intro hNS; first | exact False.elim hNS | ((try dsimp only at hNS); omega)) g0
    have ff_15 := hNw
    refine lv_aload_n hx hb dText_beginWord_41 rfl (lv_at hl 0 rfl) ?_
    refine lv_dup hx hb dText_beginWord_42 rfl ?_
    refine hw_get hx hb hts (hwInn inText) hown hK hZ g0 rfl 1 (by decide) (hts (.fieldLink RText 15 RText "count" "I") (hwMem mm_34)) (fun _ h => h) rfl dText_beginWord_43 ?_
    refine lv_iconst (v := nI 1) hx hb dText_beginWord_46 (by decide) ?_
    refine lv_iadd hx hb dText_beginWord_47 ?_
    refine hw_topi (nI_add ws.length 1) ?_
    refine hw_put (ty := .int) (fs' := [.ref qz_11, .int (nI (ws.length + 1)), .int (nI o)]) hx hb hts (hwInn inText) tyText tyText_ok nmText hown hK hZ g0 rfl 1 (by decide) (hts (.fieldLink RText 15 RText "count" "I") (hwMem mm_34)) (fun _ h => h) rfl (by decide +kernel) rfl rfl (Nat.le_of_ble_eq_true rfl) rfl dText_beginWord_48 (fun X_22 H_23 lc_24 hZ hF hNw => ?_)
    have hFr := hwF.tr hFr hF (fun _ h => h) (fun M h => by first | exact False.elim h | ((try dsimp only at h ⊢); omega))
    have g0 := hNw
    have ff_15 := hF _ _ _ (by intro hNS; first | exact False.elim hNS | ((try dsimp only at hNS); omega)) ff_15
    refine W.widen (k := 1) (n := 1300) (by omega) (by omega) ?_
    exact hret hZ ⟨hFr, qz_11, 2 * ws.length + 4, _, by rw [List.length_append]; exact g0, ff_15, by rw [List.length_append]; show ws.length + 1 ≤ _; omega, by omega, lvec.push (v := []) (fun p hp => (xx_14 p (by omega)).trans (hv p hp)), hk.app (okWs.one okW_nil)⟩ dText_beginWord_51
set_option maxHeartbeats 4000000 in
set_option maxRecDepth 100000 in
theorem c_Tx_take (l : Launch) (D : va_G) (K : Nat → ClassId) (X : hwW) (sz : Nat) (a : Nat) (k : Nat) (ws : List (List Nat)) (o : Nat) (c0 : Int32) (f0_ : txAt K X a k ws o) (sl : ws.length ≤ 600) (hG : txG ws o) : Met l yText_take (.code yText_take cText_take 4 none :: hwG) ({ frames := 3, cells := 1, slots := 1300, locals := 68 } : Room) (hwPc D vwCl (hwT K) [.ref a, .int c0] X sz) (hwQv D vwCl X sz (fun Y => hwF X Y (fun M => M = 2 * k ∨ M = 2 * k + 1) ∧ txAt K Y a k (tk (ws, o) (ltr (lo8 c0))).1 (tk (ws, o) (ltr (lo8 c0))).2)) 1 1300 (va_A X.1 sz) := by
  refine hwMetv (cc := cText_take) (maxL := 4) (by decide) rfl (Nat.le_of_ble_eq_true rfl) (fun p e s m args below meth c ls A Q hx hb hml hown hts hname hret hK hO hZ hA hl => ?_)
  have hl : lv_has ls 4 [(0, .ref a), (1, .int c0)] := hl
  have hFr : hwF X X (fun M => M = 2 * k ∨ M = 2 * k + 1) := hwF.rf
  obtain ⟨hG1, hG2⟩ := hG
  have hle := ltr_le (lo8 c0)
  rcases hG2 with rfl | ⟨us, w, rfl, rfl⟩
  · refine lv_iload_n hx hb dText_take_0 rfl (lv_at hl 1 rfl) ?_
    refine lv_sipush (v := nI 255) hx hb dText_take_1 (by decide) ?_
    refine lv_iand hx hb dText_take_4 ?_
    refine hw_topi (hw_lo8 c0) ?_
    have hlo8 := lo8_lt c0
    refine hw_calli (va_runS (As := [.int (nI (lo8 c0))]) (rest := []) ⟨hx, hb, hml, hown, hts⟩ (c_W_letterOf l D K X s.heap.size (c0 := lo8 c0) (by first | omega | exact lo8_lt _ | decide)) (va_cwS 1 hts (hwGood (hw_3 mm_40 mm_11 mm_3 (hwAll mm_10))) rfl rfl rfl (by decide +kernel) ⟨Nat.le_of_ble_eq_true rfl, Nat.le_of_ble_eq_true rfl⟩) (hw_preS hK hO hZ) rfl rfl hl.1 rfl (lv_room (Nat.le_of_ble_eq_true rfl)) dText_take_5 ⟨(show 0 + 0 ≤ 1 by omega), (show 0 + 0 ≤ 1300 by omega)⟩) hZ hA (fun r X_1 H_2 lc_3 hp hZ => ?_)
    obtain ⟨hr, hy, xx_4⟩ := hp
    subst hy
    refine hw_topi hr ?_
    refine lv_istore_n (lv' := [(2, .int (nI (ltr (lo8 c0)))), (0, .ref a), (1, .int c0)]) hx hb dText_take_8 rfl hl (by decide) rfl (fun ls hl => ?_)
    refine lv_iload_n hx hb dText_take_9 rfl (lv_at hl 0 rfl) ?_
    refine hw_if_ne (a := ltr (lo8 c0)) (tgt := 19) hx hb dText_take_10 (by decide) (by omega) (fun cq_5 => ?_) (fun cq_5 => ?_)
    · have hT := f0_
      obtain ⟨q, N, f, g0, g1, hN, hM, hv, hk⟩ := f0_
      refine lv_aload_n hx hb dText_take_19 rfl (lv_at hl 1 rfl) ?_
      refine hw_get hx hb hts (hwInn inText) hown hK hZ g0 rfl 2 (by decide) (hts (.fieldLink RText 19 RText "openLetters" "I") (hwMem mm_35)) (fun _ h => h) rfl dText_take_20 ?_
      refine hw_if_ne (a := 0) (tgt := 30) hx hb dText_take_23 (by decide) (by omega) (fun cq_6 => by exfalso; omega) (fun cq_6 => ?_)
      refine lv_aload_n hx hb dText_take_26 rfl (lv_at hl 1 rfl) ?_
      refine hw_callv (va_runV (As := []) (rest := []) ⟨hx, hb, hml, hown, hts⟩ (c_Tx_begin l D K X H_2.size (a := a) (k := k) (ws := ws) (o := 0) hT (by omega)) (cwV 0 hts (hwGood (hw_4 mm_42 mm_43 mm_44 mm_45 (hwAll mm_41))) rfl rfl rfl (by decide +kernel) ⟨Nat.le_of_ble_eq_true rfl, Nat.le_of_ble_eq_true rfl⟩) (hw_preV hK hO hZ (txAt.ob hT) rfl) rfl rfl hl.1 rfl (lv_room (Nat.le_of_ble_eq_true rfl)) dText_take_27 ⟨(show 0 + 1 ≤ 1 by omega), (show 0 + 1300 ≤ 1300 by omega)⟩) hZ hA (fun X_7 H_8 lc_9 hp hZ => ?_)
      obtain ⟨hF, hN_10⟩ := hp
      have hFr := hwF.tr hFr hF (fun _ h => h) (fun M h => by first | exact False.elim h | ((try dsimp only at h ⊢); omega))
      have ff_11 := hN_10
      obtain ⟨q, N, f, g0, g1, hN, hM, hv, hk⟩ := ff_11
      rw [show ((ws ++ [[]] : List (List Nat))).length = ws.length + 1 by simp] at g0 hN
      have hw := hk.init.2
      have hu := hk.init.1
      refine lv_aload_n hx hb dText_take_30 rfl (lv_at hl 1 rfl) ?_
      refine hw_get hx hb hts (hwInn inText) hown hK hZ g0 rfl 1 (by decide) (hts (.fieldLink RText 15 RText "count" "I") (hwMem mm_34)) (fun _ h => h) rfl dText_take_31 ?_
      refine lv_iconst (v := nI 1) hx hb dText_take_34 (by decide) ?_
      refine lv_isub hx hb dText_take_35 ?_
      refine hw_topi (pk_sub (a := ws.length + 1) (b := 1) (by omega)) ?_
      refine lv_istore_n (lv' := [(3, .int (nI (ws.length + 1 - 1))), (2, .int (nI (ltr (lo8 c0)))), (0, .ref a), (1, .int c0)]) hx hb dText_take_36 rfl hl (by decide) rfl (fun ls hl => ?_)
      refine lv_aload_n hx hb dText_take_37 rfl (lv_at hl 2 rfl) ?_
      refine hw_get hx hb hts (hwInn inText) hown hK hZ g0 rfl 2 (by decide) (hts (.fieldLink RText 19 RText "openLetters" "I") (hwMem mm_35)) (fun _ h => h) rfl dText_take_38 ?_
      refine lv_bipush (v := nI 12) hx hb dText_take_41 (by decide) ?_
      refine hw_ic_ge (a := 0) (b := 12) (tgt := 89) hx hb dText_take_43 (by decide) (by omega) (by omega) (fun cq_12 => by exfalso; omega) (fun cq_12 => ?_)
      refine lv_iload_n hx hb dText_take_46 rfl (lv_at hl 0 rfl) ?_
      refine hw_if_lt (a := ws.length + 1 - 1) (tgt := 89) hx hb dText_take_47 (by decide) (by omega) (fun cq_13 => by exfalso; omega) (fun cq_13 => ?_)
      refine lv_iload_n hx hb dText_take_50 rfl (lv_at hl 0 rfl) ?_
      refine lv_aload_n hx hb dText_take_51 rfl (lv_at hl 2 rfl) ?_
      refine hw_get hx hb hts (hwInn inText) hown hK hZ g0 rfl 0 (by decide) (hts (.fieldLink RText 9 RText "words" "[J") (hwMem mm_33)) (fun _ h => h) rfl dText_take_52 ?_
      refine hw_alen hx hb hK hZ 1 g1 rfl dText_take_55 ?_
      refine hw_ic_ge (a := ws.length + 1 - 1) (b := N) (tgt := 89) hx hb dText_take_56 (by decide) (by omega) (by omega) (fun cq_14 => by exfalso; omega) (fun cq_14 => ?_)
      refine lv_aload_n hx hb dText_take_59 rfl (lv_at hl 2 rfl) ?_
      refine hw_get hx hb hts (hwInn inText) hown hK hZ g0 rfl 0 (by decide) (hts (.fieldLink RText 9 RText "words" "[J") (hwMem mm_33)) (fun _ h => h) rfl dText_take_60 ?_
      refine lv_iload_n hx hb dText_take_63 rfl (lv_at hl 0 rfl) ?_
      refine lv_aload_n hx hb dText_take_64 rfl (lv_at hl 2 rfl) ?_
      refine hw_get hx hb hts (hwInn inText) hown hK hZ g0 rfl 0 (by decide) (hts (.fieldLink RText 9 RText "words" "[J") (hwMem mm_33)) (fun _ h => h) rfl dText_take_65 ?_
      refine lv_iload_n hx hb dText_take_68 rfl (lv_at hl 0 rfl) ?_
      refine hw_lald hx hb hK hZ 1 g1 rfl (j := ws.length + 1 - 1) (by omega) (by omega) dText_take_69 ?_
      refine hw_topl hv.last ?_
      refine lv_aload_n hx hb dText_take_70 rfl (lv_at hl 2 rfl) ?_
      refine hw_get hx hb hts (hwInn inText) hown hK hZ g0 rfl 2 (by decide) (hts (.fieldLink RText 19 RText "openLetters" "I") (hwMem mm_35)) (fun _ h => h) rfl dText_take_71 ?_
      refine lv_iload_n hx hb dText_take_74 rfl (lv_at hl 1 rfl) ?_
      refine hw_calll (va_runS (As := [.long (lN (eW ([]))), .int (nI 0), .int (nI (ltr (lo8 c0)))]) (rest := [.int (nI (ws.length + 1 - 1)), .ref q]) ⟨hx, hb, hml, hown, hts⟩ (c_W_with l D K X_7 H_8.size (w := ([])) (x := ltr (lo8 c0)) (by assumption) (by omega) (by omega)) (va_cwS 3 hts (hwGood (hw_3 mm_48 mm_47 mm_3 (hwAll mm_46))) rfl rfl rfl (by decide +kernel) ⟨Nat.le_of_ble_eq_true rfl, Nat.le_of_ble_eq_true rfl⟩) (hw_preS hK hO hZ) rfl rfl hl.1 rfl (lv_room (Nat.le_of_ble_eq_true rfl)) dText_take_75 ⟨(show 1 + 0 ≤ 1 by omega), (show (0 + 1300) + 0 ≤ 1300 by omega)⟩) hZ hA (fun r X_15 H_16 lc_17 hp hZ => ?_)
      obtain ⟨hr, hy⟩ := hp
      subst hy
      refine hw_topl hr ?_
      refine hw_last hx hb hK hZ 1 g1 rfl (j := ws.length + 1 - 1) (by omega) (by omega) dText_take_78 (fun X_18 H_19 lc_20 hZ hF hNw => ?_)
      have hFr := hwF.tr hFr hF (fun _ h => h) (fun M h => by first | exact False.elim h | ((try dsimp only at h ⊢); omega))
      have g0 := hF _ _ _ (by intro hNS; first | exact False.elim hNS | ((try dsimp only at hNS); omega)) g0
      have g1 := hNw
      refine lv_aload_n hx hb dText_take_79 rfl (lv_at hl 2 rfl) ?_
      refine lv_dup hx hb dText_take_80 rfl ?_
      refine hw_get hx hb hts (hwInn inText) hown hK hZ g0 rfl 2 (by decide) (hts (.fieldLink RText 19 RText "openLetters" "I") (hwMem mm_35)) (fun _ h => h) rfl dText_take_81 ?_
      refine lv_iconst (v := nI 1) hx hb dText_take_84 (by decide) ?_
      refine lv_iadd hx hb dText_take_85 ?_
      refine hw_topi (nI_add 0 1) ?_
      refine hw_put (ty := .int) (fs' := [.ref q, .int (nI (ws.length + 1)), .int (nI (0 + 1))]) hx hb hts (hwInn inText) tyText tyText_ok nmText hown hK hZ g0 rfl 2 (by decide) (hts (.fieldLink RText 19 RText "openLetters" "I") (hwMem mm_35)) (fun _ h => h) rfl (by decide +kernel) rfl rfl (Nat.le_of_ble_eq_true rfl) rfl dText_take_86 (fun X_21 H_22 lc_23 hZ hF hNw => ?_)
      have hFr := hwF.tr hFr hF (fun _ h => h) (fun M h => by first | exact False.elim h | ((try dsimp only at h ⊢); omega))
      have g0 := hNw
      have g1 := hF _ _ _ (by intro hNS; first | exact False.elim hNS | ((try dsimp only at hNS); omega)) g1
      refine W.widen (k := 1) (n := 1300) (by omega) (by omega) ?_
      exact hret hZ (by rw [tk_A _ cq_5]; exact ⟨hFr, q, N, _, by rw [List.length_append]; exact g0, g1, by rw [List.length_append]; exact hN, hM, hv.setLast (v := [ltr (lo8 c0)]), hu.app (okWs.one ⟨Nat.le_of_ble_eq_true rfl, hw_one cq_5 hle⟩)⟩) dText_take_89
    · obtain ⟨q, N, f, g0, g1, hN, hM, hv, hk⟩ := f0_
      refine lv_aload_n hx hb dText_take_13 rfl (lv_at hl 1 rfl) ?_
      refine lv_iconst (v := nI 0) hx hb dText_take_14 (by decide) ?_
      refine hw_put (ty := .int) (fs' := [.ref q, .int (nI ws.length), .int (nI 0)]) hx hb hts (hwInn inText) tyText tyText_ok nmText hown hK hZ g0 rfl 2 (by decide) (hts (.fieldLink RText 19 RText "openLetters" "I") (hwMem mm_35)) (fun _ h => h) rfl (by decide +kernel) rfl rfl (Nat.le_of_ble_eq_true rfl) rfl dText_take_15 (fun X_24 H_25 lc_26 hZ hF hNw => ?_)
      have hFr := hwF.tr hFr hF (fun _ h => h) (fun M h => by first | exact False.elim h | ((try dsimp only at h ⊢); omega))
      have g0 := hNw
      have g1 := hF _ _ _ (by intro hNS; first | exact False.elim hNS | ((try dsimp only at hNS); omega)) g1
      refine W.widen (k := 1) (n := 1300) (by omega) (by omega) ?_
      exact hret hZ (by rw [tk_0 _ _ cq_5]; exact ⟨hFr, q, N, f, g0, g1, hN, hM, hv, hk⟩) dText_take_18
  · have hwl := hG1 w (by simp)
    rw [List.length_append] at sl; simp only [List.length_singleton] at sl
    obtain ⟨q, N, f, g0, g1, hN, hM, hv, hk⟩ := f0_
    rw [show ((us ++ [w] : List (List Nat))).length = us.length + 1 by simp] at g0 hN
    have hw := hk.init.2
    have hu := hk.init.1
    have hw12 := hw.1
    refine lv_iload_n hx hb dText_take_0 rfl (lv_at hl 1 rfl) ?_
    refine lv_sipush (v := nI 255) hx hb dText_take_1 (by decide) ?_
    refine lv_iand hx hb dText_take_4 ?_
    refine hw_topi (hw_lo8 c0) ?_
    have hlo8 := lo8_lt c0
    refine hw_calli (va_runS (As := [.int (nI (lo8 c0))]) (rest := []) ⟨hx, hb, hml, hown, hts⟩ (c_W_letterOf l D K X s.heap.size (c0 := lo8 c0) (by first | omega | exact lo8_lt _ | decide)) (va_cwS 1 hts (hwGood (hw_3 mm_40 mm_11 mm_3 (hwAll mm_10))) rfl rfl rfl (by decide +kernel) ⟨Nat.le_of_ble_eq_true rfl, Nat.le_of_ble_eq_true rfl⟩) (hw_preS hK hO hZ) rfl rfl hl.1 rfl (lv_room (Nat.le_of_ble_eq_true rfl)) dText_take_5 ⟨(show 0 + 0 ≤ 1 by omega), (show 0 + 0 ≤ 1300 by omega)⟩) hZ hA (fun r X_27 H_28 lc_29 hp hZ => ?_)
    obtain ⟨hr, hy, xx_30⟩ := hp
    subst hy
    refine hw_topi hr ?_
    refine lv_istore_n (lv' := [(2, .int (nI (ltr (lo8 c0)))), (0, .ref a), (1, .int c0)]) hx hb dText_take_8 rfl hl (by decide) rfl (fun ls hl => ?_)
    refine lv_iload_n hx hb dText_take_9 rfl (lv_at hl 0 rfl) ?_
    refine hw_if_ne (a := ltr (lo8 c0)) (tgt := 19) hx hb dText_take_10 (by decide) (by omega) (fun cq_31 => ?_) (fun cq_31 => ?_)
    · refine lv_aload_n hx hb dText_take_19 rfl (lv_at hl 1 rfl) ?_
      refine hw_get hx hb hts (hwInn inText) hown hK hZ g0 rfl 2 (by decide) (hts (.fieldLink RText 19 RText "openLetters" "I") (hwMem mm_35)) (fun _ h => h) rfl dText_take_20 ?_
      refine hw_if_ne (a := w.length) (tgt := 30) hx hb dText_take_23 (by decide) (by omega) (fun cq_32 => ?_) (fun cq_32 => by exfalso; omega)
      refine lv_aload_n hx hb dText_take_30 rfl (lv_at hl 1 rfl) ?_
      refine hw_get hx hb hts (hwInn inText) hown hK hZ g0 rfl 1 (by decide) (hts (.fieldLink RText 15 RText "count" "I") (hwMem mm_34)) (fun _ h => h) rfl dText_take_31 ?_
      refine lv_iconst (v := nI 1) hx hb dText_take_34 (by decide) ?_
      refine lv_isub hx hb dText_take_35 ?_
      refine hw_topi (pk_sub (a := us.length + 1) (b := 1) (by omega)) ?_
      refine lv_istore_n (lv' := [(3, .int (nI (us.length + 1 - 1))), (2, .int (nI (ltr (lo8 c0)))), (0, .ref a), (1, .int c0)]) hx hb dText_take_36 rfl hl (by decide) rfl (fun ls hl => ?_)
      refine lv_aload_n hx hb dText_take_37 rfl (lv_at hl 2 rfl) ?_
      refine hw_get hx hb hts (hwInn inText) hown hK hZ g0 rfl 2 (by decide) (hts (.fieldLink RText 19 RText "openLetters" "I") (hwMem mm_35)) (fun _ h => h) rfl dText_take_38 ?_
      refine lv_bipush (v := nI 12) hx hb dText_take_41 (by decide) ?_
      refine hw_ic_ge (a := w.length) (b := 12) (tgt := 89) hx hb dText_take_43 (by decide) (by omega) (by omega) (fun cq_33 => ?_) (fun cq_33 => ?_)
      · refine W.widen (k := 1) (n := 1300) (by omega) (by omega) ?_
        exact hret hZ (by rw [tk_C _ _ cq_31 (by omega)]; exact ⟨hFr, q, N, f, by rw [List.length_append]; exact g0, g1, by rw [List.length_append]; exact hN, hM, hv, hk⟩) dText_take_89
      · refine lv_iload_n hx hb dText_take_46 rfl (lv_at hl 0 rfl) ?_
        refine hw_if_lt (a := us.length + 1 - 1) (tgt := 89) hx hb dText_take_47 (by decide) (by omega) (fun cq_34 => by exfalso; omega) (fun cq_34 => ?_)
        refine lv_iload_n hx hb dText_take_50 rfl (lv_at hl 0 rfl) ?_
        refine lv_aload_n hx hb dText_take_51 rfl (lv_at hl 2 rfl) ?_
        refine hw_get hx hb hts (hwInn inText) hown hK hZ g0 rfl 0 (by decide) (hts (.fieldLink RText 9 RText "words" "[J") (hwMem mm_33)) (fun _ h => h) rfl dText_take_52 ?_
        refine hw_alen hx hb hK hZ 1 g1 rfl dText_take_55 ?_
        refine hw_ic_ge (a := us.length + 1 - 1) (b := N) (tgt := 89) hx hb dText_take_56 (by decide) (by omega) (by omega) (fun cq_35 => by exfalso; omega) (fun cq_35 => ?_)
        refine lv_aload_n hx hb dText_take_59 rfl (lv_at hl 2 rfl) ?_
        refine hw_get hx hb hts (hwInn inText) hown hK hZ g0 rfl 0 (by decide) (hts (.fieldLink RText 9 RText "words" "[J") (hwMem mm_33)) (fun _ h => h) rfl dText_take_60 ?_
        refine lv_iload_n hx hb dText_take_63 rfl (lv_at hl 0 rfl) ?_
        refine lv_aload_n hx hb dText_take_64 rfl (lv_at hl 2 rfl) ?_
        refine hw_get hx hb hts (hwInn inText) hown hK hZ g0 rfl 0 (by decide) (hts (.fieldLink RText 9 RText "words" "[J") (hwMem mm_33)) (fun _ h => h) rfl dText_take_65 ?_
        refine lv_iload_n hx hb dText_take_68 rfl (lv_at hl 0 rfl) ?_
        refine hw_lald hx hb hK hZ 1 g1 rfl (j := us.length + 1 - 1) (by omega) (by omega) dText_take_69 ?_
        refine hw_topl hv.last ?_
        refine lv_aload_n hx hb dText_take_70 rfl (lv_at hl 2 rfl) ?_
        refine hw_get hx hb hts (hwInn inText) hown hK hZ g0 rfl 2 (by decide) (hts (.fieldLink RText 19 RText "openLetters" "I") (hwMem mm_35)) (fun _ h => h) rfl dText_take_71 ?_
        refine lv_iload_n hx hb dText_take_74 rfl (lv_at hl 1 rfl) ?_
        refine hw_calll (va_runS (As := [.long (lN (eW w)), .int (nI w.length), .int (nI (ltr (lo8 c0)))]) (rest := [.int (nI (us.length + 1 - 1)), .ref q]) ⟨hx, hb, hml, hown, hts⟩ (c_W_with l D K X H_28.size (w := w) (x := ltr (lo8 c0)) (by assumption) (by omega) (by omega)) (va_cwS 3 hts (hwGood (hw_3 mm_48 mm_47 mm_3 (hwAll mm_46))) rfl rfl rfl (by decide +kernel) ⟨Nat.le_of_ble_eq_true rfl, Nat.le_of_ble_eq_true rfl⟩) (hw_preS hK hO hZ) rfl rfl hl.1 rfl (lv_room (Nat.le_of_ble_eq_true rfl)) dText_take_75 ⟨(show 0 + 0 ≤ 1 by omega), (show 0 + 0 ≤ 1300 by omega)⟩) hZ hA (fun r X_36 H_37 lc_38 hp hZ => ?_)
        obtain ⟨hr, hy⟩ := hp
        subst hy
        refine hw_topl hr ?_
        refine hw_last hx hb hK hZ 1 g1 rfl (j := us.length + 1 - 1) (by omega) (by omega) dText_take_78 (fun X_39 H_40 lc_41 hZ hF hNw => ?_)
        have hFr := hwF.tr hFr hF (fun _ h => h) (fun M h => by first | exact False.elim h | ((try dsimp only at h ⊢); omega))
        have g0 := hF _ _ _ (by intro hNS; first | exact False.elim hNS | ((try dsimp only at hNS); omega)) g0
        have g1 := hNw
        refine lv_aload_n hx hb dText_take_79 rfl (lv_at hl 2 rfl) ?_
        refine lv_dup hx hb dText_take_80 rfl ?_
        refine hw_get hx hb hts (hwInn inText) hown hK hZ g0 rfl 2 (by decide) (hts (.fieldLink RText 19 RText "openLetters" "I") (hwMem mm_35)) (fun _ h => h) rfl dText_take_81 ?_
        refine lv_iconst (v := nI 1) hx hb dText_take_84 (by decide) ?_
        refine lv_iadd hx hb dText_take_85 ?_
        refine hw_topi (nI_add w.length 1) ?_
        refine hw_put (ty := .int) (fs' := [.ref q, .int (nI (us.length + 1)), .int (nI (w.length + 1))]) hx hb hts (hwInn inText) tyText tyText_ok nmText hown hK hZ g0 rfl 2 (by decide) (hts (.fieldLink RText 19 RText "openLetters" "I") (hwMem mm_35)) (fun _ h => h) rfl (by decide +kernel) rfl rfl (Nat.le_of_ble_eq_true rfl) rfl dText_take_86 (fun X_42 H_43 lc_44 hZ hF hNw => ?_)
        have hFr := hwF.tr hFr hF (fun _ h => h) (fun M h => by first | exact False.elim h | ((try dsimp only at h ⊢); omega))
        have g0 := hNw
        have g1 := hF _ _ _ (by intro hNS; first | exact False.elim hNS | ((try dsimp only at hNS); omega)) g1
        refine W.widen (k := 1) (n := 1300) (by omega) (by omega) ?_
        exact hret hZ (by rw [tk_B _ _ cq_31 (by omega) (by omega)]; exact ⟨hFr, q, N, _, by rw [List.length_append]; exact g0, g1, by rw [List.length_append]; exact hN, hM, hv.setLast (v := w ++ [ltr (lo8 c0)]), hu.app (okWs.one (hw_app hw cq_31 hle (by omega)))⟩) dText_take_89
    · refine lv_aload_n hx hb dText_take_13 rfl (lv_at hl 1 rfl) ?_
      refine lv_iconst (v := nI 0) hx hb dText_take_14 (by decide) ?_
      refine hw_put (ty := .int) (fs' := [.ref q, .int (nI (us.length + 1)), .int (nI 0)]) hx hb hts (hwInn inText) tyText tyText_ok nmText hown hK hZ g0 rfl 2 (by decide) (hts (.fieldLink RText 19 RText "openLetters" "I") (hwMem mm_35)) (fun _ h => h) rfl (by decide +kernel) rfl rfl (Nat.le_of_ble_eq_true rfl) rfl dText_take_15 (fun X_45 H_46 lc_47 hZ hF hNw => ?_)
      have hFr := hwF.tr hFr hF (fun _ h => h) (fun M h => by first | exact False.elim h | ((try dsimp only at h ⊢); omega))
      have g0 := hNw
      have g1 := hF _ _ _ (by intro hNS; first | exact False.elim hNS | ((try dsimp only at hNS); omega)) g1
      refine W.widen (k := 1) (n := 1300) (by omega) (by omega) ?_
      exact hret hZ (by rw [tk_0 _ _ cq_31]; exact ⟨hFr, q, N, f, by rw [List.length_append]; exact g0, g1, by rw [List.length_append]; exact hN, hM, hv, hk⟩) dText_take_18
