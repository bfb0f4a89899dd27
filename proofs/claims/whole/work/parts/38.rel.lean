/-! the two sides' states, tied -/
def hwR (k : Nat) (its : hwIt) (fs : Nat) (lg : Nat → Nat) (qw : List (List Nat)) (qo qs : Nat) (ss : List (List Nat)) (hs : List (Nat × Nat × Nat)) (sg : List (Nat × Nat)) (st : List (List Nat)) (sd : List Nat) : Prop := (its.length ≤ 30) ∧ (fs ≤ k) ∧ (sg.length = fs) ∧ (∀ p ∈ sg, p.1 < 4 * (its.length + 1) ∧ p.2 ≤ 26) ∧ (∀ j, lg j < 3) ∧ (ss.Pairwise (· < ·)) ∧ (tkF sd = (qw, qo)) ∧ (sd.length = qs) ∧ (qs ≤ 100) ∧ (∀ x ∈ sd, x ≤ 26) ∧ (∀ w, w ∈ st ↔ w ∈ ss) ∧ (st.length = ss.length) ∧ (hs.length ≤ 30) ∧ (okH hs) ∧ (okP hs) ∧ (∀ i, i < its.length → ∀ j, j < 4 → (its.getD i hwIt0).2 j = tkF (ltL sg (4 * (i + 1) + j))) ∧ (∀ i j, its.length ≤ i ∨ 4 ≤ j → (its.getD i hwIt0).2 j = ([], 0))
theorem hwR.n30 {k : Nat} {its : hwIt} {fs : Nat} {lg : Nat → Nat} {qw : List (List Nat)} {qo qs : Nat} {ss : List (List Nat)} {hs : List (Nat × Nat × Nat)} {sg : List (Nat × Nat)} {st : List (List Nat)} {sd : List Nat} (h : hwR k its fs lg qw qo qs ss hs sg st sd) : its.length ≤ 30 := h.1
theorem hwR.fsk {k : Nat} {its : hwIt} {fs : Nat} {lg : Nat → Nat} {qw : List (List Nat)} {qo qs : Nat} {ss : List (List Nat)} {hs : List (Nat × Nat × Nat)} {sg : List (Nat × Nat)} {st : List (List Nat)} {sd : List Nat} (h : hwR k its fs lg qw qo qs ss hs sg st sd) : fs ≤ k := h.2.1
theorem hwR.sgf {k : Nat} {its : hwIt} {fs : Nat} {lg : Nat → Nat} {qw : List (List Nat)} {qo qs : Nat} {ss : List (List Nat)} {hs : List (Nat × Nat × Nat)} {sg : List (Nat × Nat)} {st : List (List Nat)} {sd : List Nat} (h : hwR k its fs lg qw qo qs ss hs sg st sd) : sg.length = fs := h.2.2.1
theorem hwR.sgp {k : Nat} {its : hwIt} {fs : Nat} {lg : Nat → Nat} {qw : List (List Nat)} {qo qs : Nat} {ss : List (List Nat)} {hs : List (Nat × Nat × Nat)} {sg : List (Nat × Nat)} {st : List (List Nat)} {sd : List Nat} (h : hwR k its fs lg qw qo qs ss hs sg st sd) : ∀ p ∈ sg, p.1 < 4 * (its.length + 1) ∧ p.2 ≤ 26 := h.2.2.2.1
theorem hwR.lg3 {k : Nat} {its : hwIt} {fs : Nat} {lg : Nat → Nat} {qw : List (List Nat)} {qo qs : Nat} {ss : List (List Nat)} {hs : List (Nat × Nat × Nat)} {sg : List (Nat × Nat)} {st : List (List Nat)} {sd : List Nat} (h : hwR k its fs lg qw qo qs ss hs sg st sd) : ∀ j, lg j < 3 := h.2.2.2.2.1
theorem hwR.sor {k : Nat} {its : hwIt} {fs : Nat} {lg : Nat → Nat} {qw : List (List Nat)} {qo qs : Nat} {ss : List (List Nat)} {hs : List (Nat × Nat × Nat)} {sg : List (Nat × Nat)} {st : List (List Nat)} {sd : List Nat} (h : hwR k its fs lg qw qo qs ss hs sg st sd) : ss.Pairwise (· < ·) := h.2.2.2.2.2.1
theorem hwR.tq {k : Nat} {its : hwIt} {fs : Nat} {lg : Nat → Nat} {qw : List (List Nat)} {qo qs : Nat} {ss : List (List Nat)} {hs : List (Nat × Nat × Nat)} {sg : List (Nat × Nat)} {st : List (List Nat)} {sd : List Nat} (h : hwR k its fs lg qw qo qs ss hs sg st sd) : tkF sd = (qw, qo) := h.2.2.2.2.2.2.1
theorem hwR.sdl {k : Nat} {its : hwIt} {fs : Nat} {lg : Nat → Nat} {qw : List (List Nat)} {qo qs : Nat} {ss : List (List Nat)} {hs : List (Nat × Nat × Nat)} {sg : List (Nat × Nat)} {st : List (List Nat)} {sd : List Nat} (h : hwR k its fs lg qw qo qs ss hs sg st sd) : sd.length = qs := h.2.2.2.2.2.2.2.1
theorem hwR.q100 {k : Nat} {its : hwIt} {fs : Nat} {lg : Nat → Nat} {qw : List (List Nat)} {qo qs : Nat} {ss : List (List Nat)} {hs : List (Nat × Nat × Nat)} {sg : List (Nat × Nat)} {st : List (List Nat)} {sd : List Nat} (h : hwR k its fs lg qw qo qs ss hs sg st sd) : qs ≤ 100 := h.2.2.2.2.2.2.2.2.1
theorem hwR.sd26 {k : Nat} {its : hwIt} {fs : Nat} {lg : Nat → Nat} {qw : List (List Nat)} {qo qs : Nat} {ss : List (List Nat)} {hs : List (Nat × Nat × Nat)} {sg : List (Nat × Nat)} {st : List (List Nat)} {sd : List Nat} (h : hwR k its fs lg qw qo qs ss hs sg st sd) : ∀ x ∈ sd, x ≤ 26 := h.2.2.2.2.2.2.2.2.2.1
theorem hwR.mem {k : Nat} {its : hwIt} {fs : Nat} {lg : Nat → Nat} {qw : List (List Nat)} {qo qs : Nat} {ss : List (List Nat)} {hs : List (Nat × Nat × Nat)} {sg : List (Nat × Nat)} {st : List (List Nat)} {sd : List Nat} (h : hwR k its fs lg qw qo qs ss hs sg st sd) : ∀ w, w ∈ st ↔ w ∈ ss := h.2.2.2.2.2.2.2.2.2.2.1
theorem hwR.len {k : Nat} {its : hwIt} {fs : Nat} {lg : Nat → Nat} {qw : List (List Nat)} {qo qs : Nat} {ss : List (List Nat)} {hs : List (Nat × Nat × Nat)} {sg : List (Nat × Nat)} {st : List (List Nat)} {sd : List Nat} (h : hwR k its fs lg qw qo qs ss hs sg st sd) : st.length = ss.length := h.2.2.2.2.2.2.2.2.2.2.2.1
theorem hwR.h30 {k : Nat} {its : hwIt} {fs : Nat} {lg : Nat → Nat} {qw : List (List Nat)} {qo qs : Nat} {ss : List (List Nat)} {hs : List (Nat × Nat × Nat)} {sg : List (Nat × Nat)} {st : List (List Nat)} {sd : List Nat} (h : hwR k its fs lg qw qo qs ss hs sg st sd) : hs.length ≤ 30 := h.2.2.2.2.2.2.2.2.2.2.2.2.1
theorem hwR.hB {k : Nat} {its : hwIt} {fs : Nat} {lg : Nat → Nat} {qw : List (List Nat)} {qo qs : Nat} {ss : List (List Nat)} {hs : List (Nat × Nat × Nat)} {sg : List (Nat × Nat)} {st : List (List Nat)} {sd : List Nat} (h : hwR k its fs lg qw qo qs ss hs sg st sd) : okH hs := h.2.2.2.2.2.2.2.2.2.2.2.2.2.1
theorem hwR.hP {k : Nat} {its : hwIt} {fs : Nat} {lg : Nat → Nat} {qw : List (List Nat)} {qo qs : Nat} {ss : List (List Nat)} {hs : List (Nat × Nat × Nat)} {sg : List (Nat × Nat)} {st : List (List Nat)} {sd : List Nat} (h : hwR k its fs lg qw qo qs ss hs sg st sd) : okP hs := h.2.2.2.2.2.2.2.2.2.2.2.2.2.2.1
theorem hwR.tx {k : Nat} {its : hwIt} {fs : Nat} {lg : Nat → Nat} {qw : List (List Nat)} {qo qs : Nat} {ss : List (List Nat)} {hs : List (Nat × Nat × Nat)} {sg : List (Nat × Nat)} {st : List (List Nat)} {sd : List Nat} (h : hwR k its fs lg qw qo qs ss hs sg st sd) : ∀ i, i < its.length → ∀ j, j < 4 → (its.getD i hwIt0).2 j = tkF (ltL sg (4 * (i + 1) + j)) := h.2.2.2.2.2.2.2.2.2.2.2.2.2.2.2.1
theorem hwR.tz {k : Nat} {its : hwIt} {fs : Nat} {lg : Nat → Nat} {qw : List (List Nat)} {qo qs : Nat} {ss : List (List Nat)} {hs : List (Nat × Nat × Nat)} {sg : List (Nat × Nat)} {st : List (List Nat)} {sd : List Nat} (h : hwR k its fs lg qw qo qs ss hs sg st sd) : ∀ i j, its.length ≤ i ∨ 4 ≤ j → (its.getD i hwIt0).2 j = ([], 0) := h.2.2.2.2.2.2.2.2.2.2.2.2.2.2.2.2
theorem hwR.mk {k : Nat} {its : hwIt} {fs : Nat} {lg : Nat → Nat} {qw : List (List Nat)} {qo qs : Nat} {ss : List (List Nat)} {hs : List (Nat × Nat × Nat)} {sg : List (Nat × Nat)} {st : List (List Nat)} {sd : List Nat} (h_n30 : its.length ≤ 30) (h_fsk : fs ≤ k) (h_sgf : sg.length = fs) (h_sgp : ∀ p ∈ sg, p.1 < 4 * (its.length + 1) ∧ p.2 ≤ 26) (h_lg3 : ∀ j, lg j < 3) (h_sor : ss.Pairwise (· < ·)) (h_tq : tkF sd = (qw, qo)) (h_sdl : sd.length = qs) (h_q100 : qs ≤ 100) (h_sd26 : ∀ x ∈ sd, x ≤ 26) (h_mem : ∀ w, w ∈ st ↔ w ∈ ss) (h_len : st.length = ss.length) (h_h30 : hs.length ≤ 30) (h_hB : okH hs) (h_hP : okP hs) (h_tx : ∀ i, i < its.length → ∀ j, j < 4 → (its.getD i hwIt0).2 j = tkF (ltL sg (4 * (i + 1) + j))) (h_tz : ∀ i j, its.length ≤ i ∨ 4 ≤ j → (its.getD i hwIt0).2 j = ([], 0)) : hwR k its fs lg qw qo qs ss hs sg st sd := ⟨h_n30, h_fsk, h_sgf, h_sgp, h_lg3, h_sor, h_tq, h_sdl, h_q100, h_sd26, h_mem, h_len, h_h30, h_hB, h_hP, h_tx, h_tz⟩
theorem tkF_cap (l : List Nat) : 2 * (tkF l).1.length ≤ l.length + (if (tkF l).2 = 0 then 0 else 1) := by
  have key : ∀ (l : List Nat) (s : List (List Nat) × Nat) (n : Nat), 2 * s.1.length ≤ n + (if s.2 = 0 then 0 else 1) → (s.2 ≠ 0 → 1 ≤ s.1.length) → 2 * (l.foldl tk s).1.length ≤ n + l.length + (if (l.foldl tk s).2 = 0 then 0 else 1) := by
    intro l
    induction l with
    | nil => intro s n h _; exact h
    | cons x xs ih =>
      intro s n h h0
      have h3 := ih (tk s x) (n + 1) ?_ ?_
      · rw [List.length_cons, show n + (xs.length + 1) = n + 1 + xs.length by omega]; exact h3
      · unfold tk
        split
        · show 2 * s.1.length ≤ n + 1 + 0
          split at h <;> omega
        · split
          · rename_i h1 h2
            rw [if_pos h2] at h
            show 2 * (s.1 ++ [[x]]).length ≤ n + 1 + 1
            rw [List.length_append]
            show 2 * (s.1.length + 1) ≤ _
            omega
          · rename_i h1 h2
            rw [if_neg h2] at h
            have h9 := h0 h2
            split
            · show 2 * (s.1.dropLast ++ [s.1.getLastD [] ++ [x]]).length ≤ n + 1 + (if s.2 + 1 = 0 then 0 else 1)
              rw [List.length_append, List.length_dropLast, if_neg (by omega)]
              show 2 * (s.1.length - 1 + 1) ≤ _
              omega
            · (try rw [if_neg h2]); omega
      · unfold tk
        split
        · intro q; exact absurd rfl q
        · split
          · intro _; rw [List.length_append]; simp
          · split
            · intro _; rw [List.length_append]; simp
            · exact h0
  have := key l ([], 0) 0 (Nat.le_refl _) (fun q => absurd rfl q)
  rw [Nat.zero_add] at this
  exact this
theorem ltL_mem {sg : List (Nat × Nat)} {p x : Nat} (h : x ∈ ltL sg p) : (p, x) ∈ sg := by
  unfold ltL at h
  obtain ⟨z, hz, rfl⟩ := List.mem_map.mp h
  obtain ⟨h1, h2⟩ := List.mem_filter.mp hz
  have := of_decide_eq_true h2
  rw [← this]
  exact h1
theorem ltL_nil {sg : List (Nat × Nat)} {p : Nat} (h : ∀ z ∈ sg, z.1 ≠ p) : ltL sg p = [] := by
  unfold ltL
  rw [List.filter_eq_nil_iff.mpr (fun z hz => by rw [decide_eq_false (h z hz)]; decide)]
  rfl
theorem ltL_app_y {sg : List (Nat × Nat)} {p x : Nat} : ltL (sg ++ [(p, x)]) p = ltL sg p ++ [x] := by
  unfold ltL
  rw [List.filter_append, List.map_append, List.filter_cons, decide_eq_true rfl]
  rfl
theorem ltL_app_n {sg : List (Nat × Nat)} {p q x : Nat} (h : q ≠ p) : ltL (sg ++ [(q, x)]) p = ltL sg p := by
  unfold ltL
  rw [List.filter_append, List.map_append, List.filter_cons, decide_eq_false h]
  simp
section
variable {k : Nat} {its : hwIt} {fs : Nat} {lg : Nat → Nat} {qw : List (List Nat)} {qo qs : Nat} {ss : List (List Nat)} {hs : List (Nat × Nat × Nat)} {sg : List (Nat × Nat)} {st : List (List Nat)} {sd : List Nat}
theorem hwR.okS (h : hwR k its fs lg qw qo qs ss hs sg st sd) (hk : k ≤ 600) : okS its fs lg qw qo qs ss := by
  have hq := tkF_inv sd h.sd26
  have hc := tkF_cap sd
  rw [h.tq] at hq hc
  refine ⟨h.n30, fun i j => ?_, Nat.le_trans h.fsk hk, h.lg3, h.sor, hq.1, by rw [← h.sdl]; exact hc, h.q100⟩
  by_cases c : i < its.length ∧ j < 4
  · rw [h.tx i c.1 j c.2]
    refine ⟨(tkF_inv _ (fun x hx => (h.sgp _ (ltL_mem hx)).2)).1, ?_⟩
    have h1 := tkF_len (ltL sg (4 * (i + 1) + j))
    have h2 := ltL_len sg (4 * (i + 1) + j)
    have h3 := h.sgf
    omega
  · rw [h.tz i j (by omega)]
    exact ⟨⟨fun _ q => absurd q List.not_mem_nil, Or.inl rfl⟩, Nat.zero_le _⟩
theorem hwR.okM (h : hwR k its fs lg qw qo qs ss hs sg st sd) (hk : k ≤ 600) : okM its sg lg st sd hs := by
  refine ⟨h.n30, by have := h.fsk; have := h.sgf; omega, fun p => ?_, h.lg3, by have := h.sdl; have := h.q100; omega, h.h30, h.hB, fun i hi j hj => by rw [h.tx i hi j hj]⟩
  by_cases c : p < sg.length
  · have e : sg.getD p (0, 0) = sg[p] := by simp [List.getD, c]
    have h1 := (h.sgp _ (List.getElem_mem c)).1
    have h2 := h.n30
    rw [e]
    omega
  · have e : sg.getD p (0, 0) = (0, 0) := by simp [List.getD, Nat.le_of_not_lt c]
    rw [e]
    exact Nat.zero_le _
theorem hwR.up {k2 : Nat} (h : hwR k its fs lg qw qo qs ss hs sg st sd) (hk : k ≤ k2) : hwR k2 its fs lg qw qo qs ss hs sg st sd := (hwR.mk (h).n30 (Nat.le_trans h.fsk hk) (h).sgf (h).sgp (h).lg3 (h).sor (h).tq (h).sdl (h).q100 (h).sd26 (h).mem (h).len (h).h30 (h).hB (h).hP (h).tx (h).tz)
theorem hwR.etr (h : hwR k its fs lg qw qo qs ss hs sg st sd) (g : Nat) : trm g st = trm g ss := by
  funext w
  unfold trm
  by_cases c : w ∈ ss
  · rw [if_pos c, if_pos ((h.mem w).mpr c)]
  · rw [if_neg c, if_neg (fun q => c ((h.mem w).mp q))]
theorem hwR.eTf (h : hwR k its fs lg qw qo qs ss hs sg st sd) (j : Nat) : Tf its lg st j = Tf its lg ss j := by
  funext i
  unfold Tf
  rw [h.etr]
theorem hwR.nil : hwR 0 [] 0 (fun _ => 0) [] 0 0 [] [] [] [] [] := hwR.mk (Nat.zero_le _) (Nat.le_refl _) (rfl) (fun _ h => absurd h List.not_mem_nil) (fun _ => by decide) (List.Pairwise.nil) (rfl) (rfl) (Nat.zero_le _) (fun _ h => absurd h List.not_mem_nil) (fun _ => Iff.rfl) (rfl) (Nat.zero_le _) (fun _ h => absurd h List.not_mem_nil) (fun _ h => absurd h List.not_mem_nil) (fun i hi => absurd hi (Nat.not_lt_zero _)) (fun i j _ => rfl)
theorem hwR.record (h : hwR k its fs lg qw qo qs ss hs sg st sd) : hwR (k + 1) (recP its) fs lg qw qo qs ss hs sg st sd := by
  unfold recP
  split
  · rename_i hl
    have e : (its ++ [((true, fun _ => ([], 0)) : Bool × (Nat → List (List Nat) × Nat))]).length = its.length + 1 := by simp
    refine (hwR.mk (by rw [e]; omega) (h.up (Nat.le_succ k)).fsk (h.up (Nat.le_succ k)).sgf (fun p hp => ⟨by rw [e]; have := (h.sgp p hp).1; omega, (h.sgp p hp).2⟩) (h.up (Nat.le_succ k)).lg3 (h.up (Nat.le_succ k)).sor (h.up (Nat.le_succ k)).tq (h.up (Nat.le_succ k)).sdl (h.up (Nat.le_succ k)).q100 (h.up (Nat.le_succ k)).sd26 (h.up (Nat.le_succ k)).mem (h.up (Nat.le_succ k)).len (h.up (Nat.le_succ k)).h30 (h.up (Nat.le_succ k)).hB (h.up (Nat.le_succ k)).hP (fun i hi j hj => ?_) (fun i j hij => ?_))
    · rw [e] at hi
      by_cases c : i < its.length
      · rw [hwIt_app_lo c]; exact h.tx i c j hj
      · obtain rfl : i = its.length := by omega
        rw [hwIt_app_hi, ltL_nil (fun z hz => by have := (h.sgp z hz).1; omega)]
        rfl
    · by_cases c : i < its.length
      · rw [hwIt_app_lo c]; exact h.tz i j (by rw [e] at hij; omega)
      · by_cases c2 : i = its.length
        · subst c2; rw [hwIt_app_hi]
        · have e2 : (its ++ [((true, fun _ => ([], 0)) : Bool × (Nat → List (List Nat) × Nat))]).getD i hwIt0 = hwIt0 := by rw [List.getD, List.getElem?_eq_none (by rw [e]; omega)]; rfl
          rw [e2]; rfl
  · exact h.up (Nat.le_succ k)
theorem hwR.field (h : hwR k its fs lg qw qo qs ss hs sg st sd) (r kk c : Int32) : hwR (k + 1) (fldP its fs r kk c).1 (fldP its fs r kk c).2 lg qw qo qs ss hs (sgP its sg r kk c) st sd := by
  have hn := h.n30
  rcases rN_cases its.length (by omega) r with hr | ⟨n, hn1, hn2, rfl⟩
  · rw [fldP_r (rN_bad (by omega) hr), sgP_r (rN_bad (by omega) hr)]; exact h.up (Nat.le_succ k)
  · have er : rN its.length (nI n) = some (n - 1) := rN_nI hn1 hn2 (by omega)
    cases hth : (its.getD (n - 1) hwIt0).1 with
    | false => rw [fldP_g er hth, sgP_g er hth]; exact h.up (Nat.le_succ k)
    | true =>
      rcases kN_cases kk with hk | ⟨j, hj, rfl⟩
      · rw [fldP_k (kN_bad hk), sgP_k (kN_bad hk)]; exact h.up (Nat.le_succ k)
      · rw [fldP_y er (kN_nI hj) hth, sgP_y er (kN_nI hj) hth]
        have el : (its.set (n - 1) ((its.getD (n - 1) hwIt0).1, va_up (its.getD (n - 1) hwIt0).2 j (tk ((its.getD (n - 1) hwIt0).2 j) (ltr (lo8 c))))).length = its.length := List.length_set
        refine (hwR.mk (by rw [el]; exact h.n30) (Nat.succ_le_succ h.fsk) (by rw [List.length_append, h.sgf]; rfl) (fun p hp => ?_) (h.lg3) (h.sor) (h.tq) (h.sdl) (h.q100) (h.sd26) (h.mem) (h.len) (h.h30) (h.hB) (h.hP) (fun i hi z hz => ?_) (fun i z hz => ?_))
        · rw [el]
          rcases List.mem_append.mp hp with q | q
          · exact h.sgp p q
          · rw [List.mem_singleton.mp q]
            exact ⟨by show 4 * (n - 1 + 1) + j < _; omega, ltr_le _⟩
        · rw [el] at hi
          by_cases e1 : i = n - 1
          · subst e1
            rw [hwIt_set_eq hi]
            show va_up (its.getD (n - 1) hwIt0).2 j _ z = _
            by_cases e2 : z = j
            · subst e2
              rw [va_up_self, ltL_app_y, tkF_snoc, h.tx _ hi _ hz]
            · rw [va_up_ne _ _ e2, ltL_app_n (by omega)]; exact h.tx _ hi _ hz
          · rw [hwIt_set_ne e1, ltL_app_n (by omega)]; exact h.tx _ hi _ hz
        · rw [el] at hz
          by_cases e1 : i = n - 1
          · subst e1
            rw [hwIt_set_eq (by omega)]
            show va_up (its.getD (n - 1) hwIt0).2 j _ z = _
            rw [va_up_ne _ _ (by omega)]
            exact h.tz _ _ hz
          · rw [hwIt_set_ne e1]; exact h.tz _ _ hz
theorem hwR.remove (h : hwR k its fs lg qw qo qs ss hs sg st sd) (r : Int32) : hwR (k + 1) (remP its r).1 fs lg qw qo qs ss hs sg st sd := by
  have hn := h.n30
  rcases rN_cases its.length (by omega) r with hr | ⟨n, hn1, hn2, rfl⟩
  · rw [remP_r (rN_bad (by omega) hr)]; exact h.up (Nat.le_succ k)
  · have er : rN its.length (nI n) = some (n - 1) := rN_nI hn1 hn2 (by omega)
    cases hth : (its.getD (n - 1) hwIt0).1 with
    | false => rw [remP_g er hth]; exact h.up (Nat.le_succ k)
    | true =>
      rw [remP_y er hth]
      have el : (its.set (n - 1) (false, (its.getD (n - 1) hwIt0).2)).length = its.length := List.length_set
      have et : ∀ i, ((its.set (n - 1) (false, (its.getD (n - 1) hwIt0).2)).getD i hwIt0).2 = (its.getD i hwIt0).2 := by
        intro i
        by_cases e1 : i = n - 1
        · subst e1; rw [hwIt_set_eq (by omega)]
        · rw [hwIt_set_ne e1]
      exact (hwR.mk (by rw [el]; exact h.n30) (h.up (Nat.le_succ k)).fsk (h.up (Nat.le_succ k)).sgf (fun p hp => by rw [el]; exact h.sgp p hp) (h.up (Nat.le_succ k)).lg3 (h.up (Nat.le_succ k)).sor (h.up (Nat.le_succ k)).tq (h.up (Nat.le_succ k)).sdl (h.up (Nat.le_succ k)).q100 (h.up (Nat.le_succ k)).sd26 (h.up (Nat.le_succ k)).mem (h.up (Nat.le_succ k)).len (h.up (Nat.le_succ k)).h30 (h.up (Nat.le_succ k)).hB (h.up (Nat.le_succ k)).hP (fun i hi j hj => by rw [et]; exact h.tx i (by rw [el] at hi; exact hi) j hj) (fun i j hij => by rw [et]; exact h.tz i j (by rw [el] at hij; exact hij)))
theorem hwR.sign (h : hwR k its fs lg qw qo qs ss hs sg st sd) (c : Int32) : hwR (k + 1) its fs lg (sgnP qw qo qs c).1.1 (sgnP qw qo qs c).1.2 (sgnP qw qo qs c).2 ss hs sg st (sdP sd c) := by
  unfold sgnP sdP
  rw [h.sdl]
  split
  · refine (hwR.mk (h.up (Nat.le_succ k)).n30 (h.up (Nat.le_succ k)).fsk (h.up (Nat.le_succ k)).sgf (h.up (Nat.le_succ k)).sgp (h.up (Nat.le_succ k)).lg3 (h.up (Nat.le_succ k)).sor ?_ (by rw [List.length_append, h.sdl]; rfl) (by omega) (fun x hx => ?_) (h.up (Nat.le_succ k)).mem (h.up (Nat.le_succ k)).len (h.up (Nat.le_succ k)).h30 (h.up (Nat.le_succ k)).hB (h.up (Nat.le_succ k)).hP (h.up (Nat.le_succ k)).tx (h.up (Nat.le_succ k)).tz)
    · rw [tkF_snoc, h.tq]
    · rcases List.mem_append.mp hx with q | q
      · exact h.sd26 x q
      · rw [List.mem_singleton.mp q]; exact ltr_le _
  · exact h.up (Nat.le_succ k)
theorem hwR.lang (h : hwR k its fs lg qw qo qs ss hs sg st sd) (kk l : Int32) : hwR (k + 1) its fs (lanP lg kk l).1 qw qo qs ss hs sg st sd := by
  refine (hwR.mk (h.up (Nat.le_succ k)).n30 (h.up (Nat.le_succ k)).fsk (h.up (Nat.le_succ k)).sgf (h.up (Nat.le_succ k)).sgp (fun z => ?_) (h.up (Nat.le_succ k)).sor (h.up (Nat.le_succ k)).tq (h.up (Nat.le_succ k)).sdl (h.up (Nat.le_succ k)).q100 (h.up (Nat.le_succ k)).sd26 (h.up (Nat.le_succ k)).mem (h.up (Nat.le_succ k)).len (h.up (Nat.le_succ k)).h30 (h.up (Nat.le_succ k)).hB (h.up (Nat.le_succ k)).hP (h.up (Nat.le_succ k)).tx (h.up (Nat.le_succ k)).tz)
  rcases kN_cases kk with hk | ⟨j, hj, rfl⟩
  · rw [lanP_b (kN_bad hk)]; exact h.lg3 z
  · rcases l3_cases l with hl | hl | ⟨x, hx, rfl⟩
    · rw [lanP_l (kN_nI hj) (Or.inl hl)]; exact h.lg3 z
    · rw [lanP_l (kN_nI hj) (Or.inr hl)]; exact h.lg3 z
    · rw [lanP_g (kN_nI hj) hx]
      show va_up lg j x z < 3
      by_cases e : z = j
      · subst e; rw [va_up_self]; exact hx
      · rw [va_up_ne _ _ e]; exact h.lg3 z
theorem hwR.clr (h : hwR k its fs lg qw qo qs ss hs sg st sd) : hwR (k + 1) its fs lg [] 0 0 ss hs sg st [] := (hwR.mk (h.up (Nat.le_succ k)).n30 (h.up (Nat.le_succ k)).fsk (h.up (Nat.le_succ k)).sgf (h.up (Nat.le_succ k)).sgp (h.up (Nat.le_succ k)).lg3 (h.up (Nat.le_succ k)).sor (rfl) (rfl) (Nat.zero_le _) (fun _ q => absurd q List.not_mem_nil) (h.up (Nat.le_succ k)).mem (h.up (Nat.le_succ k)).len (h.up (Nat.le_succ k)).h30 (h.up (Nat.le_succ k)).hB (h.up (Nat.le_succ k)).hP (h.up (Nat.le_succ k)).tx (h.up (Nat.le_succ k)).tz)
theorem stp_same : ∀ (qw st ss : List (List Nat)), (∀ w, w ∈ st ↔ w ∈ ss) → st.length = ss.length → (∀ w, w ∈ stF st qw ↔ w ∈ stpP ss qw) ∧ (stF st qw).length = (stpP ss qw).length := by
  intro qw
  induction qw with
  | nil => intro st ss h1 h2; exact ⟨h1, h2⟩
  | cons x xs ih =>
    intro st ss h1 h2
    refine ih (if 40 ≤ st.length ∨ x ∈ st then st else st ++ [x]) (insS 40 ss x) ?_ ?_
    · intro w
      unfold insS
      by_cases c : 40 ≤ ss.length ∨ x ∈ ss
      · rw [if_pos c, if_pos (by rw [h2, h1]; exact c)]; exact h1 w
      · rw [if_neg c, if_neg (by rw [h2, h1]; exact c), mem_ins, List.mem_append, List.mem_singleton, h1]
        exact Or.comm
    · unfold insS
      by_cases c : 40 ≤ ss.length ∨ x ∈ ss
      · rw [if_pos c, if_pos (by rw [h2, h1]; exact c)]; exact h2
      · rw [if_neg c, if_neg (by rw [h2, h1]; exact c), ins_len2, List.length_append, h2]; rfl
theorem hwR.stop (h : hwR k its fs lg qw qo qs ss hs sg st sd) : hwR (k + 1) its fs lg [] 0 0 (stpP ss qw) hs sg (stF st (tkF sd).1) [] := by
  have hq := stp_same qw st ss h.mem h.len
  rw [h.tq]
  exact (hwR.mk (h.clr).n30 (h.clr).fsk (h.clr).sgf (h.clr).sgp (h.clr).lg3 (sorted_stpP h.sor) (h.clr).tq (h.clr).sdl (h.clr).q100 (h.clr).sd26 (hq.1) (hq.2) (h.clr).h30 (h.clr).hB (h.clr).hP (h.clr).tx (h.clr).tz)
theorem hwR.stl (h : hwR k its fs lg qw qo qs ss hs sg st sd) : (stF st (tkF sd).1).length = (stpP ss qw).length := by
  rw [h.tq]; exact (stp_same qw st ss h.mem h.len).2
theorem okP_gaN {M : List (List Nat) → Bool} {Cn : List (List Nat) → Nat} {T : Nat → Option (List (List Nat))} (hC : ∀ t, Cn t ≤ t.length) (hM : ∀ t, M t = true → 1 ≤ Cn t) : ∀ n, okP (gaN M Cn T n)
  | 0 => fun _ h => absurd h List.not_mem_nil
  | n + 1 => by
    have ih := okP_gaN (T := T) hC hM n
    show okP (match T n with | none => gaN M Cn T n | some t => if M t then adH (n + 1, Cn t, t.length) (gaN M Cn T n) else gaN M Cn T n)
    split
    · exact ih
    · rename_i t ht
      split
      · rename_i hm
        unfold adH
        split
        · exact ih
        · intro z hz
          unfold insH at hz
          have h1 := hM t hm
          have h2 := hC t
          rcases List.mem_append.mp hz with q | q
          · exact ih z (List.mem_of_mem_take q)
          · rcases List.mem_cons.mp q with q | q
            · rw [q]; exact ⟨h1, Nat.le_trans h1 h2⟩
            · exact ih z (List.mem_of_mem_drop q)
      · exact ih
theorem hwR.new (h : hwR k its fs lg qw qo qs ss hs sg st sd) (hk : k ≤ 600) {M : List (List Nat) → Bool} {Cn : List (List Nat) → Nat} {j : Nat} (hj : j < 4) (hC : ∀ t, Cn t ≤ t.length) (hM : ∀ t, M t = true → 1 ≤ Cn t) : hwR (k + 1) its fs lg [] 0 0 ss (gaN M Cn (Tf its lg ss j) its.length) sg st [] := by
  have hn := h.n30
  have hm := h.okM hk
  refine (hwR.mk (h.clr).n30 (h.clr).fsk (h.clr).sgf (h.clr).sgp (h.clr).lg3 (h.clr).sor (h.clr).tq (h.clr).sdl (h.clr).q100 (h.clr).sd26 (h.clr).mem (h.clr).len (Nat.le_trans (gaN_len _) hn) (okH_gaN (fun n t ht => Tf_len (sg := sg) (fun i hi j hj => by rw [h.tx i hi j hj]) hm.2.1 hj ht) hC its.length (by omega)) (okP_gaN hC hM _) (h.clr).tx (h.clr).tz)
theorem hwR.none (h : hwR k its fs lg qw qo qs ss hs sg st sd) : hwR (k + 1) its fs lg [] 0 0 ss [] sg st [] := (hwR.mk (h.clr).n30 (h.clr).fsk (h.clr).sgf (h.clr).sgp (h.clr).lg3 (h.clr).sor (h.clr).tq (h.clr).sdl (h.clr).q100 (h.clr).sd26 (h.clr).mem (h.clr).len (Nat.zero_le _) (fun _ q => absurd q List.not_mem_nil) (fun _ q => absurd q List.not_mem_nil) (h.clr).tx (h.clr).tz)
theorem hwR.ask (h : hwR k its fs lg qw qo qs ss hs sg st sd) (hk : k ≤ 600) (kk : Int32) : hwR (k + 1) its fs lg [] 0 0 ss (askS (fun j => hsA (qw.map (trm (lg j) ss)) (Tf its lg ss j) its.length) kk) sg st [] := by
  rcases kN_cases kk with hb | ⟨j, hj, rfl⟩
  · rw [askS_b (kN_bad hb)]; exact h.none
  · rw [askS_g (kN_nI hj)]
    unfold hsA
    split
    · rename_i hany
      refine h.new hk hj (fun t => List.countP_le_length) (fun tb hm => ?_)
      obtain ⟨t, ht, hne⟩ := List.any_eq_true.mp hany
      have hne := of_decide_eq_true hne
      have hin := of_decide_eq_true (List.all_eq_true.mp hm t ht)
      exact cnt_one (hin.resolve_left hne) (by rw [decide_eq_true (show t ≠ [] from hne), decide_eq_true ht]; rfl)
    · exact h.none
theorem hwR.phrase (h : hwR k its fs lg qw qo qs ss hs sg st sd) (hk : k ≤ 600) (kk : Int32) : hwR (k + 1) its fs lg [] 0 0 ss (askS (fun j => hsP (qw.map (trm (lg j) ss)) (Tf its lg ss j) its.length) kk) sg st [] := by
  rcases kN_cases kk with hb | ⟨j, hj, rfl⟩
  · rw [askS_b (kN_bad hb)]; exact h.none
  · rw [askS_g (kN_nI hj)]
    unfold hsP
    split
    · rename_i hany
      refine h.new hk hj (fun t => List.countP_le_length) (fun tb hm => ?_)
      obtain ⟨t, ht, hne⟩ := List.any_eq_true.mp hany
      have hne := of_decide_eq_true hne
      obtain ⟨n, hn, hst⟩ := List.any_eq_true.mp hm
      obtain ⟨i, hi, rfl⟩ := List.getElem_of_mem ht
      have h1 := of_decide_eq_true (List.all_eq_true.mp hst i (List.mem_range.mpr hi))
      have e : (qw.map (trm (lg j) ss)).getD i [] = (qw.map (trm (lg j) ss))[i] := by rw [List.getD, List.getElem?_eq_getElem hi]; rfl
      rw [e] at h1
      have h2 := h1.resolve_left hne
      have hlt : n + i < tb.length := by
        rcases Nat.lt_or_ge (n + i) tb.length with q | q
        · exact q
        · have e2 : tb.getD (n + i) [] = [] := by rw [List.getD, List.getElem?_eq_none q]; rfl
          rw [e2] at h2
          exact absurd h2 hne
      have e3 : tb.getD (n + i) [] = tb[n + i] := by rw [List.getD, List.getElem?_eq_getElem hlt]; rfl
      rw [e3] at h2
      exact cnt_one (List.getElem_mem hlt) (by rw [← h2, decide_eq_true (show (qw.map (trm (lg j) ss))[i] ≠ [] from hne), decide_eq_true ht]; rfl)
    · exact h.none
theorem hwR.near (h : hwR k its fs lg qw qo qs ss hs sg st sd) (hk : k ≤ 600) (kk d : Int32) : hwR (k + 1) its fs lg [] 0 0 ss (askS (fun j => hsN (qw.map (trm (lg j) ss)) d (Tf its lg ss j) its.length) kk) sg st [] := by
  rcases kN_cases kk with hb | ⟨j, hj, rfl⟩
  · rw [askS_b (kN_bad hb)]; exact h.none
  · rw [askS_g (kN_nI hj)]
    unfold hsN
    split
    · exact h.none
    · rename_i hc
      refine h.new hk hj (fun t => List.countP_le_length) (fun tb hm => ?_)
      obtain ⟨p, hp, h1⟩ := List.any_eq_true.mp hm
      have h1 := (of_decide_eq_true h1).1
      have hp := List.mem_range.mp hp
      have e3 : tb.getD p [] = tb[p] := by rw [List.getD, List.getElem?_eq_getElem hp]; rfl
      rw [e3] at h1
      have hne : (qw.map (trm (lg j) ss)).getD 0 [] ≠ [] := fun q => hc (Or.inl q)
      refine cnt_one (List.getElem_mem hp) ?_
      rw [h1, decide_eq_true hne, decide_eq_true (Or.inl rfl)]
      rfl
theorem hwR.wild (h : hwR k its fs lg qw qo qs ss hs sg st sd) (hk : k ≤ 600) (kk : Int32) (be : Bool) : hwR (k + 1) its fs lg [] 0 0 ss (askS (fun j => hsW (qw.getD 0 []) be (Tf its lg ss j) its.length) kk) sg st [] := by
  rcases kN_cases kk with hb | ⟨j, hj, rfl⟩
  · rw [askS_b (kN_bad hb)]; exact h.none
  · rw [askS_g (kN_nI hj)]
    unfold hsW
    split
    · exact h.none
    · exact h.new hk hj (fun t => List.countP_le_length) (fun tb hm => of_decide_eq_true hm)
end
