/-- the way to a field's text: record i, kind j -/
def piAt (X : hwW) (fi : Nat → Option Nat) (i : Nat) (th : Bool) : Prop := ∃ (b q : Nat), fi i = some b ∧ hwH X b (100 + 20 * i) (.inr (1, [.ref q, .int (bI th)]))
def ptAt (K : Nat → ClassId) (X : hwW) (fi : Nat → Option Nat) (i j : Nat) (th : Bool) (t : Nat) : Prop := ∃ (b q : Nat) (f : Nat → Option Nat), fi i = some b ∧ hwH X b (100 + 20 * i) (.inr (1, [.ref q, .int (bI th)])) ∧ hwH X q (101 + 20 * i) (.inl (K 5, 4, .inr (.inr (.inr (.inr f))))) ∧ f j = some t
theorem itsAt.pi {K : Nat → ClassId} {X : hwW} {fi : Nat → Option Nat} {its : hwIt} (h : itsAt K X fi its) {i : Nat} (hi : i < its.length) : piAt X fi i (its.getD i hwIt0).1 := by
  obtain ⟨b, e, q, f, g0, -⟩ := h i hi
  exact ⟨b, q, e, g0⟩
theorem itsAt.pt {K : Nat → ClassId} {X : hwW} {fi : Nat → Option Nat} {its : hwIt} (h : itsAt K X fi its) {i j : Nat} (hi : i < its.length) (hj : j < 4) : ∃ t : Nat, ptAt K X fi i j (its.getD i hwIt0).1 t ∧ txAt K X t (55 + 10 * i + j) ((its.getD i hwIt0).2 j).1 ((its.getD i hwIt0).2 j).2 := by
  obtain ⟨b, e, q, f, g0, g1, g2⟩ := h i hi
  obtain ⟨t, e2, g⟩ := g2 j hj
  exact ⟨t, ⟨b, q, f, e, g0, g1, e2⟩, g⟩
theorem hwIt_set_ne {its : hwIt} {i k : Nat} {v : Bool × (Nat → List (List Nat) × Nat)} (h : k ≠ i) : (its.set i v).getD k hwIt0 = its.getD k hwIt0 := by
  simp [List.getD, List.getElem?_set_ne (Ne.symm h)]
theorem hwIt_set_eq {its : hwIt} {i : Nat} {v : Bool × (Nat → List (List Nat) × Nat)} (h : i < its.length) : (its.set i v).getD i hwIt0 = v := by
  simp [List.getD, h]
theorem itsAt.upd {K : Nat → ClassId} {D : va_G} {cl : List vw_C} {A : Nat → Prop} {H0 H : Heap} {X Y : hwW} {locs : List Loc} (hZ : hwZ D cl A H0 X H locs) {fi : Nat → Option Nat} {its : hwIt} (h : itsAt K X fi its) {i j t : Nat} {th : Bool} (hi : i < its.length) (hj : j < 4) (hp : ptAt K X fi i j th t) (hF : hwF X Y (fun M => M = 2 * (55 + 10 * i + j) ∨ M = 2 * (55 + 10 * i + j) + 1)) {ws : List (List Nat)} {oo : Nat} (hn : txAt K Y t (55 + 10 * i + j) ws oo) : itsAt K Y fi (its.set i ((its.getD i hwIt0).1, va_up (its.getD i hwIt0).2 j (ws, oo))) := by
  intro k hk
  rw [List.length_set] at hk
  by_cases hki : k = i
  · subst hki
    rw [hwIt_set_eq hk]
    obtain ⟨b, e, q, f, g0, g1, g2⟩ := h k hk
    obtain ⟨b1, q1, f1, e1, p0, p1, p2⟩ := hp
    have hb : b = b1 := Option.some.inj (e.symm.trans e1)
    subst hb
    have h1 := (hwH.one hZ g0 p0).1
    have hq : q = q1 := by
      injection h1 with h1
      injection h1 with h2 h3
      injection h3 with h4 h5
      injection h4
    subst hq
    have h2 := (hwH.one hZ g1 p1).1
    have hf : f = f1 := by
      injection h2 with h2
      injection h2 with h3 h4
      injection h4 with h5 h6
      injection h6 with h6
      injection h6 with h6
      injection h6 with h6
      injection h6
    subst hf
    refine ⟨b, e, q, f, hF _ _ _ (by intro hNS; (try dsimp only at hNS); omega) g0, hF _ _ _ (by intro hNS; (try dsimp only at hNS); omega) g1, fun j2 hj2 => ?_⟩
    by_cases hjj : j2 = j
    · subst hjj
      refine ⟨t, p2, ?_⟩
      show txAt K Y t (55 + 10 * k + j2) (va_up (its.getD k hwIt0).2 j2 (ws, oo) j2).1 (va_up (its.getD k hwIt0).2 j2 (ws, oo) j2).2
      rw [va_up_self]
      exact hn
    · obtain ⟨t2, e2, g⟩ := g2 j2 hj2
      refine ⟨t2, e2, ?_⟩
      show txAt K Y t2 (55 + 10 * k + j2) (va_up (its.getD k hwIt0).2 j (ws, oo) j2).1 (va_up (its.getD k hwIt0).2 j (ws, oo) j2).2
      rw [va_up_ne _ _ hjj]
      exact g.fr hF (by intro hNS; (try dsimp only at hNS); omega) (by intro hNS; (try dsimp only at hNS); omega)
  · rw [hwIt_set_ne hki]
    obtain ⟨b, e, g⟩ := h k hk
    refine ⟨b, e, g.fr hF (fun M h1 h2 hNS => ?_)⟩
    (try dsimp only at hNS)
    omega
/-- a record that is REMOVED -/
theorem itsAt.rem {K : Nat → ClassId} {X Y : hwW} {fi : Nat → Option Nat} {its : hwIt} (h : itsAt K X fi its) {i b q : Nat} (hi : i < its.length) (hb : fi i = some b) {f : Nat → Option Nat} (hg1 : hwH X q (101 + 20 * i) (.inl (K 5, 4, .inr (.inr (.inr (.inr f)))))) (hg2 : ∀ j, j < 4 → ∃ t : Nat, f j = some t ∧ txAt K X t (55 + 10 * i + j) ((its.getD i hwIt0).2 j).1 ((its.getD i hwIt0).2 j).2) (hF : hwF X Y (fun M => M = 100 + 20 * i)) (hn : hwH Y b (100 + 20 * i) (.inr (1, [.ref q, .int (nI 0)]))) : itsAt K Y fi (its.set i (false, (its.getD i hwIt0).2)) := by
  intro k hk
  rw [List.length_set] at hk
  by_cases hki : k = i
  · subst hki
    rw [hwIt_set_eq hk]
    refine ⟨b, hb, q, f, hn, hF _ _ _ (by intro hNS; (try dsimp only at hNS); omega) hg1, fun j hj => ?_⟩
    obtain ⟨t, e, g⟩ := hg2 j hj
    exact ⟨t, e, g.fr hF (by intro hNS; (try dsimp only at hNS); omega) (by intro hNS; (try dsimp only at hNS); omega)⟩
  · rw [hwIt_set_ne hki]
    obtain ⟨b2, e, g⟩ := h k hk
    refine ⟨b2, e, g.fr hF (fun M h1 h2 hNS => ?_)⟩
    (try dsimp only at hNS)
    omega
theorem hwIt_app_lo {its : hwIt} {i : Nat} {v : Bool × (Nat → List (List Nat) × Nat)} (h : i < its.length) : (its ++ [v]).getD i hwIt0 = its.getD i hwIt0 := by simp [List.getD, List.getElem?_append_left h]
theorem hwIt_app_hi {its : hwIt} {v : Bool × (Nat → List (List Nat) × Nat)} : (its ++ [v]).getD its.length hwIt0 = v := by simp [List.getD]
theorem itsAt.push {K : Nat → ClassId} {X : hwW} {fi : Nat → Option Nat} {its : hwIt} (h : itsAt K X fi its) {b : Nat} {v : Bool × (Nat → List (List Nat) × Nat)} (hn : itAt K X b its.length v.1 v.2) : itsAt K X (va_up fi its.length (some b)) (its ++ [v]) := by
  intro k hk
  have hk2 : k < its.length + 1 := by simpa using hk
  by_cases e : k = its.length
  · subst e
    rw [hwIt_app_hi]
    exact ⟨b, va_up_self _ _ _, hn⟩
  · have hl : k < its.length := by omega
    rw [hwIt_app_lo hl]
    obtain ⟨b2, e2, g⟩ := h k hl
    exact ⟨b2, by rw [va_up_ne _ _ e]; exact e2, g⟩
def badK (kind : Int32) : Prop := kind < 0 ∨ nI 4 ≤ kind
def badN (n : Nat) (x : Int32) : Prop := x < nI 1 ∨ nI n < x
theorem hw_nn4 {n : Nat} {x : Int32} (hn : n < 2 ^ 31) (h : nI n ≤ x) : ¬ x < 0 := by
  intro q
  rw [Int32.lt_iff_toInt_lt] at q
  rw [Int32.le_iff_toInt_le, nI_toInt hn] at h
  have e : (0 : Int32).toInt = 0 := rfl
  omega
theorem hw_nlt {a b : Int32} (h : a ≤ b) : ¬ b < a := by
  intro q
  rw [Int32.lt_iff_toInt_lt] at q
  rw [Int32.le_iff_toInt_le] at h
  omega
theorem hw_nle {a b : Int32} (h : a < b) : ¬ b ≤ a := by
  intro q
  rw [Int32.le_iff_toInt_le] at q
  rw [Int32.lt_iff_toInt_lt] at h
  omega
theorem hw_n1 {n : Nat} {x : Int32} (hn : n < 2 ^ 31) (h : nI n < x) : ¬ x < nI 1 := by
  intro q
  rw [Int32.lt_iff_toInt_lt, nI_toInt (by decide)] at q
  rw [Int32.lt_iff_toInt_lt, nI_toInt hn] at h
  omega
theorem getH_out {hs : List (Nat × Nat × Nat)} {j : Nat} (h : hs.length ≤ j) : hs.getD j (0, 0, 0) = (0, 0, 0) := by simp [List.getD, h]
theorem dIx_isKind_0 : decode cIx_isKind 0 = .ok (.iload_n 0, 1) := by decide +kernel
theorem dIx_isKind_1 : decode cIx_isKind 1 = .ok (.ifCond .lt 12, 3) := by decide +kernel
theorem dIx_isKind_4 : decode cIx_isKind 4 = .ok (.iload_n 0, 1) := by decide +kernel
theorem dIx_isKind_5 : decode cIx_isKind 5 = .ok (.iconst 4, 1) := by decide +kernel
theorem dIx_isKind_6 : decode cIx_isKind 6 = .ok (.if_icmp .ge 7, 3) := by decide +kernel
theorem dIx_isKind_9 : decode cIx_isKind 9 = .ok (.iconst 1, 1) := by decide +kernel
theorem dIx_isKind_10 : decode cIx_isKind 10 = .ok (.goto 4, 3) := by decide +kernel
theorem dIx_isKind_13 : decode cIx_isKind 13 = .ok (.iconst 0, 1) := by decide +kernel
theorem dIx_isKind_14 : decode cIx_isKind 14 = .ok (.ireturn, 1) := by decide +kernel
theorem dItem_textAt_0 : decode cItem_textAt 0 = .ok (.iload_n 1, 1) := by decide +kernel
theorem dItem_textAt_1 : decode cItem_textAt 1 = .ok (.ifCond .lt 12, 3) := by decide +kernel
theorem dItem_textAt_4 : decode cItem_textAt 4 = .ok (.iload_n 1, 1) := by decide +kernel
theorem dItem_textAt_5 : decode cItem_textAt 5 = .ok (.aload_n 0, 1) := by decide +kernel
theorem dItem_textAt_6 : decode cItem_textAt 6 = .ok (.getfield 11, 3) := by decide +kernel
theorem dItem_textAt_9 : decode cItem_textAt 9 = .ok (.arraylength, 1) := by decide +kernel
theorem dItem_textAt_10 : decode cItem_textAt 10 = .ok (.if_icmp .lt 7, 3) := by decide +kernel
theorem dItem_textAt_13 : decode cItem_textAt 13 = .ok (.aconst_null, 1) := by decide +kernel
theorem dItem_textAt_14 : decode cItem_textAt 14 = .ok (.goto 9, 3) := by decide +kernel
theorem dItem_textAt_17 : decode cItem_textAt 17 = .ok (.aload_n 0, 1) := by decide +kernel
theorem dItem_textAt_18 : decode cItem_textAt 18 = .ok (.getfield 11, 3) := by decide +kernel
theorem dItem_textAt_21 : decode cItem_textAt 21 = .ok (.iload_n 1, 1) := by decide +kernel
theorem dItem_textAt_22 : decode cItem_textAt 22 = .ok (.aaload, 1) := by decide +kernel
theorem dItem_textAt_23 : decode cItem_textAt 23 = .ok (.areturn, 1) := by decide +kernel
theorem dIx_itemThere_0 : decode cIx_itemThere 0 = .ok (.iload_n 1, 1) := by decide +kernel
theorem dIx_itemThere_1 : decode cIx_itemThere 1 = .ok (.iconst 1, 1) := by decide +kernel
theorem dIx_itemThere_2 : decode cIx_itemThere 2 = .ok (.if_icmp .lt 20, 3) := by decide +kernel
theorem dIx_itemThere_5 : decode cIx_itemThere 5 = .ok (.iload_n 1, 1) := by decide +kernel
theorem dIx_itemThere_6 : decode cIx_itemThere 6 = .ok (.aload_n 0, 1) := by decide +kernel
theorem dIx_itemThere_7 : decode cIx_itemThere 7 = .ok (.getfield 58, 3) := by decide +kernel
theorem dIx_itemThere_10 : decode cIx_itemThere 10 = .ok (.if_icmp .gt 12, 3) := by decide +kernel
theorem dIx_itemThere_13 : decode cIx_itemThere 13 = .ok (.iload_n 1, 1) := by decide +kernel
theorem dIx_itemThere_14 : decode cIx_itemThere 14 = .ok (.aload_n 0, 1) := by decide +kernel
theorem dIx_itemThere_15 : decode cIx_itemThere 15 = .ok (.getfield 11, 3) := by decide +kernel
theorem dIx_itemThere_18 : decode cIx_itemThere 18 = .ok (.arraylength, 1) := by decide +kernel
theorem dIx_itemThere_19 : decode cIx_itemThere 19 = .ok (.if_icmp .le 5, 3) := by decide +kernel
theorem dIx_itemThere_22 : decode cIx_itemThere 22 = .ok (.aconst_null, 1) := by decide +kernel
theorem dIx_itemThere_23 : decode cIx_itemThere 23 = .ok (.areturn, 1) := by decide +kernel
theorem dIx_itemThere_24 : decode cIx_itemThere 24 = .ok (.aload_n 0, 1) := by decide +kernel
theorem dIx_itemThere_25 : decode cIx_itemThere 25 = .ok (.getfield 11, 3) := by decide +kernel
theorem dIx_itemThere_28 : decode cIx_itemThere 28 = .ok (.iload_n 1, 1) := by decide +kernel
theorem dIx_itemThere_29 : decode cIx_itemThere 29 = .ok (.iconst 1, 1) := by decide +kernel
theorem dIx_itemThere_30 : decode cIx_itemThere 30 = .ok (.isub, 1) := by decide +kernel
theorem dIx_itemThere_31 : decode cIx_itemThere 31 = .ok (.aaload, 1) := by decide +kernel
theorem dIx_itemThere_32 : decode cIx_itemThere 32 = .ok (.astore_n 2, 1) := by decide +kernel
theorem dIx_itemThere_33 : decode cIx_itemThere 33 = .ok (.aload_n 2, 1) := by decide +kernel
theorem dIx_itemThere_34 : decode cIx_itemThere 34 = .ok (.ifnull 14, 3) := by decide +kernel
theorem dIx_itemThere_37 : decode cIx_itemThere 37 = .ok (.aload_n 2, 1) := by decide +kernel
theorem dIx_itemThere_38 : decode cIx_itemThere 38 = .ok (.getfield 77, 3) := by decide +kernel
theorem dIx_itemThere_41 : decode cIx_itemThere 41 = .ok (.ifCond .eq 7, 3) := by decide +kernel
theorem dIx_itemThere_44 : decode cIx_itemThere 44 = .ok (.aload_n 2, 1) := by decide +kernel
theorem dIx_itemThere_45 : decode cIx_itemThere 45 = .ok (.goto 4, 3) := by decide +kernel
theorem dIx_itemThere_48 : decode cIx_itemThere 48 = .ok (.aconst_null, 1) := by decide +kernel
theorem dIx_itemThere_49 : decode cIx_itemThere 49 = .ok (.areturn, 1) := by decide +kernel
theorem dIx_textOf_0 : decode cIx_textOf 0 = .ok (.aload_n 0, 1) := by decide +kernel
theorem dIx_textOf_1 : decode cIx_textOf 1 = .ok (.iload_n 1, 1) := by decide +kernel
theorem dIx_textOf_2 : decode cIx_textOf 2 = .ok (.invokevirtual 73, 3) := by decide +kernel
theorem dIx_textOf_5 : decode cIx_textOf 5 = .ok (.astore_n 3, 1) := by decide +kernel
theorem dIx_textOf_6 : decode cIx_textOf 6 = .ok (.aload_n 3, 1) := by decide +kernel
theorem dIx_textOf_7 : decode cIx_textOf 7 = .ok (.ifnonnull 7, 3) := by decide +kernel
theorem dIx_textOf_10 : decode cIx_textOf 10 = .ok (.aconst_null, 1) := by decide +kernel
theorem dIx_textOf_11 : decode cIx_textOf 11 = .ok (.goto 8, 3) := by decide +kernel
theorem dIx_textOf_14 : decode cIx_textOf 14 = .ok (.aload_n 3, 1) := by decide +kernel
theorem dIx_textOf_15 : decode cIx_textOf 15 = .ok (.iload_n 2, 1) := by decide +kernel
theorem dIx_textOf_16 : decode cIx_textOf 16 = .ok (.invokevirtual 166, 3) := by decide +kernel
theorem dIx_textOf_19 : decode cIx_textOf 19 = .ok (.areturn, 1) := by decide +kernel
theorem dIx_clearQuestion_0 : decode cIx_clearQuestion 0 = .ok (.aload_n 0, 1) := by decide +kernel
theorem dIx_clearQuestion_1 : decode cIx_clearQuestion 1 = .ok (.getfield 22, 3) := by decide +kernel
theorem dIx_clearQuestion_4 : decode cIx_clearQuestion 4 = .ok (.invokevirtual 170, 3) := by decide +kernel
theorem dIx_clearQuestion_7 : decode cIx_clearQuestion 7 = .ok (.aload_n 0, 1) := by decide +kernel
theorem dIx_clearQuestion_8 : decode cIx_clearQuestion 8 = .ok (.iconst 0, 1) := by decide +kernel
theorem dIx_clearQuestion_9 : decode cIx_clearQuestion 9 = .ok (.putfield 81, 3) := by decide +kernel
theorem dIx_clearQuestion_12 : decode cIx_clearQuestion 12 = .ok (.return_, 1) := by decide +kernel
theorem mm_182 : (.fieldLink RIx 58 RIx "itemCount" "I" : Cond) ∈ hwG := hwIx 127 (by decide +kernel) (by decide +kernel)
theorem mm_183 : (.fieldLink RIx 11 RIx "items" "[LWordIndex2$Item;" : Cond) ∈ hwG := hwIx 126 (by decide +kernel) (by decide +kernel)
theorem mm_184 : (.code yIx_itemThere cIx_itemThere 3 (some (.object "WordIndex2$Item")) : Cond) ∈ hwG := hwIx 194 (by decide +kernel) (by decide +kernel)
theorem mm_185 : (.methodLink RIx 73 yIx_itemThere : Cond) ∈ hwG := hwIx 191 (by decide +kernel) (by decide +kernel)
theorem mm_186 : (.instanceMethod yIx_itemThere : Cond) ∈ hwG := hwIx 193 (by decide +kernel) (by decide +kernel)
theorem mm_187 : (.selects RIx yIx_itemThere yIx_itemThere : Cond) ∈ hwG := hwIx 1 (by decide +kernel) (by decide +kernel)
theorem mm_188 : (.initialized RIx : Cond) ∈ hwG := hwIx 33 (by decide +kernel) (by decide +kernel)
theorem mm_189 : (.code yItem_textAt cItem_textAt 2 (some (.object "WordIndex2$Text")) : Cond) ∈ hwG := hwIx 198 (by decide +kernel) (by decide +kernel)
theorem mm_190 : (.methodLink RIx 166 yItem_textAt : Cond) ∈ hwG := hwIx 195 (by decide +kernel) (by decide +kernel)
theorem mm_191 : (.instanceMethod yItem_textAt : Cond) ∈ hwG := hwIx 196 (by decide +kernel) (by decide +kernel)
theorem mm_192 : (.selects RItem yItem_textAt yItem_textAt : Cond) ∈ hwG := hwIx 197 (by decide +kernel) (by decide +kernel)
theorem mm_193 : (.initialized RItem : Cond) ∈ hwG := hwIx 40 (by decide +kernel) (by decide +kernel)
theorem mm_194 : (.fieldLink RIx 22 RIx "question" "LWordIndex2$Text;" : Cond) ∈ hwG := hwIx 130 (by decide +kernel) (by decide +kernel)
theorem mm_195 : (.code yText_clear cText_clear 1 none : Cond) ∈ hwG := hwIx 304 (by decide +kernel) (by decide +kernel)
theorem mm_196 : (.methodLink RIx 170 yText_clear : Cond) ∈ hwG := hwIx 301 (by decide +kernel) (by decide +kernel)
theorem mm_197 : (.instanceMethod yText_clear : Cond) ∈ hwG := hwIx 302 (by decide +kernel) (by decide +kernel)
theorem mm_198 : (.selects RText yText_clear yText_clear : Cond) ∈ hwG := hwIx 303 (by decide +kernel) (by decide +kernel)
theorem mm_199 : (.fieldLink RIx 81 RIx "questionSigns" "I" : Cond) ∈ hwG := hwIx 131 (by decide +kernel) (by decide +kernel)
set_option maxHeartbeats 4000000 in
set_option maxRecDepth 100000 in
theorem c_Hi_sizeP (l : Launch) (D : va_G) (K : Nat → ClassId) (X : hwW) (sz : Nat) (a : Nat) (hs : List (Nat × Nat × Nat)) (f0_ : hiAt K X a hs) : Met l yHits_size (.code yHits_size cHits_size 1 (some .int) :: hwG) ({ frames := 0, cells := 0, slots := 0, locals := 0 } : Room) (hwPc D vwCl (hwT K) [.ref a] X sz) (hwQi D vwCl X sz (fun r Y => r = nI hs.length ∧ X = Y ∧ hs.length ≤ 30)) 0 0 (va_A X.1 sz) := by
  refine hwMeti (cc := cHits_size) (maxL := 1) (by decide) rfl (Nat.le_of_ble_eq_true rfl) (fun p e s m args below meth c ls A Q hx hb hml hown hts hname hret hK hO hZ hA hl => ?_)
  have hl : lv_has ls 1 [(0, .ref a)] := hl
  obtain ⟨q1, q2, q3, f1, f2, f3, g0, g1, g2, g3, hn30, hv1, hv2, hv3, hB⟩ := f0_
  refine lv_aload_n hx hb dHits_size_0 rfl (lv_at hl 0 rfl) ?_
  refine hw_get hx hb hts (hwInn inHits) hown hK hZ g0 rfl 3 (by decide) (hts (.fieldLink RHits 21 RHits "count" "I") (hwMem mm_90)) (fun _ h => h) rfl dHits_size_1 ?_
  exact hret hZ ⟨rfl, rfl, hn30⟩ dHits_size_4
set_option maxHeartbeats 4000000 in
set_option maxRecDepth 100000 in
theorem c_Hi_clearP (l : Launch) (D : va_G) (K : Nat → ClassId) (X : hwW) (sz : Nat) (a : Nat) (hs : List (Nat × Nat × Nat)) (f0_ : hiAt K X a hs) : Met l yHits_clear (.code yHits_clear cHits_clear 1 none :: hwG) ({ frames := 0, cells := 0, slots := 0, locals := 0 } : Room) (hwPc D vwCl (hwT K) [.ref a] X sz) (hwQv D vwCl X sz (fun Y => hwF X Y (fun M => 60 ≤ M ∧ M ≤ 63) ∧ hiAt K Y a [])) 0 0 (va_A X.1 sz) := by
  refine hwMetv (cc := cHits_clear) (maxL := 1) (by decide) rfl (Nat.le_of_ble_eq_true rfl) (fun p e s m args below meth c ls A Q hx hb hml hown hts hname hret hK hO hZ hA hl => ?_)
  have hl : lv_has ls 1 [(0, .ref a)] := hl
  have hFr : hwF X X (fun M => 60 ≤ M ∧ M ≤ 63) := hwF.rf
  obtain ⟨q1, q2, q3, f1, f2, f3, g0, g1, g2, g3, hn30, hv1, hv2, hv3, hB⟩ := f0_
  refine lv_aload_n hx hb dHits_clear_0 rfl (lv_at hl 0 rfl) ?_
  refine lv_iconst (v := nI 0) hx hb dHits_clear_1 (by decide) ?_
  refine hw_put (ty := .int) (fs' := [.ref q1, .ref q2, .ref q3, .int (nI 0)]) hx hb hts (hwInn inHits) tyHits tyHits_ok nmHits hown hK hZ g0 rfl 3 (by decide) (hts (.fieldLink RHits 21 RHits "count" "I") (hwMem mm_90)) (fun _ h => h) rfl (by decide +kernel) rfl rfl (Nat.le_of_ble_eq_true rfl) rfl dHits_clear_2 (fun X_1 H_2 lc_3 hZ hF hNw => ?_)
  have hFr := hwF.tr hFr hF (fun _ h => h) (fun M h => by first | exact False.elim h | ((try dsimp only at h ⊢); omega))
  have g0 := hNw
  have g1 := hF _ _ _ (by intro hNS; first | exact False.elim hNS | ((try dsimp only at hNS); omega)) g1
  have g2 := hF _ _ _ (by intro hNS; first | exact False.elim hNS | ((try dsimp only at hNS); omega)) g2
  have g3 := hF _ _ _ (by intro hNS; first | exact False.elim hNS | ((try dsimp only at hNS); omega)) g3
  exact hret hZ ⟨hFr, q1, q2, q3, f1, f2, f3, g0, g1, g2, g3, Nat.zero_le _, ivec.nil, ivec.nil, ivec.nil, fun _ h => absurd h List.not_mem_nil⟩ dHits_clear_5
set_option maxHeartbeats 4000000 in
set_option maxRecDepth 100000 in
theorem c_Hi_numP (l : Launch) (D : va_G) (K : Nat → ClassId) (X : hwW) (sz : Nat) (a : Nat) (hs : List (Nat × Nat × Nat)) (j : Nat) (f0_ : hiAt K X a hs) (hj : j < 2147483648) : Met l yHits_numberAt (.code yHits_numberAt cHits_numberAt 2 (some .int) :: hwG) ({ frames := 1, cells := 0, slots := 0, locals := 21 } : Room) (hwPc D vwCl (hwT K) [.ref a, .int (nI j)] X sz) (hwQi D vwCl X sz (fun r Y => r = nI (hs.getD j (0, 0, 0)).1 ∧ X = Y ∧ (hs.getD j (0, 0, 0)).1 ≤ 1000)) 0 0 (va_A X.1 sz) := by
  refine hwMeti (cc := cHits_numberAt) (maxL := 2) (by decide) rfl (Nat.le_of_ble_eq_true rfl) (fun p e s m args below meth c ls A Q hx hb hml hown hts hname hret hK hO hZ hA hl => ?_)
  have hl : lv_has ls 2 [(0, .ref a), (1, .int (nI j))] := hl
  obtain ⟨q1, q2, q3, f1, f2, f3, g0, g1, g2, g3, hn30, hv1, hv2, hv3, hB⟩ := f0_
  refine lv_aload_n hx hb dHits_numberAt_0 rfl (lv_at hl 0 rfl) ?_
  refine lv_iload_n hx hb dHits_numberAt_1 rfl (lv_at hl 1 rfl) ?_
  refine hw_calli (va_runV (As := [.int (nI j)]) (rest := []) ⟨hx, hb, hml, hown, hts⟩ (c_Hi_is l D K X s.heap.size (a := a) (L := 60) (q1 := q1) (q2 := q2) (q3 := q3) (n := hs.length) (j := j) g0 (by omega) (by omega)) (cwV 1 hts (hwGood (hw_4 mm_92 mm_93 mm_94 mm_95 (hwAll mm_91))) rfl rfl rfl (by decide +kernel) ⟨Nat.le_of_ble_eq_true rfl, Nat.le_of_ble_eq_true rfl⟩) (hw_preV hK hO hZ (⟨_, _, g0⟩) rfl) rfl rfl hl.1 rfl (lv_room (Nat.le_of_ble_eq_true rfl)) dHits_numberAt_2 ⟨(show 0 + 0 ≤ 0 by omega), (show 0 + 0 ≤ 0 by omega)⟩) hZ hA (fun r X_1 H_2 lc_3 hp hZ => ?_)
  obtain ⟨hr, hy⟩ := hp
  subst hy
  refine hw_topi hr ?_
  refine hw_bz_eq (tgt := 17) hx hb dHits_numberAt_5 (by decide) (fun cq_4 => ?_) (fun cq_4 => ?_)
  · refine lv_iconst (v := nI 0) hx hb dHits_numberAt_17 (by decide) ?_
    exact hret hZ ⟨by rw [getH_out (by have := of_decide_eq_false cq_4; omega)], rfl, (okH.at hB j).1⟩ dHits_numberAt_18
  · have hj2 := of_decide_eq_true cq_4
    refine lv_aload_n hx hb dHits_numberAt_8 rfl (lv_at hl 0 rfl) ?_
    refine hw_get hx hb hts (hwInn inHits) hown hK hZ g0 rfl 0 (by decide) (hts (.fieldLink RHits 9 RHits "numbers" "[I") (hwMem mm_96)) (fun _ h => h) rfl dHits_numberAt_9 ?_
    refine lv_iload_n hx hb dHits_numberAt_12 rfl (lv_at hl 1 rfl) ?_
    refine hw_iald hx hb hK hZ 0 g1 rfl (j := j) (by omega) (by omega) dHits_numberAt_13 ?_
    refine lv_goto (tgt := 18) hx hb dHits_numberAt_14 (by decide) ?_
    exact hret hZ ⟨hv1 j hj2, rfl, (okH.at hB j).1⟩ dHits_numberAt_18
set_option maxHeartbeats 4000000 in
set_option maxRecDepth 100000 in
theorem c_Hi_numPN (l : Launch) (D : va_G) (K : Nat → ClassId) (X : hwW) (sz : Nat) (a : Nat) (hs : List (Nat × Nat × Nat)) (i : Int32) (f0_ : hiAt K X a hs) (hi : i < 0) : Met l yHits_numberAt (.code yHits_numberAt cHits_numberAt 2 (some .int) :: hwG) ({ frames := 1, cells := 0, slots := 0, locals := 21 } : Room) (hwPc D vwCl (hwT K) [.ref a, .int i] X sz) (hwQi D vwCl X sz (fun r Y => r = nI 0 ∧ X = Y)) 0 0 (va_A X.1 sz) := by
  refine hwMeti (cc := cHits_numberAt) (maxL := 2) (by decide) rfl (Nat.le_of_ble_eq_true rfl) (fun p e s m args below meth c ls A Q hx hb hml hown hts hname hret hK hO hZ hA hl => ?_)
  have hl : lv_has ls 2 [(0, .ref a), (1, .int i)] := hl
  obtain ⟨q1, q2, q3, f1, f2, f3, g0, g1, g2, g3, hn30, hv1, hv2, hv3, hB⟩ := f0_
  refine lv_aload_n hx hb dHits_numberAt_0 rfl (lv_at hl 0 rfl) ?_
  refine lv_iload_n hx hb dHits_numberAt_1 rfl (lv_at hl 1 rfl) ?_
  refine hw_calli (va_runV (As := [.int i]) (rest := []) ⟨hx, hb, hml, hown, hts⟩ (c_Hi_isN l D K X s.heap.size (a := a) (L := 60) (q1 := q1) (q2 := q2) (q3 := q3) (n := hs.length) (i := i) g0 (by assumption)) (cwV 1 hts (hwGood (hw_4 mm_92 mm_93 mm_94 mm_95 (hwAll mm_91))) rfl rfl rfl (by decide +kernel) ⟨Nat.le_of_ble_eq_true rfl, Nat.le_of_ble_eq_true rfl⟩) (hw_preV hK hO hZ (⟨_, _, g0⟩) rfl) rfl rfl hl.1 rfl (lv_room (Nat.le_of_ble_eq_true rfl)) dHits_numberAt_2 ⟨(show 0 + 0 ≤ 0 by omega), (show 0 + 0 ≤ 0 by omega)⟩) hZ hA (fun r X_1 H_2 lc_3 hp hZ => ?_)
  obtain ⟨hr, hy⟩ := hp
  subst hy
  refine hw_topi hr ?_
  refine hw_bz_eqT (tgt := 17) hx hb dHits_numberAt_5 (by decide) rfl ?_
  refine lv_iconst (v := nI 0) hx hb dHits_numberAt_17 (by decide) ?_
  exact hret hZ ⟨rfl, rfl⟩ dHits_numberAt_18
set_option maxHeartbeats 4000000 in
set_option maxRecDepth 100000 in
theorem c_Hi_cntP (l : Launch) (D : va_G) (K : Nat → ClassId) (X : hwW) (sz : Nat) (a : Nat) (hs : List (Nat × Nat × Nat)) (j : Nat) (f0_ : hiAt K X a hs) (hj : j < 2147483648) : Met l yHits_countAt (.code yHits_countAt cHits_countAt 2 (some .int) :: hwG) ({ frames := 1, cells := 0, slots := 0, locals := 21 } : Room) (hwPc D vwCl (hwT K) [.ref a, .int (nI j)] X sz) (hwQi D vwCl X sz (fun r Y => r = nI (hs.getD j (0, 0, 0)).2.1 ∧ X = Y ∧ (hs.getD j (0, 0, 0)).2.1 ≤ 1000)) 0 0 (va_A X.1 sz) := by
  refine hwMeti (cc := cHits_countAt) (maxL := 2) (by decide) rfl (Nat.le_of_ble_eq_true rfl) (fun p e s m args below meth c ls A Q hx hb hml hown hts hname hret hK hO hZ hA hl => ?_)
  have hl : lv_has ls 2 [(0, .ref a), (1, .int (nI j))] := hl
  obtain ⟨q1, q2, q3, f1, f2, f3, g0, g1, g2, g3, hn30, hv1, hv2, hv3, hB⟩ := f0_
  refine lv_aload_n hx hb dHits_countAt_0 rfl (lv_at hl 0 rfl) ?_
  refine lv_iload_n hx hb dHits_countAt_1 rfl (lv_at hl 1 rfl) ?_
  refine hw_calli (va_runV (As := [.int (nI j)]) (rest := []) ⟨hx, hb, hml, hown, hts⟩ (c_Hi_is l D K X s.heap.size (a := a) (L := 60) (q1 := q1) (q2 := q2) (q3 := q3) (n := hs.length) (j := j) g0 (by omega) (by omega)) (cwV 1 hts (hwGood (hw_4 mm_92 mm_93 mm_94 mm_95 (hwAll mm_91))) rfl rfl rfl (by decide +kernel) ⟨Nat.le_of_ble_eq_true rfl, Nat.le_of_ble_eq_true rfl⟩) (hw_preV hK hO hZ (⟨_, _, g0⟩) rfl) rfl rfl hl.1 rfl (lv_room (Nat.le_of_ble_eq_true rfl)) dHits_countAt_2 ⟨(show 0 + 0 ≤ 0 by omega), (show 0 + 0 ≤ 0 by omega)⟩) hZ hA (fun r X_1 H_2 lc_3 hp hZ => ?_)
  obtain ⟨hr, hy⟩ := hp
  subst hy
  refine hw_topi hr ?_
  refine hw_bz_eq (tgt := 17) hx hb dHits_countAt_5 (by decide) (fun cq_4 => ?_) (fun cq_4 => ?_)
  · refine lv_iconst (v := nI 0) hx hb dHits_countAt_17 (by decide) ?_
    exact hret hZ ⟨by rw [getH_out (by have := of_decide_eq_false cq_4; omega)], rfl, (okH.at hB j).2.1⟩ dHits_countAt_18
  · have hj2 := of_decide_eq_true cq_4
    refine lv_aload_n hx hb dHits_countAt_8 rfl (lv_at hl 0 rfl) ?_
    refine hw_get hx hb hts (hwInn inHits) hown hK hZ g0 rfl 1 (by decide) (hts (.fieldLink RHits 15 RHits "counts" "[I") (hwMem mm_97)) (fun _ h => h) rfl dHits_countAt_9 ?_
    refine lv_iload_n hx hb dHits_countAt_12 rfl (lv_at hl 1 rfl) ?_
    refine hw_iald hx hb hK hZ 0 g2 rfl (j := j) (by omega) (by omega) dHits_countAt_13 ?_
    refine lv_goto (tgt := 18) hx hb dHits_countAt_14 (by decide) ?_
    exact hret hZ ⟨hv2 j hj2, rfl, (okH.at hB j).2.1⟩ dHits_countAt_18
set_option maxHeartbeats 4000000 in
set_option maxRecDepth 100000 in
theorem c_Hi_cntPN (l : Launch) (D : va_G) (K : Nat → ClassId) (X : hwW) (sz : Nat) (a : Nat) (hs : List (Nat × Nat × Nat)) (i : Int32) (f0_ : hiAt K X a hs) (hi : i < 0) : Met l yHits_countAt (.code yHits_countAt cHits_countAt 2 (some .int) :: hwG) ({ frames := 1, cells := 0, slots := 0, locals := 21 } : Room) (hwPc D vwCl (hwT K) [.ref a, .int i] X sz) (hwQi D vwCl X sz (fun r Y => r = nI 0 ∧ X = Y)) 0 0 (va_A X.1 sz) := by
  refine hwMeti (cc := cHits_countAt) (maxL := 2) (by decide) rfl (Nat.le_of_ble_eq_true rfl) (fun p e s m args below meth c ls A Q hx hb hml hown hts hname hret hK hO hZ hA hl => ?_)
  have hl : lv_has ls 2 [(0, .ref a), (1, .int i)] := hl
  obtain ⟨q1, q2, q3, f1, f2, f3, g0, g1, g2, g3, hn30, hv1, hv2, hv3, hB⟩ := f0_
  refine lv_aload_n hx hb dHits_countAt_0 rfl (lv_at hl 0 rfl) ?_
  refine lv_iload_n hx hb dHits_countAt_1 rfl (lv_at hl 1 rfl) ?_
  refine hw_calli (va_runV (As := [.int i]) (rest := []) ⟨hx, hb, hml, hown, hts⟩ (c_Hi_isN l D K X s.heap.size (a := a) (L := 60) (q1 := q1) (q2 := q2) (q3 := q3) (n := hs.length) (i := i) g0 (by assumption)) (cwV 1 hts (hwGood (hw_4 mm_92 mm_93 mm_94 mm_95 (hwAll mm_91))) rfl rfl rfl (by decide +kernel) ⟨Nat.le_of_ble_eq_true rfl, Nat.le_of_ble_eq_true rfl⟩) (hw_preV hK hO hZ (⟨_, _, g0⟩) rfl) rfl rfl hl.1 rfl (lv_room (Nat.le_of_ble_eq_true rfl)) dHits_countAt_2 ⟨(show 0 + 0 ≤ 0 by omega), (show 0 + 0 ≤ 0 by omega)⟩) hZ hA (fun r X_1 H_2 lc_3 hp hZ => ?_)
  obtain ⟨hr, hy⟩ := hp
  subst hy
  refine hw_topi hr ?_
  refine hw_bz_eqT (tgt := 17) hx hb dHits_countAt_5 (by decide) rfl ?_
  refine lv_iconst (v := nI 0) hx hb dHits_countAt_17 (by decide) ?_
  exact hret hZ ⟨rfl, rfl⟩ dHits_countAt_18
set_option maxHeartbeats 4000000 in
set_option maxRecDepth 100000 in
theorem c_Hi_sizP (l : Launch) (D : va_G) (K : Nat → ClassId) (X : hwW) (sz : Nat) (a : Nat) (hs : List (Nat × Nat × Nat)) (j : Nat) (f0_ : hiAt K X a hs) (hj : j < 2147483648) : Met l yHits_sizeAt (.code yHits_sizeAt cHits_sizeAt 2 (some .int) :: hwG) ({ frames := 1, cells := 0, slots := 0, locals := 21 } : Room) (hwPc D vwCl (hwT K) [.ref a, .int (nI j)] X sz) (hwQi D vwCl X sz (fun r Y => r = nI (hs.getD j (0, 0, 0)).2.2 ∧ X = Y ∧ (hs.getD j (0, 0, 0)).2.2 ≤ 1000)) 0 0 (va_A X.1 sz) := by
  refine hwMeti (cc := cHits_sizeAt) (maxL := 2) (by decide) rfl (Nat.le_of_ble_eq_true rfl) (fun p e s m args below meth c ls A Q hx hb hml hown hts hname hret hK hO hZ hA hl => ?_)
  have hl : lv_has ls 2 [(0, .ref a), (1, .int (nI j))] := hl
  obtain ⟨q1, q2, q3, f1, f2, f3, g0, g1, g2, g3, hn30, hv1, hv2, hv3, hB⟩ := f0_
  refine lv_aload_n hx hb dHits_sizeAt_0 rfl (lv_at hl 0 rfl) ?_
  refine lv_iload_n hx hb dHits_sizeAt_1 rfl (lv_at hl 1 rfl) ?_
  refine hw_calli (va_runV (As := [.int (nI j)]) (rest := []) ⟨hx, hb, hml, hown, hts⟩ (c_Hi_is l D K X s.heap.size (a := a) (L := 60) (q1 := q1) (q2 := q2) (q3 := q3) (n := hs.length) (j := j) g0 (by omega) (by omega)) (cwV 1 hts (hwGood (hw_4 mm_92 mm_93 mm_94 mm_95 (hwAll mm_91))) rfl rfl rfl (by decide +kernel) ⟨Nat.le_of_ble_eq_true rfl, Nat.le_of_ble_eq_true rfl⟩) (hw_preV hK hO hZ (⟨_, _, g0⟩) rfl) rfl rfl hl.1 rfl (lv_room (Nat.le_of_ble_eq_true rfl)) dHits_sizeAt_2 ⟨(show 0 + 0 ≤ 0 by omega), (show 0 + 0 ≤ 0 by omega)⟩) hZ hA (fun r X_1 H_2 lc_3 hp hZ => ?_)
  obtain ⟨hr, hy⟩ := hp
  subst hy
  refine hw_topi hr ?_
  refine hw_bz_eq (tgt := 17) hx hb dHits_sizeAt_5 (by decide) (fun cq_4 => ?_) (fun cq_4 => ?_)
  · refine lv_iconst (v := nI 0) hx hb dHits_sizeAt_17 (by decide) ?_
    exact hret hZ ⟨by rw [getH_out (by have := of_decide_eq_false cq_4; omega)], rfl, (okH.at hB j).2.2⟩ dHits_sizeAt_18
  · have hj2 := of_decide_eq_true cq_4
    refine lv_aload_n hx hb dHits_sizeAt_8 rfl (lv_at hl 0 rfl) ?_
    refine hw_get hx hb hts (hwInn inHits) hown hK hZ g0 rfl 2 (by decide) (hts (.fieldLink RHits 18 RHits "sizes" "[I") (hwMem mm_98)) (fun _ h => h) rfl dHits_sizeAt_9 ?_
    refine lv_iload_n hx hb dHits_sizeAt_12 rfl (lv_at hl 1 rfl) ?_
    refine hw_iald hx hb hK hZ 0 g3 rfl (j := j) (by omega) (by omega) dHits_sizeAt_13 ?_
    refine lv_goto (tgt := 18) hx hb dHits_sizeAt_14 (by decide) ?_
    exact hret hZ ⟨hv3 j hj2, rfl, (okH.at hB j).2.2⟩ dHits_sizeAt_18
set_option maxHeartbeats 4000000 in
set_option maxRecDepth 100000 in
theorem c_Hi_sizPN (l : Launch) (D : va_G) (K : Nat → ClassId) (X : hwW) (sz : Nat) (a : Nat) (hs : List (Nat × Nat × Nat)) (i : Int32) (f0_ : hiAt K X a hs) (hi : i < 0) : Met l yHits_sizeAt (.code yHits_sizeAt cHits_sizeAt 2 (some .int) :: hwG) ({ frames := 1, cells := 0, slots := 0, locals := 21 } : Room) (hwPc D vwCl (hwT K) [.ref a, .int i] X sz) (hwQi D vwCl X sz (fun r Y => r = nI 0 ∧ X = Y)) 0 0 (va_A X.1 sz) := by
  refine hwMeti (cc := cHits_sizeAt) (maxL := 2) (by decide) rfl (Nat.le_of_ble_eq_true rfl) (fun p e s m args below meth c ls A Q hx hb hml hown hts hname hret hK hO hZ hA hl => ?_)
  have hl : lv_has ls 2 [(0, .ref a), (1, .int i)] := hl
  obtain ⟨q1, q2, q3, f1, f2, f3, g0, g1, g2, g3, hn30, hv1, hv2, hv3, hB⟩ := f0_
  refine lv_aload_n hx hb dHits_sizeAt_0 rfl (lv_at hl 0 rfl) ?_
  refine lv_iload_n hx hb dHits_sizeAt_1 rfl (lv_at hl 1 rfl) ?_
  refine hw_calli (va_runV (As := [.int i]) (rest := []) ⟨hx, hb, hml, hown, hts⟩ (c_Hi_isN l D K X s.heap.size (a := a) (L := 60) (q1 := q1) (q2 := q2) (q3 := q3) (n := hs.length) (i := i) g0 (by assumption)) (cwV 1 hts (hwGood (hw_4 mm_92 mm_93 mm_94 mm_95 (hwAll mm_91))) rfl rfl rfl (by decide +kernel) ⟨Nat.le_of_ble_eq_true rfl, Nat.le_of_ble_eq_true rfl⟩) (hw_preV hK hO hZ (⟨_, _, g0⟩) rfl) rfl rfl hl.1 rfl (lv_room (Nat.le_of_ble_eq_true rfl)) dHits_sizeAt_2 ⟨(show 0 + 0 ≤ 0 by omega), (show 0 + 0 ≤ 0 by omega)⟩) hZ hA (fun r X_1 H_2 lc_3 hp hZ => ?_)
  obtain ⟨hr, hy⟩ := hp
  subst hy
  refine hw_topi hr ?_
  refine hw_bz_eqT (tgt := 17) hx hb dHits_sizeAt_5 (by decide) rfl ?_
  refine lv_iconst (v := nI 0) hx hb dHits_sizeAt_17 (by decide) ?_
  exact hret hZ ⟨rfl, rfl⟩ dHits_sizeAt_18
set_option maxHeartbeats 4000000 in
set_option maxRecDepth 100000 in
theorem c_Ix_isKind (l : Launch) (D : va_G) (K : Nat → ClassId) (X : hwW) (sz : Nat) (j : Nat) (hj : j < 4) : Met l yIx_isKind (.code yIx_isKind cIx_isKind 1 (some .boolean) :: hwG) ({ frames := 0, cells := 0, slots := 0, locals := 0 } : Room) (hwPc D vwCl (hwT K) [.int (nI j)] X sz) (hwQi D vwCl X sz (fun r Y => r = bI true ∧ X = Y)) 0 0 (va_A X.1 sz) := by
  refine hwMetz (cc := cIx_isKind) (maxL := 1) (by decide) rfl (Nat.le_of_ble_eq_true rfl) (fun p e s m args below meth c ls A Q hx hb hml hown hts hname hret hK hO hZ hA hl => ?_)
  have hl : lv_has ls 1 [(0, .int (nI j))] := hl
  refine lv_iload_n hx hb dIx_isKind_0 rfl (lv_at hl 0 rfl) ?_
  refine hw_if_lt (a := j) (tgt := 13) hx hb dIx_isKind_1 (by decide) (by omega) (fun cq_1 => by exfalso; omega) (fun cq_1 => ?_)
  refine lv_iload_n hx hb dIx_isKind_4 rfl (lv_at hl 0 rfl) ?_
  refine lv_iconst (v := nI 4) hx hb dIx_isKind_5 (by decide) ?_
  refine hw_ic_ge (a := j) (b := 4) (tgt := 13) hx hb dIx_isKind_6 (by decide) (by omega) (by omega) (fun cq_2 => by exfalso; omega) (fun cq_2 => ?_)
  refine lv_iconst (v := nI 1) hx hb dIx_isKind_9 (by decide) ?_
  refine lv_goto (tgt := 14) hx hb dIx_isKind_10 (by decide) ?_
  exact hret (by decide) hZ ⟨rfl, rfl⟩ dIx_isKind_14
set_option maxHeartbeats 4000000 in
set_option maxRecDepth 100000 in
theorem c_Ix_isKindB (l : Launch) (D : va_G) (K : Nat → ClassId) (X : hwW) (sz : Nat) (kind : Int32) (hk : badK kind) : Met l yIx_isKind (.code yIx_isKind cIx_isKind 1 (some .boolean) :: hwG) ({ frames := 0, cells := 0, slots := 0, locals := 0 } : Room) (hwPc D vwCl (hwT K) [.int kind] X sz) (hwQi D vwCl X sz (fun r Y => r = bI false ∧ X = Y)) 0 0 (va_A X.1 sz) := by
  refine hwMetz (cc := cIx_isKind) (maxL := 1) (by decide) rfl (Nat.le_of_ble_eq_true rfl) (fun p e s m args below meth c ls A Q hx hb hml hown hts hname hret hK hO hZ hA hl => ?_)
  have hl : lv_has ls 1 [(0, .int kind)] := hl
  rcases hk with hk | hk
  · refine lv_iload_n hx hb dIx_isKind_0 rfl (lv_at hl 0 rfl) ?_
    refine lv_if_lt (tgt := 13) hx hb dIx_isKind_1 (by decide) (fun cq_1 => ?_) (fun cq_1 => absurd hk cq_1)
    refine lv_iconst (v := nI 0) hx hb dIx_isKind_13 (by decide) ?_
    exact hret (by decide) hZ ⟨rfl, rfl⟩ dIx_isKind_14
  · refine lv_iload_n hx hb dIx_isKind_0 rfl (lv_at hl 0 rfl) ?_
    refine lv_if_lt (tgt := 13) hx hb dIx_isKind_1 (by decide) (fun cq_2 => absurd cq_2 (hw_nn4 (n := 4) (by decide) hk)) (fun cq_2 => ?_)
    refine lv_iload_n hx hb dIx_isKind_4 rfl (lv_at hl 0 rfl) ?_
    refine lv_iconst (v := nI 4) hx hb dIx_isKind_5 (by decide) ?_
    refine lv_icmp_ge (tgt := 13) hx hb dIx_isKind_6 (by decide) (fun cq_3 => ?_) (fun cq_3 => absurd hk cq_3)
    refine lv_iconst (v := nI 0) hx hb dIx_isKind_13 (by decide) ?_
    exact hret (by decide) hZ ⟨rfl, rfl⟩ dIx_isKind_14
set_option maxHeartbeats 4000000 in
set_option maxRecDepth 100000 in
theorem c_It_text (l : Launch) (D : va_G) (K : Nat → ClassId) (X : hwW) (sz : Nat) (b : Nat) (q : Nat) (L : Nat) (L1 : Nat) (th : Bool) (f : Nat → Option Nat) (j : Nat) (t : Nat) (f0_ : hwH X b L (.inr (1, [.ref q, .int (bI th)]))) (f1_ : hwH X q L1 (.inl (K 5, 4, .inr (.inr (.inr (.inr f)))))) (hj : j < 4) (ht : f j = some t) : Met l yItem_textAt (.code yItem_textAt cItem_textAt 2 (some (.object "WordIndex2$Text")) :: hwG) ({ frames := 0, cells := 0, slots := 0, locals := 0 } : Room) (hwPc D vwCl (hwT K) [.ref b, .int (nI j)] X sz) (hwQq D vwCl X sz (fun r Y => r = some t ∧ X = Y)) 0 0 (va_A X.1 sz) := by
  refine hwMetq (cc := cItem_textAt) (maxL := 2) (rt := (.object "WordIndex2$Text")) (by first | exact Or.inl ⟨_, rfl⟩ | exact Or.inr ⟨_, rfl⟩) (by decide) rfl (Nat.le_of_ble_eq_true rfl) (fun p e s m args below meth c ls A Q hx hb hml hown hts hname hret hK hO hZ hA hl => ?_)
  have hl : lv_has ls 2 [(0, .ref b), (1, .int (nI j))] := hl
  refine lv_iload_n hx hb dItem_textAt_0 rfl (lv_at hl 1 rfl) ?_
  refine hw_if_lt (a := j) (tgt := 13) hx hb dItem_textAt_1 (by decide) (by omega) (fun cq_1 => by exfalso; omega) (fun cq_1 => ?_)
  refine lv_iload_n hx hb dItem_textAt_4 rfl (lv_at hl 1 rfl) ?_
  refine lv_aload_n hx hb dItem_textAt_5 rfl (lv_at hl 0 rfl) ?_
  refine hw_get hx hb hts (hwInn inItem) hown hK hZ f0_ rfl 0 (by decide) (hts (.fieldLink RItem 11 RItem "texts" "[LWordIndex2$Text;") (hwMem mm_177)) (fun _ h => h) rfl dItem_textAt_6 ?_
  refine hw_alen hx hb hK hZ 5 f1_ rfl dItem_textAt_9 ?_
  refine hw_ic_lt (a := j) (b := 4) (tgt := 17) hx hb dItem_textAt_10 (by decide) (by omega) (by omega) (fun cq_2 => ?_) (fun cq_2 => by exfalso; omega)
  refine lv_aload_n hx hb dItem_textAt_17 rfl (lv_at hl 0 rfl) ?_
  refine hw_get hx hb hts (hwInn inItem) hown hK hZ f0_ rfl 0 (by decide) (hts (.fieldLink RItem 11 RItem "texts" "[LWordIndex2$Text;") (hwMem mm_177)) (fun _ h => h) rfl dItem_textAt_18 ?_
  refine lv_iload_n hx hb dItem_textAt_21 rfl (lv_at hl 1 rfl) ?_
  refine hw_aldq hx hb hK hZ 5 f1_ rfl (j := j) (by omega) (by omega) dItem_textAt_22 rfl ?_
  refine hw_top (y := .ref t) (by rw [ht]; rfl) ?_
  exact hret (vv := .ref t) (v := some t) rfl hZ ⟨rfl, rfl⟩ dItem_textAt_23
set_option maxHeartbeats 4000000 in
set_option maxRecDepth 100000 in
theorem c_It_textB (l : Launch) (D : va_G) (K : Nat → ClassId) (X : hwW) (sz : Nat) (b : Nat) (q : Nat) (L : Nat) (L1 : Nat) (th : Bool) (f : Nat → Option Nat) (kind : Int32) (f0_ : hwH X b L (.inr (1, [.ref q, .int (bI th)]))) (f1_ : hwH X q L1 (.inl (K 5, 4, .inr (.inr (.inr (.inr f)))))) (hk : badK kind) : Met l yItem_textAt (.code yItem_textAt cItem_textAt 2 (some (.object "WordIndex2$Text")) :: hwG) ({ frames := 0, cells := 0, slots := 0, locals := 0 } : Room) (hwPc D vwCl (hwT K) [.ref b, .int kind] X sz) (hwQq D vwCl X sz (fun r Y => r = none ∧ X = Y)) 0 0 (va_A X.1 sz) := by
  refine hwMetq (cc := cItem_textAt) (maxL := 2) (rt := (.object "WordIndex2$Text")) (by first | exact Or.inl ⟨_, rfl⟩ | exact Or.inr ⟨_, rfl⟩) (by decide) rfl (Nat.le_of_ble_eq_true rfl) (fun p e s m args below meth c ls A Q hx hb hml hown hts hname hret hK hO hZ hA hl => ?_)
  have hl : lv_has ls 2 [(0, .ref b), (1, .int kind)] := hl
  rcases hk with hk | hk
  · refine lv_iload_n hx hb dItem_textAt_0 rfl (lv_at hl 1 rfl) ?_
    refine lv_if_lt (tgt := 13) hx hb dItem_textAt_1 (by decide) (fun cq_1 => ?_) (fun cq_1 => absurd hk cq_1)
    refine lv_null hx hb dItem_textAt_13 ?_
    refine lv_goto (tgt := 23) hx hb dItem_textAt_14 (by decide) ?_
    exact hret (vv := .null) (v := none) rfl hZ ⟨rfl, rfl⟩ dItem_textAt_23
  · refine lv_iload_n hx hb dItem_textAt_0 rfl (lv_at hl 1 rfl) ?_
    refine lv_if_lt (tgt := 13) hx hb dItem_textAt_1 (by decide) (fun cq_2 => absurd cq_2 (hw_nn4 (n := 4) (by decide) hk)) (fun cq_2 => ?_)
    refine lv_iload_n hx hb dItem_textAt_4 rfl (lv_at hl 1 rfl) ?_
    refine lv_aload_n hx hb dItem_textAt_5 rfl (lv_at hl 0 rfl) ?_
    refine hw_get hx hb hts (hwInn inItem) hown hK hZ f0_ rfl 0 (by decide) (hts (.fieldLink RItem 11 RItem "texts" "[LWordIndex2$Text;") (hwMem mm_177)) (fun _ h => h) rfl dItem_textAt_6 ?_
    refine hw_alen hx hb hK hZ 5 f1_ rfl dItem_textAt_9 ?_
    refine lv_icmp_lt (tgt := 17) hx hb dItem_textAt_10 (by decide) (fun cq_3 => absurd cq_3 (hw_nlt hk)) (fun cq_3 => ?_)
    refine lv_null hx hb dItem_textAt_13 ?_
    refine lv_goto (tgt := 23) hx hb dItem_textAt_14 (by decide) ?_
    exact hret (vv := .null) (v := none) rfl hZ ⟨rfl, rfl⟩ dItem_textAt_23
set_option maxHeartbeats 4000000 in
set_option maxRecDepth 100000 in
theorem c_Ix_there (l : Launch) (D : va_G) (K : Nat → ClassId) (X : hwW) (sz : Nat) (a : Nat) (b0 : Nat) (b1 : Nat) (b2 : Nat) (b3 : Nat) (b4 : Nat) (b5 : Nat) (b6 : Nat) (b7 : Nat) (b8 : Nat) (ni : Nat) (fs : Nat) (qs : Nat) (fi : Nat → Option Nat) (n : Nat) (th : Bool) (b : Nat) (q : Nat) (f0_ : hwH X a 0 (.inr (5, [.ref b0, .int (nI ni), .int (nI fs), .ref b1, .ref b2, .int (nI qs), .ref b3, .ref b4, .ref b5, .ref b6, .ref b7, .ref b8]))) (f1_ : hwH X b0 1 (.inl (K 4, 30, .inr (.inr (.inr (.inr fi)))))) (f2_ : hwH X b (100 + 20 * (n - 1)) (.inr (1, [.ref q, .int (bI th)]))) (hn1 : 1 ≤ n) (hn2 : n ≤ ni) (hni : ni ≤ 30) (hfb : fi (n - 1) = some b) (hth : th = true) : Met l yIx_itemThere (.code yIx_itemThere cIx_itemThere 3 (some (.object "WordIndex2$Item")) :: hwG) ({ frames := 0, cells := 0, slots := 0, locals := 0 } : Room) (hwPc D vwCl (hwT K) [.ref a, .int (nI n)] X sz) (hwQq D vwCl X sz (fun r Y => r = some b ∧ X = Y)) 0 0 (va_A X.1 sz) := by
  refine hwMetq (cc := cIx_itemThere) (maxL := 3) (rt := (.object "WordIndex2$Item")) (by first | exact Or.inl ⟨_, rfl⟩ | exact Or.inr ⟨_, rfl⟩) (by decide) rfl (Nat.le_of_ble_eq_true rfl) (fun p e s m args below meth c ls A Q hx hb hml hown hts hname hret hK hO hZ hA hl => ?_)
  have hl : lv_has ls 3 [(0, .ref a), (1, .int (nI n))] := hl
  refine lv_iload_n hx hb dIx_itemThere_0 rfl (lv_at hl 1 rfl) ?_
  refine lv_iconst (v := nI 1) hx hb dIx_itemThere_1 (by decide) ?_
  refine hw_ic_lt (a := n) (b := 1) (tgt := 22) hx hb dIx_itemThere_2 (by decide) (by omega) (by omega) (fun cq_1 => by exfalso; omega) (fun cq_1 => ?_)
  refine lv_iload_n hx hb dIx_itemThere_5 rfl (lv_at hl 1 rfl) ?_
  refine lv_aload_n hx hb dIx_itemThere_6 rfl (lv_at hl 0 rfl) ?_
  refine hw_get hx hb hts (hwInn inIx) hown hK hZ f0_ rfl 1 (by decide) (hts (.fieldLink RIx 58 RIx "itemCount" "I") (hwMem mm_182)) (fun _ h => h) rfl dIx_itemThere_7 ?_
  refine hw_ic_gt (a := n) (b := ni) (tgt := 22) hx hb dIx_itemThere_10 (by decide) (by omega) (by omega) (fun cq_2 => by exfalso; omega) (fun cq_2 => ?_)
  refine lv_iload_n hx hb dIx_itemThere_13 rfl (lv_at hl 1 rfl) ?_
  refine lv_aload_n hx hb dIx_itemThere_14 rfl (lv_at hl 0 rfl) ?_
  refine hw_get hx hb hts (hwInn inIx) hown hK hZ f0_ rfl 0 (by decide) (hts (.fieldLink RIx 11 RIx "items" "[LWordIndex2$Item;") (hwMem mm_183)) (fun _ h => h) rfl dIx_itemThere_15 ?_
  refine hw_alen hx hb hK hZ 4 f1_ rfl dIx_itemThere_18 ?_
  refine hw_ic_le (a := n) (b := 30) (tgt := 24) hx hb dIx_itemThere_19 (by decide) (by omega) (by omega) (fun cq_3 => ?_) (fun cq_3 => by exfalso; omega)
  refine lv_aload_n hx hb dIx_itemThere_24 rfl (lv_at hl 0 rfl) ?_
  refine hw_get hx hb hts (hwInn inIx) hown hK hZ f0_ rfl 0 (by decide) (hts (.fieldLink RIx 11 RIx "items" "[LWordIndex2$Item;") (hwMem mm_183)) (fun _ h => h) rfl dIx_itemThere_25 ?_
  refine lv_iload_n hx hb dIx_itemThere_28 rfl (lv_at hl 1 rfl) ?_
  refine lv_iconst (v := nI 1) hx hb dIx_itemThere_29 (by decide) ?_
  refine lv_isub hx hb dIx_itemThere_30 ?_
  refine hw_topi (pk_sub (a := n) (b := 1) (by omega)) ?_
  refine hw_aldq hx hb hK hZ 4 f1_ rfl (j := n - 1) (by omega) (by omega) dIx_itemThere_31 rfl ?_
  refine hw_top (y := .ref b) (by rw [hfb]; rfl) ?_
  refine lv_astore_n (lv' := [(2, .ref b), (0, .ref a), (1, .int (nI n))]) hx hb dIx_itemThere_32 rfl hl (by decide) rfl (fun ls hl => ?_)
  refine lv_aload_n hx hb dIx_itemThere_33 rfl (lv_at hl 0 rfl) ?_
  refine lv_ifnull hx hb dIx_itemThere_34 ?_
  refine lv_aload_n hx hb dIx_itemThere_37 rfl (lv_at hl 0 rfl) ?_
  refine hw_getN hx hb hts (hwInn inItem) hown hK hZ f2_ rfl 1 (by decide) (hO.2 _ (List.mem_of_getElem? (i := 3) rfl)) (fun _ h => h) rfl dIx_itemThere_38 ?_
  refine hw_bz_eqF (tgt := 48) hx hb dIx_itemThere_41 (by decide) hth ?_
  refine lv_aload_n hx hb dIx_itemThere_44 rfl (lv_at hl 0 rfl) ?_
  refine lv_goto (tgt := 49) hx hb dIx_itemThere_45 (by decide) ?_
  exact hret (vv := .ref b) (v := some b) rfl hZ ⟨rfl, rfl⟩ dIx_itemThere_49
set_option maxHeartbeats 4000000 in
set_option maxRecDepth 100000 in
theorem c_Ix_thereF (l : Launch) (D : va_G) (K : Nat → ClassId) (X : hwW) (sz : Nat) (a : Nat) (b0 : Nat) (b1 : Nat) (b2 : Nat) (b3 : Nat) (b4 : Nat) (b5 : Nat) (b6 : Nat) (b7 : Nat) (b8 : Nat) (ni : Nat) (fs : Nat) (qs : Nat) (fi : Nat → Option Nat) (n : Nat) (th : Bool) (b : Nat) (q : Nat) (f0_ : hwH X a 0 (.inr (5, [.ref b0, .int (nI ni), .int (nI fs), .ref b1, .ref b2, .int (nI qs), .ref b3, .ref b4, .ref b5, .ref b6, .ref b7, .ref b8]))) (f1_ : hwH X b0 1 (.inl (K 4, 30, .inr (.inr (.inr (.inr fi)))))) (f2_ : hwH X b (100 + 20 * (n - 1)) (.inr (1, [.ref q, .int (bI th)]))) (hn1 : 1 ≤ n) (hn2 : n ≤ ni) (hni : ni ≤ 30) (hfb : fi (n - 1) = some b) (hth : th = false) : Met l yIx_itemThere (.code yIx_itemThere cIx_itemThere 3 (some (.object "WordIndex2$Item")) :: hwG) ({ frames := 0, cells := 0, slots := 0, locals := 0 } : Room) (hwPc D vwCl (hwT K) [.ref a, .int (nI n)] X sz) (hwQq D vwCl X sz (fun r Y => r = none ∧ X = Y)) 0 0 (va_A X.1 sz) := by
  refine hwMetq (cc := cIx_itemThere) (maxL := 3) (rt := (.object "WordIndex2$Item")) (by first | exact Or.inl ⟨_, rfl⟩ | exact Or.inr ⟨_, rfl⟩) (by decide) rfl (Nat.le_of_ble_eq_true rfl) (fun p e s m args below meth c ls A Q hx hb hml hown hts hname hret hK hO hZ hA hl => ?_)
  have hl : lv_has ls 3 [(0, .ref a), (1, .int (nI n))] := hl
  refine lv_iload_n hx hb dIx_itemThere_0 rfl (lv_at hl 1 rfl) ?_
  refine lv_iconst (v := nI 1) hx hb dIx_itemThere_1 (by decide) ?_
  refine hw_ic_lt (a := n) (b := 1) (tgt := 22) hx hb dIx_itemThere_2 (by decide) (by omega) (by omega) (fun cq_1 => by exfalso; omega) (fun cq_1 => ?_)
  refine lv_iload_n hx hb dIx_itemThere_5 rfl (lv_at hl 1 rfl) ?_
  refine lv_aload_n hx hb dIx_itemThere_6 rfl (lv_at hl 0 rfl) ?_
  refine hw_get hx hb hts (hwInn inIx) hown hK hZ f0_ rfl 1 (by decide) (hts (.fieldLink RIx 58 RIx "itemCount" "I") (hwMem mm_182)) (fun _ h => h) rfl dIx_itemThere_7 ?_
  refine hw_ic_gt (a := n) (b := ni) (tgt := 22) hx hb dIx_itemThere_10 (by decide) (by omega) (by omega) (fun cq_2 => by exfalso; omega) (fun cq_2 => ?_)
  refine lv_iload_n hx hb dIx_itemThere_13 rfl (lv_at hl 1 rfl) ?_
  refine lv_aload_n hx hb dIx_itemThere_14 rfl (lv_at hl 0 rfl) ?_
  refine hw_get hx hb hts (hwInn inIx) hown hK hZ f0_ rfl 0 (by decide) (hts (.fieldLink RIx 11 RIx "items" "[LWordIndex2$Item;") (hwMem mm_183)) (fun _ h => h) rfl dIx_itemThere_15 ?_
  refine hw_alen hx hb hK hZ 4 f1_ rfl dIx_itemThere_18 ?_
  refine hw_ic_le (a := n) (b := 30) (tgt := 24) hx hb dIx_itemThere_19 (by decide) (by omega) (by omega) (fun cq_3 => ?_) (fun cq_3 => by exfalso; omega)
  refine lv_aload_n hx hb dIx_itemThere_24 rfl (lv_at hl 0 rfl) ?_
  refine hw_get hx hb hts (hwInn inIx) hown hK hZ f0_ rfl 0 (by decide) (hts (.fieldLink RIx 11 RIx "items" "[LWordIndex2$Item;") (hwMem mm_183)) (fun _ h => h) rfl dIx_itemThere_25 ?_
  refine lv_iload_n hx hb dIx_itemThere_28 rfl (lv_at hl 1 rfl) ?_
  refine lv_iconst (v := nI 1) hx hb dIx_itemThere_29 (by decide) ?_
  refine lv_isub hx hb dIx_itemThere_30 ?_
  refine hw_topi (pk_sub (a := n) (b := 1) (by omega)) ?_
  refine hw_aldq hx hb hK hZ 4 f1_ rfl (j := n - 1) (by omega) (by omega) dIx_itemThere_31 rfl ?_
  refine hw_top (y := .ref b) (by rw [hfb]; rfl) ?_
  refine lv_astore_n (lv' := [(2, .ref b), (0, .ref a), (1, .int (nI n))]) hx hb dIx_itemThere_32 rfl hl (by decide) rfl (fun ls hl => ?_)
  refine lv_aload_n hx hb dIx_itemThere_33 rfl (lv_at hl 0 rfl) ?_
  refine lv_ifnull hx hb dIx_itemThere_34 ?_
  refine lv_aload_n hx hb dIx_itemThere_37 rfl (lv_at hl 0 rfl) ?_
  refine hw_getN hx hb hts (hwInn inItem) hown hK hZ f2_ rfl 1 (by decide) (hO.2 _ (List.mem_of_getElem? (i := 3) rfl)) (fun _ h => h) rfl dIx_itemThere_38 ?_
  refine hw_bz_eqT (tgt := 48) hx hb dIx_itemThere_41 (by decide) hth ?_
  refine lv_null hx hb dIx_itemThere_48 ?_
  exact hret (vv := .null) (v := none) rfl hZ ⟨rfl, rfl⟩ dIx_itemThere_49
set_option maxHeartbeats 4000000 in
set_option maxRecDepth 100000 in
theorem c_Ix_thereB (l : Launch) (D : va_G) (K : Nat → ClassId) (X : hwW) (sz : Nat) (a : Nat) (b0 : Nat) (b1 : Nat) (b2 : Nat) (b3 : Nat) (b4 : Nat) (b5 : Nat) (b6 : Nat) (b7 : Nat) (b8 : Nat) (ni : Nat) (fs : Nat) (qs : Nat) (fi : Nat → Option Nat) (x : Int32) (f0_ : hwH X a 0 (.inr (5, [.ref b0, .int (nI ni), .int (nI fs), .ref b1, .ref b2, .int (nI qs), .ref b3, .ref b4, .ref b5, .ref b6, .ref b7, .ref b8]))) (f1_ : hwH X b0 1 (.inl (K 4, 30, .inr (.inr (.inr (.inr fi)))))) (hni : ni ≤ 30) (hx9 : badN ni x) : Met l yIx_itemThere (.code yIx_itemThere cIx_itemThere 3 (some (.object "WordIndex2$Item")) :: hwG) ({ frames := 0, cells := 0, slots := 0, locals := 0 } : Room) (hwPc D vwCl (hwT K) [.ref a, .int x] X sz) (hwQq D vwCl X sz (fun r Y => r = none ∧ X = Y)) 0 0 (va_A X.1 sz) := by
  refine hwMetq (cc := cIx_itemThere) (maxL := 3) (rt := (.object "WordIndex2$Item")) (by first | exact Or.inl ⟨_, rfl⟩ | exact Or.inr ⟨_, rfl⟩) (by decide) rfl (Nat.le_of_ble_eq_true rfl) (fun p e s m args below meth c ls A Q hx hb hml hown hts hname hret hK hO hZ hA hl => ?_)
  have hl : lv_has ls 3 [(0, .ref a), (1, .int x)] := hl
  rcases hx9 with hx9 | hx9
  · refine lv_iload_n hx hb dIx_itemThere_0 rfl (lv_at hl 1 rfl) ?_
    refine lv_iconst (v := nI 1) hx hb dIx_itemThere_1 (by decide) ?_
    refine lv_icmp_lt (tgt := 22) hx hb dIx_itemThere_2 (by decide) (fun cq_1 => ?_) (fun cq_1 => absurd hx9 cq_1)
    refine lv_null hx hb dIx_itemThere_22 ?_
    exact hret (vv := .null) (v := none) rfl hZ ⟨rfl, rfl⟩ dIx_itemThere_23
  · refine lv_iload_n hx hb dIx_itemThere_0 rfl (lv_at hl 1 rfl) ?_
    refine lv_iconst (v := nI 1) hx hb dIx_itemThere_1 (by decide) ?_
    refine lv_icmp_lt (tgt := 22) hx hb dIx_itemThere_2 (by decide) (fun cq_2 => absurd cq_2 (hw_n1 (n := ni) (by omega) hx9)) (fun cq_2 => ?_)
    refine lv_iload_n hx hb dIx_itemThere_5 rfl (lv_at hl 1 rfl) ?_
    refine lv_aload_n hx hb dIx_itemThere_6 rfl (lv_at hl 0 rfl) ?_
    refine hw_get hx hb hts (hwInn inIx) hown hK hZ f0_ rfl 1 (by decide) (hts (.fieldLink RIx 58 RIx "itemCount" "I") (hwMem mm_182)) (fun _ h => h) rfl dIx_itemThere_7 ?_
    refine lv_icmp_gt (tgt := 22) hx hb dIx_itemThere_10 (by decide) (fun cq_3 => ?_) (fun cq_3 => absurd hx9 cq_3)
    refine lv_null hx hb dIx_itemThere_22 ?_
    exact hret (vv := .null) (v := none) rfl hZ ⟨rfl, rfl⟩ dIx_itemThere_23
set_option maxHeartbeats 4000000 in
set_option maxRecDepth 100000 in
theorem c_Ix_text (l : Launch) (D : va_G) (K : Nat → ClassId) (X : hwW) (sz : Nat) (a : Nat) (b0 : Nat) (b1 : Nat) (b2 : Nat) (b3 : Nat) (b4 : Nat) (b5 : Nat) (b6 : Nat) (b7 : Nat) (b8 : Nat) (ni : Nat) (fs : Nat) (qs : Nat) (fi : Nat → Option Nat) (n : Nat) (j : Nat) (th : Bool) (t : Nat) (f0_ : hwH X a 0 (.inr (5, [.ref b0, .int (nI ni), .int (nI fs), .ref b1, .ref b2, .int (nI qs), .ref b3, .ref b4, .ref b5, .ref b6, .ref b7, .ref b8]))) (f1_ : hwH X b0 1 (.inl (K 4, 30, .inr (.inr (.inr (.inr fi)))))) (hn1 : 1 ≤ n) (hn2 : n ≤ ni) (hni : ni ≤ 30) (hj : j < 4) (hpt : ptAt K X fi (n - 1) j th t) (hth : th = true) : Met l yIx_textOf (.code yIx_textOf cIx_textOf 4 (some (.object "WordIndex2$Text")) :: hwG) ({ frames := 1, cells := 0, slots := 0, locals := 22 } : Room) (hwPc D vwCl (hwT K) [.ref a, .int (nI n), .int (nI j)] X sz) (hwQq D vwCl X sz (fun r Y => r = some t ∧ X = Y)) 0 0 (va_A X.1 sz) := by
  refine hwMetq (cc := cIx_textOf) (maxL := 4) (rt := (.object "WordIndex2$Text")) (by first | exact Or.inl ⟨_, rfl⟩ | exact Or.inr ⟨_, rfl⟩) (by decide) rfl (Nat.le_of_ble_eq_true rfl) (fun p e s m args below meth c ls A Q hx hb hml hown hts hname hret hK hO hZ hA hl => ?_)
  have hl : lv_has ls 4 [(0, .ref a), (1, .int (nI n)), (2, .int (nI j))] := hl
  obtain ⟨b, q, f, hfb, gb, gq, hft⟩ := hpt
  refine lv_aload_n hx hb dIx_textOf_0 rfl (lv_at hl 0 rfl) ?_
  refine lv_iload_n hx hb dIx_textOf_1 rfl (lv_at hl 1 rfl) ?_
  refine hw_callq (va_runV (As := [.int (nI n)]) (rest := []) ⟨hx, hb, hml, hown, hts⟩ (c_Ix_there l D K X s.heap.size (a := a) (b0 := b0) (b1 := b1) (b2 := b2) (b3 := b3) (b4 := b4) (b5 := b5) (b6 := b6) (b7 := b7) (b8 := b8) (ni := ni) (fs := fs) (qs := qs) (fi := fi) (n := n) (th := th) (b := b) (q := q) f0_ f1_ gb (by omega) (by omega) (by omega) (by assumption) (by assumption)) (cwV 1 hts (hwGood (hw_4 mm_185 mm_186 mm_187 mm_188 (hwAll mm_184))) rfl rfl rfl (by decide +kernel) ⟨Nat.le_of_ble_eq_true rfl, Nat.le_of_ble_eq_true rfl⟩) (hw_preV hK hO hZ (⟨_, _, f0_⟩) rfl) rfl rfl hl.1 rfl (lv_room (Nat.le_of_ble_eq_true rfl)) dIx_textOf_2 ⟨(show 0 + 0 ≤ 0 by omega), (show 0 + 0 ≤ 0 by omega)⟩) hZ hA (fun r X_1 H_2 lc_3 hp hZ => ?_)
  obtain ⟨hr, hy⟩ := hp
  subst hy
  refine hw_top (y := .ref b) (by rw [hr]; rfl) ?_
  refine lv_astore_n (lv' := [(3, .ref b), (0, .ref a), (1, .int (nI n)), (2, .int (nI j))]) hx hb dIx_textOf_5 rfl hl (by decide) rfl (fun ls hl => ?_)
  refine lv_aload_n hx hb dIx_textOf_6 rfl (lv_at hl 0 rfl) ?_
  refine lv_ifnonnull (tgt := 14) hx hb dIx_textOf_7 (by decide) ?_
  refine lv_aload_n hx hb dIx_textOf_14 rfl (lv_at hl 0 rfl) ?_
  refine lv_iload_n hx hb dIx_textOf_15 rfl (lv_at hl 3 rfl) ?_
  refine hw_callq (va_runV (As := [.int (nI j)]) (rest := []) ⟨hx, hb, hml, hown, hts⟩ (c_It_text l D K X H_2.size (b := b) (q := q) (L := 100 + 20 * (n - 1)) (L1 := 101 + 20 * (n - 1)) (th := th) (f := f) (j := j) (t := t) gb gq (by omega) hft) (cwV 1 hts (hwGood (hw_4 mm_190 mm_191 mm_192 mm_193 (hwAll mm_189))) rfl rfl rfl (by decide +kernel) ⟨Nat.le_of_ble_eq_true rfl, Nat.le_of_ble_eq_true rfl⟩) (hw_preV hK hO hZ (⟨_, _, gb⟩) rfl) rfl rfl hl.1 rfl (lv_room (Nat.le_of_ble_eq_true rfl)) dIx_textOf_16 ⟨(show 0 + 0 ≤ 0 by omega), (show 0 + 0 ≤ 0 by omega)⟩) hZ hA (fun r X_4 H_5 lc_6 hp hZ => ?_)
  obtain ⟨hr, hy⟩ := hp
  subst hy
  refine hw_top (y := .ref t) (by rw [hr]; rfl) ?_
  exact hret (vv := .ref t) (v := some t) rfl hZ ⟨rfl, rfl⟩ dIx_textOf_19
set_option maxHeartbeats 4000000 in
set_option maxRecDepth 100000 in
theorem c_Ix_textK (l : Launch) (D : va_G) (K : Nat → ClassId) (X : hwW) (sz : Nat) (a : Nat) (b0 : Nat) (b1 : Nat) (b2 : Nat) (b3 : Nat) (b4 : Nat) (b5 : Nat) (b6 : Nat) (b7 : Nat) (b8 : Nat) (ni : Nat) (fs : Nat) (qs : Nat) (fi : Nat → Option Nat) (n : Nat) (kind : Int32) (th : Bool) (t : Nat) (f0_ : hwH X a 0 (.inr (5, [.ref b0, .int (nI ni), .int (nI fs), .ref b1, .ref b2, .int (nI qs), .ref b3, .ref b4, .ref b5, .ref b6, .ref b7, .ref b8]))) (f1_ : hwH X b0 1 (.inl (K 4, 30, .inr (.inr (.inr (.inr fi)))))) (hn1 : 1 ≤ n) (hn2 : n ≤ ni) (hni : ni ≤ 30) (hpt : ptAt K X fi (n - 1) 0 th t) (hth : th = true) (hk : badK kind) : Met l yIx_textOf (.code yIx_textOf cIx_textOf 4 (some (.object "WordIndex2$Text")) :: hwG) ({ frames := 1, cells := 0, slots := 0, locals := 22 } : Room) (hwPc D vwCl (hwT K) [.ref a, .int (nI n), .int kind] X sz) (hwQq D vwCl X sz (fun r Y => r = none ∧ X = Y)) 0 0 (va_A X.1 sz) := by
  refine hwMetq (cc := cIx_textOf) (maxL := 4) (rt := (.object "WordIndex2$Text")) (by first | exact Or.inl ⟨_, rfl⟩ | exact Or.inr ⟨_, rfl⟩) (by decide) rfl (Nat.le_of_ble_eq_true rfl) (fun p e s m args below meth c ls A Q hx hb hml hown hts hname hret hK hO hZ hA hl => ?_)
  have hl : lv_has ls 4 [(0, .ref a), (1, .int (nI n)), (2, .int kind)] := hl
  obtain ⟨b, q, f, hfb, gb, gq, hft⟩ := hpt
  refine lv_aload_n hx hb dIx_textOf_0 rfl (lv_at hl 0 rfl) ?_
  refine lv_iload_n hx hb dIx_textOf_1 rfl (lv_at hl 1 rfl) ?_
  refine hw_callq (va_runV (As := [.int (nI n)]) (rest := []) ⟨hx, hb, hml, hown, hts⟩ (c_Ix_there l D K X s.heap.size (a := a) (b0 := b0) (b1 := b1) (b2 := b2) (b3 := b3) (b4 := b4) (b5 := b5) (b6 := b6) (b7 := b7) (b8 := b8) (ni := ni) (fs := fs) (qs := qs) (fi := fi) (n := n) (th := th) (b := b) (q := q) f0_ f1_ gb (by omega) (by omega) (by omega) (by assumption) (by assumption)) (cwV 1 hts (hwGood (hw_4 mm_185 mm_186 mm_187 mm_188 (hwAll mm_184))) rfl rfl rfl (by decide +kernel) ⟨Nat.le_of_ble_eq_true rfl, Nat.le_of_ble_eq_true rfl⟩) (hw_preV hK hO hZ (⟨_, _, f0_⟩) rfl) rfl rfl hl.1 rfl (lv_room (Nat.le_of_ble_eq_true rfl)) dIx_textOf_2 ⟨(show 0 + 0 ≤ 0 by omega), (show 0 + 0 ≤ 0 by omega)⟩) hZ hA (fun r X_1 H_2 lc_3 hp hZ => ?_)
  obtain ⟨hr, hy⟩ := hp
  subst hy
  refine hw_top (y := .ref b) (by rw [hr]; rfl) ?_
  refine lv_astore_n (lv' := [(3, .ref b), (0, .ref a), (1, .int (nI n)), (2, .int kind)]) hx hb dIx_textOf_5 rfl hl (by decide) rfl (fun ls hl => ?_)
  refine lv_aload_n hx hb dIx_textOf_6 rfl (lv_at hl 0 rfl) ?_
  refine lv_ifnonnull (tgt := 14) hx hb dIx_textOf_7 (by decide) ?_
  refine lv_aload_n hx hb dIx_textOf_14 rfl (lv_at hl 0 rfl) ?_
  refine lv_iload_n hx hb dIx_textOf_15 rfl (lv_at hl 3 rfl) ?_
  refine hw_callq (va_runV (As := [.int kind]) (rest := []) ⟨hx, hb, hml, hown, hts⟩ (c_It_textB l D K X H_2.size (b := b) (q := q) (L := 100 + 20 * (n - 1)) (L1 := 101 + 20 * (n - 1)) (th := th) (f := f) (kind := kind) gb gq (by assumption)) (cwV 1 hts (hwGood (hw_4 mm_190 mm_191 mm_192 mm_193 (hwAll mm_189))) rfl rfl rfl (by decide +kernel) ⟨Nat.le_of_ble_eq_true rfl, Nat.le_of_ble_eq_true rfl⟩) (hw_preV hK hO hZ (⟨_, _, gb⟩) rfl) rfl rfl hl.1 rfl (lv_room (Nat.le_of_ble_eq_true rfl)) dIx_textOf_16 ⟨(show 0 + 0 ≤ 0 by omega), (show 0 + 0 ≤ 0 by omega)⟩) hZ hA (fun r X_4 H_5 lc_6 hp hZ => ?_)
  obtain ⟨hr, hy⟩ := hp
  subst hy
  refine hw_top (y := .null) (by rw [hr]; rfl) ?_
  exact hret (vv := .null) (v := none) rfl hZ ⟨rfl, rfl⟩ dIx_textOf_19
set_option maxHeartbeats 4000000 in
set_option maxRecDepth 100000 in
theorem c_Ix_textF (l : Launch) (D : va_G) (K : Nat → ClassId) (X : hwW) (sz : Nat) (a : Nat) (b0 : Nat) (b1 : Nat) (b2 : Nat) (b3 : Nat) (b4 : Nat) (b5 : Nat) (b6 : Nat) (b7 : Nat) (b8 : Nat) (ni : Nat) (fs : Nat) (qs : Nat) (fi : Nat → Option Nat) (n : Nat) (kind : Int32) (th : Bool) (f0_ : hwH X a 0 (.inr (5, [.ref b0, .int (nI ni), .int (nI fs), .ref b1, .ref b2, .int (nI qs), .ref b3, .ref b4, .ref b5, .ref b6, .ref b7, .ref b8]))) (f1_ : hwH X b0 1 (.inl (K 4, 30, .inr (.inr (.inr (.inr fi)))))) (hn1 : 1 ≤ n) (hn2 : n ≤ ni) (hni : ni ≤ 30) (hpi : piAt X fi (n - 1) th) (hth : th = false) : Met l yIx_textOf (.code yIx_textOf cIx_textOf 4 (some (.object "WordIndex2$Text")) :: hwG) ({ frames := 1, cells := 0, slots := 0, locals := 22 } : Room) (hwPc D vwCl (hwT K) [.ref a, .int (nI n), .int kind] X sz) (hwQq D vwCl X sz (fun r Y => r = none ∧ X = Y)) 0 0 (va_A X.1 sz) := by
  refine hwMetq (cc := cIx_textOf) (maxL := 4) (rt := (.object "WordIndex2$Text")) (by first | exact Or.inl ⟨_, rfl⟩ | exact Or.inr ⟨_, rfl⟩) (by decide) rfl (Nat.le_of_ble_eq_true rfl) (fun p e s m args below meth c ls A Q hx hb hml hown hts hname hret hK hO hZ hA hl => ?_)
  have hl : lv_has ls 4 [(0, .ref a), (1, .int (nI n)), (2, .int kind)] := hl
  obtain ⟨b, q, hfb, gb⟩ := hpi
  refine lv_aload_n hx hb dIx_textOf_0 rfl (lv_at hl 0 rfl) ?_
  refine lv_iload_n hx hb dIx_textOf_1 rfl (lv_at hl 1 rfl) ?_
  refine hw_callq (va_runV (As := [.int (nI n)]) (rest := []) ⟨hx, hb, hml, hown, hts⟩ (c_Ix_thereF l D K X s.heap.size (a := a) (b0 := b0) (b1 := b1) (b2 := b2) (b3 := b3) (b4 := b4) (b5 := b5) (b6 := b6) (b7 := b7) (b8 := b8) (ni := ni) (fs := fs) (qs := qs) (fi := fi) (n := n) (th := th) (b := b) (q := q) f0_ f1_ gb (by omega) (by omega) (by omega) (by assumption) (by assumption)) (cwV 1 hts (hwGood (hw_4 mm_185 mm_186 mm_187 mm_188 (hwAll mm_184))) rfl rfl rfl (by decide +kernel) ⟨Nat.le_of_ble_eq_true rfl, Nat.le_of_ble_eq_true rfl⟩) (hw_preV hK hO hZ (⟨_, _, f0_⟩) rfl) rfl rfl hl.1 rfl (lv_room (Nat.le_of_ble_eq_true rfl)) dIx_textOf_2 ⟨(show 0 + 0 ≤ 0 by omega), (show 0 + 0 ≤ 0 by omega)⟩) hZ hA (fun r X_1 H_2 lc_3 hp hZ => ?_)
  obtain ⟨hr, hy⟩ := hp
  subst hy
  refine hw_top (y := .null) (by rw [hr]; rfl) ?_
  refine lv_astore_nN (lv' := [(3, .null), (0, .ref a), (1, .int (nI n)), (2, .int kind)]) hx hb dIx_textOf_5 rfl hl (by decide) rfl (fun ls hl => ?_)
  refine lv_aload_nN hx hb dIx_textOf_6 rfl (lv_at hl 0 rfl) ?_
  refine lv_ifnonnullN hx hb dIx_textOf_7 ?_
  refine lv_null hx hb dIx_textOf_10 ?_
  refine lv_goto (tgt := 19) hx hb dIx_textOf_11 (by decide) ?_
  exact hret (vv := .null) (v := none) rfl hZ ⟨rfl, rfl⟩ dIx_textOf_19
set_option maxHeartbeats 4000000 in
set_option maxRecDepth 100000 in
theorem c_Ix_textB (l : Launch) (D : va_G) (K : Nat → ClassId) (X : hwW) (sz : Nat) (a : Nat) (b0 : Nat) (b1 : Nat) (b2 : Nat) (b3 : Nat) (b4 : Nat) (b5 : Nat) (b6 : Nat) (b7 : Nat) (b8 : Nat) (ni : Nat) (fs : Nat) (qs : Nat) (fi : Nat → Option Nat) (x : Int32) (kind : Int32) (f0_ : hwH X a 0 (.inr (5, [.ref b0, .int (nI ni), .int (nI fs), .ref b1, .ref b2, .int (nI qs), .ref b3, .ref b4, .ref b5, .ref b6, .ref b7, .ref b8]))) (f1_ : hwH X b0 1 (.inl (K 4, 30, .inr (.inr (.inr (.inr fi)))))) (hni : ni ≤ 30) (hx9 : badN ni x) : Met l yIx_textOf (.code yIx_textOf cIx_textOf 4 (some (.object "WordIndex2$Text")) :: hwG) ({ frames := 1, cells := 0, slots := 0, locals := 22 } : Room) (hwPc D vwCl (hwT K) [.ref a, .int x, .int kind] X sz) (hwQq D vwCl X sz (fun r Y => r = none ∧ X = Y)) 0 0 (va_A X.1 sz) := by
  refine hwMetq (cc := cIx_textOf) (maxL := 4) (rt := (.object "WordIndex2$Text")) (by first | exact Or.inl ⟨_, rfl⟩ | exact Or.inr ⟨_, rfl⟩) (by decide) rfl (Nat.le_of_ble_eq_true rfl) (fun p e s m args below meth c ls A Q hx hb hml hown hts hname hret hK hO hZ hA hl => ?_)
  have hl : lv_has ls 4 [(0, .ref a), (1, .int x), (2, .int kind)] := hl
  refine lv_aload_n hx hb dIx_textOf_0 rfl (lv_at hl 0 rfl) ?_
  refine lv_iload_n hx hb dIx_textOf_1 rfl (lv_at hl 1 rfl) ?_
  refine hw_callq (va_runV (As := [.int x]) (rest := []) ⟨hx, hb, hml, hown, hts⟩ (c_Ix_thereB l D K X s.heap.size (a := a) (b0 := b0) (b1 := b1) (b2 := b2) (b3 := b3) (b4 := b4) (b5 := b5) (b6 := b6) (b7 := b7) (b8 := b8) (ni := ni) (fs := fs) (qs := qs) (fi := fi) (x := x) f0_ f1_ (by omega) (by assumption)) (cwV 1 hts (hwGood (hw_4 mm_185 mm_186 mm_187 mm_188 (hwAll mm_184))) rfl rfl rfl (by decide +kernel) ⟨Nat.le_of_ble_eq_true rfl, Nat.le_of_ble_eq_true rfl⟩) (hw_preV hK hO hZ (⟨_, _, f0_⟩) rfl) rfl rfl hl.1 rfl (lv_room (Nat.le_of_ble_eq_true rfl)) dIx_textOf_2 ⟨(show 0 + 0 ≤ 0 by omega), (show 0 + 0 ≤ 0 by omega)⟩) hZ hA (fun r X_1 H_2 lc_3 hp hZ => ?_)
  obtain ⟨hr, hy⟩ := hp
  subst hy
  refine hw_top (y := .null) (by rw [hr]; rfl) ?_
  refine lv_astore_nN (lv' := [(3, .null), (0, .ref a), (1, .int x), (2, .int kind)]) hx hb dIx_textOf_5 rfl hl (by decide) rfl (fun ls hl => ?_)
  refine lv_aload_nN hx hb dIx_textOf_6 rfl (lv_at hl 0 rfl) ?_
  refine lv_ifnonnullN hx hb dIx_textOf_7 ?_
  refine lv_null hx hb dIx_textOf_10 ?_
  refine lv_goto (tgt := 19) hx hb dIx_textOf_11 (by decide) ?_
  exact hret (vv := .null) (v := none) rfl hZ ⟨rfl, rfl⟩ dIx_textOf_19
set_option maxHeartbeats 4000000 in
set_option maxRecDepth 100000 in
theorem c_Ix_clearQ (l : Launch) (D : va_G) (K : Nat → ClassId) (X : hwW) (sz : Nat) (a : Nat) (b0 : Nat) (b1 : Nat) (b2 : Nat) (b3 : Nat) (b4 : Nat) (b5 : Nat) (b6 : Nat) (b7 : Nat) (b8 : Nat) (ni : Nat) (fs : Nat) (qs : Nat) (qw : List (List Nat)) (qo : Nat) (f0_ : hwH X a 0 (.inr (5, [.ref b0, .int (nI ni), .int (nI fs), .ref b1, .ref b2, .int (nI qs), .ref b3, .ref b4, .ref b5, .ref b6, .ref b7, .ref b8]))) (f1_ : txAt K X b2 5 qw qo) : Met l yIx_clearQuestion (.code yIx_clearQuestion cIx_clearQuestion 1 none :: hwG) ({ frames := 1, cells := 0, slots := 0, locals := 20 } : Room) (hwPc D vwCl (hwT K) [.ref a] X sz) (hwQv D vwCl X sz (fun Y => hwF X Y (fun M => M = 0 ∨ M = 10 ∨ M = 11) ∧ hwH Y a 0 (.inr (5, [.ref b0, .int (nI ni), .int (nI fs), .ref b1, .ref b2, .int (nI 0), .ref b3, .ref b4, .ref b5, .ref b6, .ref b7, .ref b8])) ∧ txAt K Y b2 5 [] 0)) 0 0 (va_A X.1 sz) := by
  refine hwMetv (cc := cIx_clearQuestion) (maxL := 1) (by decide) rfl (Nat.le_of_ble_eq_true rfl) (fun p e s m args below meth c ls A Q hx hb hml hown hts hname hret hK hO hZ hA hl => ?_)
  have hl : lv_has ls 1 [(0, .ref a)] := hl
  have hFr : hwF X X (fun M => M = 0 ∨ M = 10 ∨ M = 11) := hwF.rf
  refine lv_aload_n hx hb dIx_clearQuestion_0 rfl (lv_at hl 0 rfl) ?_
  refine hw_get hx hb hts (hwInn inIx) hown hK hZ f0_ rfl 4 (by decide) (hts (.fieldLink RIx 22 RIx "question" "LWordIndex2$Text;") (hwMem mm_194)) (fun _ h => h) rfl dIx_clearQuestion_1 ?_
  refine hw_callv (va_runV (As := []) (rest := []) ⟨hx, hb, hml, hown, hts⟩ (c_Tx_clear l D K X s.heap.size (a := b2) (k := 5) (ws := qw) (o := qo) f1_) (cwV 0 hts (hwGood (hw_4 mm_196 mm_197 mm_198 mm_45 (hwAll mm_195))) rfl rfl rfl (by decide +kernel) ⟨Nat.le_of_ble_eq_true rfl, Nat.le_of_ble_eq_true rfl⟩) (hw_preV hK hO hZ (txAt.ob f1_) rfl) rfl rfl hl.1 rfl (lv_room (Nat.le_of_ble_eq_true rfl)) dIx_clearQuestion_4 ⟨(show 0 + 0 ≤ 0 by omega), (show 0 + 0 ≤ 0 by omega)⟩) hZ hA (fun X_1 H_2 lc_3 hp hZ => ?_)
  obtain ⟨hF, hN_4⟩ := hp
  have hFr := hwF.tr hFr hF (fun _ h => h) (fun M h => by first | exact False.elim h | ((try dsimp only at h ⊢); omega))
  have f0_ := hF _ _ _ (by intro hNS; first | exact False.elim hNS | ((try dsimp only at hNS); omega)) f0_
  have ff_5 := hN_4
  refine lv_aload_n hx hb dIx_clearQuestion_7 rfl (lv_at hl 0 rfl) ?_
  refine lv_iconst (v := nI 0) hx hb dIx_clearQuestion_8 (by decide) ?_
  refine hw_put (ty := .int) (fs' := [.ref b0, .int (nI ni), .int (nI fs), .ref b1, .ref b2, .int (nI 0), .ref b3, .ref b4, .ref b5, .ref b6, .ref b7, .ref b8]) hx hb hts (hwInn inIx) tyIx tyIx_ok nmIx hown hK hZ f0_ rfl 5 (by decide) (hts (.fieldLink RIx 81 RIx "questionSigns" "I") (hwMem mm_199)) (fun _ h => h) rfl (by decide +kernel) rfl rfl (Nat.le_of_ble_eq_true rfl) rfl dIx_clearQuestion_9 (fun X_6 H_7 lc_8 hZ hF hNw => ?_)
  have hFr := hwF.tr hFr hF (fun _ h => h) (fun M h => by first | exact False.elim h | ((try dsimp only at h ⊢); omega))
  have f0_ := hNw
  have ff_5 := txAt.fr hF (by intro hNS; first | exact False.elim hNS | ((try dsimp only at hNS); omega)) (by intro hNS; first | exact False.elim hNS | ((try dsimp only at hNS); omega)) ff_5
  exact hret hZ ⟨hFr, f0_, ff_5⟩ dIx_clearQuestion_12
