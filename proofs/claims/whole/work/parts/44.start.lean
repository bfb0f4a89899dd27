theorem mm_600 : (.instantiable RIx 12 : Cond) ∈ hwG := hwIx 50 (by decide +kernel) (by decide +kernel)
theorem mm_601 : (.instantiable RMo 24 : Cond) ∈ hwG := hwIx 550 (by decide +kernel) (by decide +kernel)
theorem mm_602 : (.classLink RLaw 7 RIx : Cond) ∈ hwG := hwIx 49 (by decide +kernel) (by decide +kernel)
theorem mm_603 : (.code yIx_init cIx_init 1 none : Cond) ∈ hwG := hwIx 53 (by decide +kernel) (by decide +kernel)
theorem mm_604 : (.methodLink RLaw 9 yIx_init : Cond) ∈ hwG := hwIx 51 (by decide +kernel) (by decide +kernel)
theorem mm_605 : (.instanceMethod yIx_init : Cond) ∈ hwG := hwIx 52 (by decide +kernel) (by decide +kernel)
theorem mm_606 : (.classLink RLaw 10 RMo : Cond) ∈ hwG := hwIx 549 (by decide +kernel) (by decide +kernel)
theorem mm_607 : (.code yMo_init cMo_init 1 none : Cond) ∈ hwG := hwIx 553 (by decide +kernel) (by decide +kernel)
theorem mm_608 : (.methodLink RLaw 12 yMo_init : Cond) ∈ hwG := hwIx 551 (by decide +kernel) (by decide +kernel)
theorem mm_609 : (.instanceMethod yMo_init : Cond) ∈ hwG := hwIx 552 (by decide +kernel) (by decide +kernel)
theorem lw_Nall : hwN.all (fun w => decide (w ∈ lw_tbl)) = true := by decide +kernel
theorem lw_N (w : Cond) (h : w ∈ hwN) : w ∈ lw_tbl := of_decide_eq_true (List.all_eq_true.mp lw_Nall w h)
theorem law_arr {U : State} {A : Array Value} {ty : FieldType} (h : (Cond.arrayClass ty).before A U = true) (hpr : ∀ U c1, va_RA U c1 ty = (U.vm.findClass ("[" ++ ty.toString) = some c1)) : ∃ cA : ClassId, ArrOfT U cA ty ∧ va_RA U cA ty := by
  obtain ⟨cA, kA, comp, h1, h2, h3⟩ := Cond.arrayClass_spec h
  exact ⟨cA, fun n z => ⟨fun k h => (by cases h), kA, h2, comp, h3⟩, by rw [hpr]; exact h1⟩
theorem law_arq {U : State} {A : Array Value} {C : String} (h : (Cond.arrayOver (.object C)).before A U = true) : ∃ cA : ClassId, ArrOfT U cA (.object C) ∧ va_RA U cA (.object C) := by
  obtain ⟨comp, cA, kA, h1, -, h2, h3, h4⟩ := Cond.arrayOver_spec h
  exact ⟨cA, fun n z => ⟨fun k h => (by cases h), kA, h2, comp, h3⟩, kA, comp, h2, h3, h1, h4⟩
set_option maxHeartbeats 4000000 in
set_option maxRecDepth 100000 in
theorem whole_start {p : Program} {e : Env} {s : State} {m : MethodId} {below : List Frame} {meth : Method} {c : Code} (l : Launch) {b L : Nat} {xs : Nat → Int32} (hL : L ≤ 2048) (C0 : lw_At p s m meth c b L xs) : W p l e room_1 s m #[Value.ref b] below meth c s.heap [] 0 0 (lw_Z below #[Value.ref b] s) (entryFrame m ([Value.ref b] : List Value).toArray 4) := by
  obtain ⟨hx, hb, hr, hml, hown0, hts0, hX0, hbl, hlocks, hgv⟩ := id C0
  have hown : s.vm.findClass RLaw = some m.cls := hown0
  have hts : ∀ w ∈ lw0 :: hwG, w.before #[Value.ref b] s = true := fun w hw => hts0 w ((List.mem_filter.mp (hwAll mm_188 w hw)).1)
  have hA : ∀ q : Nat, s.heap.size ≤ q → (fun q : Nat => s.heap.size ≤ q) q := fun _ h => h
  have hbA : ¬ (fun q : Nat => s.heap.size ≤ q) b := Nat.not_le.mpr hbl
  obtain ⟨c0, iS0, hKn0⟩ := u_known (C := RHits) (T := THits) (N := 4) (n := 4) hts (hwInn inHits) (hts (.instantiable RHits 4) (hwMem mm_353))
  obtain ⟨c1, iS1, hKn1⟩ := u_known (C := RItem) (T := TItem) (N := 2) (n := 2) hts (hwInn inItem) (hts (.instantiable RItem 2) (hwMem mm_279))
  obtain ⟨c2, iS2, hKn2⟩ := u_known (C := RTerms) (T := TTerms) (N := 2) (n := 2) hts (hwInn inTerms) (hts (.instantiable RTerms 2) (hwMem mm_357))
  obtain ⟨c3, iS3, hKn3⟩ := u_known (C := RText) (T := TText) (N := 3) (n := 3) hts (hwInn inText) (hts (.instantiable RText 3) (hwMem mm_179))
  obtain ⟨c4, iS4, hKn4⟩ := u_known (C := RWordSet) (T := TWordSet) (N := 2) (n := 2) hts (hwInn inWordSet) (hts (.instantiable RWordSet 2) (hwMem mm_348))
  obtain ⟨c5, iS5, hKn5⟩ := u_known (C := RIx) (T := TIx) (N := 12) (n := 12) hts (hwInn inIx) (hts (.instantiable RIx 12) (hwMem mm_600))
  obtain ⟨c6, iS6, hKn6⟩ := u_known (C := RAllSearch) (T := TAllSearch) (N := 1) (n := 1) hts (hwInn inAllSearch) (hts (.instantiable RAllSearch 1) (hwMem mm_293))
  obtain ⟨c7, iS7, hKn7⟩ := u_known (C := RPhraseSearch) (T := TPhraseSearch) (N := 1) (n := 1) hts (hwInn inPhraseSearch) (hts (.instantiable RPhraseSearch 1) (hwMem mm_302))
  obtain ⟨c8, iS8, hKn8⟩ := u_known (C := RNearSearch) (T := TNearSearch) (N := 3) (n := 3) hts (hwInn inNearSearch) (hts (.instantiable RNearSearch 3) (hwMem mm_307))
  obtain ⟨c9, iS9, hKn9⟩ := u_known (C := RWildSearch) (T := TWildSearch) (N := 2) (n := 2) hts (hwInn inWildSearch) (hts (.instantiable RWildSearch 2) (hwMem mm_313))
  obtain ⟨c10, iS10, hKn10⟩ := u_known (C := RMo) (T := TMo) (N := 24) (n := 24) hts (hwInn inMo) (hts (.instantiable RMo 24) (hwMem mm_601))
  obtain ⟨D, hKc⟩ : ∃ D : va_G, ∀ (k : Nat) (q : vw_C), vwCl[k]? = some q → u_Kn s q.1 q.2.1 q.2.2 (D.1 k) (D.2 k) := by
    refine ⟨(fun k => if k = 0 then c0 else if k = 1 then c1 else if k = 2 then c2 else if k = 3 then c3 else if k = 4 then c4 else if k = 5 then c5 else if k = 6 then c6 else if k = 7 then c7 else if k = 8 then c8 else if k = 9 then c9 else c10, fun k => if k = 0 then iS0 else if k = 1 then iS1 else if k = 2 then iS2 else if k = 3 then iS3 else if k = 4 then iS4 else if k = 5 then iS5 else if k = 6 then iS6 else if k = 7 then iS7 else if k = 8 then iS8 else if k = 9 then iS9 else iS10), ?_⟩
    intro k q hq
    match k, hq with
    | 0, hq => cases hq; exact hKn0
    | 1, hq => cases hq; exact hKn1
    | 2, hq => cases hq; exact hKn2
    | 3, hq => cases hq; exact hKn3
    | 4, hq => cases hq; exact hKn4
    | 5, hq => cases hq; exact hKn5
    | 6, hq => cases hq; exact hKn6
    | 7, hq => cases hq; exact hKn7
    | 8, hq => cases hq; exact hKn8
    | 9, hq => cases hq; exact hKn9
    | 10, hq => cases hq; exact hKn10
    | k + 11, hq => simp [vwCl] at hq
  obtain ⟨a0, hAr0⟩ := law_arr (ty := .int) (hts (.arrayClass .int) (hwMem mm_170)) (fun _ _ => rfl)
  obtain ⟨a1, hAr1⟩ := law_arr (ty := .long) (hts (.arrayClass .long) (hwMem mm_24)) (fun _ _ => rfl)
  obtain ⟨a2, hAr2⟩ := law_arr (ty := .boolean) (hts (.arrayClass .boolean) (hwMem mm_486)) (fun _ _ => rfl)
  obtain ⟨a3, hAr3⟩ := law_arr (ty := .byte) (hts (.arrayClass .byte) (hwMem mm_487)) (fun _ _ => rfl)
  have hov4 : (Cond.arrayOver (.object RItem)).before #[Value.ref b] s = true := hts0 _ (List.mem_of_getElem? (i := 58) (by decide +kernel))
  obtain ⟨a4, hAr4⟩ := law_arq hov4
  have hov5 : (Cond.arrayOver (.object RText)).before #[Value.ref b] s = true := hts0 _ (List.mem_of_getElem? (i := 173) (by decide +kernel))
  obtain ⟨a5, hAr5⟩ := law_arq hov5
  obtain ⟨K, hKa⟩ : ∃ K : Nat → ClassId, ∀ (k : Nat) (q : ClassId × FieldType), (hwT K)[k]? = some q → ArrOfT s q.1 q.2 ∧ va_RA s q.1 q.2 := by
    refine ⟨fun k => if k = 0 then a0 else if k = 1 then a1 else if k = 2 then a2 else if k = 3 then a3 else if k = 4 then a4 else a5, ?_⟩
    intro k q hq
    match k, hq with
    | 0, hq => cases hq; exact hAr0
    | 1, hq => cases hq; exact hAr1
    | 2, hq => cases hq; exact hAr2
    | 3, hq => cases hq; exact hAr3
    | 4, hq => cases hq; exact hAr4
    | 5, hq => cases hq; exact hAr5
    | k + 6, hq => simp [hwT] at hq
  have hK : va_K D vwCl (hwT K) s := ⟨hKc, hKa⟩
  have hO : hwO (hwT K) s := by
    refine ⟨fun k q C hq => ?_, fun w hw => ?_⟩
    · match k, hq with
      | 0, hq => cases hq
      | 1, hq => cases hq
      | 2, hq => cases hq
      | 3, hq => cases hq
      | 4, hq => cases hq; exact va_AO.of hov4
      | 5, hq => cases hq; exact va_AO.of hov5
      | k + 6, hq => simp [hwT] at hq
    · exact hw_nw (hwN_tab w hw) (hts0 w (lw_N w hw))
  have hZ : hwZ D vwCl (fun q : Nat => s.heap.size ≤ q) s.heap (([], fun _ => 5000) : hwW) s.heap [] := ⟨fun k q h => by simp at h, ⟨fun i j p q h => by simp at h, fun k q h => by simp at h⟩, va_S.rf⟩
  have hl := lv_entry ([.ref b]) (n := 4) (Nat.le_of_ble_eq_true rfl)
  rw [lg_entry_eq]
  generalize (lg_sl ([.ref b]) ++ List.replicate (4 - (lg_sl ([.ref b])).length) Slot.unset).toArray = ls at hl ⊢
  have hl : lv_has ls 4 [(0, .ref b)] := hl
  generalize (([], fun _ => 5000) : hwW) = X at hZ
  refine hw_new (ci := 5) (fs := [.null, .int (nI 0), .int (nI 0), .null, .null, .int (nI 0), .null, .null, .null, .null, .null, .null]) hx hb hts (hwInn inIx) tyIx tyIx_ok hown (hts (.classLink RLaw 7 RIx) (hwMem mm_602)) (hts (.instantiable RIx 12) (hwMem mm_600)) (hts (.initialized RIx) (hwMem mm_188)) hK hZ hA rfl (fun j hj => by rcases (show j = 0 ∨ j = 1 ∨ j = 2 ∨ j = 3 ∨ j = 4 ∨ j = 5 ∨ j = 6 ∨ j = 7 ∨ j = 8 ∨ j = 9 ∨ j = 10 ∨ j = 11 by omega) with rfl | rfl | rfl | rfl | rfl | rfl | rfl | rfl | rfl | rfl | rfl | rfl <;> rfl) (show 0 + 1 ≤ 659988 by omega) (show 0 + 12 ≤ 7122284 by omega) dLaw_law_0 0 (fun qa X1 H1 hZ hF hNw => ?_)
  have g0 := hNw
  refine lv_dup hx hb dLaw_law_3 rfl ?_
  refine hw_callv (va_runI (As := []) (rest := [.ref qa]) ⟨hx, hb, hml, hown, hts⟩ (p_init l D K X1 H1.size qa g0) (cwI 0 hts (hwGood (hwAll mm_603)) rfl rfl rfl (hts (.initialized RIx) (hwMem mm_188)) (hts (.methodLink RLaw 9 yIx_init) (hwMem mm_604)) (hts (.instanceMethod yIx_init) (hwMem mm_605)) rfl (by decide +kernel) ⟨Nat.le_of_ble_eq_true rfl, Nat.le_of_ble_eq_true rfl⟩) (hw_preS hK hO hZ) rfl rfl hl.1 rfl (lv_room (Nat.le_of_ble_eq_true rfl)) dLaw_law_4 ⟨(show (0 + 1) + 17 ≤ 659988 by omega), (show (0 + 12) + 1746 ≤ 7122284 by omega)⟩) hZ hA (fun X2 H2 lc2 hp hZ => ?_)
  obtain ⟨hF, f0⟩ := hp
  refine lv_astore_n (lv' := [(1, .ref qa), (0, .ref b)]) hx hb dLaw_law_7 rfl hl (by decide) rfl (fun ls hl => ?_)
  refine hw_new (ci := 10) (fs := [.int (nI 0), .int (nI 0), .null, .int (nI 0), .null, .null, .null, .null, .int (nI 0), .null, .int (nI 0), .null, .int (nI 0), .null, .null, .null, .int (nI 0), .int (nI 0), .null, .null, .null, .null, .int (nI 0), .null]) hx hb hts (hwInn inMo) tyMo tyMo_ok hown (hts (.classLink RLaw 10 RMo) (hwMem mm_606)) (hts (.instantiable RMo 24) (hwMem mm_601)) (hts (.initialized RMo) (hwMem mm_365)) hK hZ hA rfl (fun j hj => by rcases (show j = 0 ∨ j = 1 ∨ j = 2 ∨ j = 3 ∨ j = 4 ∨ j = 5 ∨ j = 6 ∨ j = 7 ∨ j = 8 ∨ j = 9 ∨ j = 10 ∨ j = 11 ∨ j = 12 ∨ j = 13 ∨ j = 14 ∨ j = 15 ∨ j = 16 ∨ j = 17 ∨ j = 18 ∨ j = 19 ∨ j = 20 ∨ j = 21 ∨ j = 22 ∨ j = 23 by omega) with rfl | rfl | rfl | rfl | rfl | rfl | rfl | rfl | rfl | rfl | rfl | rfl | rfl | rfl | rfl | rfl | rfl | rfl | rfl | rfl | rfl | rfl | rfl | rfl <;> rfl) (show (0 + 1 + 17) + 1 ≤ 659988 by omega) (show (0 + 12 + 1746) + 24 ≤ 7122284 by omega) dLaw_law_8 1000 (fun qm X3 H3 hZ hF hNw => ?_)
  have g1 := hNw
  have f0 := ixAt.fr hF (fun M hM hNS => hNS) (Nat.zero_le _) f0
  refine lv_dup hx hb dLaw_law_11 rfl ?_
  refine hw_callv (va_runI (As := []) (rest := [.ref qm]) ⟨hx, hb, hml, hown, hts⟩ (q_init l D K X3 H3.size qm g1) (cwI 0 hts (hwGood (hwAll mm_607)) rfl rfl rfl (hts (.initialized RMo) (hwMem mm_365)) (hts (.methodLink RLaw 12 yMo_init) (hwMem mm_608)) (hts (.instanceMethod yMo_init) (hwMem mm_609)) rfl (by decide +kernel) ⟨Nat.le_of_ble_eq_true rfl, Nat.le_of_ble_eq_true rfl⟩) (hw_preS hK hO hZ) rfl rfl hl.1 rfl (lv_room (Nat.le_of_ble_eq_true rfl)) dLaw_law_12 ⟨(show (0 + 1 + 17 + 1) + 15 ≤ 659988 by omega), (show (0 + 12 + 1746 + 24) + 5954 ≤ 7122284 by omega)⟩) hZ hA (fun X4 H4 lc4 hp hZ => ?_)
  obtain ⟨hF, f1⟩ := hp
  have f0 := ixAt.fr hF (fun M hM hNS => by ((try dsimp only at hNS); omega)) (Nat.zero_le _) f0
  refine lv_astore_n (lv' := [(2, .ref qm), (1, .ref qa), (0, .ref b)]) hx hb dLaw_law_15 rfl hl (by decide) rfl (fun ls hl => ?_)
  refine lv_iconst (v := nI 0) hx hb dLaw_law_16 (by decide) ?_
  refine lv_istore_n (lv' := [(3, .int (nI 0)), (2, .ref qm), (1, .ref qa), (0, .ref b)]) hx hb dLaw_law_17 rfl hl (by decide) rfl (fun ls hl => ?_)
  refine W.widen (k := 40 + 10 * 0) (n := 9000 + 1300 * 0) (by omega) (by omega) ?_
  exact law_loop hx hb hml hown hts hX0 hbl hK hO hL hr hlocks (L + 1) 0 0 rfl (Nat.zero_le _) (by omega) _ _ _ ls hZ ⟨_, _, _, _, _, _, _, _, _, _, _, f0, f1, hwR.nil⟩ hl
set_option maxHeartbeats 4000000 in
theorem lw_walk (l : Launch) (b : Addr) (xs : List Int32) : MetFree l x (headSpec (Jvm.Cond.code x code maxLocals ret :: tables_1) room_1) (lw_P b xs) (fun _ _ _ _ _ => True) lw_Q := by
  refine MetFree.of_bodyS (code := code) (maxLocals := maxLocals) (ret := ret) (by decide) ?_ ?_
  · intro args s m h hn
    obtain ⟨meth, c, h1, h2, h3, h4, h5, h6, -, -⟩ := Cond.code_spec hn (atoms_spec (ws := Jvm.Cond.code x code maxLocals ret :: tables_1) h _ List.mem_cons_self)
    exact ⟨meth, c, h1, h2, h3, h4, h5, h6⟩
  · intro p e s m args below meth c s₁ B hml0 hP _
    obtain ⟨rfl, hx, hbd, hgv⟩ := hP
    obtain ⟨scr, harrAt, hlist, hof, hsmall⟩ := hx
    obtain ⟨hcb, hkn, -, -⟩ := State.arrayAt?_spec harrAt
    have hown : s.vm.findClass R_law = some m.cls := findClass_of_methodNamed B.named
    have hts0 : ∀ c ∈ (Jvm.Cond.code x code maxLocals ret :: tables_1), c.before #[Value.ref b] s = true := atoms_spec (ws := Jvm.Cond.code x code maxLocals ret :: tables_1) B.pre
    have hts : ∀ w ∈ lw_tbl, w.before #[Value.ref b] s = true := k2_hts_sels lw_privs (fun w hw => hts0 w (List.mem_cons_of_mem _ hw)) lw_privs_ok
    have hml : c.maxLocals = 4 := B.maxLocals_eq (hts0 _ List.mem_cons_self)
    have X₀ : Stand p l e room_1 s m #[Value.ref b] below meth c s₁ [] 0 0 := Stand.of_body B
    have hh0 : s₁.heap = s.heap := by rw [B.state]; rfl
    have hsz : scr.slots.size = xs.length := by rw [← Array.length_toList, hlist, List.length_map]
    have hval : ∀ j : Nat, j < xs.length → scr.slots[j]? = some (.int (xs.getD j 0)) := fun j hj => by
      rw [← Array.getElem?_toList, hlist]
      simp [hj]
    have hbl : b < s.heap.size := (Array.getElem?_eq_some_iff.mp hcb).1
    have hX : va_X b xs.length (fun j => xs.getD j 0) s s.heap := ⟨scr, hcb, hof, hkn, hsz, hval⟩
    have K : W p l e room_1 s m #[Value.ref b] below meth c s₁.heap [] 0 0 (lw_Z below #[Value.ref b] s) (entryFrame m ([Value.ref b] : List Value).toArray 4) := by
      rw [hh0]
      exact whole_start l hbd ⟨B.exec, B.bytes, B.returns, hml, hown, hts, hX, hbl, B.notSynchronized, hgv⟩
    obtain ⟨t, a1, o, b1, b2, b3⟩ := K s₁ rfl X₀
    exact ⟨t, o, a1, b1, b2, b3⟩
theorem lw_pre_spec {args : Array Value} {s : State} (h : (Jvm.Cond.and given_1 narrow_1).before args s = true) (hr : rest_1_c.before args s = true) : ∃ (b : Addr) (xs : List Int32), lw_P b xs args s := by
  have hs := flat_of_before _ h
  have hq := flat_of_before _ hr
  have hc : (Cond.count 1).before args s = true := hs _ (by decide +kernel)
  have harr : (Cond.arrayOf (.arg 0) .int).before args s = true := hs _ (by decide +kernel)
  have hle : (Cond.le (.length (.arg 0)) (.int 2048)).before args s = true := hs _ (by decide +kernel)
  have hlen : (Cond.isInt (.length (.arg 0))).before args s = true := hq _ (by decide +kernel)
  have hall : (Cond.all (.arg 0) (.isInt (.elem (.arg 0) (.index 0)))).before args s = true := hq _ (by decide +kernel)
  obtain ⟨b, xs, hb, hx⟩ := State.ints_of_pre rfl harr hlen hall
  have hsm : xs.length < 2 ^ 31 := hx.choose_spec.2.2.2
  have hev : (Term.length (.arg 0)).eval args s none [] s = some (.int xs.length.toInt32) := hx.length_eval hb
  have hv := Cond.le_ints hev (show (Term.int 2048).eval args s none [] s = some (.int 2048) from rfl)
  have hd : xs.length.toInt32 ≤ 2048 := by
    simpa [Cond.before, Cond.holds, hv] using hle
  have hN : xs.length ≤ 2048 := (Int32.ofNat_le_ofNat hsm (by decide)).mp (show Int32.ofNat xs.length ≤ Int32.ofNat 2048 from hd)
  exact ⟨b, xs, Cond.one_arg hc (show args[0]? = some (.ref b) from hb), hx, hN, h⟩
theorem lw_comes (l : Launch) : Comes l x (Jvm.Cond.code x code maxLocals ret :: tables_1) room_1 (fun tb e args s => Calls_1 tb e args s ∧ rest_1 tb e args s ∧ Pre_1 tb e args s)
    (fun _ _ args s o t => lw_Q args s o t) := by
  intro p e ha hc hk s m args below hf hfit hheap happ hpre
  obtain ⟨b, xs, hP⟩ := lw_pre_spec hpre.2.2 hpre.2.1
  obtain ⟨k, o, h1, h2, h3, hQ⟩ := lw_walk l b xs p e ha hc hk s m args below hf ((Spec.applies_iff_loose hf).mp happ).1 hP trivial
  exact ⟨k, o, h1, h2, h3, hQ⟩
theorem lw_frame {s t : State} {o : Outcome} {args : Array Value} (h : Framed s o t [] 659988 7122284) :
    Framed s o t (fieldLocs frame_1_writes args s ++ arrayLocs frame_1_arrays args s ++ staticLocs frame_1_statics s) 659988 7122284 := h
theorem lw_limb (L : Cond) (hL : ∀ (args : Array Value) (s t : State), L.after args s (.returned (some (.int 1))) t = true) :
    ArmFor flags0 classFile x code maxLocals ret World_1 tables_1 room_1 Calls_1 rest_1 Pre_1
      (fun tb e a s o t => postC L tb e a s o t ∧ Framed s o t (fieldLocs frame_1_writes a s ++ arrayLocs frame_1_arrays a s ++ staticLocs frame_1_statics s) 659988 7122284) := by
  intro l _ _ _ p e ha hc hk s m args below hf hfit hheap happ hpre
  obtain ⟨k, o, h1, h2, h3, rfl, hF⟩ := lw_comes l p e ha hc hk s m args below hf hfit hheap happ hpre
  exact ⟨k, _, h1, h2, h3, hL args s _, lw_frame hF⟩
theorem i_vc : Claimed_1_1 ∧ Claimed_1_2 := ⟨lw_limb limb_1_1 (fun args s t => by simp [limb_1_1, Cond.after, Cond.holds, Cond.value]), lw_limb limb_1_2 (fun args s t => Cond.after_iff.mpr (by
  first | (rw [show limb_1_2 = Cond.eq .result (.int 1) from rfl, Cond.eq_ints (x := 1) (y := 1) rfl rfl]; simp; done) | (simp [limb_1_2, Cond.value, Term.eval]; done)))⟩
