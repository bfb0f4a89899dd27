/-! THE CLAIM OUT OF ONE WALK OF THE LAW'S BODY. Your part is whole_start (and what it stands on); all else here is the same for every law, but numbers. -/
def R_law : String := "WordIndex2Law"
def lw_P (b : Addr) (xs : List Int32) (args : Array Value) (s : State) : Prop := args = #[.ref b] ∧ s.IntsAt b xs ∧ xs.length ≤ 2048 ∧ (Jvm.Cond.and given_1 narrow_1).before args s = true
def lw_Q (_ : Array Value) (s : State) (o : Outcome) (t : State) : Prop := o = .returned (some (.int 1)) ∧ Framed s o t [] 659988 7122284
def lw_Z (below : List Frame) (a : Array Value) (s : State) : State → Prop := fun t => ∃ o, t.status = .running ∧ Ended t below o ∧ lw_Q a s o t
/-- the law's own end, with 1 on the stack, nothing written that was there before, its room as the claim has it -/
theorem lw_ret {p : Program} {l : Launch} {e : Env} {s : State} {m : MethodId} {below : List Frame} {meth : Method} {c : Code} {b : Nat} (hx : p.tables.exec = Jvm.exec) (hb : c.code = code) (hr : meth.sig.returnType = ret) (hlocks : meth.locks = false) {pc : Nat} {H : Heap} {ls : Array Slot} (hdg : decode code pc = .ok (.ireturn, 1)) : W p l e room_1 s m #[Value.ref b] below meth c H [] 659988 7122284 (lw_Z below #[Value.ref b] s) (F0 m pc ls [.int 1]) := by
  intro T hT X
  obtain ⟨fs, hret, hrun, hended, hW, hframe⟩ := X.leave (v := some (.int 1)) (hlocks := hlocks) (fun h => by rw [hr] at h; cases h)
  have hmeth' : T.vm.method? m = some meth := X.method'
  refine ⟨T.setFrames fs, ?_, .returned (some (.int 1)), hrun, hended, rfl, ⟨_, rfl⟩, hW, hframe⟩
  jvm_step X.here [X.here.top, hx, hb, hdg, hmeth', hr, ret, narrow_b1]
  (try refine ⟨rfl, ?_⟩); (try refine ⟨rfl, ?_⟩)
  first | (intro acts; rw [hret _ acts rfl rfl rfl]) | rw [hret _ _ rfl rfl rfl]
  exact Steps.refl _
/-- what holds at the law's entry: the machine, the code, the tables' words (any of lw_tbl by 'hts w (by decide +kernel)'), the script of L ints xs at the cell b, what the Statement gives of the start (any of its parts by flat_of_before) -/
def lw_At (p : Program) (s : State) (m : MethodId) (meth : Method) (c : Code) (b L : Nat) (xs : Nat → Int32) : Prop :=
  p.tables.exec = Jvm.exec ∧ c.code = code ∧ meth.sig.returnType = ret ∧ c.maxLocals = 4 ∧ s.vm.findClass R_law = some m.cls ∧ (∀ w ∈ lw_tbl, w.before #[Value.ref b] s = true) ∧ va_X b L xs s s.heap ∧ b < s.heap.size ∧ meth.locks = false ∧ (Jvm.Cond.and given_1 narrow_1).before #[Value.ref b] s = true
set_option maxHeartbeats 4000000 in
set_option maxRecDepth 100000 in
theorem law_loop {p : Program} {l : Launch} {e : Env} {s : State} {m : MethodId} {below : List Frame} {meth : Method} {c : Code} {D : va_G} {K : Nat → ClassId} {b L : Nat} {xs : Nat → Int32} (hx : p.tables.exec = Jvm.exec) (hb : c.code = code) (hml : c.maxLocals = 4) (hown : s.vm.findClass RLaw = some m.cls) (hts : ∀ w ∈ lw0 :: hwG, w.before #[Value.ref b] s = true) (hX0 : va_X b L xs s s.heap) (hbl : b < s.heap.size) (hK : va_K D vwCl (hwT K) s) (hO : hwO (hwT K) s) (hL : L ≤ 2048) (hr : meth.sig.returnType = ret) (hlocks : meth.locks = false) {qa qm : Nat} : ∀ (n i k : Nat), i = 4 * k → i ≤ L → L + 1 ≤ i + n → ∀ (X : hwW) (H : Heap) (locs : List Loc) (ls : Array Slot), hwZ D vwCl (fun q : Nat => s.heap.size ≤ q) s.heap X H locs → lwI K X qa qm k → lv_has ls 4 [(3, .int (nI i)), (2, .ref qm), (1, .ref qa), (0, .ref b)] → W p l e room_1 s m #[Value.ref b] below meth c H locs (40 + 10 * k) (9000 + 1300 * k) (lw_Z below #[Value.ref b] s) (F0 m 18 ls []) := by
  have hbA : ¬ (fun q : Nat => s.heap.size ≤ q) b := Nat.not_le.mpr hbl
  intro n
  induction n with
  | zero => intro i k _ h1 h2; exact absurd h2 (by omega)
  | succ n ih =>
    intro i k hik hiL hin X H locs ls hZ hI hl
    refine lv_iload_n hx hb dLaw_law_18 rfl (lv_at hl 0 rfl) ?_
    refine lv_aload_n hx hb dLaw_law_19 rfl (lv_at hl 3 rfl) ?_
    refine va_slen hx hb hX0 hbl hbA hZ.2.2 dLaw_law_20 ?_
    refine hw_topi (show Int32.ofNat L = nI L from rfl) ?_
    refine lv_iconst (v := nI 4) hx hb dLaw_law_21 (by decide) ?_
    refine lv_isub hx hb dLaw_law_22 ?_
    refine lv_icmp_gt (tgt := 515) hx hb dLaw_law_23 (by decide) (fun _ => ?_) (fun c9 => ?_)
    · refine lv_iconst (v := 1) hx hb dLaw_law_515 (by decide) ?_
      refine va_forget (fun q hq => hZ.2.2.2.2 q hq) ?_
      refine W.widen (k := 659988) (n := 7122284) (by omega) (by omega) ?_
      exact lw_ret hx hb hr hlocks dLaw_law_516
    · have hi : i + 3 < L := law_lt hL (by omega) c9
      have kk : ∀ (Y : hwW) (H1 : Heap) (locs1 : List Loc), hwZ D vwCl (fun q : Nat => s.heap.size ≤ q) s.heap Y H1 locs1 → lwI K Y qa qm (k + 1) → W p l e room_1 s m #[Value.ref b] below meth c H1 locs1 (40 + 10 * k + 10) (9000 + 1300 * k + 1300) (lw_Z below #[Value.ref b] s) (F0 m 509 ls []) := by
        intro Y H1 locs1 hZ1 hI1
        refine lv_iinc (v := nI (i + 4)) (lv' := [(3, .int (nI (i + 4))), (2, .ref qm), (1, .ref qa), (0, .ref b)]) hx hb dLaw_law_509 hl (k := 0) rfl (nI_add i 4) (by decide) rfl (fun ls hl => ?_)
        refine lv_goto (tgt := 18) hx hb dLaw_law_512 (by decide) ?_
        refine W.widen (k := 40 + 10 * (k + 1)) (n := 9000 + 1300 * (k + 1)) (by omega) (by omega) ?_
        exact ih (i + 4) (k + 1) (by omega) (by omega) (by omega) Y H1 locs1 ls hZ1 hI1 hl
      refine lv_aload_n hx hb dLaw_law_26 rfl (lv_at hl 3 rfl) ?_
      refine lv_iload_n hx hb dLaw_law_27 rfl (lv_at hl 0 rfl) ?_
      refine va_sld hx hb hX0 hbl hbA hZ.2.2 (vp_in_nI (show i < L by omega) (by omega)) dLaw_law_28 ?_
      refine hw_topi (congrArg xs (nI_clamp (show i < 2 ^ 31 by omega))) ?_
      refine lv_bipush (v := nI 15) hx hb dLaw_law_29 (by decide) ?_
      refine lv_iand hx hb dLaw_law_31 ?_
      obtain ⟨v, hv, ev⟩ := pk_andE (xs i) (m := nI 15) 4 (by decide)
      refine hw_topi ev ?_
      have hv : v < 16 := hv
      clear ev
      rcases (show v = 0 ∨ v = 1 ∨ v = 2 ∨ v = 3 ∨ v = 4 ∨ v = 5 ∨ v = 6 ∨ v = 7 ∨ v = 8 ∨ v = 9 ∨ v = 10 ∨ v = 11 ∨ v = 12 ∨ v = 13 ∨ v = 14 ∨ v = 15 by omega) with rfl | rfl | rfl | rfl | rfl | rfl | rfl | rfl | rfl | rfl | rfl | rfl | rfl | rfl | rfl | rfl
      · exact lv_tableIn (off := 72) (tgt := 104) hx hb dLaw_law_32 (by decide) (by decide) rfl (by decide) (law_c0 hx hb hml hown hts hX0 hbl hK hO hL hi (by omega) (by omega) (by omega) hZ hl hI kk)
      · exact lv_tableIn (off := 85) (tgt := 117) hx hb dLaw_law_32 (by decide) (by decide) rfl (by decide) (law_c1 hx hb hml hown hts hX0 hbl hK hO hL hi (by omega) (by omega) (by omega) hZ hl hI kk)
      · exact lv_tableIn (off := 126) (tgt := 158) hx hb dLaw_law_32 (by decide) (by decide) rfl (by decide) (law_c2 hx hb hml hown hts hX0 hbl hK hO hL hi (by omega) (by omega) (by omega) hZ hl hI kk)
      · exact lv_tableIn (off := 149) (tgt := 181) hx hb dLaw_law_32 (by decide) (by decide) rfl (by decide) (law_c3 hx hb hml hown hts hX0 hbl hK hO hL hi (by omega) (by omega) (by omega) hZ hl hI kk)
      · exact lv_tableIn (off := 170) (tgt := 202) hx hb dLaw_law_32 (by decide) (by decide) rfl (by decide) (law_c4 hx hb hml hown hts hX0 hbl hK hO hL hi (by omega) (by omega) (by omega) hZ hl hI kk)
      · exact lv_tableIn (off := 193) (tgt := 225) hx hb dLaw_law_32 (by decide) (by decide) rfl (by decide) (law_c5 hx hb hml hown hts hX0 hbl hK hO hL hi (by omega) (by omega) (by omega) hZ hl hI kk)
      · exact lv_tableIn (off := 216) (tgt := 248) hx hb dLaw_law_32 (by decide) (by decide) rfl (by decide) (law_c6 hx hb hml hown hts hX0 hbl hK hO hL hi (by omega) (by omega) (by omega) hZ hl hI kk)
      · exact lv_tableIn (off := 249) (tgt := 281) hx hb dLaw_law_32 (by decide) (by decide) rfl (by decide) (law_c7 hx hb hml hown hts hX0 hbl hK hO hL hi (by omega) (by omega) (by omega) hZ hl hI kk)
      · exact lv_tableIn (off := 298) (tgt := 330) hx hb dLaw_law_32 (by decide) (by decide) rfl (by decide) (law_c8 hx hb hml hown hts hX0 hbl hK hO hL hi (by omega) (by omega) (by omega) hZ hl hI kk)
      · exact lv_tableIn (off := 331) (tgt := 363) hx hb dLaw_law_32 (by decide) (by decide) rfl (by decide) (law_c9 hx hb hml hown hts hX0 hbl hK hO hL hi (by omega) (by omega) (by omega) hZ hl hI kk)
      · exact lv_tableIn (off := 365) (tgt := 397) hx hb dLaw_law_32 (by decide) (by decide) rfl (by decide) (law_c10 hx hb hml hown hts hX0 hbl hK hO hL hi (by omega) (by omega) (by omega) hZ hl hI kk)
      · exact lv_tableIn (off := 408) (tgt := 440) hx hb dLaw_law_32 (by decide) (by decide) rfl (by decide) (law_c11 hx hb hml hown hts hX0 hbl hK hO hL hi (by omega) (by omega) (by omega) hZ hl hI kk)
      · exact lv_tableIn (off := 431) (tgt := 463) hx hb dLaw_law_32 (by decide) (by decide) rfl (by decide) (law_c12 hx hb hml hown hts hX0 hbl hK hO hL hi (by omega) (by omega) (by omega) hZ hl hI kk)
      · exact lv_tableIn (off := 444) (tgt := 476) hx hb dLaw_law_32 (by decide) (by decide) rfl (by decide) (law_c13 hx hb hml hown hts hX0 hbl hK hO hL hi (by omega) (by omega) (by omega) hZ hl hI kk)
      · refine lv_tableOut (tgt := 509) hx hb dLaw_law_32 (Or.inr (by decide)) (by decide) ?_
        refine W.widen (k := 40 + 10 * k + 10) (n := 9000 + 1300 * k + 1300) (by omega) (by omega) ?_
        obtain ⟨its, fs, lg, qw, qo, qs, ss, hs, sg, st, sd, f0, f1, hR⟩ := hI
        exact kk _ _ _ hZ ⟨_, _, _, _, _, _, _, _, _, _, _, f0, f1, hR.up (Nat.le_succ k)⟩
      · refine lv_tableOut (tgt := 509) hx hb dLaw_law_32 (Or.inr (by decide)) (by decide) ?_
        refine W.widen (k := 40 + 10 * k + 10) (n := 9000 + 1300 * k + 1300) (by omega) (by omega) ?_
        obtain ⟨its, fs, lg, qw, qo, qs, ss, hs, sg, st, sd, f0, f1, hR⟩ := hI
        exact kk _ _ _ hZ ⟨_, _, _, _, _, _, _, _, _, _, _, f0, f1, hR.up (Nat.le_succ k)⟩
