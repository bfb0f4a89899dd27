/-! ===== lN to 2^62 under >> and >>> ===== -/
theorem pf_lI {a : Nat} (h : a < 2 ^ 63) : (lN a).toInt = (a : Int) := lg_ofNat_toInt h
theorem pf_shr {a d : Nat} {D : Int64} (hD : (D.toBitVec.smod 64).toNat = d) (h : a < 2 ^ 62) : lN a >>> D = lN (a / 2 ^ d) := by
  have hd : a / 2 ^ d ≤ a := Nat.div_le_self _ _
  apply Int64.toInt_inj.mp
  have e : (lN a >>> D).toInt = (lN a).toInt >>> d := by
    rw [← hD]
    exact BitVec.toInt_sshiftRight ..
  rw [e, Int.shiftRight_eq_div_pow, pf_lI (by omega), pf_lI (by omega)]
  rfl
theorem lN_bv (n : Nat) : (lN n).toBitVec = BitVec.ofNat 64 n := rfl
theorem lN_nat {n : Nat} (h : n < 2 ^ 64) : (lN n).toBitVec.toNat = n := by rw [lN_bv, BitVec.toNat_ofNat]; exact Nat.mod_eq_of_lt h
theorem lN_xor (a b : Nat) : lN a ^^^ lN b = lN (a ^^^ b) := by
  apply Int64.toBitVec_inj.mp; rw [Int64.toBitVec_xor, lN_bv, lN_bv, lN_bv]; apply BitVec.eq_of_getLsbD_eq; intro i hi; simp [BitVec.getLsbD_ofNat, Nat.testBit_xor, hi]
/-! THE REFERENCE's words: the last letter lowest -/
def rW (w : List Nat) : Nat := eA w w.length
theorem rW_nil : rW [] = 0 := rfl
theorem eA_ups : ∀ (k : Nat) (xs : List Nat) (n : Nat), xs.length ≤ n → eA xs (n + k) = eA xs n * 32 ^ k
  | 0, xs, n, _ => by rw [Nat.add_zero, Nat.pow_zero, Nat.mul_one]
  | k + 1, xs, n, h => by
    rw [← Nat.add_assoc, eA_up xs (n + k) (by omega), eA_ups k xs n h, Nat.pow_succ, Nat.mul_assoc]
theorem rW_al {w : List Nat} (h : okW w) : rW w * 2 ^ (5 * (12 - w.length)) = eW w := by
  have := eA_ups (12 - w.length) w w.length (Nat.le_refl _)
  rw [show w.length + (12 - w.length) = 12 by have := h.1; omega] at this
  unfold eW rW
  rw [this, Nat.pow_mul]
theorem rW_lt {w : List Nat} (h : okW w) : rW w < 2 ^ 60 := by
  have h1 := eA_lt w w.length h.2
  have h2 : (32 : Nat) ^ w.length ≤ 32 ^ 12 := Nat.pow_le_pow_right (by decide) h.1
  have e : (32 : Nat) ^ 12 = 2 ^ 60 := by decide
  unfold rW
  omega
theorem rW_lt62 {w : List Nat} (h : okW w) : rW w < 2 ^ 62 := Nat.lt_trans (rW_lt h) (by decide)
theorem rW_lt63 {w : List Nat} (h : okW w) : rW w < 2 ^ 63 := Nat.lt_trans (rW_lt h) (by decide)
theorem rW_lt64 {w : List Nat} (h : okW w) : rW w < 2 ^ 64 := Nat.lt_trans (rW_lt h) (by decide)
theorem rW_app {w : List Nat} (x : Nat) : rW (w ++ [x]) = rW w * 32 + x := by
  unfold rW
  rw [List.length_append, List.length_singleton, eA_app w x (w.length + 1) (by omega), eA_up w w.length (Nat.le_refl _), show w.length + 1 - 1 - w.length = 0 by omega, Nat.pow_zero, Nat.mul_one]
theorem rW_one (x : Nat) : rW [x] = x := by
  show x * 32 ^ 0 + eA [] 0 = x
  rw [eA_nil]; simp
theorem rW_div {w : List Nat} (h : okL w) {k : Nat} (hk : k ≤ w.length) : rW w / 2 ^ (5 * k) = rW (w.take (w.length - k)) := by
  have h1 := eA_take w w.length k h hk
  have hl : (w.take (w.length - k)).length = w.length - k := by rw [List.length_take]; omega
  have h2 := eA_ups k (w.take (w.length - k)) (w.length - k) (by rw [hl]; exact Nat.le_refl _)
  rw [show w.length - k + k = w.length by omega] at h2
  rw [h2] at h1
  have h3 := Nat.eq_of_mul_eq_mul_right (Nat.pow_pos (by decide)) h1
  unfold rW
  rw [hl, Nat.pow_mul]
  exact h3
theorem rW_div0 {w : List Nat} (h : okL w) {k : Nat} (hk : w.length ≤ k) : rW w / 2 ^ (5 * k) = 0 := by
  apply Nat.div_eq_of_lt
  have h1 := eA_lt w w.length h
  have h2 : (32 : Nat) ^ w.length ≤ 32 ^ k := Nat.pow_le_pow_right (by decide) hk
  rw [Nat.pow_mul]
  unfold rW
  exact Nat.lt_of_lt_of_le h1 h2
theorem rW_letter {w : List Nat} (h : okL w) {k : Nat} (hk : k < w.length) : rW w / 2 ^ (5 * (w.length - 1 - k)) % 32 = w.getD k 0 := by
  have := eA_letter w w.length k h hk
  rw [Nat.pow_mul]
  exact this
theorem rW_last {w : List Nat} (h : okL w) (hk : 0 < w.length) : rW w % 32 = w.getD (w.length - 1) 0 := by
  have := rW_letter h (k := w.length - 1) (by omega)
  rw [show w.length - 1 - (w.length - 1) = 0 by omega, Nat.mul_zero, Nat.pow_zero, Nat.div_one] at this
  exact this
theorem rW_pos {w : List Nat} (h : okL w) (hn : 0 < w.length) : 0 < rW w := by
  cases w with
  | nil => exact absurd hn (Nat.lt_irrefl _)
  | cons x xs =>
    show 0 < x * 32 ^ xs.length + eA xs xs.length
    have h1 := h.hd
    have h2 : 0 < 32 ^ xs.length := Nat.pow_pos (by decide)
    have h3 : 1 * 32 ^ xs.length ≤ x * 32 ^ xs.length := Nat.mul_le_mul_right _ h1.1
    omega
theorem rW_zero {w : List Nat} (h : okW w) : rW w = 0 ↔ w = [] := by
  constructor
  · intro q
    cases w with
    | nil => rfl
    | cons x xs => exact absurd q (by have := rW_pos h.2 (by simp); omega)
  · intro q; rw [q]; rfl
theorem rW_len {w v : List Nat} (h : okL w) (h2 : okL v) (e : rW w = rW v) : w.length ≤ v.length := by
  rcases Nat.lt_or_ge v.length w.length with q | q
  · have h3 := rW_div0 h2 (k := v.length) (Nat.le_refl _)
    have h4 := rW_div h (k := v.length) (by omega)
    rw [e, h3] at h4
    have h5 := rW_pos (h.take (w.length - v.length)) (by rw [List.length_take]; omega)
    omega
  · exact q
theorem rW_inj {w v : List Nat} (hw : okW w) (hv : okW v) : rW w = rW v ↔ w = v := by
  constructor
  · intro e
    have hl : w.length = v.length := Nat.le_antisymm (rW_len hw.2 hv.2 e) (rW_len hv.2 hw.2 e.symm)
    apply (eW_inj hw hv).mp
    rw [← rW_al hw, ← rW_al hv, e, hl]
  · intro e; rw [e]
theorem rW_mod {w : List Nat} (h : okL w) {k : Nat} (hk : k ≤ w.length) : rW w % 2 ^ (5 * k) = rW (w.drop (w.length - k)) := by
  have h1 := Nat.div_add_mod (rW w) (2 ^ (5 * k))
  rw [rW_div h hk] at h1
  have hl : (w.take (w.length - k)).length = w.length - k := by rw [List.length_take]; omega
  have key : ∀ (a b : List Nat), eA (a ++ b) (a.length + b.length) = eA a a.length * 32 ^ b.length + eA b b.length := by
    intro a
    induction a with
    | nil => intro b; simp [eA_nil]
    | cons x xs ih =>
      intro b
      rw [List.cons_append, List.length_cons, show xs.length + 1 + b.length = (xs.length + b.length) + 1 by omega, eA_cons, eA_cons, ih b, Nat.pow_add, Nat.add_mul, Nat.mul_assoc, Nat.add_assoc]
  have h2 := key (w.take (w.length - k)) (w.drop (w.length - k))
  rw [List.take_append_drop, ← List.length_append, List.take_append_drop] at h2
  have hd : (w.drop (w.length - k)).length = k := by rw [List.length_drop]; omega
  have h3 : rW w = rW (w.take (w.length - k)) * 2 ^ (5 * k) + rW (w.drop (w.length - k)) := by
    unfold rW
    rw [Nat.pow_mul]
    rw [hd] at h2 ⊢
    exact h2
  rw [Nat.mul_comm] at h1
  omega
theorem hw_lshr {n k : Nat} (hn : n < 2 ^ 62) (hk : k < 64) : lN n >>> ((nI k).toInt64 &&& 63) = lN (n / 2 ^ k) := by
  rw [wb_c k hk]
  exact pf_shr (by rw [wb_tb, wb_sm k hk, BitVec.toNat_ofNat, Nat.mod_eq_of_lt (by omega)]) hn
theorem lN_zero_iff (n : Nat) : lN n = lN 0 ↔ n % 2 ^ 64 = 0 := by
  constructor
  · intro h
    have h1 : (lN n).toBitVec.toNat = (lN 0).toBitVec.toNat := by rw [h]
    rw [wb_tb, wb_tb, BitVec.toNat_ofNat, BitVec.toNat_ofNat] at h1
    exact h1
  · intro h
    rw [wb_mod n, h]
theorem hw_xsh {a b k : Nat} (hk : k ≤ 64) : lN ((a ^^^ b) * 2 ^ (64 - k)) = lN 0 ↔ a % 2 ^ k = b % 2 ^ k := by
  rw [lN_zero_iff]
  have e : (2 : Nat) ^ 64 = 2 ^ k * 2 ^ (64 - k) := by rw [← Nat.pow_add]; congr 1; omega
  rw [e, Nat.mul_mod_mul_right, Nat.xor_mod_two_pow]
  constructor
  · intro h
    have h2 : a % 2 ^ k ^^^ b % 2 ^ k = 0 := by
      rcases Nat.mul_eq_zero.mp h with q | q
      · exact q
      · exact absurd q (Nat.pos_iff_ne_zero.mp (Nat.pow_pos (by decide)))
    have h3 : a % 2 ^ k ^^^ b % 2 ^ k ^^^ b % 2 ^ k = 0 ^^^ b % 2 ^ k := by rw [h2]
    rw [Nat.xor_assoc, Nat.xor_self, Nat.xor_zero, Nat.zero_xor] at h3
    exact h3
  · intro h
    rw [h, Nat.xor_self, Nat.zero_mul]
/-- a byte's letter -/
def mL (x : Int32) : Nat := if 97 ≤ x.toInt ∧ x.toInt ≤ 122 then x.toInt.toNat - 96 else if 65 ≤ x.toInt ∧ x.toInt ≤ 90 then x.toInt.toNat - 64 else 0
theorem mL_le (x : Int32) : mL x ≤ 26 := by unfold mL; (repeat' split) <;> omega
theorem i8_toInt (c : Int32) : (c.toInt8.toInt32).toInt = if lo8 c < 128 then (lo8 c : Int) else (lo8 c : Int) - 256 := by
  rw [Int8.toInt_toInt32]
  show (c.toBitVec.signExtend 8).toInt = _
  have h : (c.toBitVec.signExtend 8).toNat = lo8 c := by
    rw [BitVec.signExtend_eq_setWidth_of_le _ (by decide), BitVec.toNat_setWidth]
    rfl
  rw [BitVec.toInt_eq_toNat_cond, h]
  split <;> split <;> omega
theorem mL_byte (c : Int32) : mL (c.toInt8.toInt32) = ltr (lo8 c) := by
  have h := i8_toInt c
  have h2 := lo8_lt c
  unfold mL ltr
  rw [h]
  (repeat' split) <;> omega
/-- words in an array of the reference -/
def rvec (f : Nat → Int64) (ws : List (List Nat)) : Prop := ∀ p, p < ws.length → f p = lN (rW (ws.getD p []))
def rwAt (K : Nat → ClassId) (X : hwW) (q L N : Nat) (ws : List (List Nat)) : Prop := ∃ f : Nat → Int64, hwH X q L (.inl (K 1, N, .inr (.inl f))) ∧ ws.length ≤ N ∧ rvec f ws ∧ okWs ws
theorem rwAt.fr {K : Nat → ClassId} {X Y : hwW} {S : Nat → Prop} {q L N : Nat} {ws : List (List Nat)} (hF : hwF X Y S) (h1 : ¬ S L) (h : rwAt K X q L N ws) : rwAt K Y q L N ws := by
  obtain ⟨f, g, r⟩ := h
  exact ⟨f, hF _ _ _ h1 g, r⟩
theorem rwAt.oks {K : Nat → ClassId} {X : hwW} {q L N : Nat} {ws : List (List Nat)} (h : rwAt K X q L N ws) : okWs ws := by
  obtain ⟨f, g, h1, h2, h3⟩ := h
  exact h3
theorem rvec.nil {f : Nat → Int64} : rvec f [] := fun _ h => absurd h (Nat.not_lt_zero _)
theorem rvec.push {f : Nat → Int64} {us : List (List Nat)} {v : List Nat} (h : rvec f us) : rvec (vp_updL f us.length (lN (rW v))) (us ++ [v]) := by
  intro p hp
  have hp' : p < us.length + 1 := by simpa using hp
  by_cases q : p = us.length
  · subst q; rw [pk_uLs, getD_app_last]
  · have hq : p < us.length := by omega
    rw [pk_uLn q, h p hq, getD_app_lo hq]
theorem rvec.setLast {f : Nat → Int64} {us : List (List Nat)} {w v : List Nat} (h : rvec f (us ++ [w])) : rvec (vp_updL f us.length (lN (rW v))) (us ++ [v]) := by
  intro p hp
  have hp' : p < us.length + 1 := by simpa using hp
  by_cases q : p = us.length
  · subst q; rw [pk_uLs, getD_app_last]
  · have hq : p < us.length := by omega
    rw [pk_uLn q, h p (by simp; omega), getD_app_lo hq, getD_app_lo hq]
theorem rvec.last {f : Nat → Int64} {us : List (List Nat)} {w : List Nat} (h : rvec f (us ++ [w])) : f us.length = lN (rW w) := by
  rw [h us.length (by simp), getD_app_last]
def layW (w : List Nat) (x : Nat) : List Nat := if w.length = 12 then w else w ++ [x]
theorem tk_L {us : List (List Nat)} {w : List Nat} {x : Nat} (hw : okW w) (h : x ≠ 0) (h1 : w.length ≠ 0) : tk (us ++ [w], w.length) x = (us ++ [layW w x], (layW w x).length) := by
  unfold layW
  by_cases h2 : w.length = 12
  · rw [if_pos h2, tk_C _ _ h (by omega)]
  · have := hw.1
    rw [if_neg h2, tk_B _ _ h h1 (by omega), List.length_append]; rfl
theorem okW_lay {w : List Nat} {x : Nat} (hw : okW w) (h : x ≠ 0) (h2 : x ≤ 26) : okW (layW w x) := by
  unfold layW
  split
  · exact hw
  · exact hw_app hw h h2 (by have := hw.1; omega)
/-- a row of letters (0: none), as words -/
def tkF (l : List Nat) : List (List Nat) × Nat := l.foldl tk ([], 0)
theorem tkF_snoc (l : List Nat) (x : Nat) : tkF (l ++ [x]) = tk (tkF l) x := by unfold tkF; rw [List.foldl_append]; rfl
theorem txG_tk {ws : List (List Nat)} {o x : Nat} (h : txG ws o) (hok : okWs ws) : txG (tk (ws, o) x).1 (tk (ws, o) x).2 := by
  by_cases hx : x = 0
  · rw [tk_0 _ _ hx]; exact ⟨h.1, Or.inl rfl⟩
  · rcases h.2 with h0 | ⟨us, w, rfl, rfl⟩
    · subst h0
      rw [tk_A _ hx]
      refine ⟨fun v hv => ?_, Or.inr ⟨ws, [x], rfl, rfl⟩⟩
      rcases List.mem_append.mp hv with q | q
      · exact h.1 v q
      · rw [List.mem_singleton.mp q]; exact Nat.le_refl 1
    · have hw1 := h.1 w (by simp)
      have hwo := hok.init.2
      rw [tk_L hwo hx (by omega)]
      refine ⟨fun v hv => ?_, Or.inr ⟨us, layW w x, rfl, rfl⟩⟩
      rcases List.mem_append.mp hv with q | q
      · exact h.1 v (List.mem_append_left _ q)
      · rw [List.mem_singleton.mp q]
        unfold layW
        split
        · exact hw1
        · rw [List.length_append]; simp
theorem okWs_tk {ws : List (List Nat)} {o x : Nat} (h : txG ws o) (hok : okWs ws) (hx26 : x ≤ 26) : okWs (tk (ws, o) x).1 := by
  by_cases hx : x = 0
  · rw [tk_0 _ _ hx]; exact hok
  · rcases h.2 with h0 | ⟨us, w, rfl, rfl⟩
    · subst h0
      rw [tk_A _ hx]
      exact hok.app (okWs.one ⟨Nat.le_of_ble_eq_true rfl, hw_one hx hx26⟩)
    · have hw1 := h.1 w (by simp)
      rw [tk_L hok.init.2 hx (by omega)]
      exact hok.init.1.app (okWs.one (okW_lay hok.init.2 hx hx26))
theorem tk_len {ws : List (List Nat)} {o x : Nat} : (tk (ws, o) x).1.length ≤ ws.length + 1 := by
  unfold tk
  split
  · show ws.length ≤ _; omega
  · split
    · show (ws ++ [[x]]).length ≤ _; simp
    · split
      · show (ws.dropLast ++ [ws.getLastD [] ++ [x]]).length ≤ _
        simp
        try omega
      · show ws.length ≤ _; omega
theorem mL_1 {x : Int32} (h1 : ¬ x < nI 97) (h2 : ¬ nI 122 < x) : x - nI 96 = nI (mL x) := by
  rw [Int32.lt_iff_toInt_lt, nI_toInt (by decide)] at h1 h2
  have e : x = nI x.toInt.toNat := hw_ofI (by omega) (by omega)
  have e2 : mL x = x.toInt.toNat - 96 := by unfold mL; rw [if_pos (by omega)]
  rw [e2]
  have h3 := pk_sub (a := x.toInt.toNat) (b := 96) (by omega)
  rw [← h3, ← e]
theorem mL_2 {x : Int32} (h0 : x < nI 97 ∨ nI 122 < x) (h1 : ¬ x < nI 65) (h2 : ¬ nI 90 < x) : x - nI 64 = nI (mL x) := by
  rw [Int32.lt_iff_toInt_lt, Int32.lt_iff_toInt_lt, nI_toInt (by decide), nI_toInt (by decide)] at h0
  rw [Int32.lt_iff_toInt_lt, nI_toInt (by decide)] at h1 h2
  have e : x = nI x.toInt.toNat := hw_ofI (by omega) (by omega)
  have e2 : mL x = x.toInt.toNat - 64 := by unfold mL; rw [if_neg (by omega), if_pos (by omega)]
  rw [e2]
  have h3 := pk_sub (a := x.toInt.toNat) (b := 64) (by omega)
  rw [← h3, ← e]
theorem mL_3 {x : Int32} (h0 : x < nI 97 ∨ nI 122 < x) (h1 : x < nI 65 ∨ nI 90 < x) : nI 0 = nI (mL x) := by
  rw [Int32.lt_iff_toInt_lt, Int32.lt_iff_toInt_lt, nI_toInt (by decide), nI_toInt (by decide)] at h0 h1
  have e2 : mL x = 0 := by unfold mL; rw [if_neg (by omega), if_neg (by omega)]
  rw [e2]
theorem rW_more {w : List Nat} (h : okL w) {i : Nat} (hc : 0 < rW w / 2 ^ (5 * i)) : i < w.length := by
  rcases Nat.lt_or_ge i w.length with q | q
  · exact q
  · rw [rW_div0 h q] at hc; exact absurd hc (Nat.lt_irrefl _)
theorem rW_less {w : List Nat} (h : okL w) {i : Nat} (hc : rW w / 2 ^ (5 * i) ≤ 0) : w.length ≤ i := by
  rcases Nat.lt_or_ge i w.length with q | q
  · have h2 := rW_div h (k := i) (by omega)
    have h3 := rW_pos (h.take (w.length - i)) (by rw [List.length_take]; omega)
    omega
  · exact q
theorem gw_short {w b : List Nat} {be : Bool} (h : w.length < b.length) : (bif be then endL w b else begL w b) = false := by
  have h1 : endL w b = false := by unfold endL; exact decide_eq_false (fun q => by omega)
  have h2 : begL w b = false := by
    unfold begL
    refine decide_eq_false (fun q => ?_)
    have := congrArg List.length q
    rw [List.length_take] at this
    omega
  cases be
  · exact h2
  · exact h1
theorem gwE_iff {w b : List Nat} (hw : okW w) (hb : okW b) (hq : b.length ≤ w.length) : lN ((rW w ^^^ rW b) * 2 ^ (64 - 5 * b.length)) = lN 0 ↔ endL w b = true := by
  have h12 := hb.1
  rw [hw_xsh (by omega), rW_mod hw.2 hq]
  have h1 : rW b % 2 ^ (5 * b.length) = rW b := by
    have := rW_mod hb.2 (k := b.length) (Nat.le_refl _)
    rw [Nat.sub_self, List.drop_zero] at this
    exact this
  rw [h1, rW_inj (hw.drop _) hb]
  unfold endL
  rw [decide_eq_true_iff]
  exact ⟨fun h => ⟨hq, h⟩, fun h => h.2⟩
theorem gwE_t {w b : List Nat} (hw : okW w) (hb : okW b) (hq : b.length ≤ w.length) (h : lN ((rW w ^^^ rW b) * 2 ^ (64 - 5 * b.length)) = lN 0) : (bif true then endL w b else begL w b) = true := (gwE_iff hw hb hq).mp h
theorem gwE_f {w b : List Nat} (hw : okW w) (hb : okW b) (hq : b.length ≤ w.length) (h : ¬ lN ((rW w ^^^ rW b) * 2 ^ (64 - 5 * b.length)) = lN 0) : (bif true then endL w b else begL w b) = false := Bool.eq_false_iff.mpr (fun q => h ((gwE_iff hw hb hq).mpr q))
theorem gwB_iff {w b : List Nat} (hw : okW w) (hb : okW b) (hq : b.length ≤ w.length) : rW w / 2 ^ (5 * (w.length - b.length)) = rW b ↔ begL w b = true := by
  rw [rW_div hw.2 (by omega), show w.length - (w.length - b.length) = b.length by omega, rW_inj (hw.take _) hb]
  unfold begL
  rw [decide_eq_true_iff]
theorem gwB_t {w b : List Nat} (hw : okW w) (hb : okW b) (hq : b.length ≤ w.length) (h : rW w / 2 ^ (5 * (w.length - b.length)) = rW b) : (bif false then endL w b else begL w b) = true := (gwB_iff hw hb hq).mp h
theorem gwB_f {w b : List Nat} (hw : okW w) (hb : okW b) (hq : b.length ≤ w.length) (h : rW w / 2 ^ (5 * (w.length - b.length)) ≠ rW b) : (bif false then endL w b else begL w b) = false := Bool.eq_false_iff.mpr (fun q => h ((gwB_iff hw hb hq).mpr q))
theorem dMo_isField_0 : decode cMo_isField 0 = .ok (.iload_n 0, 1) := by decide +kernel
theorem dMo_isField_1 : decode cMo_isField 1 = .ok (.ifCond .lt 12, 3) := by decide +kernel
theorem dMo_isField_4 : decode cMo_isField 4 = .ok (.iload_n 0, 1) := by decide +kernel
theorem dMo_isField_5 : decode cMo_isField 5 = .ok (.iconst 4, 1) := by decide +kernel
theorem dMo_isField_6 : decode cMo_isField 6 = .ok (.if_icmp .ge 7, 3) := by decide +kernel
theorem dMo_isField_9 : decode cMo_isField 9 = .ok (.iconst 1, 1) := by decide +kernel
theorem dMo_isField_10 : decode cMo_isField 10 = .ok (.goto 4, 3) := by decide +kernel
theorem dMo_isField_13 : decode cMo_isField 13 = .ok (.iconst 0, 1) := by decide +kernel
theorem dMo_isField_14 : decode cMo_isField 14 = .ok (.ireturn, 1) := by decide +kernel
theorem dMo_letter_0 : decode cMo_letter 0 = .ok (.iload_n 0, 1) := by decide +kernel
theorem dMo_letter_1 : decode cMo_letter 1 = .ok (.bipush 97, 2) := by decide +kernel
theorem dMo_letter_3 : decode cMo_letter 3 = .ok (.if_icmp .lt 16, 3) := by decide +kernel
theorem dMo_letter_6 : decode cMo_letter 6 = .ok (.iload_n 0, 1) := by decide +kernel
theorem dMo_letter_7 : decode cMo_letter 7 = .ok (.bipush 122, 2) := by decide +kernel
theorem dMo_letter_9 : decode cMo_letter 9 = .ok (.if_icmp .gt 10, 3) := by decide +kernel
theorem dMo_letter_12 : decode cMo_letter 12 = .ok (.iload_n 0, 1) := by decide +kernel
theorem dMo_letter_13 : decode cMo_letter 13 = .ok (.bipush 96, 2) := by decide +kernel
theorem dMo_letter_15 : decode cMo_letter 15 = .ok (.isub, 1) := by decide +kernel
theorem dMo_letter_16 : decode cMo_letter 16 = .ok (.goto 23, 3) := by decide +kernel
theorem dMo_letter_19 : decode cMo_letter 19 = .ok (.iload_n 0, 1) := by decide +kernel
theorem dMo_letter_20 : decode cMo_letter 20 = .ok (.bipush 65, 2) := by decide +kernel
theorem dMo_letter_22 : decode cMo_letter 22 = .ok (.if_icmp .lt 16, 3) := by decide +kernel
theorem dMo_letter_25 : decode cMo_letter 25 = .ok (.iload_n 0, 1) := by decide +kernel
theorem dMo_letter_26 : decode cMo_letter 26 = .ok (.bipush 90, 2) := by decide +kernel
theorem dMo_letter_28 : decode cMo_letter 28 = .ok (.if_icmp .gt 10, 3) := by decide +kernel
theorem dMo_letter_31 : decode cMo_letter 31 = .ok (.iload_n 0, 1) := by decide +kernel
theorem dMo_letter_32 : decode cMo_letter 32 = .ok (.bipush 64, 2) := by decide +kernel
theorem dMo_letter_34 : decode cMo_letter 34 = .ok (.isub, 1) := by decide +kernel
theorem dMo_letter_35 : decode cMo_letter 35 = .ok (.goto 4, 3) := by decide +kernel
theorem dMo_letter_38 : decode cMo_letter 38 = .ok (.iconst 0, 1) := by decide +kernel
theorem dMo_letter_39 : decode cMo_letter 39 = .ok (.ireturn, 1) := by decide +kernel
theorem dMo_length_0 : decode cMo_length 0 = .ok (.iconst 0, 1) := by decide +kernel
theorem dMo_length_1 : decode cMo_length 1 = .ok (.istore_n 2, 1) := by decide +kernel
theorem dMo_length_2 : decode cMo_length 2 = .ok (.iload_n 2, 1) := by decide +kernel
theorem dMo_length_3 : decode cMo_length 3 = .ok (.bipush 12, 2) := by decide +kernel
theorem dMo_length_5 : decode cMo_length 5 = .ok (.if_icmp .ge 19, 3) := by decide +kernel
theorem dMo_length_8 : decode cMo_length 8 = .ok (.lload_n 0, 1) := by decide +kernel
theorem dMo_length_9 : decode cMo_length 9 = .ok (.iconst 5, 1) := by decide +kernel
theorem dMo_length_10 : decode cMo_length 10 = .ok (.iload_n 2, 1) := by decide +kernel
theorem dMo_length_11 : decode cMo_length 11 = .ok (.imul, 1) := by decide +kernel
theorem dMo_length_12 : decode cMo_length 12 = .ok (.lshr, 1) := by decide +kernel
theorem dMo_length_13 : decode cMo_length 13 = .ok (.lconst 0, 1) := by decide +kernel
theorem dMo_length_14 : decode cMo_length 14 = .ok (.lcmp, 1) := by decide +kernel
theorem dMo_length_15 : decode cMo_length 15 = .ok (.ifCond .le 9, 3) := by decide +kernel
theorem dMo_length_18 : decode cMo_length 18 = .ok (.iinc 2 1, 3) := by decide +kernel
theorem dMo_length_21 : decode cMo_length 21 = .ok (.goto (-19), 3) := by decide +kernel
theorem dMo_length_24 : decode cMo_length 24 = .ok (.iload_n 2, 1) := by decide +kernel
theorem dMo_length_25 : decode cMo_length 25 = .ok (.ireturn, 1) := by decide +kernel
theorem dMo_last_0 : decode cMo_last 0 = .ok (.lload_n 0, 1) := by decide +kernel
theorem dMo_last_1 : decode cMo_last 1 = .ok (.ldc2_w 75, 3) := by decide +kernel
theorem dMo_last_4 : decode cMo_last 4 = .ok (.land, 1) := by decide +kernel
theorem dMo_last_5 : decode cMo_last 5 = .ok (.l2i, 1) := by decide +kernel
theorem dMo_last_6 : decode cMo_last 6 = .ok (.ireturn, 1) := by decide +kernel
theorem dMo_lay_0 : decode cMo_lay 0 = .ok (.iload_n 2, 1) := by decide +kernel
theorem dMo_lay_1 : decode cMo_lay 1 = .ok (.ifCond .ne 12, 3) := by decide +kernel
theorem dMo_lay_4 : decode cMo_lay 4 = .ok (.aload_n 0, 1) := by decide +kernel
theorem dMo_lay_5 : decode cMo_lay 5 = .ok (.iload_n 1, 1) := by decide +kernel
theorem dMo_lay_6 : decode cMo_lay 6 = .ok (.iload_n 3, 1) := by decide +kernel
theorem dMo_lay_7 : decode cMo_lay 7 = .ok (.i2l, 1) := by decide +kernel
theorem dMo_lay_8 : decode cMo_lay 8 = .ok (.lastore, 1) := by decide +kernel
theorem dMo_lay_9 : decode cMo_lay 9 = .ok (.iload_n 1, 1) := by decide +kernel
theorem dMo_lay_10 : decode cMo_lay 10 = .ok (.iconst 1, 1) := by decide +kernel
theorem dMo_lay_11 : decode cMo_lay 11 = .ok (.iadd, 1) := by decide +kernel
theorem dMo_lay_12 : decode cMo_lay 12 = .ok (.ireturn, 1) := by decide +kernel
theorem dMo_lay_13 : decode cMo_lay 13 = .ok (.aload_n 0, 1) := by decide +kernel
theorem dMo_lay_14 : decode cMo_lay 14 = .ok (.iload_n 1, 1) := by decide +kernel
theorem dMo_lay_15 : decode cMo_lay 15 = .ok (.iconst 1, 1) := by decide +kernel
theorem dMo_lay_16 : decode cMo_lay 16 = .ok (.isub, 1) := by decide +kernel
theorem dMo_lay_17 : decode cMo_lay 17 = .ok (.laload, 1) := by decide +kernel
theorem dMo_lay_18 : decode cMo_lay 18 = .ok (.lstore 4, 2) := by decide +kernel
theorem dMo_lay_20 : decode cMo_lay 20 = .ok (.aload_n 0, 1) := by decide +kernel
theorem dMo_lay_21 : decode cMo_lay 21 = .ok (.iload_n 1, 1) := by decide +kernel
theorem dMo_lay_22 : decode cMo_lay 22 = .ok (.iconst 1, 1) := by decide +kernel
theorem dMo_lay_23 : decode cMo_lay 23 = .ok (.isub, 1) := by decide +kernel
theorem dMo_lay_24 : decode cMo_lay 24 = .ok (.lload 4, 2) := by decide +kernel
theorem dMo_lay_26 : decode cMo_lay 26 = .ok (.invokestatic 77, 3) := by decide +kernel
theorem dMo_lay_29 : decode cMo_lay 29 = .ok (.bipush 12, 2) := by decide +kernel
theorem dMo_lay_31 : decode cMo_lay 31 = .ok (.if_icmp .ne 8, 3) := by decide +kernel
theorem dMo_lay_34 : decode cMo_lay 34 = .ok (.lload 4, 2) := by decide +kernel
theorem dMo_lay_36 : decode cMo_lay 36 = .ok (.goto 12, 3) := by decide +kernel
theorem dMo_lay_39 : decode cMo_lay 39 = .ok (.lload 4, 2) := by decide +kernel
theorem dMo_lay_41 : decode cMo_lay 41 = .ok (.ldc2_w 81, 3) := by decide +kernel
theorem dMo_lay_44 : decode cMo_lay 44 = .ok (.lmul, 1) := by decide +kernel
theorem dMo_lay_45 : decode cMo_lay 45 = .ok (.iload_n 3, 1) := by decide +kernel
theorem dMo_lay_46 : decode cMo_lay 46 = .ok (.i2l, 1) := by decide +kernel
theorem dMo_lay_47 : decode cMo_lay 47 = .ok (.ladd, 1) := by decide +kernel
theorem dMo_lay_48 : decode cMo_lay 48 = .ok (.lastore, 1) := by decide +kernel
theorem dMo_lay_49 : decode cMo_lay 49 = .ok (.iload_n 1, 1) := by decide +kernel
theorem dMo_lay_50 : decode cMo_lay 50 = .ok (.ireturn, 1) := by decide +kernel
theorem dMo_goesWith_0 : decode cMo_goesWith 0 = .ok (.lload_n 0, 1) := by decide +kernel
theorem dMo_goesWith_1 : decode cMo_goesWith 1 = .ok (.invokestatic 77, 3) := by decide +kernel
theorem dMo_goesWith_4 : decode cMo_goesWith 4 = .ok (.lload_n 2, 1) := by decide +kernel
theorem dMo_goesWith_5 : decode cMo_goesWith 5 = .ok (.invokestatic 77, 3) := by decide +kernel
theorem dMo_goesWith_8 : decode cMo_goesWith 8 = .ok (.isub, 1) := by decide +kernel
theorem dMo_goesWith_9 : decode cMo_goesWith 9 = .ok (.istore 5, 2) := by decide +kernel
theorem dMo_goesWith_11 : decode cMo_goesWith 11 = .ok (.iload 5, 2) := by decide +kernel
theorem dMo_goesWith_13 : decode cMo_goesWith 13 = .ok (.ifCond .lt 44, 3) := by decide +kernel
theorem dMo_goesWith_16 : decode cMo_goesWith 16 = .ok (.iload 4, 2) := by decide +kernel
theorem dMo_goesWith_18 : decode cMo_goesWith 18 = .ok (.ifCond .eq 24, 3) := by decide +kernel
theorem dMo_goesWith_21 : decode cMo_goesWith 21 = .ok (.lload_n 0, 1) := by decide +kernel
theorem dMo_goesWith_22 : decode cMo_goesWith 22 = .ok (.lload_n 2, 1) := by decide +kernel
theorem dMo_goesWith_23 : decode cMo_goesWith 23 = .ok (.lxor, 1) := by decide +kernel
theorem dMo_goesWith_24 : decode cMo_goesWith 24 = .ok (.bipush 64, 2) := by decide +kernel
theorem dMo_goesWith_26 : decode cMo_goesWith 26 = .ok (.iconst 5, 1) := by decide +kernel
theorem dMo_goesWith_27 : decode cMo_goesWith 27 = .ok (.lload_n 2, 1) := by decide +kernel
theorem dMo_goesWith_28 : decode cMo_goesWith 28 = .ok (.invokestatic 77, 3) := by decide +kernel
theorem dMo_goesWith_31 : decode cMo_goesWith 31 = .ok (.imul, 1) := by decide +kernel
theorem dMo_goesWith_32 : decode cMo_goesWith 32 = .ok (.isub, 1) := by decide +kernel
theorem dMo_goesWith_33 : decode cMo_goesWith 33 = .ok (.lshl, 1) := by decide +kernel
theorem dMo_goesWith_34 : decode cMo_goesWith 34 = .ok (.lconst 0, 1) := by decide +kernel
theorem dMo_goesWith_35 : decode cMo_goesWith 35 = .ok (.lcmp, 1) := by decide +kernel
theorem dMo_goesWith_36 : decode cMo_goesWith 36 = .ok (.ifCond .ne 21, 3) := by decide +kernel
theorem dMo_goesWith_39 : decode cMo_goesWith 39 = .ok (.goto 14, 3) := by decide +kernel
theorem dMo_goesWith_42 : decode cMo_goesWith 42 = .ok (.lload_n 0, 1) := by decide +kernel
theorem dMo_goesWith_43 : decode cMo_goesWith 43 = .ok (.iconst 5, 1) := by decide +kernel
theorem dMo_goesWith_44 : decode cMo_goesWith 44 = .ok (.iload 5, 2) := by decide +kernel
theorem dMo_goesWith_46 : decode cMo_goesWith 46 = .ok (.imul, 1) := by decide +kernel
theorem dMo_goesWith_47 : decode cMo_goesWith 47 = .ok (.lshr, 1) := by decide +kernel
theorem dMo_goesWith_48 : decode cMo_goesWith 48 = .ok (.lload_n 2, 1) := by decide +kernel
theorem dMo_goesWith_49 : decode cMo_goesWith 49 = .ok (.lcmp, 1) := by decide +kernel
theorem dMo_goesWith_50 : decode cMo_goesWith 50 = .ok (.ifCond .ne 7, 3) := by decide +kernel
theorem dMo_goesWith_53 : decode cMo_goesWith 53 = .ok (.iconst 1, 1) := by decide +kernel
theorem dMo_goesWith_54 : decode cMo_goesWith 54 = .ok (.goto 4, 3) := by decide +kernel
theorem dMo_goesWith_57 : decode cMo_goesWith 57 = .ok (.iconst 0, 1) := by decide +kernel
theorem dMo_goesWith_58 : decode cMo_goesWith 58 = .ok (.ireturn, 1) := by decide +kernel
theorem dMo_aligned_0 : decode cMo_aligned 0 = .ok (.lload_n 0, 1) := by decide +kernel
theorem dMo_aligned_1 : decode cMo_aligned 1 = .ok (.iconst 5, 1) := by decide +kernel
theorem dMo_aligned_2 : decode cMo_aligned 2 = .ok (.bipush 12, 2) := by decide +kernel
theorem dMo_aligned_4 : decode cMo_aligned 4 = .ok (.lload_n 0, 1) := by decide +kernel
theorem dMo_aligned_5 : decode cMo_aligned 5 = .ok (.invokestatic 77, 3) := by decide +kernel
theorem dMo_aligned_8 : decode cMo_aligned 8 = .ok (.isub, 1) := by decide +kernel
theorem dMo_aligned_9 : decode cMo_aligned 9 = .ok (.imul, 1) := by decide +kernel
theorem dMo_aligned_10 : decode cMo_aligned 10 = .ok (.lshl, 1) := by decide +kernel
theorem dMo_aligned_11 : decode cMo_aligned 11 = .ok (.lreturn, 1) := by decide +kernel
theorem dMo_at_0 : decode cMo_at 0 = .ok (.lload_n 0, 1) := by decide +kernel
theorem dMo_at_1 : decode cMo_at 1 = .ok (.iconst 5, 1) := by decide +kernel
theorem dMo_at_2 : decode cMo_at 2 = .ok (.iload_n 2, 1) := by decide +kernel
theorem dMo_at_3 : decode cMo_at 3 = .ok (.iconst 1, 1) := by decide +kernel
theorem dMo_at_4 : decode cMo_at 4 = .ok (.isub, 1) := by decide +kernel
theorem dMo_at_5 : decode cMo_at 5 = .ok (.iload_n 3, 1) := by decide +kernel
theorem dMo_at_6 : decode cMo_at 6 = .ok (.isub, 1) := by decide +kernel
theorem dMo_at_7 : decode cMo_at 7 = .ok (.imul, 1) := by decide +kernel
theorem dMo_at_8 : decode cMo_at 8 = .ok (.lshr, 1) := by decide +kernel
theorem dMo_at_9 : decode cMo_at 9 = .ok (.ldc2_w 75, 3) := by decide +kernel
theorem dMo_at_12 : decode cMo_at 12 = .ok (.land, 1) := by decide +kernel
theorem dMo_at_13 : decode cMo_at 13 = .ok (.l2i, 1) := by decide +kernel
theorem dMo_at_14 : decode cMo_at 14 = .ok (.ireturn, 1) := by decide +kernel
theorem dMo_least_0 : decode cMo_least 0 = .ok (.iload_n 1, 1) := by decide +kernel
theorem dMo_least_1 : decode cMo_least 1 = .ok (.iload_n 2, 1) := by decide +kernel
theorem dMo_least_2 : decode cMo_least 2 = .ok (.if_icmp .ge 7, 3) := by decide +kernel
theorem dMo_least_5 : decode cMo_least 5 = .ok (.iload_n 1, 1) := by decide +kernel
theorem dMo_least_6 : decode cMo_least 6 = .ok (.goto 4, 3) := by decide +kernel
theorem dMo_least_9 : decode cMo_least 9 = .ok (.iload_n 2, 1) := by decide +kernel
theorem dMo_least_10 : decode cMo_least 10 = .ok (.ireturn, 1) := by decide +kernel
theorem mm_361 : (.constantLong RMo 75 31 : Cond) ∈ hwG := hwIx 682 (by decide +kernel) (by decide +kernel)
theorem mm_362 : (.code yMo_length cMo_length 3 (some .int) : Cond) ∈ hwG := hwIx 669 (by decide +kernel) (by decide +kernel)
theorem mm_363 : (.static yMo_length : Cond) ∈ hwG := hwIx 668 (by decide +kernel) (by decide +kernel)
theorem mm_364 : (.methodLink RMo 77 yMo_length : Cond) ∈ hwG := hwIx 667 (by decide +kernel) (by decide +kernel)
theorem mm_365 : (.initialized RMo : Cond) ∈ hwG := hwIx 39 (by decide +kernel) (by decide +kernel)
theorem mm_366 : (.constantLong RMo 81 32 : Cond) ∈ hwG := hwIx 670 (by decide +kernel) (by decide +kernel)
set_option maxHeartbeats 4000000 in
set_option maxRecDepth 100000 in
theorem m_isField (l : Launch) (D : va_G) (K : Nat → ClassId) (X : hwW) (sz : Nat) (j : Nat) (hj : j < 4) : Met l yMo_isField (.code yMo_isField cMo_isField 1 (some .boolean) :: hwG) ({ frames := 0, cells := 0, slots := 0, locals := 0 } : Room) (hwPc D vwCl (hwT K) [.int (nI j)] X sz) (hwQi D vwCl X sz (fun r Y => r = bI true ∧ X = Y)) 0 0 (va_A X.1 sz) := by
  refine hwMetz (cc := cMo_isField) (maxL := 1) (by decide) rfl (Nat.le_of_ble_eq_true rfl) (fun p e s m args below meth c ls A Q hx hb hml hown hts hname hret hK hO hZ hA hl => ?_)
  have hl : lv_has ls 1 [(0, .int (nI j))] := hl
  refine lv_iload_n hx hb dMo_isField_0 rfl (lv_at hl 0 rfl) ?_
  refine hw_if_lt (a := j) (tgt := 13) hx hb dMo_isField_1 (by decide) (by omega) (fun cq_1 => by exfalso; omega) (fun cq_1 => ?_)
  refine lv_iload_n hx hb dMo_isField_4 rfl (lv_at hl 0 rfl) ?_
  refine lv_iconst (v := nI 4) hx hb dMo_isField_5 (by decide) ?_
  refine hw_ic_ge (a := j) (b := 4) (tgt := 13) hx hb dMo_isField_6 (by decide) (by omega) (by omega) (fun cq_2 => by exfalso; omega) (fun cq_2 => ?_)
  refine lv_iconst (v := nI 1) hx hb dMo_isField_9 (by decide) ?_
  refine lv_goto (tgt := 14) hx hb dMo_isField_10 (by decide) ?_
  exact hret (by decide) hZ ⟨rfl, rfl⟩ dMo_isField_14
set_option maxHeartbeats 4000000 in
set_option maxRecDepth 100000 in
theorem m_isFieldB (l : Launch) (D : va_G) (K : Nat → ClassId) (X : hwW) (sz : Nat) (kind : Int32) (hk : badK kind) : Met l yMo_isField (.code yMo_isField cMo_isField 1 (some .boolean) :: hwG) ({ frames := 0, cells := 0, slots := 0, locals := 0 } : Room) (hwPc D vwCl (hwT K) [.int kind] X sz) (hwQi D vwCl X sz (fun r Y => r = bI false ∧ X = Y)) 0 0 (va_A X.1 sz) := by
  refine hwMetz (cc := cMo_isField) (maxL := 1) (by decide) rfl (Nat.le_of_ble_eq_true rfl) (fun p e s m args below meth c ls A Q hx hb hml hown hts hname hret hK hO hZ hA hl => ?_)
  have hl : lv_has ls 1 [(0, .int kind)] := hl
  rcases hk with hk | hk
  · refine lv_iload_n hx hb dMo_isField_0 rfl (lv_at hl 0 rfl) ?_
    refine lv_if_lt (tgt := 13) hx hb dMo_isField_1 (by decide) (fun cq_1 => ?_) (fun cq_1 => absurd hk cq_1)
    refine lv_iconst (v := nI 0) hx hb dMo_isField_13 (by decide) ?_
    exact hret (by decide) hZ ⟨rfl, rfl⟩ dMo_isField_14
  · refine lv_iload_n hx hb dMo_isField_0 rfl (lv_at hl 0 rfl) ?_
    refine lv_if_lt (tgt := 13) hx hb dMo_isField_1 (by decide) (fun cq_2 => absurd cq_2 (hw_nn4 (n := 4) (by decide) hk)) (fun cq_2 => ?_)
    refine lv_iload_n hx hb dMo_isField_4 rfl (lv_at hl 0 rfl) ?_
    refine lv_iconst (v := nI 4) hx hb dMo_isField_5 (by decide) ?_
    refine lv_icmp_ge (tgt := 13) hx hb dMo_isField_6 (by decide) (fun cq_3 => ?_) (fun cq_3 => absurd hk cq_3)
    refine lv_iconst (v := nI 0) hx hb dMo_isField_13 (by decide) ?_
    exact hret (by decide) hZ ⟨rfl, rfl⟩ dMo_isField_14
set_option maxHeartbeats 4000000 in
set_option maxRecDepth 100000 in
theorem m_letter (l : Launch) (D : va_G) (K : Nat → ClassId) (X : hwW) (sz : Nat) (x : Int32)  : Met l yMo_letter (.code yMo_letter cMo_letter 1 (some .int) :: hwG) ({ frames := 0, cells := 0, slots := 0, locals := 0 } : Room) (hwPc D vwCl (hwT K) [.int x] X sz) (hwQi D vwCl X sz (fun r Y => r = nI (mL x) ∧ X = Y ∧ mL x ≤ 26)) 0 0 (va_A X.1 sz) := by
  refine hwMeti (cc := cMo_letter) (maxL := 1) (by decide) rfl (Nat.le_of_ble_eq_true rfl) (fun p e s m args below meth c ls A Q hx hb hml hown hts hname hret hK hO hZ hA hl => ?_)
  have hl : lv_has ls 1 [(0, .int x)] := hl
  refine lv_iload_n hx hb dMo_letter_0 rfl (lv_at hl 0 rfl) ?_
  refine lv_bipush (v := nI 97) hx hb dMo_letter_1 (by decide) ?_
  refine lv_icmp_lt (tgt := 19) hx hb dMo_letter_3 (by decide) (fun cq_1 => ?_) (fun cq_1 => ?_)
  · refine lv_iload_n hx hb dMo_letter_19 rfl (lv_at hl 0 rfl) ?_
    refine lv_bipush (v := nI 65) hx hb dMo_letter_20 (by decide) ?_
    refine lv_icmp_lt (tgt := 38) hx hb dMo_letter_22 (by decide) (fun cq_2 => ?_) (fun cq_2 => ?_)
    · refine lv_iconst (v := nI 0) hx hb dMo_letter_38 (by decide) ?_
      exact hret hZ ⟨mL_3 (Or.inl cq_1) (Or.inl cq_2), rfl, mL_le x⟩ dMo_letter_39
    · refine lv_iload_n hx hb dMo_letter_25 rfl (lv_at hl 0 rfl) ?_
      refine lv_bipush (v := nI 90) hx hb dMo_letter_26 (by decide) ?_
      refine lv_icmp_gt (tgt := 38) hx hb dMo_letter_28 (by decide) (fun cq_3 => ?_) (fun cq_3 => ?_)
      · refine lv_iconst (v := nI 0) hx hb dMo_letter_38 (by decide) ?_
        exact hret hZ ⟨mL_3 (Or.inl cq_1) (Or.inr cq_3), rfl, mL_le x⟩ dMo_letter_39
      · refine lv_iload_n hx hb dMo_letter_31 rfl (lv_at hl 0 rfl) ?_
        refine lv_bipush (v := nI 64) hx hb dMo_letter_32 (by decide) ?_
        refine lv_isub hx hb dMo_letter_34 ?_
        refine lv_goto (tgt := 39) hx hb dMo_letter_35 (by decide) ?_
        exact hret hZ ⟨mL_2 (Or.inl cq_1) cq_2 cq_3, rfl, mL_le x⟩ dMo_letter_39
  · refine lv_iload_n hx hb dMo_letter_6 rfl (lv_at hl 0 rfl) ?_
    refine lv_bipush (v := nI 122) hx hb dMo_letter_7 (by decide) ?_
    refine lv_icmp_gt (tgt := 19) hx hb dMo_letter_9 (by decide) (fun cq_4 => ?_) (fun cq_4 => ?_)
    · refine lv_iload_n hx hb dMo_letter_19 rfl (lv_at hl 0 rfl) ?_
      refine lv_bipush (v := nI 65) hx hb dMo_letter_20 (by decide) ?_
      refine lv_icmp_lt (tgt := 38) hx hb dMo_letter_22 (by decide) (fun cq_5 => ?_) (fun cq_5 => ?_)
      · refine lv_iconst (v := nI 0) hx hb dMo_letter_38 (by decide) ?_
        exact hret hZ ⟨mL_3 (Or.inr cq_4) (Or.inl cq_5), rfl, mL_le x⟩ dMo_letter_39
      · refine lv_iload_n hx hb dMo_letter_25 rfl (lv_at hl 0 rfl) ?_
        refine lv_bipush (v := nI 90) hx hb dMo_letter_26 (by decide) ?_
        refine lv_icmp_gt (tgt := 38) hx hb dMo_letter_28 (by decide) (fun cq_6 => ?_) (fun cq_6 => ?_)
        · refine lv_iconst (v := nI 0) hx hb dMo_letter_38 (by decide) ?_
          exact hret hZ ⟨mL_3 (Or.inr cq_4) (Or.inr cq_6), rfl, mL_le x⟩ dMo_letter_39
        · refine lv_iload_n hx hb dMo_letter_31 rfl (lv_at hl 0 rfl) ?_
          refine lv_bipush (v := nI 64) hx hb dMo_letter_32 (by decide) ?_
          refine lv_isub hx hb dMo_letter_34 ?_
          refine lv_goto (tgt := 39) hx hb dMo_letter_35 (by decide) ?_
          exact hret hZ ⟨mL_2 (Or.inr cq_4) cq_5 cq_6, rfl, mL_le x⟩ dMo_letter_39
    · refine lv_iload_n hx hb dMo_letter_12 rfl (lv_at hl 0 rfl) ?_
      refine lv_bipush (v := nI 96) hx hb dMo_letter_13 (by decide) ?_
      refine lv_isub hx hb dMo_letter_15 ?_
      refine lv_goto (tgt := 39) hx hb dMo_letter_16 (by decide) ?_
      exact hret hZ ⟨mL_1 cq_1 cq_4, rfl, mL_le x⟩ dMo_letter_39
set_option maxHeartbeats 4000000 in
set_option maxRecDepth 100000 in
theorem m_length (l : Launch) (D : va_G) (K : Nat → ClassId) (X : hwW) (sz : Nat) (w : List Nat) (hw : okW w) : Met l yMo_length (.code yMo_length cMo_length 3 (some .int) :: hwG) ({ frames := 0, cells := 0, slots := 0, locals := 0 } : Room) (hwPc D vwCl (hwT K) [.long (lN (rW w))] X sz) (hwQi D vwCl X sz (fun r Y => r = nI w.length ∧ X = Y ∧ w.length ≤ 12)) 0 0 (va_A X.1 sz) := by
  refine hwMeti (cc := cMo_length) (maxL := 3) (by decide) rfl (Nat.le_of_ble_eq_true rfl) (fun p e s m args below meth c ls A Q hx hb hml hown hts hname hret hK hO hZ hA hl => ?_)
  have hl : lv_has ls 3 [(0, .long (lN (rW w)))] := hl
  have hw12 := hw.1
  refine lv_iconst (v := nI 0) hx hb dMo_length_0 (by decide) ?_
  refine lv_istore_n (lv' := [(2, .int (nI 0)), (0, .long (lN (rW w)))]) hx hb dMo_length_1 rfl hl (by decide) rfl (fun ls hl => ?_)
  have loop2 : ∀ (fuel : Nat) (i : Nat) (Hh : Heap) (lcs : List Loc) (ls : Array Slot), 12 - i < fuel → (i ≤ w.length) → hwZ D vwCl A s.heap X Hh lcs → lv_has ls 3 [(2, .int (nI i)), (0, .long (lN (rW w)))] → W p l e ({ frames := 0, cells := 0, slots := 0, locals := 0 } : Room) s m args below meth c Hh lcs 0 0 Q (F0 m 2 ls []) := by
    intro fuel; induction fuel with
    | zero => intro i Hh lcs ls hfu; exact absurd hfu (Nat.not_lt_zero _)
    | succ fuel ih2 =>
      intro i Hh lcs ls hfu2 hi hZ hl
      refine lv_iload_n hx hb dMo_length_2 rfl (lv_at hl 0 rfl) ?_
      refine lv_bipush (v := nI 12) hx hb dMo_length_3 (by decide) ?_
      refine hw_ic_ge (a := i) (b := 12) (tgt := 24) hx hb dMo_length_5 (by decide) (by omega) (by omega) (fun cq_1 => ?_) (fun cq_1 => ?_)
      · refine lv_iload_n hx hb dMo_length_24 rfl (lv_at hl 0 rfl) ?_
        exact hret hZ ⟨congrArg nI (by first | omega | (have hq := rW_less hw.2 cq_1; omega)), rfl, hw.1⟩ dMo_length_25
      · refine lv_lload_n hx hb dMo_length_8 rfl (lv_at hl 1 rfl) ?_
        refine lv_iconst (v := nI 5) hx hb dMo_length_9 (by decide) ?_
        refine lv_iload_n hx hb dMo_length_10 rfl (lv_at hl 0 rfl) ?_
        refine lv_imul hx hb dMo_length_11 ?_
        refine hw_topi (pk_mul 5 i) ?_
        refine lv_lshr hx hb dMo_length_12 (hw_lshr (n := rW w) (k := 5 * i) (by first | exact rW_lt62 (by assumption) | exact rW_lt62 (hR2 _) | omega) (by omega)) ?_
        refine lv_lconst (v := lN 0) hx hb dMo_length_13 rfl ?_
        refine hw_lc_le (a := (rW w) / 2 ^ (5 * i)) (b := 0) (tgt := 24) hx hb dMo_length_14 dMo_length_15 (by decide) (by first | exact Nat.lt_of_le_of_lt (Nat.div_le_self _ _) (rW_lt63 hw) | decide) (by first | exact Nat.lt_of_le_of_lt (Nat.div_le_self _ _) (rW_lt63 hw) | decide) (fun cq_2 => ?_) (fun cq_2 => ?_)
        · refine lv_iload_n hx hb dMo_length_24 rfl (lv_at hl 0 rfl) ?_
          exact hret hZ ⟨congrArg nI (by first | omega | (have hq := rW_less hw.2 cq_2; omega)), rfl, hw.1⟩ dMo_length_25
        · refine lv_iinc (v := nI (i + 1)) (lv' := [(2, .int (nI (i + 1))), (0, .long (lN (rW w)))]) hx hb dMo_length_18 hl (k := 0) rfl (nI_add _ 1) (by decide) rfl (fun ls hl => ?_)
          refine lv_goto (tgt := 2) hx hb dMo_length_21 (by decide) ?_
          have hq := rW_more hw.2 cq_2
          exact ih2 (i + 1) _ _ _ (by omega) (by omega)  hZ (lv_sub hl [0, 1] rfl)
  exact loop2 (12 - 0 + 1) 0 _ _ _ (by omega) (Nat.zero_le _)  hZ (lv_sub hl [0, 1] rfl)
set_option maxHeartbeats 4000000 in
set_option maxRecDepth 100000 in
theorem m_last0 (l : Launch) (D : va_G) (K : Nat → ClassId) (X : hwW) (sz : Nat)   : Met l yMo_last (.code yMo_last cMo_last 2 (some .int) :: hwG) ({ frames := 0, cells := 0, slots := 0, locals := 0 } : Room) (hwPc D vwCl (hwT K) [.long (lN (rW []))] X sz) (hwQi D vwCl X sz (fun r Y => r = nI 0 ∧ X = Y)) 0 0 (va_A X.1 sz) := by
  refine hwMeti (cc := cMo_last) (maxL := 2) (by decide) rfl (Nat.le_of_ble_eq_true rfl) (fun p e s m args below meth c ls A Q hx hb hml hown hts hname hret hK hO hZ hA hl => ?_)
  have hl : lv_has ls 2 [(0, .long (lN (rW [])))] := hl
  refine lv_lload_n hx hb dMo_last_0 rfl (lv_at hl 0 rfl) ?_
  refine lv_ldc2 (v := lN 31) hx hb hown (hts (.constantLong RMo 75 31) (hwMem mm_361)) dMo_last_1 ?_
  refine lv_land hx hb dMo_last_4 ?_
  refine hw_topl (hw_lmask (rW []) 5 rfl (by decide)) ?_
  refine lv_l2i hx hb dMo_last_5 (lN_i ((rW []) % 32)) ?_
  exact hret hZ ⟨rfl, rfl⟩ dMo_last_6
set_option maxHeartbeats 4000000 in
set_option maxRecDepth 100000 in
theorem m_last (l : Launch) (D : va_G) (K : Nat → ClassId) (X : hwW) (sz : Nat) (w : List Nat) (hw : okW w) (hn : 1 ≤ w.length) : Met l yMo_last (.code yMo_last cMo_last 2 (some .int) :: hwG) ({ frames := 0, cells := 0, slots := 0, locals := 0 } : Room) (hwPc D vwCl (hwT K) [.long (lN (rW w))] X sz) (hwQi D vwCl X sz (fun r Y => r = nI (w.getD (w.length - 1) 0) ∧ X = Y ∧ w.getD (w.length - 1) 0 ≤ 26)) 0 0 (va_A X.1 sz) := by
  refine hwMeti (cc := cMo_last) (maxL := 2) (by decide) rfl (Nat.le_of_ble_eq_true rfl) (fun p e s m args below meth c ls A Q hx hb hml hown hts hname hret hK hO hZ hA hl => ?_)
  have hl : lv_has ls 2 [(0, .long (lN (rW w)))] := hl
  refine lv_lload_n hx hb dMo_last_0 rfl (lv_at hl 0 rfl) ?_
  refine lv_ldc2 (v := lN 31) hx hb hown (hts (.constantLong RMo 75 31) (hwMem mm_361)) dMo_last_1 ?_
  refine lv_land hx hb dMo_last_4 ?_
  refine hw_topl (hw_lmask (rW w) 5 rfl (by decide)) ?_
  refine lv_l2i hx hb dMo_last_5 (lN_i ((rW w) % 32)) ?_
  exact hret hZ ⟨congrArg nI (rW_last hw.2 (by omega)), rfl, getD_le hw.2 _⟩ dMo_last_6
set_option maxHeartbeats 4000000 in
set_option maxRecDepth 100000 in
theorem m_lay0 (l : Launch) (D : va_G) (K : Nat → ClassId) (X : hwW) (sz : Nat) (q : Nat) (L : Nat) (N : Nat) (ws : List (List Nat)) (x : Nat) (f0_ : rwAt K X q L N ws) (hn : ws.length < N) (hNN : N ≤ 3000) (hx1 : x ≠ 0) (hx2 : x ≤ 26) : Met l yMo_lay (.code yMo_lay cMo_lay 6 (some .int) :: hwG) ({ frames := 1, cells := 0, slots := 0, locals := 22 } : Room) (hwPc D vwCl (hwT K) [.ref q, .int (nI ws.length), .int (bI false), .int (nI x)] X sz) (hwQi D vwCl X sz (fun r Y => r = nI (ws.length + 1) ∧ hwF X Y (fun M => M = L) ∧ rwAt K Y q L N (ws ++ [[x]]))) 0 0 (va_A X.1 sz) := by
  refine hwMeti (cc := cMo_lay) (maxL := 6) (by decide) rfl (Nat.le_of_ble_eq_true rfl) (fun p e s m args below meth c ls A Q hx hb hml hown hts hname hret hK hO hZ hA hl => ?_)
  have hl : lv_has ls 6 [(0, .ref q), (1, .int (nI ws.length)), (2, .int (bI false)), (3, .int (nI x))] := hl
  have hFr : hwF X X (fun M => M = L) := hwF.rf
  obtain ⟨f, g, hN, hv, hk⟩ := f0_
  refine lv_iload_n hx hb dMo_lay_0 rfl (lv_at hl 2 rfl) ?_
  refine hw_bz_neF (tgt := 13) hx hb dMo_lay_1 (by decide) rfl ?_
  refine lv_aload_n hx hb dMo_lay_4 rfl (lv_at hl 0 rfl) ?_
  refine lv_iload_n hx hb dMo_lay_5 rfl (lv_at hl 1 rfl) ?_
  refine lv_iload_n hx hb dMo_lay_6 rfl (lv_at hl 3 rfl) ?_
  refine lv_i2l hx hb dMo_lay_7 (nI_l (n := x) (by omega)) ?_
  refine hw_last hx hb hK hZ 1 g rfl (j := ws.length) (by omega) (by omega) dMo_lay_8 (fun X_2 H_3 lc_4 hZ hF hNw => ?_)
  have hFr := hwF.tr hFr hF (fun _ h => h) (fun M h => by first | exact False.elim h | ((try dsimp only at h ⊢); omega))
  have g := hNw
  refine lv_iload_n hx hb dMo_lay_9 rfl (lv_at hl 1 rfl) ?_
  refine lv_iconst (v := nI 1) hx hb dMo_lay_10 (by decide) ?_
  refine lv_iadd hx hb dMo_lay_11 ?_
  refine hw_topi (nI_add ws.length 1) ?_
  exact hret hZ ⟨rfl, hFr, _, g, by simp; omega, by have h9 := hv.push (v := [x]); rw [rW_one] at h9; exact h9, hk.app (okWs.one ⟨Nat.le_of_ble_eq_true rfl, hw_one hx1 hx2⟩)⟩ dMo_lay_12
set_option maxHeartbeats 4000000 in
set_option maxRecDepth 100000 in
theorem m_lay1 (l : Launch) (D : va_G) (K : Nat → ClassId) (X : hwW) (sz : Nat) (q : Nat) (L : Nat) (N : Nat) (us : List (List Nat)) (w : List Nat) (x : Nat) (f0_ : rwAt K X q L N (us ++ [w])) (hNN : N ≤ 3000) (hx1 : x ≠ 0) (hx2 : x ≤ 26) : Met l yMo_lay (.code yMo_lay cMo_lay 6 (some .int) :: hwG) ({ frames := 1, cells := 0, slots := 0, locals := 22 } : Room) (hwPc D vwCl (hwT K) [.ref q, .int (nI (us.length + 1)), .int (bI true), .int (nI x)] X sz) (hwQi D vwCl X sz (fun r Y => r = nI (us.length + 1) ∧ hwF X Y (fun M => M = L) ∧ rwAt K Y q L N (us ++ [layW w x]))) 0 0 (va_A X.1 sz) := by
  refine hwMeti (cc := cMo_lay) (maxL := 6) (by decide) rfl (Nat.le_of_ble_eq_true rfl) (fun p e s m args below meth c ls A Q hx hb hml hown hts hname hret hK hO hZ hA hl => ?_)
  have hl : lv_has ls 6 [(0, .ref q), (1, .int (nI (us.length + 1))), (2, .int (bI true)), (3, .int (nI x))] := hl
  have hFr : hwF X X (fun M => M = L) := hwF.rf
  obtain ⟨f, g, hN, hv, hk⟩ := f0_
  rw [show ((us ++ [w] : List (List Nat))).length = us.length + 1 by simp] at hN
  have hw := hk.init.2
  refine lv_iload_n hx hb dMo_lay_0 rfl (lv_at hl 2 rfl) ?_
  refine hw_bz_neT (tgt := 13) hx hb dMo_lay_1 (by decide) rfl ?_
  refine lv_aload_n hx hb dMo_lay_13 rfl (lv_at hl 0 rfl) ?_
  refine lv_iload_n hx hb dMo_lay_14 rfl (lv_at hl 1 rfl) ?_
  refine lv_iconst (v := nI 1) hx hb dMo_lay_15 (by decide) ?_
  refine lv_isub hx hb dMo_lay_16 ?_
  refine hw_topi (pk_sub (a := us.length + 1) (b := 1) (by omega)) ?_
  refine hw_lald hx hb hK hZ 1 g rfl (j := us.length + 1 - 1) (by omega) (by omega) dMo_lay_17 ?_
  refine hw_topl hv.last ?_
  refine lv_lstore (lv' := [(4, .long (lN (rW w))), (0, .ref q), (1, .int (nI (us.length + 1))), (2, .int (bI true)), (3, .int (nI x))]) hx hb dMo_lay_18 hl (by decide) rfl (fun ls hl => ?_)
  refine lv_aload_n hx hb dMo_lay_20 rfl (lv_at hl 1 rfl) ?_
  refine lv_iload_n hx hb dMo_lay_21 rfl (lv_at hl 2 rfl) ?_
  refine lv_iconst (v := nI 1) hx hb dMo_lay_22 (by decide) ?_
  refine lv_isub hx hb dMo_lay_23 ?_
  refine hw_topi (pk_sub (a := us.length + 1) (b := 1) (by omega)) ?_
  refine lv_lload hx hb dMo_lay_24 (lv_at hl 0 rfl) ?_
  refine hw_calli (va_runS (As := [.long (lN (rW w))]) (rest := [.int (nI (us.length + 1 - 1)), .ref q]) ⟨hx, hb, hml, hown, hts⟩ (m_length l D K X s.heap.size (w := w) (by assumption)) (va_cwS 1 hts (hwGood (hw_3 mm_364 mm_363 mm_365 (hwAll mm_362))) rfl rfl rfl (by decide +kernel) ⟨Nat.le_of_ble_eq_true rfl, Nat.le_of_ble_eq_true rfl⟩) (hw_preS hK hO hZ) rfl rfl hl.1 rfl (lv_room (Nat.le_of_ble_eq_true rfl)) dMo_lay_26 ⟨(show 0 + 0 ≤ 0 by omega), (show 0 + 0 ≤ 0 by omega)⟩) hZ hA (fun r X_2 H_3 lc_4 hp hZ => ?_)
  obtain ⟨hr, hy, xx_5⟩ := hp
  subst hy
  refine hw_topi hr ?_
  refine lv_bipush (v := nI 12) hx hb dMo_lay_29 (by decide) ?_
  refine hw_ic_ne (a := w.length) (b := 12) (tgt := 39) hx hb dMo_lay_31 (by decide) (by omega) (by omega) (fun cq_6 => ?_) (fun cq_6 => ?_)
  · refine lv_lload hx hb dMo_lay_39 (lv_at hl 0 rfl) ?_
    refine lv_ldc2 (v := lN 32) hx hb hown (hts (.constantLong RMo 81 32) (hwMem mm_366)) dMo_lay_41 ?_
    refine lv_lmul hx hb dMo_lay_44 ?_
    refine hw_topl (lN_mul (rW w) 32) ?_
    refine lv_iload_n hx hb dMo_lay_45 rfl (lv_at hl 4 rfl) ?_
    refine lv_i2l hx hb dMo_lay_46 (nI_l (n := x) (by omega)) ?_
    refine lv_ladd hx hb dMo_lay_47 ?_
    refine hw_topl (lN_add ((rW w) * 32) x) ?_
    refine hw_last hx hb hK hZ 1 g rfl (j := us.length + 1 - 1) (by omega) (by omega) dMo_lay_48 (fun X_7 H_8 lc_9 hZ hF hNw => ?_)
    have hFr := hwF.tr hFr hF (fun _ h => h) (fun M h => by first | exact False.elim h | ((try dsimp only at h ⊢); omega))
    have g := hNw
    refine lv_iload_n hx hb dMo_lay_49 rfl (lv_at hl 2 rfl) ?_
    exact hret hZ ⟨rfl, hFr, _, g, by simpa using hN, by rw [show rW w * 32 + x = rW (layW w x) by unfold layW; rw [if_neg cq_6, rW_app]]; exact hv.setLast, hk.init.1.app (okWs.one (okW_lay hw hx1 hx2))⟩ dMo_lay_50
  · refine lv_lload hx hb dMo_lay_34 (lv_at hl 0 rfl) ?_
    refine lv_goto (tgt := 48) hx hb dMo_lay_36 (by decide) ?_
    refine hw_last hx hb hK hZ 1 g rfl (j := us.length + 1 - 1) (by omega) (by omega) dMo_lay_48 (fun X_10 H_11 lc_12 hZ hF hNw => ?_)
    have hFr := hwF.tr hFr hF (fun _ h => h) (fun M h => by first | exact False.elim h | ((try dsimp only at h ⊢); omega))
    have g := hNw
    refine lv_iload_n hx hb dMo_lay_49 rfl (lv_at hl 2 rfl) ?_
    exact hret hZ ⟨rfl, hFr, _, g, by simpa using hN, by rw [show layW w x = w by unfold layW; rw [if_pos cq_6]]; exact hv.setLast, hk.init.1.app (okWs.one (okW_lay hw hx1 hx2))⟩ dMo_lay_50
set_option maxHeartbeats 4000000 in
set_option maxRecDepth 100000 in
theorem m_goes (l : Launch) (D : va_G) (K : Nat → ClassId) (X : hwW) (sz : Nat) (w : List Nat) (b : List Nat) (be : Bool) (hw : okW w) (hb0 : okW b) (hbn : 1 ≤ b.length) : Met l yMo_goesWith (.code yMo_goesWith cMo_goesWith 6 (some .boolean) :: hwG) ({ frames := 1, cells := 0, slots := 0, locals := 22 } : Room) (hwPc D vwCl (hwT K) [.long (lN (rW w)), .long (lN (rW b)), .int (bI be)] X sz) (hwQi D vwCl X sz (fun r Y => r = bI (bif be then endL w b else begL w b) ∧ X = Y)) 0 0 (va_A X.1 sz) := by
  refine hwMetz (cc := cMo_goesWith) (maxL := 6) (by decide) rfl (Nat.le_of_ble_eq_true rfl) (fun p e s m args below meth c ls A Q hx hb hml hown hts hname hret hK hO hZ hA hl => ?_)
  have hl : lv_has ls 6 [(0, .long (lN (rW w))), (2, .long (lN (rW b))), (4, .int (bI be))] := hl
  have hw12 := hw.1
  have hb12 := hb0.1
  rcases Nat.lt_or_ge w.length b.length with hq | hq
  · refine lv_lload_n hx hb dMo_goesWith_0 rfl (lv_at hl 0 rfl) ?_
    refine hw_calli (va_runS (As := [.long (lN (rW w))]) (rest := []) ⟨hx, hb, hml, hown, hts⟩ (m_length l D K X s.heap.size (w := w) (by assumption)) (va_cwS 1 hts (hwGood (hw_3 mm_364 mm_363 mm_365 (hwAll mm_362))) rfl rfl rfl (by decide +kernel) ⟨Nat.le_of_ble_eq_true rfl, Nat.le_of_ble_eq_true rfl⟩) (hw_preS hK hO hZ) rfl rfl hl.1 rfl (lv_room (Nat.le_of_ble_eq_true rfl)) dMo_goesWith_1 ⟨(show 0 + 0 ≤ 0 by omega), (show 0 + 0 ≤ 0 by omega)⟩) hZ hA (fun r X_1 H_2 lc_3 hp hZ => ?_)
    obtain ⟨hr, hy, xx_4⟩ := hp
    subst hy
    refine hw_topi hr ?_
    refine lv_lload_n hx hb dMo_goesWith_4 rfl (lv_at hl 1 rfl) ?_
    refine hw_calli (va_runS (As := [.long (lN (rW b))]) (rest := [.int (nI w.length)]) ⟨hx, hb, hml, hown, hts⟩ (m_length l D K X H_2.size (w := b) (by assumption)) (va_cwS 1 hts (hwGood (hw_3 mm_364 mm_363 mm_365 (hwAll mm_362))) rfl rfl rfl (by decide +kernel) ⟨Nat.le_of_ble_eq_true rfl, Nat.le_of_ble_eq_true rfl⟩) (hw_preS hK hO hZ) rfl rfl hl.1 rfl (lv_room (Nat.le_of_ble_eq_true rfl)) dMo_goesWith_5 ⟨(show 0 + 0 ≤ 0 by omega), (show 0 + 0 ≤ 0 by omega)⟩) hZ hA (fun r X_5 H_6 lc_7 hp hZ => ?_)
    obtain ⟨hr, hy, xx_8⟩ := hp
    subst hy
    refine hw_topi hr ?_
    refine lv_isub hx hb dMo_goesWith_8 ?_
    refine lv_istore (lv' := [(5, .int ((nI w.length) - (nI b.length))), (0, .long (lN (rW w))), (2, .long (lN (rW b))), (4, .int (bI be))]) hx hb dMo_goesWith_9 hl (by decide) rfl (fun ls hl => ?_)
    refine lv_iload hx hb dMo_goesWith_11 (lv_at hl 0 rfl) ?_
    refine lv_if_lt (tgt := 57) hx hb dMo_goesWith_13 (by decide) (fun cq_9 => ?_) (fun cq_9 => absurd (pk_sneg (a := w.length) (b := b.length) (by omega) hq) cq_9)
    refine lv_iconst (v := nI 0) hx hb dMo_goesWith_57 (by decide) ?_
    exact hret (by decide) hZ ⟨by rw [gw_short hq]; rfl, rfl⟩ dMo_goesWith_58
  · refine lv_lload_n hx hb dMo_goesWith_0 rfl (lv_at hl 0 rfl) ?_
    refine hw_calli (va_runS (As := [.long (lN (rW w))]) (rest := []) ⟨hx, hb, hml, hown, hts⟩ (m_length l D K X s.heap.size (w := w) (by assumption)) (va_cwS 1 hts (hwGood (hw_3 mm_364 mm_363 mm_365 (hwAll mm_362))) rfl rfl rfl (by decide +kernel) ⟨Nat.le_of_ble_eq_true rfl, Nat.le_of_ble_eq_true rfl⟩) (hw_preS hK hO hZ) rfl rfl hl.1 rfl (lv_room (Nat.le_of_ble_eq_true rfl)) dMo_goesWith_1 ⟨(show 0 + 0 ≤ 0 by omega), (show 0 + 0 ≤ 0 by omega)⟩) hZ hA (fun r X_10 H_11 lc_12 hp hZ => ?_)
    obtain ⟨hr, hy, xx_13⟩ := hp
    subst hy
    refine hw_topi hr ?_
    refine lv_lload_n hx hb dMo_goesWith_4 rfl (lv_at hl 1 rfl) ?_
    refine hw_calli (va_runS (As := [.long (lN (rW b))]) (rest := [.int (nI w.length)]) ⟨hx, hb, hml, hown, hts⟩ (m_length l D K X H_11.size (w := b) (by assumption)) (va_cwS 1 hts (hwGood (hw_3 mm_364 mm_363 mm_365 (hwAll mm_362))) rfl rfl rfl (by decide +kernel) ⟨Nat.le_of_ble_eq_true rfl, Nat.le_of_ble_eq_true rfl⟩) (hw_preS hK hO hZ) rfl rfl hl.1 rfl (lv_room (Nat.le_of_ble_eq_true rfl)) dMo_goesWith_5 ⟨(show 0 + 0 ≤ 0 by omega), (show 0 + 0 ≤ 0 by omega)⟩) hZ hA (fun r X_14 H_15 lc_16 hp hZ => ?_)
    obtain ⟨hr, hy, xx_17⟩ := hp
    subst hy
    refine hw_topi hr ?_
    refine lv_isub hx hb dMo_goesWith_8 ?_
    refine hw_topi (pk_sub (a := w.length) (b := b.length) (by omega)) ?_
    refine lv_istore (lv' := [(5, .int (nI (w.length - b.length))), (0, .long (lN (rW w))), (2, .long (lN (rW b))), (4, .int (bI be))]) hx hb dMo_goesWith_9 hl (by decide) rfl (fun ls hl => ?_)
    refine lv_iload hx hb dMo_goesWith_11 (lv_at hl 0 rfl) ?_
    refine hw_if_lt (a := w.length - b.length) (tgt := 57) hx hb dMo_goesWith_13 (by decide) (by omega) (fun cq_18 => by exfalso; omega) (fun cq_18 => ?_)
    refine lv_iload hx hb dMo_goesWith_16 (lv_at hl 3 rfl) ?_
    refine hw_bz_eq (tgt := 42) hx hb dMo_goesWith_18 (by decide) (fun cq_19 => ?_) (fun cq_19 => ?_)
    · refine lv_lload_n hx hb dMo_goesWith_42 rfl (lv_at hl 1 rfl) ?_
      refine lv_iconst (v := nI 5) hx hb dMo_goesWith_43 (by decide) ?_
      refine lv_iload hx hb dMo_goesWith_44 (lv_at hl 0 rfl) ?_
      refine lv_imul hx hb dMo_goesWith_46 ?_
      refine hw_topi (pk_mul 5 (w.length - b.length)) ?_
      refine lv_lshr hx hb dMo_goesWith_47 (hw_lshr (n := rW w) (k := 5 * (w.length - b.length)) (by first | exact rW_lt62 (by assumption) | exact rW_lt62 (hR2 _) | omega) (by omega)) ?_
      refine lv_lload_n hx hb dMo_goesWith_48 rfl (lv_at hl 2 rfl) ?_
      refine hw_lc_ne (a := (rW w) / 2 ^ (5 * (w.length - b.length))) (b := rW b) (tgt := 57) hx hb dMo_goesWith_49 dMo_goesWith_50 (by decide) (by first | exact rW_lt63 (by assumption) | exact Nat.lt_of_le_of_lt (Nat.div_le_self _ _) (rW_lt63 hw)) (by first | exact rW_lt63 (by assumption) | exact Nat.lt_of_le_of_lt (Nat.div_le_self _ _) (rW_lt63 hw)) (fun cq_20 => ?_) (fun cq_20 => ?_)
      · refine lv_iconst (v := nI 0) hx hb dMo_goesWith_57 (by decide) ?_
        exact hret (by decide) hZ ⟨by rw [cq_19, gwB_f hw hb0 hq cq_20]; rfl, rfl⟩ dMo_goesWith_58
      · refine lv_iconst (v := nI 1) hx hb dMo_goesWith_53 (by decide) ?_
        refine lv_goto (tgt := 58) hx hb dMo_goesWith_54 (by decide) ?_
        exact hret (by decide) hZ ⟨by rw [cq_19, gwB_t hw hb0 hq cq_20]; rfl, rfl⟩ dMo_goesWith_58
    · refine lv_lload_n hx hb dMo_goesWith_21 rfl (lv_at hl 1 rfl) ?_
      refine lv_lload_n hx hb dMo_goesWith_22 rfl (lv_at hl 2 rfl) ?_
      refine lv_lxor hx hb dMo_goesWith_23 ?_
      refine hw_topl (lN_xor (rW w) (rW b)) ?_
      refine lv_bipush (v := nI 64) hx hb dMo_goesWith_24 (by decide) ?_
      refine lv_iconst (v := nI 5) hx hb dMo_goesWith_26 (by decide) ?_
      refine lv_lload_n hx hb dMo_goesWith_27 rfl (lv_at hl 2 rfl) ?_
      refine hw_calli (va_runS (As := [.long (lN (rW b))]) (rest := [.int (nI 5), .int (nI 64), .long (lN ((rW w) ^^^ (rW b)))]) ⟨hx, hb, hml, hown, hts⟩ (m_length l D K X H_15.size (w := b) (by assumption)) (va_cwS 1 hts (hwGood (hw_3 mm_364 mm_363 mm_365 (hwAll mm_362))) rfl rfl rfl (by decide +kernel) ⟨Nat.le_of_ble_eq_true rfl, Nat.le_of_ble_eq_true rfl⟩) (hw_preS hK hO hZ) rfl rfl hl.1 rfl (lv_room (Nat.le_of_ble_eq_true rfl)) dMo_goesWith_28 ⟨(show 0 + 0 ≤ 0 by omega), (show 0 + 0 ≤ 0 by omega)⟩) hZ hA (fun r X_21 H_22 lc_23 hp hZ => ?_)
      obtain ⟨hr, hy, xx_24⟩ := hp
      subst hy
      refine hw_topi hr ?_
      refine lv_imul hx hb dMo_goesWith_31 ?_
      refine hw_topi (pk_mul 5 b.length) ?_
      refine lv_isub hx hb dMo_goesWith_32 ?_
      refine hw_topi (pk_sub (a := 64) (b := 5 * b.length) (by omega)) ?_
      refine lv_lshl hx hb dMo_goesWith_33 (wb_shl ((rW w) ^^^ (rW b)) (k := 64 - (5 * b.length)) (by omega)) ?_
      refine lv_lconst (v := lN 0) hx hb dMo_goesWith_34 rfl ?_
      refine hw_lr_ne (tgt := 57) hx hb dMo_goesWith_35 dMo_goesWith_36 (by decide) (fun cq_25 => ?_) (fun cq_25 => ?_)
      · refine lv_iconst (v := nI 0) hx hb dMo_goesWith_57 (by decide) ?_
        exact hret (by decide) hZ ⟨by rw [cq_19, gwE_f hw hb0 hq cq_25]; rfl, rfl⟩ dMo_goesWith_58
      · refine lv_goto (tgt := 53) hx hb dMo_goesWith_39 (by decide) ?_
        refine lv_iconst (v := nI 1) hx hb dMo_goesWith_53 (by decide) ?_
        refine lv_goto (tgt := 58) hx hb dMo_goesWith_54 (by decide) ?_
        exact hret (by decide) hZ ⟨by rw [cq_19, gwE_t hw hb0 hq cq_25]; rfl, rfl⟩ dMo_goesWith_58
set_option maxHeartbeats 4000000 in
set_option maxRecDepth 100000 in
theorem m_al (l : Launch) (D : va_G) (K : Nat → ClassId) (X : hwW) (sz : Nat) (w : List Nat) (hw : okW w) : Met l yMo_aligned (.code yMo_aligned cMo_aligned 2 (some .long) :: hwG) ({ frames := 1, cells := 0, slots := 0, locals := 22 } : Room) (hwPc D vwCl (hwT K) [.long (lN (rW w))] X sz) (hwQl D vwCl X sz (fun r Y => r = lN (eW w) ∧ X = Y)) 0 0 (va_A X.1 sz) := by
  refine hwMetl (cc := cMo_aligned) (maxL := 2) (by decide) rfl (Nat.le_of_ble_eq_true rfl) (fun p e s m args below meth c ls A Q hx hb hml hown hts hname hret hK hO hZ hA hl => ?_)
  have hl : lv_has ls 2 [(0, .long (lN (rW w)))] := hl
  refine lv_lload_n hx hb dMo_aligned_0 rfl (lv_at hl 0 rfl) ?_
  refine lv_iconst (v := nI 5) hx hb dMo_aligned_1 (by decide) ?_
  refine lv_bipush (v := nI 12) hx hb dMo_aligned_2 (by decide) ?_
  refine lv_lload_n hx hb dMo_aligned_4 rfl (lv_at hl 0 rfl) ?_
  refine hw_calli (va_runS (As := [.long (lN (rW w))]) (rest := [.int (nI 12), .int (nI 5), .long (lN (rW w))]) ⟨hx, hb, hml, hown, hts⟩ (m_length l D K X s.heap.size (w := w) (by assumption)) (va_cwS 1 hts (hwGood (hw_3 mm_364 mm_363 mm_365 (hwAll mm_362))) rfl rfl rfl (by decide +kernel) ⟨Nat.le_of_ble_eq_true rfl, Nat.le_of_ble_eq_true rfl⟩) (hw_preS hK hO hZ) rfl rfl hl.1 rfl (lv_room (Nat.le_of_ble_eq_true rfl)) dMo_aligned_5 ⟨(show 0 + 0 ≤ 0 by omega), (show 0 + 0 ≤ 0 by omega)⟩) hZ hA (fun r X_1 H_2 lc_3 hp hZ => ?_)
  obtain ⟨hr, hy, xx_4⟩ := hp
  subst hy
  refine hw_topi hr ?_
  refine lv_isub hx hb dMo_aligned_8 ?_
  refine hw_topi (pk_sub (a := 12) (b := w.length) (by omega)) ?_
  refine lv_imul hx hb dMo_aligned_9 ?_
  refine hw_topi (pk_mul 5 (12 - w.length)) ?_
  refine lv_lshl hx hb dMo_aligned_10 (wb_shl (rW w) (k := 5 * (12 - w.length)) (by omega)) ?_
  exact hret hZ ⟨congrArg lN (rW_al hw), rfl⟩ dMo_aligned_11
set_option maxHeartbeats 4000000 in
set_option maxRecDepth 100000 in
theorem m_at (l : Launch) (D : va_G) (K : Nat → ClassId) (X : hwW) (sz : Nat) (w : List Nat) (k : Nat) (hw : okW w) (hk : k < w.length) : Met l yMo_at (.code yMo_at cMo_at 4 (some .int) :: hwG) ({ frames := 0, cells := 0, slots := 0, locals := 0 } : Room) (hwPc D vwCl (hwT K) [.long (lN (rW w)), .int (nI w.length), .int (nI k)] X sz) (hwQi D vwCl X sz (fun r Y => r = nI (w.getD k 0) ∧ X = Y ∧ w.getD k 0 ≤ 26)) 0 0 (va_A X.1 sz) := by
  refine hwMeti (cc := cMo_at) (maxL := 4) (by decide) rfl (Nat.le_of_ble_eq_true rfl) (fun p e s m args below meth c ls A Q hx hb hml hown hts hname hret hK hO hZ hA hl => ?_)
  have hl : lv_has ls 4 [(0, .long (lN (rW w))), (2, .int (nI w.length)), (3, .int (nI k))] := hl
  have hw12 := hw.1
  refine lv_lload_n hx hb dMo_at_0 rfl (lv_at hl 0 rfl) ?_
  refine lv_iconst (v := nI 5) hx hb dMo_at_1 (by decide) ?_
  refine lv_iload_n hx hb dMo_at_2 rfl (lv_at hl 1 rfl) ?_
  refine lv_iconst (v := nI 1) hx hb dMo_at_3 (by decide) ?_
  refine lv_isub hx hb dMo_at_4 ?_
  refine hw_topi (pk_sub (a := w.length) (b := 1) (by omega)) ?_
  refine lv_iload_n hx hb dMo_at_5 rfl (lv_at hl 2 rfl) ?_
  refine lv_isub hx hb dMo_at_6 ?_
  refine hw_topi (pk_sub (a := w.length - 1) (b := k) (by omega)) ?_
  refine lv_imul hx hb dMo_at_7 ?_
  refine hw_topi (pk_mul 5 (w.length - 1 - k)) ?_
  refine lv_lshr hx hb dMo_at_8 (hw_lshr (n := rW w) (k := 5 * (w.length - 1 - k)) (by first | exact rW_lt62 (by assumption) | exact rW_lt62 (hR2 _) | omega) (by omega)) ?_
  refine lv_ldc2 (v := lN 31) hx hb hown (hts (.constantLong RMo 75 31) (hwMem mm_361)) dMo_at_9 ?_
  refine lv_land hx hb dMo_at_12 ?_
  refine hw_topl (hw_lmask ((rW w) / 2 ^ (5 * (w.length - 1 - k))) 5 rfl (by decide)) ?_
  refine lv_l2i hx hb dMo_at_13 (lN_i (((rW w) / 2 ^ (5 * (w.length - 1 - k))) % 32)) ?_
  exact hret hZ ⟨congrArg nI (rW_letter hw.2 hk), rfl, getD_le hw.2 _⟩ dMo_at_14
set_option maxHeartbeats 4000000 in
set_option maxRecDepth 100000 in
theorem m_least (l : Launch) (D : va_G) (K : Nat → ClassId) (X : hwW) (sz : Nat) (a : Nat) (u : Nat) (v : Nat) (hu : u < 2147483648) (hv : v < 2147483648) : Met l yMo_least (.code yMo_least cMo_least 3 (some .int) :: hwG) ({ frames := 0, cells := 0, slots := 0, locals := 0 } : Room) (hwPc D vwCl (hwT K) [.ref a, .int (nI u), .int (nI v)] X sz) (hwQi D vwCl X sz (fun r Y => r = nI (min u v) ∧ X = Y ∧ min u v ≤ u)) 0 0 (va_A X.1 sz) := by
  refine hwMeti (cc := cMo_least) (maxL := 3) (by decide) rfl (Nat.le_of_ble_eq_true rfl) (fun p e s m args below meth c ls A Q hx hb hml hown hts hname hret hK hO hZ hA hl => ?_)
  have hl : lv_has ls 3 [(0, .ref a), (1, .int (nI u)), (2, .int (nI v))] := hl
  refine lv_iload_n hx hb dMo_least_0 rfl (lv_at hl 1 rfl) ?_
  refine lv_iload_n hx hb dMo_least_1 rfl (lv_at hl 2 rfl) ?_
  refine hw_ic_ge (a := u) (b := v) (tgt := 9) hx hb dMo_least_2 (by decide) (by omega) (by omega) (fun cq_1 => ?_) (fun cq_1 => ?_)
  · refine lv_iload_n hx hb dMo_least_9 rfl (lv_at hl 2 rfl) ?_
    exact hret hZ ⟨congrArg nI (by omega), rfl, by omega⟩ dMo_least_10
  · refine lv_iload_n hx hb dMo_least_5 rfl (lv_at hl 1 rfl) ?_
    refine lv_goto (tgt := 10) hx hb dMo_least_6 (by decide) ?_
    exact hret hZ ⟨congrArg nI (by omega), rfl, by omega⟩ dMo_least_10
