/-! PURE: what the class's static methods say of words -/
def lo8 (x : Int32) : Nat := x.toBitVec.toNat % 256
theorem lo8_lt (x : Int32) : lo8 x < 256 := Nat.mod_lt _ (by decide)
theorem hw_lo8 (x : Int32) : x &&& nI 255 = nI (lo8 x) := pk_and x 8 (by decide)
theorem hw_and31 (n : Nat) : nI n &&& nI 31 = nI (n % 32) := by
  rw [nx_and]
  exact congrArg nI (Nat.and_two_pow_sub_one_eq_mod n 5)
def ltr (c : Nat) : Nat := if 65 ≤ c ∧ c ≤ 90 then c - 64 else if 97 ≤ c ∧ c ≤ 122 then c - 96 else 0
theorem ltr_le (c : Nat) : ltr c ≤ 26 := by unfold ltr; (repeat' split) <;> omega
def sgn (x : Nat) : Nat := if x = 0 then 0 else x + 96
theorem getD_nz {w : List Nat} (_ : okL w) {i : Nat} (h : w.getD i 0 ≠ 0) : i < w.length := by
  rcases Nat.lt_or_ge i w.length with q | q
  · exact q
  · exact absurd (getD_out q) h
theorem getD_z {w : List Nat} (hw : okL w) {i : Nat} (h : w.getD i 0 = 0) : w.length ≤ i := by
  rcases Nat.lt_or_ge i w.length with q | q
  · have := getD_ok hw q; omega
  · exact q
theorem hw_first {w : List Nat} (hw : okW w) {n : Nat} (h0 : 0 < n) (hn : n < 12) : eW w / 2 ^ (5 * (11 - (n - 1))) * 2 ^ (5 * (11 - (n - 1))) = eW (w.take n) := by
  have := eW_take hw (n := n) (by omega)
  rw [show 11 - (n - 1) = 12 - n by omega]
  exact this
/-- the STEM of a word: letters 19 = s, 14 = n, 5 = e -/
def stemL (g : Nat) (w : List Nat) : List Nat :=
  if g = 1 then (if w.getD (w.length - 1) 0 = 19 ∧ 3 < w.length then w.take (w.length - 1) else w)
  else if g = 2 then (if (w.getD (w.length - 1) 0 = 14 ∧ w.getD (w.length - 2) 0 = 5) ∧ 4 < w.length then w.take (w.length - 2)
    else if w.getD (w.length - 1) 0 = 5 ∧ 3 < w.length then w.take (w.length - 1) else w)
  else w
def begL (w b : List Nat) : Bool := decide (w.take b.length = b)
def endL (w b : List Nat) : Bool := decide (b.length ≤ w.length ∧ w.drop (w.length - b.length) = b)
theorem okW_stem {w : List Nat} (h : okW w) (g : Nat) : okW (stemL g w) := by
  unfold stemL
  (repeat' split) <;> first | exact h | exact h.take _
theorem hw_lmask (n k : Nat) {m : Nat} (hm : m = 2 ^ k - 1) (hk : k < 64) : lN n &&& lN m = lN (n % 2 ^ k) := by
  subst hm
  rw [wb_mod n, wb_mask (Nat.mod_lt _ (by decide)) hk]
  congr 1
  exact Nat.mod_mod_of_dvd n (Nat.pow_dvd_pow 2 (by omega))
/-- a row of costs, one letter further -/
def nxt (x : Nat) (t : List Nat) (c : Nat → Nat) : Nat → Nat
  | 0 => c 0 + 1
  | j + 1 => min (if x = t.getD j 0 then c j else c j + 1) (min (c (j + 1)) (nxt x t c j) + 1)
def rows (t : List Nat) : List Nat → (Nat → Nat) → (Nat → Nat)
  | [], c => c
  | x :: xs, c => rows t xs (nxt x t c)
def distL (f t : List Nat) : Nat := rows t f (fun j => j) t.length
theorem nxt_le {x : Nat} {t : List Nat} {c : Nat → Nat} {B W : Nat} (h : ∀ j, j ≤ W → c j ≤ B) : ∀ j, j ≤ W → nxt x t c j ≤ B + 1
  | 0, hj => by have := h 0 hj; show c 0 + 1 ≤ B + 1; omega
  | j + 1, hj => by
    have := h j (by omega)
    show min (if x = t.getD j 0 then c j else c j + 1) _ ≤ B + 1
    split <;> omega
theorem rows_snoc (t : List Nat) : ∀ (xs : List Nat) (x : Nat) (c : Nat → Nat), rows t (xs ++ [x]) c = nxt x t (rows t xs c)
  | [], _, _ => rfl
  | y :: ys, x, c => rows_snoc t ys x (nxt y t c)
theorem rows_le {t : List Nat} {W : Nat} : ∀ (xs : List Nat) (c : Nat → Nat) (B : Nat), (∀ j, j ≤ W → c j ≤ B) → ∀ j, j ≤ W → rows t xs c j ≤ B + xs.length
  | [], c, B, h => h
  | x :: xs, c, B, h => fun j hj => by
    have := rows_le (t := t) xs (nxt x t c) (B + 1) (nxt_le h) j hj
    show rows t xs (nxt x t c) j ≤ B + (xs.length + 1)
    omega
theorem nxt_pos {x : Nat} {t : List Nat} {c : Nat → Nat} {j : Nat} (h : 1 ≤ j) : nxt x t c j = min (if x = t.getD (j - 1) 0 then c (j - 1) else c (j - 1) + 1) (min (c j) (nxt x t c (j - 1)) + 1) := by
  obtain ⟨k, rfl⟩ : ∃ k, j = k + 1 := ⟨j - 1, by omega⟩
  rfl
theorem rows_take {t f : List Nat} {c : Nat → Nat} {i : Nat} (h : i < f.length) : rows t (f.take (i + 1)) c = nxt (f.getD i 0) t (rows t (f.take i) c) := by
  rw [← rows_snoc]
  congr 1
  rw [List.take_succ]
  simp [List.getD, h]
theorem rows_id_le (t f : List Nat) (i k : Nat) (hi : i ≤ 12) (hk : k ≤ 12) : rows t (f.take i) (fun j => j) k ≤ 24 := by
  have := rows_le (t := t) (W := 12) (f.take i) (fun j => j) 12 (fun j hj => hj) k hk
  rw [List.length_take] at this
  omega
theorem hw_one {x : Nat} (h : x ≠ 0) (h2 : x ≤ 26) : okL [x] := fun y hy => by rw [List.mem_singleton.mp hy]; omega
theorem hw_app {w : List Nat} {x : Nat} (hw : okW w) (h : x ≠ 0) (h2 : x ≤ 26) (hl : w.length < 12) : okW (w ++ [x]) := ⟨by simp; omega, fun y hy => (List.mem_append.mp hy).elim (hw.2 y) (hw_one h h2 y)⟩
theorem hw_halve {lo hi lo' hi' st : Nat} (h : hi - lo ≤ 3000 / 2 ^ st) (h2 : 2 * (hi' - lo') ≤ hi - lo) : hi' - lo' ≤ 3000 / 2 ^ (st + 1) := by
  rw [Nat.pow_succ, ← Nat.div_div_eq_div_mul]
  omega
theorem getD_eq {ts : List (List Nat)} {j : Nat} (h : j < ts.length) : ts.getD j [] = ts[j] := by simp [List.getD, h]
theorem sorted_get {ts : List (List Nat)} (hs : ts.Pairwise (· < ·)) {i j : Nat} (h : i < j) (hj : j < ts.length) : ts.getD i [] < ts.getD j [] := by
  rw [getD_eq (Nat.lt_trans h hj), getD_eq hj]
  exact List.pairwise_iff_getElem.mp hs i j (Nat.lt_trans h hj) hj h
theorem lex_trans {a b c : List Nat} (h : a < b) (h2 : b < c) : a < c := List.lt_trans h h2
theorem lex_irrefl (a : List Nat) : ¬ a < a := List.lt_irrefl a
theorem sorted_upto {ts : List (List Nat)} (hs : ts.Pairwise (· < ·)) {w : List Nat} {mid j : Nat} (h : ts.getD mid [] < w) (hm : mid < ts.length) (hj : j ≤ mid) : ts.getD j [] < w := by
  rcases Nat.lt_or_eq_of_le hj with q | q
  · exact lex_trans (sorted_get hs q hm) h
  · rw [q]; exact h
theorem sorted_from {ts : List (List Nat)} (hs : ts.Pairwise (· < ·)) {w : List Nat} {mid j : Nat} (hj : mid ≤ j) (hl : j < ts.length) (h : ts.getD j [] < w) : ts.getD mid [] < w := by
  rcases Nat.lt_or_eq_of_le hj with q | q
  · exact lex_trans (sorted_get hs q hl) h
  · rw [q]; exact h
theorem mem_of_getD {ts : List (List Nat)} {p : Nat} {w : List Nat} (h : p < ts.length) (e : ts.getD p [] = w) : w ∈ ts := by
  rw [← e, getD_eq h]
  exact List.getElem_mem h
theorem getD_of_mem {ts : List (List Nat)} {w : List Nat} (h : w ∈ ts) : ∃ p, p < ts.length ∧ ts.getD p [] = w := by
  obtain ⟨p, hp, e⟩ := List.getElem_of_mem h
  exact ⟨p, hp, by rw [getD_eq hp, e]⟩
theorem not_mem_place {ts : List (List Nat)} (hs : ts.Pairwise (· < ·)) {w : List Nat} {p : Nat} (h1 : ∀ j, j < p → ts.getD j [] < w) (h2 : ∀ j, p ≤ j → j < ts.length → ¬ ts.getD j [] < w) (h3 : p < ts.length → ts.getD p [] = w → False) : w ∉ ts := by
  intro hm
  obtain ⟨j, hj, e⟩ := getD_of_mem hm
  rcases Nat.lt_trichotomy j p with q | q | q
  · have := h1 j q
    rw [e] at this
    exact lex_irrefl _ this
  · subst q
    exact h3 hj e
  · have := sorted_get hs q hj
    rw [e] at this
    exact h2 p (Nat.le_refl _) (Nat.lt_trans q hj) this
theorem not_mem_all {ts : List (List Nat)} {w : List Nat} (h : ∀ p, p < ts.length → ts.getD p [] ≠ w) : w ∉ ts := fun hm => by
  obtain ⟨p, hp, e⟩ := getD_of_mem hm
  exact h p hp e
theorem any_true {ts : List (List Nat)} {w : List Nat} (h : w ∈ ts) (hw : w ≠ []) : ts.any (fun t => decide (t ≠ [])) = true := List.any_eq_true.mpr ⟨w, h, decide_eq_true hw⟩
theorem any_false {ts : List (List Nat)} (h : ∀ p, p < ts.length → ts.getD p [] = []) : ts.any (fun t => decide (t ≠ [])) = false := by
  rw [List.any_eq_false]
  intro w hw
  obtain ⟨p, hp, e⟩ := getD_of_mem hw
  rw [h p hp] at e
  simp [← e]
theorem nn_getD {ts : List (List Nat)} {p : Nat} {w : List Nat} (h : 1 ≤ w.length) (e : ts.getD p [] = w) : p < ts.length := by
  rcases Nat.lt_or_ge p ts.length with q | q
  · exact q
  · have : ts.getD p [] = [] := by simp [List.getD, q]
    rw [this] at e
    rw [← e] at h
    exact absurd h (by simp)
theorem ne_getD {ts : List (List Nat)} (h : ∀ w ∈ ts, 1 ≤ w.length) {p : Nat} (hp : p < ts.length) : 1 ≤ (ts.getD p []).length := by
  rw [getD_eq hp]
  exact h _ (List.getElem_mem hp)
theorem getD_map {φ : List Nat → List Nat} {ts : List (List Nat)} {p : Nat} (hp : p < ts.length) : (ts.map φ).getD p [] = φ (ts.getD p []) := by simp [List.getD, hp]
/-- a word comes into an ordered row -/
def ins (w : List Nat) : List (List Nat) → List (List Nat)
  | [] => [w]
  | x :: xs => if x < w then x :: ins w xs else w :: x :: xs
def insS (N : Nat) (ts : List (List Nat)) (w : List Nat) : List (List Nat) := if N ≤ ts.length ∨ w ∈ ts then ts else ins w ts
theorem insS_full {N : Nat} {ts : List (List Nat)} {w : List Nat} (h : N ≤ ts.length) : insS N ts w = ts := by simp [insS, h]
theorem insS_mem {N : Nat} {ts : List (List Nat)} {w : List Nat} (h : w ∈ ts) : insS N ts w = ts := by simp [insS, h]
theorem insS_new {N : Nat} {ts : List (List Nat)} {w : List Nat} (h : ts.length < N) (h2 : w ∉ ts) : insS N ts w = ins w ts := by
  have : ¬ N ≤ ts.length := by omega
  simp [insS, this, h2]
theorem ins_place {w : List Nat} : ∀ {ts : List (List Nat)} {p : Nat}, (∀ j, j < p → ts.getD j [] < w) → (∀ j, p ≤ j → j < ts.length → ¬ ts.getD j [] < w) → p ≤ ts.length → ins w ts = ts.take p ++ w :: ts.drop p
  | [], 0, _, _, _ => rfl
  | [], p + 1, _, _, h => absurd h (by simp)
  | x :: xs, 0, _, h2, _ => by
    have : ¬ x < w := h2 0 (Nat.le_refl _) (by simp)
    simp [ins, this]
  | x :: xs, p + 1, h1, h2, h => by
    have hx : x < w := h1 0 (by omega)
    have ih := ins_place (w := w) (ts := xs) (p := p) (fun j hj => h1 (j + 1) (by omega)) (fun j hj hl => h2 (j + 1) (by omega) (by simp; omega)) (by simpa using h)
    simp [ins, hx, ih]
theorem ins_len {ts : List (List Nat)} {w : List Nat} {p : Nat} (h : p ≤ ts.length) : (ts.take p ++ w :: ts.drop p).length = ts.length + 1 := by
  simp [List.length_take, List.length_drop]; omega
theorem hw_mul63 {a b : Nat} (h1 : a ≤ 1000) (h2 : b ≤ 1000) : a * b < 2 ^ 63 := Nat.lt_of_le_of_lt (Nat.mul_le_mul h1 h2) (by decide)
theorem all_true {ta tb : List (List Nat)} (h : ∀ p, p < ta.length → ta.getD p [] = [] ∨ ta.getD p [] ∈ tb) : ta.all (fun t => decide (t = [] ∨ t ∈ tb)) = true := by
  rw [List.all_eq_true]
  intro w hw
  obtain ⟨p, hp, e⟩ := getD_of_mem hw
  rw [← e]
  exact decide_eq_true (h p hp)
theorem all_false {ta tb : List (List Nat)} {p : Nat} (hp : p < ta.length) (h : ¬ (ta.getD p [] = [] ∨ ta.getD p [] ∈ tb)) : ta.all (fun t => decide (t = [] ∨ t ∈ tb)) = false := by
  rw [List.all_eq_false]
  exact ⟨ta.getD p [], mem_of_getD hp rfl, by simpa using h⟩
theorem take_succ_getD {tb : List (List Nat)} {i : Nat} (h : i < tb.length) : tb.take (i + 1) = tb.take i ++ [tb.getD i []] := by
  rw [List.take_succ]
  simp [List.getD, h]
theorem cnt_stepT {tb : List (List Nat)} {P : List Nat → Bool} {i n : Nat} (h : i < tb.length) (hc : n = (tb.take i).countP P) (hp : P (tb.getD i []) = true) : n + 1 = (tb.take (i + 1)).countP P := by
  rw [take_succ_getD h, List.countP_append, ← hc]
  simp only [List.countP_cons, List.countP_nil, hp]
  simp
theorem cnt_stepF {tb : List (List Nat)} {P : List Nat → Bool} {i n : Nat} (h : i < tb.length) (hc : n = (tb.take i).countP P) (hp : P (tb.getD i []) = false) : n = (tb.take (i + 1)).countP P := by
  rw [take_succ_getD h, List.countP_append, ← hc]
  simp only [List.countP_cons, List.countP_nil, hp]
  simp
theorem hw_sh64 {x k : Nat} (h : x ≤ 26) (h2 : k ≤ 55 := by omega) : x * 2 ^ k < 2 ^ 64 := by
  have h3 : 2 ^ k ≤ 2 ^ 55 := Nat.pow_le_pow_right (by decide) h2
  have h4 : x * 2 ^ k ≤ 26 * 2 ^ 55 := Nat.mul_le_mul h h3
  exact Nat.lt_of_le_of_lt h4 (by decide)
theorem cntP_t {w : List Nat} {b : Bool} (h1 : w ≠ []) (h2 : b = true) : (decide (w ≠ []) && b) = true := by rw [decide_eq_true h1, h2]; rfl
theorem cntP_f1 {w : List Nat} {b : Bool} (h1 : w = []) : (decide (w ≠ []) && b) = false := by rw [decide_eq_false (fun h => h h1)]; rfl
theorem cntP_f2 {w : List Nat} {b : Bool} (h2 : b = false) : (decide (w ≠ []) && b) = false := by rw [h2, Bool.and_false]
