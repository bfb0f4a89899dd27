/-! WORDS: lists of letters 1 .. 26, at most twelve; [] is 'no word'. eW w: the number that the class holds, the first letter highest, five bits a letter. -/
def eA : List Nat → Nat → Nat
  | [], _ => 0
  | _ :: _, 0 => 0
  | x :: xs, n + 1 => x * 32 ^ n + eA xs n
def okL (w : List Nat) : Prop := ∀ x ∈ w, 1 ≤ x ∧ x ≤ 26
def okW (w : List Nat) : Prop := w.length ≤ 12 ∧ okL w
def eW (w : List Nat) : Nat := eA w 12
theorem eA_nil (n : Nat) : eA [] n = 0 := by cases n <;> rfl
theorem eA_zero (xs : List Nat) : eA xs 0 = 0 := by cases xs <;> rfl
theorem eA_cons (x : Nat) (xs : List Nat) (n : Nat) : eA (x :: xs) (n + 1) = x * 32 ^ n + eA xs n := rfl
theorem okL.tl {x : Nat} {xs : List Nat} (h : okL (x :: xs)) : okL xs := fun y hy => h y (List.mem_cons_of_mem _ hy)
theorem okL.hd {x : Nat} {xs : List Nat} (h : okL (x :: xs)) : 1 ≤ x ∧ x ≤ 26 := h x List.mem_cons_self
theorem okL.take {w : List Nat} (h : okL w) (n : Nat) : okL (w.take n) := fun x hx => h x (List.mem_of_mem_take hx)
theorem okL.drop {w : List Nat} (h : okL w) (n : Nat) : okL (w.drop n) := fun x hx => h x (List.mem_of_mem_drop hx)
theorem okW.take {w : List Nat} (h : okW w) (n : Nat) : okW (w.take n) := ⟨by rw [List.length_take]; exact Nat.le_trans (Nat.min_le_right _ _) h.1, h.2.take n⟩
theorem okW.drop {w : List Nat} (h : okW w) (n : Nat) : okW (w.drop n) := ⟨by rw [List.length_drop]; exact Nat.le_trans (Nat.sub_le _ _) h.1, h.2.drop n⟩
theorem okW_nil : okW [] := ⟨Nat.zero_le _, fun _ h => absurd h List.not_mem_nil⟩
theorem eA_lt : ∀ (xs : List Nat) (n : Nat), okL xs → eA xs n < 32 ^ n
  | [], n, _ => by rw [eA_nil]; exact Nat.pow_pos (by decide)
  | x :: xs, 0, _ => by show 0 < 32 ^ 0; decide
  | x :: xs, n + 1, h => by
    have h1 := eA_lt xs n h.tl
    have h2 := h.hd
    rw [eA_cons, Nat.pow_succ]
    have h3 : (x + 1) * 32 ^ n ≤ 32 * 32 ^ n := Nat.mul_le_mul_right _ (by omega)
    rw [Nat.add_mul, Nat.one_mul] at h3
    rw [Nat.mul_comm (32 ^ n) 32]
    omega
theorem eW_lt {w : List Nat} (h : okW w) : eW w < 2 ^ 60 := by
  have := eA_lt w 12 h.2
  have e : (32 : Nat) ^ 12 = 2 ^ 60 := by decide
  rw [e] at this
  exact this
theorem eW_lt63 {w : List Nat} (h : okW w) : eW w < 2 ^ 63 := Nat.lt_trans (eW_lt h) (by decide)
theorem eW_lt64 {w : List Nat} (h : okW w) : eW w < 2 ^ 64 := Nat.lt_trans (eW_lt h) (by decide)
theorem eA_letter : ∀ (xs : List Nat) (n k : Nat), okL xs → k < n → eA xs n / 32 ^ (n - 1 - k) % 32 = xs.getD k 0
  | [], n, k, _, _ => by rw [eA_nil]; simp
  | x :: xs, 0, k, _, h => absurd h (Nat.not_lt_zero _)
  | x :: xs, n + 1, 0, h, _ => by
    have h1 := eA_lt xs n h.tl
    have h2 := h.hd
    have e : n + 1 - 1 - 0 = n := by omega
    rw [eA_cons, e, Nat.mul_comm, Nat.mul_add_div (Nat.pow_pos (by decide)), Nat.div_eq_of_lt h1, Nat.add_zero, Nat.mod_eq_of_lt (by omega)]
    rfl
  | x :: xs, n + 1, k + 1, h, hk => by
    have hk' : k < n := by omega
    have ih := eA_letter xs n k h.tl hk'
    have e : n + 1 - 1 - (k + 1) = n - 1 - k := by omega
    rw [eA_cons, e]
    obtain ⟨d, hd⟩ : ∃ d, n = (n - 1 - k) + (d + 1) := ⟨k, by omega⟩
    have e2 : x * 32 ^ n = 32 ^ (n - 1 - k) * (x * 32 ^ d * 32) := by
      rw [show (32 : Nat) ^ n = 32 ^ ((n - 1 - k) + (d + 1)) by rw [← hd], Nat.pow_add, Nat.pow_succ]
      simp only [Nat.mul_assoc, Nat.mul_comm, Nat.mul_left_comm]
    rw [e2, Nat.mul_add_div (Nat.pow_pos (by decide)), Nat.mul_add_mod', ih]
    rfl
theorem eW_letter {w : List Nat} (h : okW w) {k : Nat} (hk : k < 12) : eW w / 2 ^ (5 * (11 - k)) % 32 = w.getD k 0 := by
  have := eA_letter w 12 k h.2 hk
  rw [show (2 : Nat) ^ (5 * (11 - k)) = 32 ^ (12 - 1 - k) by rw [show 12 - 1 - k = 11 - k by omega, Nat.pow_mul]]
  exact this
theorem getD_ok {w : List Nat} (h : okL w) {k : Nat} (hk : k < w.length) : 1 ≤ w.getD k 0 ∧ w.getD k 0 ≤ 26 := by
  have e : w.getD k 0 = w[k] := by simp [List.getD, hk]
  rw [e]
  exact h _ (List.getElem_mem hk)
theorem getD_out {w : List Nat} {k : Nat} (hk : w.length ≤ k) : w.getD k 0 = 0 := by simp [List.getD, hk]
theorem getD_le {w : List Nat} (h : okL w) (k : Nat) : w.getD k 0 ≤ 26 := by
  by_cases hk : k < w.length
  · exact (getD_ok h hk).2
  · rw [getD_out (by omega)]; omega
theorem eA_lex : ∀ (xs ys : List Nat) (n : Nat), okL xs → okL ys → xs.length ≤ n → ys.length ≤ n → (eA xs n < eA ys n ↔ xs < ys)
  | [], [], n, _, _, _, _ => by simp
  | [], y :: ys, 0, _, _, _, h => absurd h (by simp)
  | [], y :: ys, n + 1, _, hy, _, _ => by
    rw [eA_nil, eA_cons]
    have h2 := hy.hd
    have h3 : 0 < 32 ^ n := Nat.pow_pos (by decide)
    have h4 : 1 * 32 ^ n ≤ y * 32 ^ n := Nat.mul_le_mul_right _ h2.1
    constructor
    · intro _; exact List.nil_lt_cons _ _
    · intro _; omega
  | x :: xs, [], n, _, _, _, _ => by
    rw [eA_nil]
    constructor
    · intro h; exact absurd h (Nat.not_lt_zero _)
    · intro h; exact absurd h (List.not_lt_nil _)
  | x :: xs, y :: ys, 0, _, _, h, _ => absurd h (by simp)
  | x :: xs, y :: ys, n + 1, hx, hy, h1, h2 => by
    have ih := eA_lex xs ys n hx.tl hy.tl (by simpa using h1) (by simpa using h2)
    rw [eA_cons, eA_cons, List.cons_lt_cons_iff]
    have a1 := eA_lt xs n hx.tl
    have a2 := eA_lt ys n hy.tl
    rcases Nat.lt_trichotomy x y with h | h | h
    · have h3 : (x + 1) * 32 ^ n ≤ y * 32 ^ n := Nat.mul_le_mul_right _ h
      rw [Nat.add_mul, Nat.one_mul] at h3
      constructor
      · intro _; exact Or.inl h
      · intro _; omega
    · subst h
      rw [Nat.add_lt_add_iff_left, ih]
      constructor
      · intro q; exact Or.inr ⟨rfl, q⟩
      · intro q
        rcases q with q | q
        · exact absurd q (Nat.lt_irrefl _)
        · exact q.2
    · have h3 : (y + 1) * 32 ^ n ≤ x * 32 ^ n := Nat.mul_le_mul_right _ h
      rw [Nat.add_mul, Nat.one_mul] at h3
      constructor
      · intro q; omega
      · intro q
        rcases q with q | q
        · omega
        · omega
theorem eW_lex {w v : List Nat} (hw : okW w) (hv : okW v) : eW w < eW v ↔ w < v := eA_lex w v 12 hw.2 hv.2 hw.1 hv.1
theorem eA_inj : ∀ (xs ys : List Nat) (n : Nat), okL xs → okL ys → xs.length ≤ n → ys.length ≤ n → eA xs n = eA ys n → xs = ys
  | [], [], _, _, _, _, _, _ => rfl
  | [], y :: ys, 0, _, _, _, h, _ => absurd h (by simp)
  | [], y :: ys, n + 1, _, hy, _, _, e => by
    rw [eA_nil, eA_cons] at e
    have h2 := hy.hd
    have h3 : 0 < 32 ^ n := Nat.pow_pos (by decide)
    have h4 : 1 * 32 ^ n ≤ y * 32 ^ n := Nat.mul_le_mul_right _ h2.1
    omega
  | x :: xs, [], 0, _, _, h, _, _ => absurd h (by simp)
  | x :: xs, [], n + 1, hx, _, _, _, e => by
    rw [eA_nil, eA_cons] at e
    have h2 := hx.hd
    have h3 : 0 < 32 ^ n := Nat.pow_pos (by decide)
    have h4 : 1 * 32 ^ n ≤ x * 32 ^ n := Nat.mul_le_mul_right _ h2.1
    omega
  | x :: xs, y :: ys, 0, _, _, h, _, _ => absurd h (by simp)
  | x :: xs, y :: ys, n + 1, hx, hy, h1, h2, e => by
    rw [eA_cons, eA_cons] at e
    have a1 := eA_lt xs n hx.tl
    have a2 := eA_lt ys n hy.tl
    rcases Nat.lt_trichotomy x y with h | h | h
    · have h3 : (x + 1) * 32 ^ n ≤ y * 32 ^ n := Nat.mul_le_mul_right _ h
      rw [Nat.add_mul, Nat.one_mul] at h3
      omega
    · subst h
      have e2 : eA xs n = eA ys n := by omega
      rw [eA_inj xs ys n hx.tl hy.tl (by simpa using h1) (by simpa using h2) e2]
    · have h3 : (y + 1) * 32 ^ n ≤ x * 32 ^ n := Nat.mul_le_mul_right _ h
      rw [Nat.add_mul, Nat.one_mul] at h3
      omega
theorem eW_inj {w v : List Nat} (hw : okW w) (hv : okW v) : eW w = eW v ↔ w = v := ⟨eA_inj w v 12 hw.2 hv.2 hw.1 hv.1, fun h => by rw [h]⟩
theorem eW_zero {w : List Nat} (hw : okW w) : eW w = 0 ↔ w = [] := by
  have := eW_inj hw okW_nil
  rw [show eW [] = 0 from rfl] at this
  exact this
theorem eA_take : ∀ (xs : List Nat) (n j : Nat), okL xs → j ≤ n → eA xs n / 32 ^ j * 32 ^ j = eA (xs.take (n - j)) n
  | [], n, j, _, _ => by simp [eA_nil]
  | x :: xs, 0, j, _, h => by
    rw [eA_zero, eA_zero]; simp
  | x :: xs, n + 1, j, h, hj => by
    by_cases e : j = n + 1
    · subst e
      have h1 := eA_lt (x :: xs) (n + 1) h
      rw [Nat.div_eq_of_lt h1, Nat.sub_self, List.take_zero, eA_nil, Nat.zero_mul]
    · have hj' : j ≤ n := by omega
      have ih := eA_take xs n j h.tl hj'
      obtain ⟨d, hd⟩ : ∃ d, n = j + d := ⟨n - j, by omega⟩
      have e2 : x * 32 ^ n = 32 ^ j * (x * 32 ^ d) := by
        rw [hd, Nat.pow_add]
        simp only [Nat.mul_assoc, Nat.mul_comm, Nat.mul_left_comm]
      rw [show n + 1 - j = (n - j) + 1 by omega, List.take_succ_cons, eA_cons, eA_cons, ← ih, e2, Nat.mul_add_div (Nat.pow_pos (by decide)), Nat.add_mul]
      congr 1
      exact Nat.mul_comm _ _
theorem eW_take {w : List Nat} (h : okW w) {n : Nat} (hn : n ≤ 12) : eW w / 2 ^ (5 * (12 - n)) * 2 ^ (5 * (12 - n)) = eW (w.take n) := by
  have := eA_take w 12 (12 - n) h.2 (by omega)
  rw [show 12 - (12 - n) = n by omega] at this
  rw [Nat.pow_mul]
  exact this
theorem eA_up : ∀ (xs : List Nat) (n : Nat), xs.length ≤ n → eA xs (n + 1) = eA xs n * 32
  | [], n, _ => by rw [eA_nil, eA_nil]
  | x :: xs, 0, h => absurd h (by simp)
  | x :: xs, n + 1, h => by
    rw [eA_cons, eA_cons, eA_up xs n (by simpa using h), Nat.add_mul, Nat.pow_succ, Nat.mul_assoc]
theorem eA_drop1 (xs : List Nat) (n : Nat) (hx : okL xs) (h : xs.length ≤ n) : eA xs n * 32 % 32 ^ n = eA (xs.drop 1) n := by
  cases xs with
  | nil => simp [eA_nil]
  | cons x ys =>
    cases n with
    | zero => exact absurd h (by simp)
    | succ n =>
      have h1 : ys.length ≤ n := by simpa using h
      have h2 := eA_lt ys n hx.tl
      show (x * 32 ^ n + eA ys n) * 32 % 32 ^ (n + 1) = eA ys (n + 1)
      rw [eA_up ys n h1, Nat.add_mul, Nat.mul_assoc, ← Nat.pow_succ, Nat.mul_comm x, Nat.mul_add_mod, Nat.mod_eq_of_lt]
      rw [Nat.pow_succ]
      exact Nat.mul_lt_mul_of_pos_right h2 (by decide)
theorem eA_drop (xs : List Nat) (n : Nat) (hx : okL xs) (h : xs.length ≤ n) : ∀ b, eA xs n * 32 ^ b % 32 ^ n = eA (xs.drop b) n
  | 0 => by rw [Nat.pow_zero, Nat.mul_one, List.drop_zero, Nat.mod_eq_of_lt (eA_lt xs n hx)]
  | b + 1 => by
    have ih := eA_drop xs n hx h b
    have h1 := eA_drop1 (xs.drop b) n (hx.drop b) (by rw [List.length_drop]; omega)
    rw [List.drop_drop] at h1
    rw [← h1, ← ih, Nat.pow_succ, ← Nat.mul_assoc, Nat.mod_mul_mod]
theorem eW_drop {w : List Nat} (h : okW w) (b : Nat) : eW w * 2 ^ (5 * b) % 2 ^ 60 = eW (w.drop b) := by
  have := eA_drop w 12 h.2 h.1 b
  rw [show (32 : Nat) ^ 12 = 2 ^ 60 by decide, show (32 : Nat) ^ b = 2 ^ (5 * b) by rw [Nat.pow_mul]] at this
  exact this
theorem eA_app : ∀ (xs : List Nat) (x n : Nat), xs.length < n → eA (xs ++ [x]) n = eA xs n + x * 32 ^ (n - 1 - xs.length)
  | [], x, 0, h => absurd h (Nat.not_lt_zero _)
  | [], x, n + 1, _ => by
    show x * 32 ^ n + eA [] n = 0 + x * 32 ^ (n + 1 - 1 - 0)
    rw [eA_nil, Nat.add_zero, Nat.zero_add]; rfl
  | y :: ys, x, 0, h => absurd h (Nat.not_lt_zero _)
  | y :: ys, x, n + 1, h => by
    have ih := eA_app ys x n (by simpa using h)
    rw [List.cons_append, eA_cons, eA_cons, ih, Nat.add_assoc, List.length_cons, show n + 1 - 1 - (ys.length + 1) = n - 1 - ys.length by omega]
theorem eA_mult : ∀ (xs : List Nat) (n : Nat), xs.length ≤ n → ∃ d, eA xs n = d * 32 ^ (n - xs.length)
  | [], n, _ => ⟨0, by rw [eA_nil, Nat.zero_mul]⟩
  | x :: xs, 0, h => absurd h (by simp)
  | x :: xs, n + 1, h => by
    have h1 : xs.length ≤ n := by simpa using h
    obtain ⟨d, hd⟩ := eA_mult xs n h1
    refine ⟨x * 32 ^ xs.length + d, ?_⟩
    rw [eA_cons, hd, List.length_cons, show n + 1 - (xs.length + 1) = n - xs.length by omega, Nat.add_mul, Nat.mul_assoc, ← Nat.pow_add, show xs.length + (n - xs.length) = n by omega]
/-- a letter more: bits that were free -/
theorem eW_with {w : List Nat} (h : okW w) {x : Nat} (hx : x ≤ 26) (hl : w.length < 12) : eW w ||| x * 2 ^ (5 * (11 - w.length)) = eW (w ++ [x]) := by
  have e1 : eW (w ++ [x]) = eW w + x * 2 ^ (5 * (11 - w.length)) := by
    have := eA_app w x 12 hl
    rw [show (12 - 1 - w.length) = 11 - w.length by omega] at this
    rw [Nat.pow_mul]
    exact this
  obtain ⟨d, hd⟩ := eA_mult w 12 (by omega)
  have e2 : eW w = 2 ^ (5 * (12 - w.length)) * d := by
    rw [Nat.pow_mul, Nat.mul_comm]
    exact hd
  have hlt : x * 2 ^ (5 * (11 - w.length)) < 2 ^ (5 * (12 - w.length)) := by
    rw [show 5 * (12 - w.length) = 5 + 5 * (11 - w.length) by omega, Nat.pow_add]
    exact Nat.mul_lt_mul_of_pos_right (by omega) (Nat.pow_pos (by decide))
  rw [e1, e2, Nat.two_pow_add_eq_or_of_lt hlt]
