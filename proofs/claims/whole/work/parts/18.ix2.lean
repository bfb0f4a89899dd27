/-! the index, whole -/
def ixAt (K : Nat → ClassId) (X : hwW) (a : Nat) (its : hwIt) (fs : Nat) (lg : Nat → Nat) (qw : List (List Nat)) (qo qs : Nat) (ss : List (List Nat)) (hs : List (Nat × Nat × Nat)) : Prop := ∃ (b0 b1 b2 b3 b4 b5 b6 b7 b8 : Nat) (fi : Nat → Option Nat) (fl : Nat → Int32) (ta tf tl : List (List Nat)) (fc : Nat → Int32), hwH X a 0 (.inr (5, [.ref b0, .int (nI its.length), .int (nI fs), .ref b1, .ref b2, .int (nI qs), .ref b3, .ref b4, .ref b5, .ref b6, .ref b7, .ref b8])) ∧ hwH X b0 1 (.inl (K 4, 30, .inr (.inr (.inr (.inr fi))))) ∧ itsAt K X fi its ∧ hwH X b1 2 (.inl (K 0, 4, .inl fl)) ∧ (∀ j, j < 4 → fl j = nI (lg j)) ∧ txAt K X b2 5 qw qo ∧ seAt K X b3 6 40 ss ∧ hiAt K X b4 hs ∧ tmAt K X b5 7 50 ta ∧ tmAt K X b6 8 750 tf ∧ seAt K X b7 9 750 tl ∧ hwH X b8 3 (.inl (K 0, 13, .inl fc))
theorem ixAt.fr {K : Nat → ClassId} {X Y : hwW} {S : Nat → Prop} {a : Nat} {its : hwIt} {fs : Nat} {lg : Nat → Nat} {qw : List (List Nat)} {qo qs : Nat} {ss : List (List Nat)} {hs : List (Nat × Nat × Nat)} (hF : hwF X Y S) (hS : ∀ M, M < 1000 → ¬ S M) (hl : its.length ≤ 30) (h : ixAt K X a its fs lg qw qo qs ss hs) : ixAt K Y a its fs lg qw qo qs ss hs := by
  obtain ⟨b0, b1, b2, b3, b4, b5, b6, b7, b8, fi, fl, ta, tf, tl, fc, g0, g1, g2, g3, g4, g5, g6, g7, g8, g9, g10, g11⟩ := h
  exact ⟨b0, b1, b2, b3, b4, b5, b6, b7, b8, fi, fl, ta, tf, tl, fc, hF _ _ _ (hS _ (by decide)) g0, hF _ _ _ (hS _ (by decide)) g1, g2.fr hF (fun M _ h2 => hS M (by omega)), hF _ _ _ (hS _ (by decide)) g3, g4, g5.fr hF (hS _ (by decide)) (hS _ (by decide)), g6.fr hF (hS _ (by decide)) (hS _ (by decide)), g7.fr hF (hS _ (by decide)) (hS _ (by decide)) (hS _ (by decide)) (hS _ (by decide)), g8.fr hF (hS _ (by decide)) (hS _ (by decide)), g9.fr hF (hS _ (by decide)) (hS _ (by decide)), g10.fr hF (hS _ (by decide)) (hS _ (by decide)), hF _ _ _ (hS _ (by decide)) g11⟩
theorem ixAt.ob {K : Nat → ClassId} {X : hwW} {a : Nat} {its : hwIt} {fs : Nat} {lg : Nat → Nat} {qw : List (List Nat)} {qo qs : Nat} {ss : List (List Nat)} {hs : List (Nat × Nat × Nat)} (h : ixAt K X a its fs lg qw qo qs ss hs) : ∃ (L : Nat) (fs : List Value), hwH X a L (.inr (5, fs)) := by
  obtain ⟨b0, b1, b2, b3, b4, b5, b6, b7, b8, fi, fl, ta, tf, tl, fc, g0, -⟩ := h
  exact ⟨_, _, g0⟩
/-- a kind that there is; a record's place -/
def kN (x : Int32) : Option Nat := if 0 ≤ x.toInt ∧ x.toInt < 4 then some x.toInt.toNat else none
def rN (n : Nat) (x : Int32) : Option Nat := if 1 ≤ x.toInt ∧ x.toInt ≤ n then some (x.toInt.toNat - 1) else none
theorem hw_ofI {x : Int32} {n : Nat} (h : x.toInt = n) (hn : n < 2 ^ 31) : x = nI n := by
  apply Int32.toInt_inj.mp
  rw [nI_toInt hn, h]
theorem kN_bad {x : Int32} (h : badK x) : kN x = none := by
  unfold kN
  rw [if_neg]
  intro q
  rcases h with h | h
  · rw [Int32.lt_iff_toInt_lt] at h
    have e : (0 : Int32).toInt = 0 := rfl
    omega
  · rw [Int32.le_iff_toInt_le, nI_toInt (by decide)] at h
    omega
theorem kN_nI {j : Nat} (h : j < 4) : kN (nI j) = some j := by
  unfold kN
  have e : (nI j).toInt = (j : Int) := nI_toInt (by omega)
  rw [if_pos (by rw [e]; omega), e]
  rfl
theorem kN_cases (x : Int32) : badK x ∨ ∃ j, j < 4 ∧ x = nI j := by
  by_cases h : 0 ≤ x.toInt ∧ x.toInt < 4
  · exact Or.inr ⟨x.toInt.toNat, by omega, hw_ofI (by omega) (by omega)⟩
  · left
    by_cases h0 : 0 ≤ x.toInt
    · right
      rw [Int32.le_iff_toInt_le, nI_toInt (by decide)]
      omega
    · left
      rw [Int32.lt_iff_toInt_lt]
      have e : (0 : Int32).toInt = 0 := rfl
      omega
theorem rN_bad {n : Nat} {x : Int32} (hn : n < 2 ^ 31) (h : badN n x) : rN n x = none := by
  unfold rN
  rw [if_neg]
  intro q
  rcases h with h | h
  · rw [Int32.lt_iff_toInt_lt, nI_toInt (by decide)] at h
    omega
  · rw [Int32.lt_iff_toInt_lt, nI_toInt hn] at h
    omega
theorem rN_nI {n m : Nat} (h1 : 1 ≤ m) (h2 : m ≤ n) (hn : n < 2 ^ 31) : rN n (nI m) = some (m - 1) := by
  unfold rN
  have e : (nI m).toInt = (m : Int) := nI_toInt (by omega)
  rw [if_pos (by rw [e]; omega), e]
  rfl
theorem rN_cases (n : Nat) (hn : n < 2 ^ 31) (x : Int32) : badN n x ∨ ∃ m, 1 ≤ m ∧ m ≤ n ∧ x = nI m := by
  by_cases h : 1 ≤ x.toInt ∧ x.toInt ≤ n
  · exact Or.inr ⟨x.toInt.toNat, by omega, by omega, hw_ofI (by omega) (by omega)⟩
  · left
    by_cases h0 : 1 ≤ x.toInt
    · right
      rw [Int32.lt_iff_toInt_lt, nI_toInt hn]
      omega
    · left
      rw [Int32.lt_iff_toInt_lt, nI_toInt (by decide)]
      omega
theorem nI_cases (x : Int32) : x < 0 ∨ ∃ j, j < 2147483648 ∧ x = nI j := by
  by_cases h : x < 0
  · exact Or.inl h
  · obtain ⟨j, h1, h2⟩ := nI_of h
    exact Or.inr ⟨j, h1, h2⟩
/-- what the calls do to the pure state -/
def recP (its : hwIt) : hwIt := if its.length < 30 then its ++ [(true, fun _ => ([], 0))] else its
def fldP (its : hwIt) (fs : Nat) (r k c : Int32) : hwIt × Nat := match rN its.length r, kN k with
  | some i, some j => if (its.getD i hwIt0).1 = true then (its.set i ((its.getD i hwIt0).1, va_up (its.getD i hwIt0).2 j (tk ((its.getD i hwIt0).2 j) (ltr (lo8 c)))), fs + 1) else (its, fs)
  | _, _ => (its, fs)
def remP (its : hwIt) (r : Int32) : hwIt × Nat := match rN its.length r with
  | some i => if (its.getD i hwIt0).1 = true then (its.set i (false, (its.getD i hwIt0).2), 1) else (its, 0)
  | none => (its, 0)
def sgnP (qw : List (List Nat)) (qo qs : Nat) (c : Int32) : (List (List Nat) × Nat) × Nat := if qs < 100 then (tk (qw, qo) (ltr (lo8 c)), qs + 1) else ((qw, qo), qs)
def askT (lg : Nat → Nat) (ss qw : List (List Nat)) (j : Nat) : List (List Nat) := qw.map (trm (lg j) ss)
def hsA (ta : List (List Nat)) (T : Nat → Option (List (List Nat))) (n : Nat) : List (Nat × Nat × Nat) := if ta.any (fun t => decide (t ≠ [])) = true then gaN (fun tb => ta.all (fun t => decide (t = [] ∨ t ∈ tb))) (fun tb => tb.countP (fun w => decide (w ≠ []) && (decide (w ∈ ta)))) T n else []
def hsP (ta : List (List Nat)) (T : Nat → Option (List (List Nat))) (n : Nat) : List (Nat × Nat × Nat) := if ta.any (fun t => decide (t ≠ [])) = true then gaN (fun tb => phL ta tb) (fun tb => tb.countP (fun w => decide (w ≠ []) && (decide (w ∈ ta)))) T n else []
def hsN (ta : List (List Nat)) (d : Int32) (T : Nat → Option (List (List Nat))) (n : Nat) : List (Nat × Nat × Nat) := if ta.getD 0 [] = [] ∨ ta.getD 1 [] = [] ∨ d.toInt < 1 then [] else gaN (fun tb => neL tb (ta.getD 0 []) (ta.getD 1 []) d.toInt.toNat) (fun tb => tb.countP (fun w => decide (w ≠ []) && (decide (w = ta.getD 0 [] ∨ w = ta.getD 1 [])))) T n
def hsW (w : List Nat) (be : Bool) (T : Nat → Option (List (List Nat))) (n : Nat) : List (Nat × Nat × Nat) := if w = [] ∨ (be = true ∧ w.length < 3) then [] else gaN (fun tb => decide (0 < tb.countP (fun v => decide (v ≠ []) && (bif be then endL v w else begL v w)))) (fun tb => tb.countP (fun v => decide (v ≠ []) && (bif be then endL v w else begL v w))) T n
def hA (hs : List (Nat × Nat × Nat)) (i : Int32) : Nat × Nat × Nat := if i < 0 then (0, 0, 0) else hs.getD i.toNatClampNeg (0, 0, 0)
theorem hA_neg {hs : List (Nat × Nat × Nat)} {i : Int32} (h : i < 0) : hA hs i = (0, 0, 0) := by unfold hA; rw [if_pos h]
theorem hA_nI {hs : List (Nat × Nat × Nat)} {j : Nat} (h : j < 2147483648) : hA hs (nI j) = hs.getD j (0, 0, 0) := by unfold hA; rw [if_neg (nI_pos h), nI_clamp h]
def lA (l : List (List Nat)) (i : Int32) : List Nat := if i < 0 then [] else l.getD i.toNatClampNeg []
theorem lA_neg {l : List (List Nat)} {i : Int32} (h : i < 0) : lA l i = [] := by unfold lA; rw [if_pos h]
theorem lA_nI {l : List (List Nat)} {j : Nat} (h : j < 2147483648) : lA l (nI j) = l.getD j [] := by unfold lA; rw [if_neg (nI_pos h), nI_clamp h]
def hitP (hs : List (Nat × Nat × Nat)) (i what : Int32) : Int32 := if what = 0 then nI (hA hs i).1 else if what = nI 1 then nI (hA hs i).2.1 else nI 0
def cdv (a b : Nat) : Nat := if a = 0 ∨ b = 0 then 0 else Nat.gcd a b
def rankP (hs : List (Nat × Nat × Nat)) (i side : Int32) : Int64 := if cdv (hA hs i).2.1 (hA hs i).2.2 < 1 then -1 else if side = 0 then lN ((hA hs i).2.1 / cdv (hA hs i).2.1 (hA hs i).2.2) else lN ((hA hs i).2.2 / cdv (hA hs i).2.1 (hA hs i).2.2)
def termW (l : List (List Nat)) (i k : Int32) : Int32 := if lA l i = [] ∨ k < 0 then -1 else nI (sgn ((lA l i).getD k.toNatClampNeg 0))
def nrN (w : List Nat) (l : List (List Nat)) : Nat → Nat × Int32
  | 0 => (3, -1)
  | i + 1 => if distL w (l.getD i []) < (nrN w l i).1 then (distL w (l.getD i []), nI i) else nrN w l i
theorem nrN_le (w : List Nat) (l : List (List Nat)) : ∀ i, (nrN w l i).1 ≤ 3
  | 0 => Nat.le_refl _
  | i + 1 => by
    have := nrN_le w l i
    show (if distL w (l.getD i []) < (nrN w l i).1 then (distL w (l.getD i []), nI i) else nrN w l i).1 ≤ 3
    split
    · show distL w (l.getD i []) ≤ 3; omega
    · exact this
theorem distL_le {f t : List Nat} (hf : f.length ≤ 12) (ht : t.length ≤ 12) : distL f t ≤ 24 := by
  have := rows_le (t := t) (W := 12) f (fun j => j) 12 (fun j hj => hj) t.length ht
  unfold distL
  omega
def stpP (ss qw : List (List Nat)) : List (List Nat) := qw.foldl (fun l w => insS 40 l w) ss
theorem stpP_take {ss qw : List (List Nat)} {i : Nat} (h : i < qw.length) : stpP ss (qw.take (i + 1)) = insS 40 (stpP ss (qw.take i)) (qw.getD i []) := by
  unfold stpP
  rw [take_succ_getD h, List.foldl_append]
  rfl
theorem sorted_stpP : ∀ {qw ss : List (List Nat)}, ss.Pairwise (· < ·) → (stpP ss qw).Pairwise (· < ·)
  | [], _, h => h
  | _ :: qw, _, h => sorted_stpP (qw := qw) (sorted_insS h)
def lanP (lg : Nat → Nat) (k l : Int32) : (Nat → Nat) × Int32 := match kN k with
  | none => (lg, -1)
  | some j => if l < 0 ∨ nI 3 ≤ l then (lg, -1) else (va_up lg j l.toNatClampNeg, nI (lg j))
theorem ne_len {w : List Nat} (h : w ≠ []) : 1 ≤ w.length := by
  cases w with
  | nil => exact absurd rfl h
  | cons x xs => simp
theorem gcd_found {a b d : Nat} (ha : a ≠ 0) (hb : b ≠ 0) (hd : 0 < d) (h1 : a % d = 0) (h2 : b % d = 0) (hno : ∀ e, d < e → e ≤ min a b → ¬ (a % e = 0 ∧ b % e = 0)) : cdv a b = d := by
  unfold cdv
  rw [if_neg (by omega)]
  have hdv : d ∣ Nat.gcd a b := Nat.dvd_gcd (Nat.dvd_of_mod_eq_zero h1) (Nat.dvd_of_mod_eq_zero h2)
  have hg : 0 < Nat.gcd a b := Nat.gcd_pos_of_pos_left _ (by omega)
  have hle : d ≤ Nat.gcd a b := Nat.le_of_dvd hg hdv
  rcases Nat.lt_or_ge d (Nat.gcd a b) with q | q
  · have ha2 : Nat.gcd a b ≤ a := Nat.le_of_dvd (by omega) (Nat.gcd_dvd_left a b)
    have hb2 : Nat.gcd a b ≤ b := Nat.le_of_dvd (by omega) (Nat.gcd_dvd_right a b)
    exact absurd ⟨Nat.mod_eq_zero_of_dvd (Nat.gcd_dvd_left a b), Nat.mod_eq_zero_of_dvd (Nat.gcd_dvd_right a b)⟩ (hno _ q (by omega))
  · omega
theorem cdv_zero {a b : Nat} (hno : ∀ e, 0 < e → e ≤ min a b → ¬ (a % e = 0 ∧ b % e = 0)) : cdv a b = 0 := by
  unfold cdv
  by_cases h : a = 0 ∨ b = 0
  · rw [if_pos h]
  · exact absurd ⟨Nat.mod_one a, Nat.mod_one b⟩ (hno 1 (by decide) (by omega))
theorem cdv_le (a b : Nat) (ha : a ≤ 1000) : cdv a b ≤ 1000 := by
  unfold cdv
  split
  · omega
  · have : Nat.gcd a b ≤ a := Nat.le_of_dvd (by omega) (Nat.gcd_dvd_left a b)
    omega
def okS (its : hwIt) (fs : Nat) (lg : Nat → Nat) (qw : List (List Nat)) (qo qs : Nat) (ss : List (List Nat)) : Prop := its.length ≤ 30 ∧ (∀ i j, txG ((its.getD i hwIt0).2 j).1 ((its.getD i hwIt0).2 j).2 ∧ ((its.getD i hwIt0).2 j).1.length ≤ fs) ∧ fs ≤ 600 ∧ (∀ j, lg j < 3) ∧ ss.Pairwise (· < ·) ∧ txG qw qo ∧ 2 * qw.length ≤ qs + (if qo = 0 then 0 else 1) ∧ qs ≤ 100
theorem okIt_of {its : hwIt} {fs : Nat} (h : ∀ i j, txG ((its.getD i hwIt0).2 j).1 ((its.getD i hwIt0).2 j).2 ∧ ((its.getD i hwIt0).2 j).1.length ≤ fs) (hf : fs ≤ 600) : okIt its := fun i j => ⟨(h i j).1.1, Nat.le_trans (h i j).2 hf⟩
theorem fldP_r {its : hwIt} {fs : Nat} {r k c : Int32} (h : rN its.length r = none) : fldP its fs r k c = (its, fs) := by unfold fldP; rw [h]
theorem fldP_k {its : hwIt} {fs : Nat} {r k c : Int32} (h : kN k = none) : fldP its fs r k c = (its, fs) := by unfold fldP; rw [h]; cases rN its.length r <;> rfl
theorem fldP_g {its : hwIt} {fs i : Nat} {r k c : Int32} (h : rN its.length r = some i) (ht : (its.getD i hwIt0).1 = false) : fldP its fs r k c = (its, fs) := by
  unfold fldP
  rw [h]
  cases kN k with
  | none => rfl
  | some j => show (if (its.getD i hwIt0).1 = true then _ else _) = _; rw [if_neg (by rw [ht]; decide)]
theorem fldP_y {its : hwIt} {fs i j : Nat} {r k c : Int32} (h : rN its.length r = some i) (hk : kN k = some j) (ht : (its.getD i hwIt0).1 = true) : fldP its fs r k c = (its.set i ((its.getD i hwIt0).1, va_up (its.getD i hwIt0).2 j (tk ((its.getD i hwIt0).2 j) (ltr (lo8 c)))), fs + 1) := by
  unfold fldP
  rw [h, hk]
  show (if (its.getD i hwIt0).1 = true then _ else _) = _
  rw [if_pos ht]
theorem remP_r {its : hwIt} {r : Int32} (h : rN its.length r = none) : remP its r = (its, 0) := by unfold remP; rw [h]
theorem remP_g {its : hwIt} {i : Nat} {r : Int32} (h : rN its.length r = some i) (ht : (its.getD i hwIt0).1 = false) : remP its r = (its, 0) := by
  unfold remP
  rw [h]
  show (if (its.getD i hwIt0).1 = true then _ else _) = _
  rw [if_neg (by rw [ht]; decide)]
theorem remP_y {its : hwIt} {i : Nat} {r : Int32} (h : rN its.length r = some i) (ht : (its.getD i hwIt0).1 = true) : remP its r = (its.set i (false, (its.getD i hwIt0).2), 1) := by
  unfold remP
  rw [h]
  show (if (its.getD i hwIt0).1 = true then _ else _) = _
  rw [if_pos ht]
def askS (f : Nat → List (Nat × Nat × Nat)) (k : Int32) : List (Nat × Nat × Nat) := match kN k with
  | none => []
  | some j => f j
theorem askS_b {f : Nat → List (Nat × Nat × Nat)} {k : Int32} (h : kN k = none) : askS f k = [] := by unfold askS; rw [h]
theorem askS_g {f : Nat → List (Nat × Nat × Nat)} {k : Int32} {j : Nat} (h : kN k = some j) : askS f k = f j := by unfold askS; rw [h]
def askI (f : Nat → Int32) (k : Int32) : Int32 := match kN k with
  | none => -1
  | some j => f j
theorem askI_b {f : Nat → Int32} {k : Int32} (h : kN k = none) : askI f k = -1 := by unfold askI; rw [h]
theorem askI_g {f : Nat → Int32} {k : Int32} {j : Nat} (h : kN k = some j) : askI f k = f j := by unfold askI; rw [h]
theorem hsA_f {ta : List (List Nat)} {T : Nat → Option (List (List Nat))} {n : Nat} (h : ta.any (fun t => decide (t ≠ [])) = false) : hsA ta T n = [] := by unfold hsA; rw [if_neg (by rw [h]; decide)]
theorem hsA_t {ta : List (List Nat)} {T : Nat → Option (List (List Nat))} {n : Nat} (h : ta.any (fun t => decide (t ≠ [])) = true) : hsA ta T n = gaN (fun tb => ta.all (fun t => decide (t = [] ∨ t ∈ tb))) (fun tb => tb.countP (fun w => decide (w ≠ []) && (decide (w ∈ ta)))) T n := by unfold hsA; rw [if_pos h]
theorem hsP_f {ta : List (List Nat)} {T : Nat → Option (List (List Nat))} {n : Nat} (h : ta.any (fun t => decide (t ≠ [])) = false) : hsP ta T n = [] := by unfold hsP; rw [if_neg (by rw [h]; decide)]
theorem hsP_t {ta : List (List Nat)} {T : Nat → Option (List (List Nat))} {n : Nat} (h : ta.any (fun t => decide (t ≠ [])) = true) : hsP ta T n = gaN (fun tb => phL ta tb) (fun tb => tb.countP (fun w => decide (w ≠ []) && (decide (w ∈ ta)))) T n := by unfold hsP; rw [if_pos h]
theorem hsA_c {ta : List (List Nat)} {T : Nat → Option (List (List Nat))} {n : Nat} : hsA ta T n = gaN (fun tb => decide (0 < tb.countP (fun w => decide (w ≠ []) && (decide (w ∈ ta)))) && ta.all (fun t => decide (t = [] ∨ t ∈ tb))) (fun tb => tb.countP (fun w => decide (w ≠ []) && (decide (w ∈ ta)))) T n := by
  unfold hsA
  split
  · rename_i h
    exact gaN_pos (fun t hm => cnt_all h hm)
  · rename_i h
    exact (gaN_nil (fun t => and_f1 (decide_eq_false (by rw [cnt_any (Bool.eq_false_iff.mpr h)]; exact Nat.lt_irrefl 0))) n).symm
theorem hsP_c {ta : List (List Nat)} {T : Nat → Option (List (List Nat))} {n : Nat} : hsP ta T n = gaN (fun tb => decide (0 < tb.countP (fun w => decide (w ≠ []) && (decide (w ∈ ta)))) && phL ta tb) (fun tb => tb.countP (fun w => decide (w ≠ []) && (decide (w ∈ ta)))) T n := by
  unfold hsP
  split
  · rename_i h
    exact gaN_pos (fun t hm => cnt_phr h hm)
  · rename_i h
    exact (gaN_nil (fun t => and_f1 (decide_eq_false (by rw [cnt_any (Bool.eq_false_iff.mpr h)]; exact Nat.lt_irrefl 0))) n).symm
theorem hsN_e {ta : List (List Nat)} {d : Int32} {T : Nat → Option (List (List Nat))} {n : Nat} (h : ta.getD 0 [] = [] ∨ ta.getD 1 [] = [] ∨ d < nI 1) : hsN ta d T n = [] := by
  unfold hsN
  rw [if_pos]
  rcases h with h | h | h
  · exact Or.inl h
  · exact Or.inr (Or.inl h)
  · right; right
    rw [Int32.lt_iff_toInt_lt, nI_toInt (by decide)] at h
    exact h
theorem hsN_g {ta : List (List Nat)} {dd : Nat} {T : Nat → Option (List (List Nat))} {n : Nat} (h1 : ta.getD 0 [] ≠ []) (h2 : ta.getD 1 [] ≠ []) (h3 : 1 ≤ dd) (h4 : dd < 2147483648) : hsN ta (nI dd) T n = gaN (fun tb => neL tb (ta.getD 0 []) (ta.getD 1 []) dd) (fun tb => tb.countP (fun w => decide (w ≠ []) && (decide (w = ta.getD 0 [] ∨ w = ta.getD 1 [])))) T n := by
  unfold hsN
  have e : (nI dd).toInt = (dd : Int) := nI_toInt h4
  rw [if_neg, e]
  · rfl
  · rintro (h | h | h)
    · exact h1 h
    · exact h2 h
    · rw [e] at h; omega
theorem hsN_c {ta : List (List Nat)} {dd : Nat} {T : Nat → Option (List (List Nat))} {n : Nat} (h1 : ta.getD 0 [] ≠ []) (h2 : ta.getD 1 [] ≠ []) (h3 : 1 ≤ dd) (h4 : dd < 2147483648) : hsN ta (nI dd) T n = gaN (fun tb => decide (0 < tb.countP (fun w => decide (w ≠ []) && (decide (w = ta.getD 0 [] ∨ w = ta.getD 1 [])))) && neL tb (ta.getD 0 []) (ta.getD 1 []) dd) (fun tb => tb.countP (fun w => decide (w ≠ []) && (decide (w = ta.getD 0 [] ∨ w = ta.getD 1 [])))) T n := by
  rw [hsN_g h1 h2 h3 h4]
  exact gaN_pos (fun t hm => cnt_nea h1 hm)
theorem d1_cases (d : Int32) : d < nI 1 ∨ ∃ dd, 1 ≤ dd ∧ dd < 2147483648 ∧ d = nI dd := by
  by_cases h : d < nI 1
  · exact Or.inl h
  · rw [Int32.lt_iff_toInt_lt, nI_toInt (by decide)] at h
    have := d.toInt_lt
    exact Or.inr ⟨d.toInt.toNat, by omega, by omega, hw_ofI (by omega) (by omega)⟩
theorem hsW_e {w : List Nat} {be : Bool} {T : Nat → Option (List (List Nat))} {n : Nat} (h : w = [] ∨ (be = true ∧ w.length < 3)) : hsW w be T n = [] := by unfold hsW; rw [if_pos h]
theorem hsW_g {w : List Nat} {be : Bool} {T : Nat → Option (List (List Nat))} {n : Nat} (h : w ≠ []) (h2 : be = true → 3 ≤ w.length) : hsW w be T n = gaN (fun tb => decide (0 < tb.countP (fun v => decide (v ≠ []) && (bif be then endL v w else begL v w)))) (fun tb => tb.countP (fun v => decide (v ≠ []) && (bif be then endL v w else begL v w))) T n := by
  unfold hsW
  rw [if_neg]
  rintro (q | q)
  · exact h q
  · have := h2 q.1; omega
theorem lanP_b {lg : Nat → Nat} {k l : Int32} (h : kN k = none) : lanP lg k l = (lg, -1) := by unfold lanP; rw [h]
theorem lanP_l {lg : Nat → Nat} {k l : Int32} {j : Nat} (h : kN k = some j) (h2 : l < 0 ∨ nI 3 ≤ l) : lanP lg k l = (lg, -1) := by unfold lanP; rw [h]; show (if l < 0 ∨ nI 3 ≤ l then _ else _) = _; rw [if_pos h2]
theorem lanP_g {lg : Nat → Nat} {k : Int32} {j x : Nat} (h : kN k = some j) (hx : x < 3) : lanP lg k (nI x) = (va_up lg j x, nI (lg j)) := by
  unfold lanP
  rw [h]
  show (if nI x < 0 ∨ nI 3 ≤ nI x then _ else _) = _
  rw [if_neg, nI_clamp (by omega)]
  rintro (q | q)
  · exact nI_pos (by omega) q
  · exact nI_ge (a := x) (b := 3) hx (by decide) q
theorem l3_cases (x : Int32) : x < 0 ∨ nI 3 ≤ x ∨ ∃ j, j < 3 ∧ x = nI j := pk_ix x (by decide)
theorem termW_e {l : List (List Nat)} {i k : Int32} (h : lA l i = [] ∨ k < 0) : termW l i k = -1 := by unfold termW; rw [if_pos h]
theorem termW_g {l : List (List Nat)} {x y : Nat} (hx : x < 2147483648) (hy : y < 2147483648) (h : l.getD x [] ≠ []) : termW l (nI x) (nI y) = nI (sgn ((l.getD x []).getD y 0)) := by
  unfold termW
  rw [lA_nI hx, if_neg, nI_clamp hy]
  rintro (q | q)
  · exact h q
  · exact nI_pos hy q
theorem dIx_startSearch_0 : decode cIx_startSearch 0 = .ok (.aload_n 0, 1) := by decide +kernel
theorem dIx_startSearch_1 : decode cIx_startSearch 1 = .ok (.getfield 38, 3) := by decide +kernel
theorem dIx_startSearch_4 : decode cIx_startSearch 4 = .ok (.invokevirtual 173, 3) := by decide +kernel
theorem dIx_startSearch_7 : decode cIx_startSearch 7 = .ok (.aload_n 0, 1) := by decide +kernel
theorem dIx_startSearch_8 : decode cIx_startSearch 8 = .ok (.getfield 45, 3) := by decide +kernel
theorem dIx_startSearch_11 : decode cIx_startSearch 11 = .ok (.invokevirtual 174, 3) := by decide +kernel
theorem dIx_startSearch_14 : decode cIx_startSearch 14 = .ok (.iload_n 1, 1) := by decide +kernel
theorem dIx_startSearch_15 : decode cIx_startSearch 15 = .ok (.invokestatic 162, 3) := by decide +kernel
theorem dIx_startSearch_18 : decode cIx_startSearch 18 = .ok (.ifCond .eq 24, 3) := by decide +kernel
theorem dIx_startSearch_21 : decode cIx_startSearch 21 = .ok (.aload_n 0, 1) := by decide +kernel
theorem dIx_startSearch_22 : decode cIx_startSearch 22 = .ok (.getfield 45, 3) := by decide +kernel
theorem dIx_startSearch_25 : decode cIx_startSearch 25 = .ok (.aload_n 0, 1) := by decide +kernel
theorem dIx_startSearch_26 : decode cIx_startSearch 26 = .ok (.getfield 22, 3) := by decide +kernel
theorem dIx_startSearch_29 : decode cIx_startSearch 29 = .ok (.aload_n 0, 1) := by decide +kernel
theorem dIx_startSearch_30 : decode cIx_startSearch 30 = .ok (.getfield 15, 3) := by decide +kernel
theorem dIx_startSearch_33 : decode cIx_startSearch 33 = .ok (.iload_n 1, 1) := by decide +kernel
theorem dIx_startSearch_34 : decode cIx_startSearch 34 = .ok (.iaload, 1) := by decide +kernel
theorem dIx_startSearch_35 : decode cIx_startSearch 35 = .ok (.aload_n 0, 1) := by decide +kernel
theorem dIx_startSearch_36 : decode cIx_startSearch 36 = .ok (.getfield 31, 3) := by decide +kernel
theorem dIx_startSearch_39 : decode cIx_startSearch 39 = .ok (.invokevirtual 175, 3) := by decide +kernel
theorem dIx_startSearch_42 : decode cIx_startSearch 42 = .ok (.aload_n 0, 1) := by decide +kernel
theorem dIx_startSearch_43 : decode cIx_startSearch 43 = .ok (.invokevirtual 146, 3) := by decide +kernel
theorem dIx_startSearch_46 : decode cIx_startSearch 46 = .ok (.return_, 1) := by decide +kernel
theorem dIx_listFieldTerms_0 : decode cIx_listFieldTerms 0 = .ok (.iconst 0, 1) := by decide +kernel
theorem dIx_listFieldTerms_1 : decode cIx_listFieldTerms 1 = .ok (.istore_n 1, 1) := by decide +kernel
theorem dIx_listFieldTerms_2 : decode cIx_listFieldTerms 2 = .ok (.iload_n 1, 1) := by decide +kernel
theorem dIx_listFieldTerms_3 : decode cIx_listFieldTerms 3 = .ok (.aload_n 0, 1) := by decide +kernel
theorem dIx_listFieldTerms_4 : decode cIx_listFieldTerms 4 = .ok (.getfield 49, 3) := by decide +kernel
theorem dIx_listFieldTerms_7 : decode cIx_listFieldTerms 7 = .ok (.invokevirtual 193, 3) := by decide +kernel
theorem dIx_listFieldTerms_10 : decode cIx_listFieldTerms 10 = .ok (.if_icmp .ge 37, 3) := by decide +kernel
theorem dIx_listFieldTerms_13 : decode cIx_listFieldTerms 13 = .ok (.aload_n 0, 1) := by decide +kernel
theorem dIx_listFieldTerms_14 : decode cIx_listFieldTerms 14 = .ok (.getfield 49, 3) := by decide +kernel
theorem dIx_listFieldTerms_17 : decode cIx_listFieldTerms 17 = .ok (.iload_n 1, 1) := by decide +kernel
theorem dIx_listFieldTerms_18 : decode cIx_listFieldTerms 18 = .ok (.invokevirtual 99, 3) := by decide +kernel
theorem dIx_listFieldTerms_21 : decode cIx_listFieldTerms 21 = .ok (.lconst 0, 1) := by decide +kernel
theorem dIx_listFieldTerms_22 : decode cIx_listFieldTerms 22 = .ok (.lcmp, 1) := by decide +kernel
theorem dIx_listFieldTerms_23 : decode cIx_listFieldTerms 23 = .ok (.ifCond .eq 18, 3) := by decide +kernel
theorem dIx_listFieldTerms_26 : decode cIx_listFieldTerms 26 = .ok (.aload_n 0, 1) := by decide +kernel
theorem dIx_listFieldTerms_27 : decode cIx_listFieldTerms 27 = .ok (.getfield 52, 3) := by decide +kernel
theorem dIx_listFieldTerms_30 : decode cIx_listFieldTerms 30 = .ok (.aload_n 0, 1) := by decide +kernel
theorem dIx_listFieldTerms_31 : decode cIx_listFieldTerms 31 = .ok (.getfield 49, 3) := by decide +kernel
theorem dIx_listFieldTerms_34 : decode cIx_listFieldTerms 34 = .ok (.iload_n 1, 1) := by decide +kernel
theorem dIx_listFieldTerms_35 : decode cIx_listFieldTerms 35 = .ok (.invokevirtual 99, 3) := by decide +kernel
theorem dIx_listFieldTerms_38 : decode cIx_listFieldTerms 38 = .ok (.invokevirtual 158, 3) := by decide +kernel
theorem dIx_listFieldTerms_41 : decode cIx_listFieldTerms 41 = .ok (.iinc 1 1, 3) := by decide +kernel
theorem dIx_listFieldTerms_44 : decode cIx_listFieldTerms 44 = .ok (.goto (-42), 3) := by decide +kernel
theorem dIx_listFieldTerms_47 : decode cIx_listFieldTerms 47 = .ok (.return_, 1) := by decide +kernel
theorem dIx_listTerms_0 : decode cIx_listTerms 0 = .ok (.aload_n 0, 1) := by decide +kernel
theorem dIx_listTerms_1 : decode cIx_listTerms 1 = .ok (.getfield 52, 3) := by decide +kernel
theorem dIx_listTerms_4 : decode cIx_listTerms 4 = .ok (.invokevirtual 198, 3) := by decide +kernel
theorem dIx_listTerms_7 : decode cIx_listTerms 7 = .ok (.iconst 1, 1) := by decide +kernel
theorem dIx_listTerms_8 : decode cIx_listTerms 8 = .ok (.istore_n 2, 1) := by decide +kernel
theorem dIx_listTerms_9 : decode cIx_listTerms 9 = .ok (.iload_n 2, 1) := by decide +kernel
theorem dIx_listTerms_10 : decode cIx_listTerms 10 = .ok (.aload_n 0, 1) := by decide +kernel
theorem dIx_listTerms_11 : decode cIx_listTerms 11 = .ok (.getfield 58, 3) := by decide +kernel
theorem dIx_listTerms_14 : decode cIx_listTerms 14 = .ok (.if_icmp .gt 22, 3) := by decide +kernel
theorem dIx_listTerms_17 : decode cIx_listTerms 17 = .ok (.aload_n 0, 1) := by decide +kernel
theorem dIx_listTerms_18 : decode cIx_listTerms 18 = .ok (.iload_n 2, 1) := by decide +kernel
theorem dIx_listTerms_19 : decode cIx_listTerms 19 = .ok (.iload_n 1, 1) := by decide +kernel
theorem dIx_listTerms_20 : decode cIx_listTerms 20 = .ok (.invokevirtual 179, 3) := by decide +kernel
theorem dIx_listTerms_23 : decode cIx_listTerms 23 = .ok (.ifCond .eq 7, 3) := by decide +kernel
theorem dIx_listTerms_26 : decode cIx_listTerms 26 = .ok (.aload_n 0, 1) := by decide +kernel
theorem dIx_listTerms_27 : decode cIx_listTerms 27 = .ok (.invokevirtual 199, 3) := by decide +kernel
theorem dIx_listTerms_30 : decode cIx_listTerms 30 = .ok (.iinc 2 1, 3) := by decide +kernel
theorem dIx_listTerms_33 : decode cIx_listTerms 33 = .ok (.goto (-24), 3) := by decide +kernel
theorem dIx_listTerms_36 : decode cIx_listTerms 36 = .ok (.return_, 1) := by decide +kernel
theorem dIx_commonDivisor_0 : decode cIx_commonDivisor 0 = .ok (.iload_n 0, 1) := by decide +kernel
theorem dIx_commonDivisor_1 : decode cIx_commonDivisor 1 = .ok (.iload_n 1, 1) := by decide +kernel
theorem dIx_commonDivisor_2 : decode cIx_commonDivisor 2 = .ok (.invokestatic 202, 3) := by decide +kernel
theorem dIx_commonDivisor_5 : decode cIx_commonDivisor 5 = .ok (.istore_n 2, 1) := by decide +kernel
theorem dIx_commonDivisor_6 : decode cIx_commonDivisor 6 = .ok (.iload_n 2, 1) := by decide +kernel
theorem dIx_commonDivisor_7 : decode cIx_commonDivisor 7 = .ok (.ifCond .le 23, 3) := by decide +kernel
theorem dIx_commonDivisor_10 : decode cIx_commonDivisor 10 = .ok (.iload_n 0, 1) := by decide +kernel
theorem dIx_commonDivisor_11 : decode cIx_commonDivisor 11 = .ok (.iload_n 2, 1) := by decide +kernel
theorem dIx_commonDivisor_12 : decode cIx_commonDivisor 12 = .ok (.irem, 1) := by decide +kernel
theorem dIx_commonDivisor_13 : decode cIx_commonDivisor 13 = .ok (.ifCond .ne 11, 3) := by decide +kernel
theorem dIx_commonDivisor_16 : decode cIx_commonDivisor 16 = .ok (.iload_n 1, 1) := by decide +kernel
theorem dIx_commonDivisor_17 : decode cIx_commonDivisor 17 = .ok (.iload_n 2, 1) := by decide +kernel
theorem dIx_commonDivisor_18 : decode cIx_commonDivisor 18 = .ok (.irem, 1) := by decide +kernel
theorem dIx_commonDivisor_19 : decode cIx_commonDivisor 19 = .ok (.ifCond .ne 5, 3) := by decide +kernel
theorem dIx_commonDivisor_22 : decode cIx_commonDivisor 22 = .ok (.iload_n 2, 1) := by decide +kernel
theorem dIx_commonDivisor_23 : decode cIx_commonDivisor 23 = .ok (.ireturn, 1) := by decide +kernel
theorem dIx_commonDivisor_24 : decode cIx_commonDivisor 24 = .ok (.iinc 2 (-1), 3) := by decide +kernel
theorem dIx_commonDivisor_27 : decode cIx_commonDivisor 27 = .ok (.goto (-21), 3) := by decide +kernel
theorem dIx_commonDivisor_30 : decode cIx_commonDivisor 30 = .ok (.iconst 0, 1) := by decide +kernel
theorem dIx_commonDivisor_31 : decode cIx_commonDivisor 31 = .ok (.ireturn, 1) := by decide +kernel
theorem mm_250 : (.code yHits_clear cHits_clear 1 none : Cond) ∈ hwG := hwIx 251 (by decide +kernel) (by decide +kernel)
theorem mm_251 : (.methodLink RIx 173 yHits_clear : Cond) ∈ hwG := hwIx 248 (by decide +kernel) (by decide +kernel)
theorem mm_252 : (.instanceMethod yHits_clear : Cond) ∈ hwG := hwIx 249 (by decide +kernel) (by decide +kernel)
theorem mm_253 : (.selects RHits yHits_clear yHits_clear : Cond) ∈ hwG := hwIx 250 (by decide +kernel) (by decide +kernel)
theorem mm_254 : (.fieldLink RIx 45 RIx "asked" "LWordIndex2$Terms;" : Cond) ∈ hwG := hwIx 134 (by decide +kernel) (by decide +kernel)
theorem mm_255 : (.code yTerms_clear cTerms_clear 1 none : Cond) ∈ hwG := hwIx 255 (by decide +kernel) (by decide +kernel)
theorem mm_256 : (.methodLink RIx 174 yTerms_clear : Cond) ∈ hwG := hwIx 252 (by decide +kernel) (by decide +kernel)
theorem mm_257 : (.instanceMethod yTerms_clear : Cond) ∈ hwG := hwIx 253 (by decide +kernel) (by decide +kernel)
theorem mm_258 : (.selects RTerms yTerms_clear yTerms_clear : Cond) ∈ hwG := hwIx 254 (by decide +kernel) (by decide +kernel)
theorem mm_259 : (.code yIx_clearQuestion cIx_clearQuestion 1 none : Cond) ∈ hwG := hwIx 300 (by decide +kernel) (by decide +kernel)
theorem mm_260 : (.methodLink RIx 146 yIx_clearQuestion : Cond) ∈ hwG := hwIx 297 (by decide +kernel) (by decide +kernel)
theorem mm_261 : (.instanceMethod yIx_clearQuestion : Cond) ∈ hwG := hwIx 299 (by decide +kernel) (by decide +kernel)
theorem mm_262 : (.selects RIx yIx_clearQuestion yIx_clearQuestion : Cond) ∈ hwG := hwIx 5 (by decide +kernel) (by decide +kernel)
theorem mm_263 : (.methodLink RIx 99 yTerms_at : Cond) ∈ hwG := hwIx 446 (by decide +kernel) (by decide +kernel)
theorem mm_264 : (.fieldLink RIx 52 RIx "listed" "LWordIndex2$WordSet;" : Cond) ∈ hwG := hwIx 136 (by decide +kernel) (by decide +kernel)
theorem mm_265 : (.code yWordSet_add cWordSet_add 4 none : Cond) ∈ hwG := hwIx 519 (by decide +kernel) (by decide +kernel)
theorem mm_266 : (.methodLink RIx 158 yWordSet_add : Cond) ∈ hwG := hwIx 516 (by decide +kernel) (by decide +kernel)
theorem mm_267 : (.instanceMethod yWordSet_add : Cond) ∈ hwG := hwIx 517 (by decide +kernel) (by decide +kernel)
theorem mm_268 : (.selects RWordSet yWordSet_add yWordSet_add : Cond) ∈ hwG := hwIx 518 (by decide +kernel) (by decide +kernel)
theorem mm_269 : (.code yWordSet_clear cWordSet_clear 1 none : Cond) ∈ hwG := hwIx 511 (by decide +kernel) (by decide +kernel)
theorem mm_270 : (.methodLink RIx 198 yWordSet_clear : Cond) ∈ hwG := hwIx 508 (by decide +kernel) (by decide +kernel)
theorem mm_271 : (.instanceMethod yWordSet_clear : Cond) ∈ hwG := hwIx 509 (by decide +kernel) (by decide +kernel)
theorem mm_272 : (.selects RWordSet yWordSet_clear yWordSet_clear : Cond) ∈ hwG := hwIx 510 (by decide +kernel) (by decide +kernel)
theorem mm_273 : (.code yIx_listFieldTerms cIx_listFieldTerms 2 none : Cond) ∈ hwG := hwIx 515 (by decide +kernel) (by decide +kernel)
theorem mm_274 : (.methodLink RIx 199 yIx_listFieldTerms : Cond) ∈ hwG := hwIx 512 (by decide +kernel) (by decide +kernel)
theorem mm_275 : (.instanceMethod yIx_listFieldTerms : Cond) ∈ hwG := hwIx 514 (by decide +kernel) (by decide +kernel)
theorem mm_276 : (.selects RIx yIx_listFieldTerms yIx_listFieldTerms : Cond) ∈ hwG := hwIx 13 (by decide +kernel) (by decide +kernel)
theorem mm_277 : (.methodLink RIx 202 Lib.Math.min.name : Cond) ∈ hwG := hwIx 498 (by decide +kernel) (by decide +kernel)
set_option maxHeartbeats 4000000 in
set_option maxRecDepth 100000 in
theorem c_Ix_start (l : Launch) (D : va_G) (K : Nat → ClassId) (X : hwW) (sz : Nat) (a : Nat) (b0 : Nat) (b1 : Nat) (b2 : Nat) (b3 : Nat) (b4 : Nat) (b5 : Nat) (b6 : Nat) (b7 : Nat) (b8 : Nat) (ni : Nat) (fs : Nat) (qs : Nat) (fl : Nat → Int32) (lg : Nat → Nat) (hs : List (Nat × Nat × Nat)) (ta : List (List Nat)) (qw : List (List Nat)) (qo : Nat) (ss : List (List Nat)) (j : Nat) (f0_ : hwH X a 0 (.inr (5, [.ref b0, .int (nI ni), .int (nI fs), .ref b1, .ref b2, .int (nI qs), .ref b3, .ref b4, .ref b5, .ref b6, .ref b7, .ref b8]))) (f1_ : hwH X b1 2 (.inl (K 0, 4, .inl fl))) (f2_ : hiAt K X b4 hs) (f3_ : tmAt K X b5 7 50 ta) (f4_ : txAt K X b2 5 qw qo) (f5_ : seAt K X b3 6 40 ss) (hj : j < 4) (hfl : ∀ j, j < 4 → fl j = nI (lg j)) (hlg : ∀ j, lg j < 3) (hq50 : qw.length ≤ 50) (hne : ∀ w ∈ qw, 1 ≤ w.length) (hso : ss.Pairwise (· < ·)) : Met l yIx_startSearch (.code yIx_startSearch cIx_startSearch 2 none :: hwG) ({ frames := 5, cells := 0, slots := 0, locals := 115 } : Room) (hwPc D vwCl (hwT K) [.ref a, .int (nI j)] X sz) (hwQv D vwCl X sz (fun Y => hwF X Y (fun M => M = 0 ∨ M = 10 ∨ M = 11 ∨ M = 14 ∨ M = 15 ∨ (60 ≤ M ∧ M ≤ 63)) ∧ hwH Y a 0 (.inr (5, [.ref b0, .int (nI ni), .int (nI fs), .ref b1, .ref b2, .int (nI 0), .ref b3, .ref b4, .ref b5, .ref b6, .ref b7, .ref b8])) ∧ hiAt K Y b4 [] ∧ tmAt K Y b5 7 50 (qw.map (trm (lg j) ss)) ∧ txAt K Y b2 5 [] 0)) 0 0 (va_A X.1 sz) := by
  refine hwMetv (cc := cIx_startSearch) (maxL := 2) (by decide) rfl (Nat.le_of_ble_eq_true rfl) (fun p e s m args below meth c ls A Q hx hb hml hown hts hname hret hK hO hZ hA hl => ?_)
  have hl : lv_has ls 2 [(0, .ref a), (1, .int (nI j))] := hl
  have hFr : hwF X X (fun M => M = 0 ∨ M = 10 ∨ M = 11 ∨ M = 14 ∨ M = 15 ∨ (60 ≤ M ∧ M ≤ 63)) := hwF.rf
  refine lv_aload_n hx hb dIx_startSearch_0 rfl (lv_at hl 0 rfl) ?_
  refine hw_get hx hb hts (hwInn inIx) hown hK hZ f0_ rfl 7 (by decide) (hts (.fieldLink RIx 38 RIx "hits" "LWordIndex2$Hits;") (hwMem mm_214)) (fun _ h => h) rfl dIx_startSearch_1 ?_
  refine hw_callv (va_runV (As := []) (rest := []) ⟨hx, hb, hml, hown, hts⟩ (c_Hi_clearP l D K X s.heap.size (a := b4) (hs := hs) f2_) (cwV 0 hts (hwGood (hw_4 mm_251 mm_252 mm_253 mm_95 (hwAll mm_250))) rfl rfl rfl (by decide +kernel) ⟨Nat.le_of_ble_eq_true rfl, Nat.le_of_ble_eq_true rfl⟩) (hw_preV hK hO hZ (hiAt.ob f2_) rfl) rfl rfl hl.1 rfl (lv_room (Nat.le_of_ble_eq_true rfl)) dIx_startSearch_4 ⟨(show 0 + 0 ≤ 0 by omega), (show 0 + 0 ≤ 0 by omega)⟩) hZ hA (fun X_1 H_2 lc_3 hp hZ => ?_)
  obtain ⟨hF, hN_4⟩ := hp
  have hFr := hwF.tr hFr hF (fun _ h => h) (fun M h => by first | exact False.elim h | ((try dsimp only at h ⊢); omega))
  have f0_ := hF _ _ _ (by intro hNS; first | exact False.elim hNS | ((try dsimp only at hNS); omega)) f0_
  have f1_ := hF _ _ _ (by intro hNS; first | exact False.elim hNS | ((try dsimp only at hNS); omega)) f1_
  have f3_ := tmAt.fr hF (by intro hNS; first | exact False.elim hNS | ((try dsimp only at hNS); omega)) (by intro hNS; first | exact False.elim hNS | ((try dsimp only at hNS); omega)) f3_
  have f4_ := txAt.fr hF (by intro hNS; first | exact False.elim hNS | ((try dsimp only at hNS); omega)) (by intro hNS; first | exact False.elim hNS | ((try dsimp only at hNS); omega)) f4_
  have f5_ := seAt.fr hF (by intro hNS; first | exact False.elim hNS | ((try dsimp only at hNS); omega)) (by intro hNS; first | exact False.elim hNS | ((try dsimp only at hNS); omega)) f5_
  have ff_5 := hN_4
  refine lv_aload_n hx hb dIx_startSearch_7 rfl (lv_at hl 0 rfl) ?_
  refine hw_get hx hb hts (hwInn inIx) hown hK hZ f0_ rfl 8 (by decide) (hts (.fieldLink RIx 45 RIx "asked" "LWordIndex2$Terms;") (hwMem mm_254)) (fun _ h => h) rfl dIx_startSearch_8 ?_
  refine hw_callv (va_runV (As := []) (rest := []) ⟨hx, hb, hml, hown, hts⟩ (c_Tm_clear l D K X_1 H_2.size (a := b5) (k := 7) (N := 50) (ts := ta) f3_) (cwV 0 hts (hwGood (hw_4 mm_256 mm_257 mm_258 mm_89 (hwAll mm_255))) rfl rfl rfl (by decide +kernel) ⟨Nat.le_of_ble_eq_true rfl, Nat.le_of_ble_eq_true rfl⟩) (hw_preV hK hO hZ (tmAt.ob f3_) rfl) rfl rfl hl.1 rfl (lv_room (Nat.le_of_ble_eq_true rfl)) dIx_startSearch_11 ⟨(show 0 + 0 ≤ 0 by omega), (show 0 + 0 ≤ 0 by omega)⟩) hZ hA (fun X_6 H_7 lc_8 hp hZ => ?_)
  obtain ⟨hF, hN_9⟩ := hp
  have hFr := hwF.tr hFr hF (fun _ h => h) (fun M h => by first | exact False.elim h | ((try dsimp only at h ⊢); omega))
  have f0_ := hF _ _ _ (by intro hNS; first | exact False.elim hNS | ((try dsimp only at hNS); omega)) f0_
  have f1_ := hF _ _ _ (by intro hNS; first | exact False.elim hNS | ((try dsimp only at hNS); omega)) f1_
  have f4_ := txAt.fr hF (by intro hNS; first | exact False.elim hNS | ((try dsimp only at hNS); omega)) (by intro hNS; first | exact False.elim hNS | ((try dsimp only at hNS); omega)) f4_
  have f5_ := seAt.fr hF (by intro hNS; first | exact False.elim hNS | ((try dsimp only at hNS); omega)) (by intro hNS; first | exact False.elim hNS | ((try dsimp only at hNS); omega)) f5_
  have ff_5 := hiAt.fr hF (by intro hNS; first | exact False.elim hNS | ((try dsimp only at hNS); omega)) (by intro hNS; first | exact False.elim hNS | ((try dsimp only at hNS); omega)) (by intro hNS; first | exact False.elim hNS | ((try dsimp only at hNS); omega)) (by intro hNS; first | exact False.elim hNS | ((try dsimp only at hNS); omega)) ff_5
  have ff_10 := hN_9
  refine lv_iload_n hx hb dIx_startSearch_14 rfl (lv_at hl 1 rfl) ?_
  refine hw_calli (va_runS (As := [.int (nI j)]) (rest := []) ⟨hx, hb, hml, hown, hts⟩ (c_Ix_isKind l D K X_6 H_7.size (j := j) (by omega)) (va_cwS 1 hts (hwGood (hw_3 mm_206 mm_205 mm_188 (hwAll mm_204))) rfl rfl rfl (by decide +kernel) ⟨Nat.le_of_ble_eq_true rfl, Nat.le_of_ble_eq_true rfl⟩) (hw_preS hK hO hZ) rfl rfl hl.1 rfl (lv_room (Nat.le_of_ble_eq_true rfl)) dIx_startSearch_15 ⟨(show 0 + 0 ≤ 0 by omega), (show 0 + 0 ≤ 0 by omega)⟩) hZ hA (fun r X_11 H_12 lc_13 hp hZ => ?_)
  obtain ⟨hr, hy⟩ := hp
  subst hy
  refine hw_topi hr ?_
  refine hw_bz_eqF (tgt := 42) hx hb dIx_startSearch_18 (by decide) rfl ?_
  refine lv_aload_n hx hb dIx_startSearch_21 rfl (lv_at hl 0 rfl) ?_
  refine hw_get hx hb hts (hwInn inIx) hown hK hZ f0_ rfl 8 (by decide) (hts (.fieldLink RIx 45 RIx "asked" "LWordIndex2$Terms;") (hwMem mm_254)) (fun _ h => h) rfl dIx_startSearch_22 ?_
  refine lv_aload_n hx hb dIx_startSearch_25 rfl (lv_at hl 0 rfl) ?_
  refine hw_get hx hb hts (hwInn inIx) hown hK hZ f0_ rfl 4 (by decide) (hts (.fieldLink RIx 22 RIx "question" "LWordIndex2$Text;") (hwMem mm_194)) (fun _ h => h) rfl dIx_startSearch_26 ?_
  refine lv_aload_n hx hb dIx_startSearch_29 rfl (lv_at hl 0 rfl) ?_
  refine hw_get hx hb hts (hwInn inIx) hown hK hZ f0_ rfl 3 (by decide) (hts (.fieldLink RIx 15 RIx "languages" "[I") (hwMem mm_208)) (fun _ h => h) rfl dIx_startSearch_30 ?_
  refine lv_iload_n hx hb dIx_startSearch_33 rfl (lv_at hl 1 rfl) ?_
  refine hw_iald hx hb hK hZ 0 f1_ rfl (j := j) (by omega) (by omega) dIx_startSearch_34 ?_
  refine hw_topi (hfl j hj) ?_
  refine lv_aload_n hx hb dIx_startSearch_35 rfl (lv_at hl 0 rfl) ?_
  refine hw_get hx hb hts (hwInn inIx) hown hK hZ f0_ rfl 6 (by decide) (hts (.fieldLink RIx 31 RIx "stops" "LWordIndex2$WordSet;") (hwMem mm_209)) (fun _ h => h) rfl dIx_startSearch_36 ?_
  refine hw_callv (va_runV (As := [.ref b2, .int (nI (lg j)), .ref b3]) (rest := []) ⟨hx, hb, hml, hown, hts⟩ (c_Tm_read l D K X_6 H_12.size (a := b5) (k := 7) (N := 50) (ts := []) (t := b2) (kt := 5) (ws := qw) (o := qo) (s0 := b3) (ks := 6) (Ns := 40) (ss := ss) (g := lg j) ff_10 f4_ f5_ (by omega) (by omega) (hlg j) (by omega) hne hso) (cwV 3 hts (hwGood (hw_4 mm_211 mm_212 mm_213 mm_89 (hwAll mm_210))) rfl rfl rfl (by decide +kernel) ⟨Nat.le_of_ble_eq_true rfl, Nat.le_of_ble_eq_true rfl⟩) (hw_preV hK hO hZ (tmAt.ob ff_10) rfl) rfl rfl hl.1 rfl (lv_room (Nat.le_of_ble_eq_true rfl)) dIx_startSearch_39 ⟨(show 0 + 0 ≤ 0 by omega), (show 0 + 0 ≤ 0 by omega)⟩) hZ hA (fun X_15 H_16 lc_17 hp hZ => ?_)
  obtain ⟨hF, hN_18⟩ := hp
  have hFr := hwF.tr hFr hF (fun _ h => h) (fun M h => by first | exact False.elim h | ((try dsimp only at h ⊢); omega))
  have f0_ := hF _ _ _ (by intro hNS; first | exact False.elim hNS | ((try dsimp only at hNS); omega)) f0_
  have f1_ := hF _ _ _ (by intro hNS; first | exact False.elim hNS | ((try dsimp only at hNS); omega)) f1_
  have f4_ := txAt.fr hF (by intro hNS; first | exact False.elim hNS | ((try dsimp only at hNS); omega)) (by intro hNS; first | exact False.elim hNS | ((try dsimp only at hNS); omega)) f4_
  have f5_ := seAt.fr hF (by intro hNS; first | exact False.elim hNS | ((try dsimp only at hNS); omega)) (by intro hNS; first | exact False.elim hNS | ((try dsimp only at hNS); omega)) f5_
  have ff_5 := hiAt.fr hF (by intro hNS; first | exact False.elim hNS | ((try dsimp only at hNS); omega)) (by intro hNS; first | exact False.elim hNS | ((try dsimp only at hNS); omega)) (by intro hNS; first | exact False.elim hNS | ((try dsimp only at hNS); omega)) (by intro hNS; first | exact False.elim hNS | ((try dsimp only at hNS); omega)) ff_5
  have ff_19 := hN_18
  refine lv_aload_n hx hb dIx_startSearch_42 rfl (lv_at hl 0 rfl) ?_
  refine hw_callv (va_runV (As := []) (rest := []) ⟨hx, hb, hml, hown, hts⟩ (c_Ix_clearQ l D K X_15 H_16.size (a := a) (b0 := b0) (b1 := b1) (b2 := b2) (b3 := b3) (b4 := b4) (b5 := b5) (b6 := b6) (b7 := b7) (b8 := b8) (ni := ni) (fs := fs) (qs := qs) (qw := qw) (qo := qo) f0_ f4_) (cwV 0 hts (hwGood (hw_4 mm_260 mm_261 mm_262 mm_188 (hwAll mm_259))) rfl rfl rfl (by decide +kernel) ⟨Nat.le_of_ble_eq_true rfl, Nat.le_of_ble_eq_true rfl⟩) (hw_preV hK hO hZ (⟨_, _, f0_⟩) rfl) rfl rfl hl.1 rfl (lv_room (Nat.le_of_ble_eq_true rfl)) dIx_startSearch_43 ⟨(show 0 + 0 ≤ 0 by omega), (show 0 + 0 ≤ 0 by omega)⟩) hZ hA (fun X_20 H_21 lc_22 hp hZ => ?_)
  obtain ⟨hF, hN_23, hN_24⟩ := hp
  have hFr := hwF.tr hFr hF (fun _ h => h) (fun M h => by first | exact False.elim h | ((try dsimp only at h ⊢); omega))
  have f1_ := hF _ _ _ (by intro hNS; first | exact False.elim hNS | ((try dsimp only at hNS); omega)) f1_
  have f5_ := seAt.fr hF (by intro hNS; first | exact False.elim hNS | ((try dsimp only at hNS); omega)) (by intro hNS; first | exact False.elim hNS | ((try dsimp only at hNS); omega)) f5_
  have ff_5 := hiAt.fr hF (by intro hNS; first | exact False.elim hNS | ((try dsimp only at hNS); omega)) (by intro hNS; first | exact False.elim hNS | ((try dsimp only at hNS); omega)) (by intro hNS; first | exact False.elim hNS | ((try dsimp only at hNS); omega)) (by intro hNS; first | exact False.elim hNS | ((try dsimp only at hNS); omega)) ff_5
  have ff_19 := tmAt.fr hF (by intro hNS; first | exact False.elim hNS | ((try dsimp only at hNS); omega)) (by intro hNS; first | exact False.elim hNS | ((try dsimp only at hNS); omega)) ff_19
  have ff_25 := hN_23
  have ff_26 := hN_24
  exact hret hZ ⟨hFr, ff_25, ff_5, ff_19, ff_26⟩ dIx_startSearch_46
set_option maxHeartbeats 4000000 in
set_option maxRecDepth 100000 in
theorem c_Ix_startB (l : Launch) (D : va_G) (K : Nat → ClassId) (X : hwW) (sz : Nat) (a : Nat) (b0 : Nat) (b1 : Nat) (b2 : Nat) (b3 : Nat) (b4 : Nat) (b5 : Nat) (b6 : Nat) (b7 : Nat) (b8 : Nat) (ni : Nat) (fs : Nat) (qs : Nat) (hs : List (Nat × Nat × Nat)) (ta : List (List Nat)) (qw : List (List Nat)) (qo : Nat) (kind : Int32) (f0_ : hwH X a 0 (.inr (5, [.ref b0, .int (nI ni), .int (nI fs), .ref b1, .ref b2, .int (nI qs), .ref b3, .ref b4, .ref b5, .ref b6, .ref b7, .ref b8]))) (f1_ : hiAt K X b4 hs) (f2_ : tmAt K X b5 7 50 ta) (f3_ : txAt K X b2 5 qw qo) (hk : badK kind) : Met l yIx_startSearch (.code yIx_startSearch cIx_startSearch 2 none :: hwG) ({ frames := 5, cells := 0, slots := 0, locals := 115 } : Room) (hwPc D vwCl (hwT K) [.ref a, .int kind] X sz) (hwQv D vwCl X sz (fun Y => hwF X Y (fun M => M = 0 ∨ M = 10 ∨ M = 11 ∨ M = 14 ∨ M = 15 ∨ (60 ≤ M ∧ M ≤ 63)) ∧ hwH Y a 0 (.inr (5, [.ref b0, .int (nI ni), .int (nI fs), .ref b1, .ref b2, .int (nI 0), .ref b3, .ref b4, .ref b5, .ref b6, .ref b7, .ref b8])) ∧ hiAt K Y b4 [] ∧ tmAt K Y b5 7 50 ([]) ∧ txAt K Y b2 5 [] 0)) 0 0 (va_A X.1 sz) := by
  refine hwMetv (cc := cIx_startSearch) (maxL := 2) (by decide) rfl (Nat.le_of_ble_eq_true rfl) (fun p e s m args below meth c ls A Q hx hb hml hown hts hname hret hK hO hZ hA hl => ?_)
  have hl : lv_has ls 2 [(0, .ref a), (1, .int kind)] := hl
  have hFr : hwF X X (fun M => M = 0 ∨ M = 10 ∨ M = 11 ∨ M = 14 ∨ M = 15 ∨ (60 ≤ M ∧ M ≤ 63)) := hwF.rf
  refine lv_aload_n hx hb dIx_startSearch_0 rfl (lv_at hl 0 rfl) ?_
  refine hw_get hx hb hts (hwInn inIx) hown hK hZ f0_ rfl 7 (by decide) (hts (.fieldLink RIx 38 RIx "hits" "LWordIndex2$Hits;") (hwMem mm_214)) (fun _ h => h) rfl dIx_startSearch_1 ?_
  refine hw_callv (va_runV (As := []) (rest := []) ⟨hx, hb, hml, hown, hts⟩ (c_Hi_clearP l D K X s.heap.size (a := b4) (hs := hs) f1_) (cwV 0 hts (hwGood (hw_4 mm_251 mm_252 mm_253 mm_95 (hwAll mm_250))) rfl rfl rfl (by decide +kernel) ⟨Nat.le_of_ble_eq_true rfl, Nat.le_of_ble_eq_true rfl⟩) (hw_preV hK hO hZ (hiAt.ob f1_) rfl) rfl rfl hl.1 rfl (lv_room (Nat.le_of_ble_eq_true rfl)) dIx_startSearch_4 ⟨(show 0 + 0 ≤ 0 by omega), (show 0 + 0 ≤ 0 by omega)⟩) hZ hA (fun X_1 H_2 lc_3 hp hZ => ?_)
  obtain ⟨hF, hN_4⟩ := hp
  have hFr := hwF.tr hFr hF (fun _ h => h) (fun M h => by first | exact False.elim h | ((try dsimp only at h ⊢); omega))
  have f0_ := hF _ _ _ (by intro hNS; first | exact False.elim hNS | ((try dsimp only at hNS); omega)) f0_
  have f2_ := tmAt.fr hF (by intro hNS; first | exact False.elim hNS | ((try dsimp only at hNS); omega)) (by intro hNS; first | exact False.elim hNS | ((try dsimp only at hNS); omega)) f2_
  have f3_ := txAt.fr hF (by intro hNS; first | exact False.elim hNS | ((try dsimp only at hNS); omega)) (by intro hNS; first | exact False.elim hNS | ((try dsimp only at hNS); omega)) f3_
  have ff_5 := hN_4
  refine lv_aload_n hx hb dIx_startSearch_7 rfl (lv_at hl 0 rfl) ?_
  refine hw_get hx hb hts (hwInn inIx) hown hK hZ f0_ rfl 8 (by decide) (hts (.fieldLink RIx 45 RIx "asked" "LWordIndex2$Terms;") (hwMem mm_254)) (fun _ h => h) rfl dIx_startSearch_8 ?_
  refine hw_callv (va_runV (As := []) (rest := []) ⟨hx, hb, hml, hown, hts⟩ (c_Tm_clear l D K X_1 H_2.size (a := b5) (k := 7) (N := 50) (ts := ta) f2_) (cwV 0 hts (hwGood (hw_4 mm_256 mm_257 mm_258 mm_89 (hwAll mm_255))) rfl rfl rfl (by decide +kernel) ⟨Nat.le_of_ble_eq_true rfl, Nat.le_of_ble_eq_true rfl⟩) (hw_preV hK hO hZ (tmAt.ob f2_) rfl) rfl rfl hl.1 rfl (lv_room (Nat.le_of_ble_eq_true rfl)) dIx_startSearch_11 ⟨(show 0 + 0 ≤ 0 by omega), (show 0 + 0 ≤ 0 by omega)⟩) hZ hA (fun X_6 H_7 lc_8 hp hZ => ?_)
  obtain ⟨hF, hN_9⟩ := hp
  have hFr := hwF.tr hFr hF (fun _ h => h) (fun M h => by first | exact False.elim h | ((try dsimp only at h ⊢); omega))
  have f0_ := hF _ _ _ (by intro hNS; first | exact False.elim hNS | ((try dsimp only at hNS); omega)) f0_
  have f3_ := txAt.fr hF (by intro hNS; first | exact False.elim hNS | ((try dsimp only at hNS); omega)) (by intro hNS; first | exact False.elim hNS | ((try dsimp only at hNS); omega)) f3_
  have ff_5 := hiAt.fr hF (by intro hNS; first | exact False.elim hNS | ((try dsimp only at hNS); omega)) (by intro hNS; first | exact False.elim hNS | ((try dsimp only at hNS); omega)) (by intro hNS; first | exact False.elim hNS | ((try dsimp only at hNS); omega)) (by intro hNS; first | exact False.elim hNS | ((try dsimp only at hNS); omega)) ff_5
  have ff_10 := hN_9
  refine lv_iload_n hx hb dIx_startSearch_14 rfl (lv_at hl 1 rfl) ?_
  refine hw_calli (va_runS (As := [.int kind]) (rest := []) ⟨hx, hb, hml, hown, hts⟩ (c_Ix_isKindB l D K X_6 H_7.size (kind := kind) (by assumption)) (va_cwS 1 hts (hwGood (hw_3 mm_206 mm_205 mm_188 (hwAll mm_204))) rfl rfl rfl (by decide +kernel) ⟨Nat.le_of_ble_eq_true rfl, Nat.le_of_ble_eq_true rfl⟩) (hw_preS hK hO hZ) rfl rfl hl.1 rfl (lv_room (Nat.le_of_ble_eq_true rfl)) dIx_startSearch_15 ⟨(show 0 + 0 ≤ 0 by omega), (show 0 + 0 ≤ 0 by omega)⟩) hZ hA (fun r X_11 H_12 lc_13 hp hZ => ?_)
  obtain ⟨hr, hy⟩ := hp
  subst hy
  refine hw_topi hr ?_
  refine hw_bz_eqT (tgt := 42) hx hb dIx_startSearch_18 (by decide) rfl ?_
  refine lv_aload_n hx hb dIx_startSearch_42 rfl (lv_at hl 0 rfl) ?_
  refine hw_callv (va_runV (As := []) (rest := []) ⟨hx, hb, hml, hown, hts⟩ (c_Ix_clearQ l D K X_6 H_12.size (a := a) (b0 := b0) (b1 := b1) (b2 := b2) (b3 := b3) (b4 := b4) (b5 := b5) (b6 := b6) (b7 := b7) (b8 := b8) (ni := ni) (fs := fs) (qs := qs) (qw := qw) (qo := qo) f0_ f3_) (cwV 0 hts (hwGood (hw_4 mm_260 mm_261 mm_262 mm_188 (hwAll mm_259))) rfl rfl rfl (by decide +kernel) ⟨Nat.le_of_ble_eq_true rfl, Nat.le_of_ble_eq_true rfl⟩) (hw_preV hK hO hZ (⟨_, _, f0_⟩) rfl) rfl rfl hl.1 rfl (lv_room (Nat.le_of_ble_eq_true rfl)) dIx_startSearch_43 ⟨(show 0 + 0 ≤ 0 by omega), (show 0 + 0 ≤ 0 by omega)⟩) hZ hA (fun X_15 H_16 lc_17 hp hZ => ?_)
  obtain ⟨hF, hN_18, hN_19⟩ := hp
  have hFr := hwF.tr hFr hF (fun _ h => h) (fun M h => by first | exact False.elim h | ((try dsimp only at h ⊢); omega))
  have ff_5 := hiAt.fr hF (by intro hNS; first | exact False.elim hNS | ((try dsimp only at hNS); omega)) (by intro hNS; first | exact False.elim hNS | ((try dsimp only at hNS); omega)) (by intro hNS; first | exact False.elim hNS | ((try dsimp only at hNS); omega)) (by intro hNS; first | exact False.elim hNS | ((try dsimp only at hNS); omega)) ff_5
  have ff_10 := tmAt.fr hF (by intro hNS; first | exact False.elim hNS | ((try dsimp only at hNS); omega)) (by intro hNS; first | exact False.elim hNS | ((try dsimp only at hNS); omega)) ff_10
  have ff_20 := hN_18
  have ff_21 := hN_19
  exact hret hZ ⟨hFr, ff_20, ff_5, ff_10, ff_21⟩ dIx_startSearch_46
set_option maxHeartbeats 4000000 in
set_option maxRecDepth 100000 in
theorem c_Ix_listF (l : Launch) (D : va_G) (K : Nat → ClassId) (X : hwW) (sz : Nat) (a : Nat) (b0 : Nat) (b1 : Nat) (b2 : Nat) (b3 : Nat) (b4 : Nat) (b5 : Nat) (b6 : Nat) (b7 : Nat) (b8 : Nat) (ni : Nat) (fs : Nat) (qs : Nat) (tf : List (List Nat)) (tl : List (List Nat)) (f0_ : hwH X a 0 (.inr (5, [.ref b0, .int (nI ni), .int (nI fs), .ref b1, .ref b2, .int (nI qs), .ref b3, .ref b4, .ref b5, .ref b6, .ref b7, .ref b8]))) (f1_ : tmAt K X b6 8 750 tf) (f2_ : seAt K X b7 9 750 tl) (htl : tl.Pairwise (· < ·)) : Met l yIx_listFieldTerms (.code yIx_listFieldTerms cIx_listFieldTerms 2 none :: hwG) ({ frames := 3, cells := 0, slots := 0, locals := 70 } : Room) (hwPc D vwCl (hwT K) [.ref a] X sz) (hwQv D vwCl X sz (fun Y => hwF X Y (fun M => M = 18 ∨ M = 19) ∧ seAt K Y b7 9 750 (adAll tl tf))) 0 0 (va_A X.1 sz) := by
  refine hwMetv (cc := cIx_listFieldTerms) (maxL := 2) (by decide) rfl (Nat.le_of_ble_eq_true rfl) (fun p e s m args below meth c ls A Q hx hb hml hown hts hname hret hK hO hZ hA hl => ?_)
  have hl : lv_has ls 2 [(0, .ref a)] := hl
  have hFr : hwF X X (fun M => M = 18 ∨ M = 19) := hwF.rf
  have hB2 := fun j => okWs.at (tmAt.oks f1_) j
  have hBN := tmAt.len f1_
  refine lv_iconst (v := nI 0) hx hb dIx_listFieldTerms_0 (by decide) ?_
  refine lv_istore_n (lv' := [(1, .int (nI 0)), (0, .ref a)]) hx hb dIx_listFieldTerms_1 rfl hl (by decide) rfl (fun ls hl => ?_)
  have loop2 : ∀ (fuel : Nat) (i : Nat) (tz : List (List Nat)) (XL2 : hwW) (Hh : Heap) (lcs : List Loc) (ls : Array Slot), tf.length - i < fuel → (i ≤ tf.length) → (tz = adAll tl (tf.take i)) → (hwF X XL2 (fun M => M = 18 ∨ M = 19)) → (hwH XL2 a 0 (.inr (5, [.ref b0, .int (nI ni), .int (nI fs), .ref b1, .ref b2, .int (nI qs), .ref b3, .ref b4, .ref b5, .ref b6, .ref b7, .ref b8]))) → (tmAt K XL2 b6 8 750 tf) → (seAt K XL2 b7 9 750 tz) → hwZ D vwCl A s.heap XL2 Hh lcs → lv_has ls 2 [(1, .int (nI i)), (0, .ref a)] → W p l e ({ frames := 3, cells := 0, slots := 0, locals := 70 } : Room) s m args below meth c Hh lcs 0 0 Q (F0 m 2 ls []) := by
    intro fuel; induction fuel with
    | zero => intro i tz XL2 Hh lcs ls hfu; exact absurd hfu (Nat.not_lt_zero _)
    | succ fuel ih2 =>
      intro i tz XL2 Hh lcs ls hfu2 hi htz hFr gx gf gl hZ hl
      have hso : tz.Pairwise (· < ·) := htz ▸ sorted_adAll htl
      refine lv_iload_n hx hb dIx_listFieldTerms_2 rfl (lv_at hl 0 rfl) ?_
      refine lv_aload_n hx hb dIx_listFieldTerms_3 rfl (lv_at hl 1 rfl) ?_
      refine hw_get hx hb hts (hwInn inIx) hown hK hZ gx rfl 9 (by decide) (hts (.fieldLink RIx 49 RIx "fieldTerms" "LWordIndex2$Terms;") (hwMem mm_207)) (fun _ h => h) rfl dIx_listFieldTerms_4 ?_
      refine hw_calli (va_runV (As := []) (rest := [.int (nI i)]) ⟨hx, hb, hml, hown, hts⟩ (c_Tm_size l D K XL2 Hh.size (a := b6) (k := 8) (N := 750) (ts := tf) gf) (cwV 0 hts (hwGood (hw_4 mm_233 mm_131 mm_132 mm_89 (hwAll mm_129))) rfl rfl rfl (by decide +kernel) ⟨Nat.le_of_ble_eq_true rfl, Nat.le_of_ble_eq_true rfl⟩) (hw_preV hK hO hZ (tmAt.ob gf) rfl) rfl rfl hl.1 rfl (lv_room (Nat.le_of_ble_eq_true rfl)) dIx_listFieldTerms_7 ⟨(show 0 + 0 ≤ 0 by omega), (show 0 + 0 ≤ 0 by omega)⟩) hZ hA (fun r X_1 H_2 lc_3 hp hZ => ?_)
      obtain ⟨hr, hy⟩ := hp
      subst hy
      refine hw_topi hr ?_
      refine hw_ic_ge (a := i) (b := tf.length) (tgt := 47) hx hb dIx_listFieldTerms_10 (by decide) (by omega) (by omega) (fun cq_4 => ?_) (fun cq_4 => ?_)
      · exact hret hZ ⟨hFr, by rw [List.take_of_length_le (by omega)] at htz; rw [← htz]; exact gl⟩ dIx_listFieldTerms_47
      · refine lv_aload_n hx hb dIx_listFieldTerms_13 rfl (lv_at hl 1 rfl) ?_
        refine hw_get hx hb hts (hwInn inIx) hown hK hZ gx rfl 9 (by decide) (hts (.fieldLink RIx 49 RIx "fieldTerms" "LWordIndex2$Terms;") (hwMem mm_207)) (fun _ h => h) rfl dIx_listFieldTerms_14 ?_
        refine lv_iload_n hx hb dIx_listFieldTerms_17 rfl (lv_at hl 0 rfl) ?_
        refine hw_calll (va_runV (As := [.int (nI i)]) (rest := []) ⟨hx, hb, hml, hown, hts⟩ (c_Tm_at l D K XL2 H_2.size (a := b6) (k := 8) (N := 750) (ts := tf) (j := i) gf (by omega)) (cwV 1 hts (hwGood (hw_4 mm_263 mm_87 mm_88 mm_89 (hwAll mm_85))) rfl rfl rfl (by decide +kernel) ⟨Nat.le_of_ble_eq_true rfl, Nat.le_of_ble_eq_true rfl⟩) (hw_preV hK hO hZ (tmAt.ob gf) rfl) rfl rfl hl.1 rfl (lv_room (Nat.le_of_ble_eq_true rfl)) dIx_listFieldTerms_18 ⟨(show 0 + 0 ≤ 0 by omega), (show 0 + 0 ≤ 0 by omega)⟩) hZ hA (fun r X_5 H_6 lc_7 hp hZ => ?_)
        obtain ⟨hr, hy⟩ := hp
        subst hy
        refine hw_topl hr ?_
        refine lv_lconst (v := lN 0) hx hb dIx_listFieldTerms_21 rfl ?_
        refine hw_lc_eq (a := eW (tf.getD i [])) (b := 0) (tgt := 41) hx hb dIx_listFieldTerms_22 dIx_listFieldTerms_23 (by decide) (by first | exact eW_lt63 (hB2 _) | decide) (by first | exact eW_lt63 (hB2 _) | decide) (fun cq_8 => ?_) (fun cq_8 => ?_)
        · refine lv_iinc (v := nI (i + 1)) (lv' := [(1, .int (nI (i + 1))), (0, .ref a)]) hx hb dIx_listFieldTerms_41 hl (k := 0) rfl (nI_add _ 1) (by decide) rfl (fun ls hl => ?_)
          refine lv_goto (tgt := 2) hx hb dIx_listFieldTerms_44 (by decide) ?_
          exact ih2 (i + 1) tz _ _ _ _ (by omega) (by omega) (by rw [adAll_take (by omega), ← htz, adW_nil ((eW_zero (hB2 _)).mp cq_8)]) hFr gx gf gl hZ (lv_sub hl [0, 1] rfl)
        · refine lv_aload_n hx hb dIx_listFieldTerms_26 rfl (lv_at hl 1 rfl) ?_
          refine hw_get hx hb hts (hwInn inIx) hown hK hZ gx rfl 10 (by decide) (hts (.fieldLink RIx 52 RIx "listed" "LWordIndex2$WordSet;") (hwMem mm_264)) (fun _ h => h) rfl dIx_listFieldTerms_27 ?_
          refine lv_aload_n hx hb dIx_listFieldTerms_30 rfl (lv_at hl 1 rfl) ?_
          refine hw_get hx hb hts (hwInn inIx) hown hK hZ gx rfl 9 (by decide) (hts (.fieldLink RIx 49 RIx "fieldTerms" "LWordIndex2$Terms;") (hwMem mm_207)) (fun _ h => h) rfl dIx_listFieldTerms_31 ?_
          refine lv_iload_n hx hb dIx_listFieldTerms_34 rfl (lv_at hl 0 rfl) ?_
          refine hw_calll (va_runV (As := [.int (nI i)]) (rest := [.ref b7]) ⟨hx, hb, hml, hown, hts⟩ (c_Tm_at l D K XL2 H_6.size (a := b6) (k := 8) (N := 750) (ts := tf) (j := i) gf (by omega)) (cwV 1 hts (hwGood (hw_4 mm_263 mm_87 mm_88 mm_89 (hwAll mm_85))) rfl rfl rfl (by decide +kernel) ⟨Nat.le_of_ble_eq_true rfl, Nat.le_of_ble_eq_true rfl⟩) (hw_preV hK hO hZ (tmAt.ob gf) rfl) rfl rfl hl.1 rfl (lv_room (Nat.le_of_ble_eq_true rfl)) dIx_listFieldTerms_35 ⟨(show 0 + 0 ≤ 0 by omega), (show 0 + 0 ≤ 0 by omega)⟩) hZ hA (fun r X_9 H_10 lc_11 hp hZ => ?_)
          obtain ⟨hr, hy⟩ := hp
          subst hy
          refine hw_topl hr ?_
          refine hw_callv (va_runV (As := [.long (lN (eW (tf.getD i [])))]) (rest := []) ⟨hx, hb, hml, hown, hts⟩ (c_Se_add l D K XL2 H_10.size (a := b7) (k := 9) (N := 750) (ts := tz) (w := (tf.getD i [])) gl hso (hB2 i) (ne_len (fun h => cq_8 ((eW_zero (hB2 i)).mpr h)))) (cwV 1 hts (hwGood (hw_4 mm_266 mm_267 mm_268 mm_63 (hwAll mm_265))) rfl rfl rfl (by decide +kernel) ⟨Nat.le_of_ble_eq_true rfl, Nat.le_of_ble_eq_true rfl⟩) (hw_preV hK hO hZ (seAt.ob gl) rfl) rfl rfl hl.1 rfl (lv_room (Nat.le_of_ble_eq_true rfl)) dIx_listFieldTerms_38 ⟨(show 0 + 0 ≤ 0 by omega), (show 0 + 0 ≤ 0 by omega)⟩) hZ hA (fun X_12 H_13 lc_14 hp hZ => ?_)
          obtain ⟨hF, hN_15⟩ := hp
          have hFr := hwF.tr hFr hF (fun _ h => h) (fun M h => by first | exact False.elim h | ((try dsimp only at h ⊢); omega))
          have gx := hF _ _ _ (by intro hNS; first | exact False.elim hNS | ((try dsimp only at hNS); omega)) gx
          have gf := tmAt.fr hF (by intro hNS; first | exact False.elim hNS | ((try dsimp only at hNS); omega)) (by intro hNS; first | exact False.elim hNS | ((try dsimp only at hNS); omega)) gf
          have ff_16 := hN_15
          refine lv_iinc (v := nI (i + 1)) (lv' := [(1, .int (nI (i + 1))), (0, .ref a)]) hx hb dIx_listFieldTerms_41 hl (k := 0) rfl (nI_add _ 1) (by decide) rfl (fun ls hl => ?_)
          refine lv_goto (tgt := 2) hx hb dIx_listFieldTerms_44 (by decide) ?_
          exact ih2 (i + 1) (insS 750 tz (tf.getD i [])) _ _ _ _ (by omega) (by omega) (by rw [adAll_take (by omega), ← htz, adW_ne (fun h => cq_8 ((eW_zero (hB2 _)).mpr h))]) hFr gx gf ff_16 hZ (lv_sub hl [0, 1] rfl)
  exact loop2 (tf.length - 0 + 1) 0 tl _ _ _ _ (by omega) (by omega) (by rw [List.take_zero]; rfl) hFr f0_ f1_ f2_ hZ (lv_sub hl [0, 1] rfl)
set_option maxHeartbeats 4000000 in
set_option maxRecDepth 100000 in
theorem c_Ix_list (l : Launch) (D : va_G) (K : Nat → ClassId) (X : hwW) (sz : Nat) (a : Nat) (b0 : Nat) (b1 : Nat) (b2 : Nat) (b3 : Nat) (b4 : Nat) (b5 : Nat) (b6 : Nat) (b7 : Nat) (b8 : Nat) (ni : Nat) (fs : Nat) (qs : Nat) (fi : Nat → Option Nat) (fl : Nat → Int32) (its : hwIt) (lg : Nat → Nat) (tf : List (List Nat)) (ss : List (List Nat)) (tl : List (List Nat)) (j : Nat) (f0_ : hwH X a 0 (.inr (5, [.ref b0, .int (nI ni), .int (nI fs), .ref b1, .ref b2, .int (nI qs), .ref b3, .ref b4, .ref b5, .ref b6, .ref b7, .ref b8]))) (f1_ : hwH X b0 1 (.inl (K 4, 30, .inr (.inr (.inr (.inr fi)))))) (f2_ : itsAt K X fi its) (f3_ : hwH X b1 2 (.inl (K 0, 4, .inl fl))) (f4_ : tmAt K X b6 8 750 tf) (f5_ : seAt K X b3 6 40 ss) (f6_ : seAt K X b7 9 750 tl) (hni : ni = its.length) (hni3 : its.length ≤ 30) (hj : j < 4) (hfl : ∀ j, j < 4 → fl j = nI (lg j)) (hlg : ∀ j, lg j < 3) (hok : okIt its) (hs : ss.Pairwise (· < ·)) : Met l yIx_listTerms (.code yIx_listTerms cIx_listTerms 3 none :: hwG) ({ frames := 6, cells := 0, slots := 0, locals := 138 } : Room) (hwPc D vwCl (hwT K) [.ref a, .int (nI j)] X sz) (hwQv D vwCl X sz (fun Y => ∃ tz : List (List Nat), hwF X Y (fun M => M = 16 ∨ M = 17 ∨ M = 18 ∨ M = 19) ∧ tmAt K Y b6 8 750 tz ∧ seAt K Y b7 9 750 (liN (Tf its lg ss j) ni))) 0 0 (va_A X.1 sz) := by
  refine hwMetv (cc := cIx_listTerms) (maxL := 3) (by decide) rfl (Nat.le_of_ble_eq_true rfl) (fun p e s m args below meth c ls A Q hx hb hml hown hts hname hret hK hO hZ hA hl => ?_)
  have hl : lv_has ls 3 [(0, .ref a), (1, .int (nI j))] := hl
  have hFr : hwF X X (fun M => M = 16 ∨ M = 17 ∨ M = 18 ∨ M = 19) := hwF.rf
  refine lv_aload_n hx hb dIx_listTerms_0 rfl (lv_at hl 0 rfl) ?_
  refine hw_get hx hb hts (hwInn inIx) hown hK hZ f0_ rfl 10 (by decide) (hts (.fieldLink RIx 52 RIx "listed" "LWordIndex2$WordSet;") (hwMem mm_264)) (fun _ h => h) rfl dIx_listTerms_1 ?_
  refine hw_callv (va_runV (As := []) (rest := []) ⟨hx, hb, hml, hown, hts⟩ (c_Se_clear l D K X s.heap.size (a := b7) (k := 9) (N := 750) (ts := tl) f6_) (cwV 0 hts (hwGood (hw_4 mm_270 mm_271 mm_272 mm_63 (hwAll mm_269))) rfl rfl rfl (by decide +kernel) ⟨Nat.le_of_ble_eq_true rfl, Nat.le_of_ble_eq_true rfl⟩) (hw_preV hK hO hZ (seAt.ob f6_) rfl) rfl rfl hl.1 rfl (lv_room (Nat.le_of_ble_eq_true rfl)) dIx_listTerms_4 ⟨(show 0 + 0 ≤ 0 by omega), (show 0 + 0 ≤ 0 by omega)⟩) hZ hA (fun X_1 H_2 lc_3 hp hZ => ?_)
  obtain ⟨hF, hN_4⟩ := hp
  have hFr := hwF.tr hFr hF (fun _ h => h) (fun M h => by first | exact False.elim h | ((try dsimp only at h ⊢); omega))
  have f0_ := hF _ _ _ (by intro hNS; first | exact False.elim hNS | ((try dsimp only at hNS); omega)) f0_
  have f1_ := hF _ _ _ (by intro hNS; first | exact False.elim hNS | ((try dsimp only at hNS); omega)) f1_
  have f2_ := itsAt.fr hF (fun M h1 h2 hNS => by first | exact False.elim hNS | ((try dsimp only at hNS); omega)) f2_
  have f3_ := hF _ _ _ (by intro hNS; first | exact False.elim hNS | ((try dsimp only at hNS); omega)) f3_
  have f4_ := tmAt.fr hF (by intro hNS; first | exact False.elim hNS | ((try dsimp only at hNS); omega)) (by intro hNS; first | exact False.elim hNS | ((try dsimp only at hNS); omega)) f4_
  have f5_ := seAt.fr hF (by intro hNS; first | exact False.elim hNS | ((try dsimp only at hNS); omega)) (by intro hNS; first | exact False.elim hNS | ((try dsimp only at hNS); omega)) f5_
  have ff_5 := hN_4
  refine lv_iconst (v := nI 1) hx hb dIx_listTerms_7 (by decide) ?_
  refine lv_istore_n (lv' := [(2, .int (nI 1)), (0, .ref a), (1, .int (nI j))]) hx hb dIx_listTerms_8 rfl hl (by decide) rfl (fun ls hl => ?_)
  have loop9 : ∀ (fuel : Nat) (n : Nat) (lz : List (List Nat)) (tz : List (List Nat)) (XL9 : hwW) (Hh : Heap) (lcs : List Loc) (ls : Array Slot), ni + 1 - n < fuel → (1 ≤ n) → (n ≤ ni + 1) → (lz = liN (Tf its lg ss j) (n - 1)) → (hwF X XL9 (fun M => M = 16 ∨ M = 17 ∨ M = 18 ∨ M = 19)) → (hwH XL9 a 0 (.inr (5, [.ref b0, .int (nI ni), .int (nI fs), .ref b1, .ref b2, .int (nI qs), .ref b3, .ref b4, .ref b5, .ref b6, .ref b7, .ref b8]))) → (hwH XL9 b0 1 (.inl (K 4, 30, .inr (.inr (.inr (.inr fi)))))) → (itsAt K XL9 fi its) → (hwH XL9 b1 2 (.inl (K 0, 4, .inl fl))) → (tmAt K XL9 b6 8 750 tz) → (seAt K XL9 b3 6 40 ss) → (seAt K XL9 b7 9 750 lz) → hwZ D vwCl A s.heap XL9 Hh lcs → lv_has ls 3 [(2, .int (nI n)), (0, .ref a), (1, .int (nI j))] → W p l e ({ frames := 6, cells := 0, slots := 0, locals := 138 } : Room) s m args below meth c Hh lcs 0 0 Q (F0 m 9 ls []) := by
    intro fuel; induction fuel with
    | zero => intro n lz tz XL9 Hh lcs ls hfu; exact absurd hfu (Nat.not_lt_zero _)
    | succ fuel ih9 =>
      intro n lz tz XL9 Hh lcs ls hfu9 hn1 hn2 hlz hFr gx gi gt gl gf gs gk hZ hl
      refine lv_iload_n hx hb dIx_listTerms_9 rfl (lv_at hl 0 rfl) ?_
      refine lv_aload_n hx hb dIx_listTerms_10 rfl (lv_at hl 1 rfl) ?_
      refine hw_get hx hb hts (hwInn inIx) hown hK hZ gx rfl 1 (by decide) (hts (.fieldLink RIx 58 RIx "itemCount" "I") (hwMem mm_182)) (fun _ h => h) rfl dIx_listTerms_11 ?_
      refine hw_ic_gt (a := n) (b := ni) (tgt := 36) hx hb dIx_listTerms_14 (by decide) (by omega) (by omega) (fun cq_6 => ?_) (fun cq_6 => ?_)
      · exact hret hZ ⟨tz, hFr, gf, by rw [show ni = n - 1 by omega, ← hlz]; exact gk⟩ dIx_listTerms_36
      · cases hth : (its.getD (n - 1) hwIt0).1
        · have hpi := itsAt.pi gt (i := n - 1) (by omega)
          rw [hth] at hpi
          refine lv_aload_n hx hb dIx_listTerms_17 rfl (lv_at hl 1 rfl) ?_
          refine lv_iload_n hx hb dIx_listTerms_18 rfl (lv_at hl 0 rfl) ?_
          refine lv_iload_n hx hb dIx_listTerms_19 rfl (lv_at hl 2 rfl) ?_
          refine hw_calli (va_runV (As := [.int (nI n), .int (nI j)]) (rest := []) ⟨hx, hb, hml, hown, hts⟩ (c_Ix_readF l D K XL9 Hh.size (a := a) (b0 := b0) (b1 := b1) (b2 := b2) (b3 := b3) (b4 := b4) (b5 := b5) (b6 := b6) (b7 := b7) (b8 := b8) (ni := ni) (fs := fs) (qs := qs) (fi := fi) (n := n) (kind := nI j) gx gi (by omega) (by omega) (by omega) (by assumption)) (cwV 2 hts (hwGood (hw_4 mm_220 mm_221 mm_222 mm_188 (hwAll mm_219))) rfl rfl rfl (by decide +kernel) ⟨Nat.le_of_ble_eq_true rfl, Nat.le_of_ble_eq_true rfl⟩) (hw_preV hK hO hZ (⟨_, _, gx⟩) rfl) rfl rfl hl.1 rfl (lv_room (Nat.le_of_ble_eq_true rfl)) dIx_listTerms_20 ⟨(show 0 + 0 ≤ 0 by omega), (show 0 + 0 ≤ 0 by omega)⟩) hZ hA (fun r X_7 H_8 lc_9 hp hZ => ?_)
          obtain ⟨hr, hy⟩ := hp
          subst hy
          refine hw_topi hr ?_
          refine hw_bz_eqT (tgt := 30) hx hb dIx_listTerms_23 (by decide) rfl ?_
          refine lv_iinc (v := nI (n + 1)) (lv' := [(2, .int (nI (n + 1))), (0, .ref a), (1, .int (nI j))]) hx hb dIx_listTerms_30 hl (k := 0) rfl (nI_add _ 1) (by decide) rfl (fun ls hl => ?_)
          refine lv_goto (tgt := 9) hx hb dIx_listTerms_33 (by decide) ?_
          exact ih9 (n + 1) lz tz _ _ _ _ (by omega) (by omega) (by omega) (liN_none (by omega) hlz (Tf_f hth)) hFr gx gi gt gl gf gs gk hZ (lv_sub hl [0, 1, 2] rfl)
        · obtain ⟨t, hpt, htx⟩ := itsAt.pt gt (i := n - 1) (j := j) (by omega) (by omega)
          rw [hth] at hpt
          have hlen : (((its.getD (n - 1) hwIt0).2 j).1.map (trm (lg j) ss)).length ≤ 600 := by rw [List.length_map]; exact (hok (n - 1) j).2
          refine lv_aload_n hx hb dIx_listTerms_17 rfl (lv_at hl 1 rfl) ?_
          refine lv_iload_n hx hb dIx_listTerms_18 rfl (lv_at hl 0 rfl) ?_
          refine lv_iload_n hx hb dIx_listTerms_19 rfl (lv_at hl 2 rfl) ?_
          refine hw_calli (va_runV (As := [.int (nI n), .int (nI j)]) (rest := []) ⟨hx, hb, hml, hown, hts⟩ (c_Ix_read l D K XL9 Hh.size (a := a) (b0 := b0) (b1 := b1) (b2 := b2) (b3 := b3) (b4 := b4) (b5 := b5) (b6 := b6) (b7 := b7) (b8 := b8) (ni := ni) (fs := fs) (qs := qs) (fi := fi) (fl := fl) (tf := tz) (t := t) (kt := 55 + 10 * (n - 1) + j) (ws := ((its.getD (n - 1) hwIt0).2 j).1) (o := ((its.getD (n - 1) hwIt0).2 j).2) (ss := ss) (n := n) (j := j) (g := (lg j)) gx gi gl gf htx gs (by omega) (by omega) (by omega) (by omega) (by assumption) (by omega) (hfl j hj) (hlg j) (Nat.le_trans (hok (n - 1) j).2 (by decide)) (hok (n - 1) j).1 (by assumption)) (cwV 2 hts (hwGood (hw_4 mm_220 mm_221 mm_222 mm_188 (hwAll mm_219))) rfl rfl rfl (by decide +kernel) ⟨Nat.le_of_ble_eq_true rfl, Nat.le_of_ble_eq_true rfl⟩) (hw_preV hK hO hZ (⟨_, _, gx⟩) rfl) rfl rfl hl.1 rfl (lv_room (Nat.le_of_ble_eq_true rfl)) dIx_listTerms_20 ⟨(show 0 + 0 ≤ 0 by omega), (show 0 + 0 ≤ 0 by omega)⟩) hZ hA (fun r X_11 H_12 lc_13 hp hZ => ?_)
          obtain ⟨hr, hF, hN_14⟩ := hp
          have hFr := hwF.tr hFr hF (fun _ h => h) (fun M h => by first | exact False.elim h | ((try dsimp only at h ⊢); omega))
          have gx := hF _ _ _ (by intro hNS; first | exact False.elim hNS | ((try dsimp only at hNS); omega)) gx
          have gi := hF _ _ _ (by intro hNS; first | exact False.elim hNS | ((try dsimp only at hNS); omega)) gi
          have gt := itsAt.fr hF (fun M h1 h2 hNS => by first | exact False.elim hNS | ((try dsimp only at hNS); omega)) gt
          have gl := hF _ _ _ (by intro hNS; first | exact False.elim hNS | ((try dsimp only at hNS); omega)) gl
          have gs := seAt.fr hF (by intro hNS; first | exact False.elim hNS | ((try dsimp only at hNS); omega)) (by intro hNS; first | exact False.elim hNS | ((try dsimp only at hNS); omega)) gs
          have gk := seAt.fr hF (by intro hNS; first | exact False.elim hNS | ((try dsimp only at hNS); omega)) (by intro hNS; first | exact False.elim hNS | ((try dsimp only at hNS); omega)) gk
          have htx := txAt.fr hF (by intro hNS; first | exact False.elim hNS | ((try dsimp only at hNS); omega)) (by intro hNS; first | exact False.elim hNS | ((try dsimp only at hNS); omega)) htx
          have ff_15 := hN_14
          refine hw_topi hr ?_
          refine hw_bz_eqF (tgt := 30) hx hb dIx_listTerms_23 (by decide) rfl ?_
          refine lv_aload_n hx hb dIx_listTerms_26 rfl (lv_at hl 1 rfl) ?_
          refine hw_callv (va_runV (As := []) (rest := []) ⟨hx, hb, hml, hown, hts⟩ (c_Ix_listF l D K X_11 H_12.size (a := a) (b0 := b0) (b1 := b1) (b2 := b2) (b3 := b3) (b4 := b4) (b5 := b5) (b6 := b6) (b7 := b7) (b8 := b8) (ni := ni) (fs := fs) (qs := qs) (tf := (((its.getD (n - 1) hwIt0).2 j).1).map (trm (lg j) ss)) (tl := lz) gx ff_15 gk (hlz ▸ sorted_liN _)) (cwV 0 hts (hwGood (hw_4 mm_274 mm_275 mm_276 mm_188 (hwAll mm_273))) rfl rfl rfl (by decide +kernel) ⟨Nat.le_of_ble_eq_true rfl, Nat.le_of_ble_eq_true rfl⟩) (hw_preV hK hO hZ (⟨_, _, gx⟩) rfl) rfl rfl hl.1 rfl (lv_room (Nat.le_of_ble_eq_true rfl)) dIx_listTerms_27 ⟨(show 0 + 0 ≤ 0 by omega), (show 0 + 0 ≤ 0 by omega)⟩) hZ hA (fun X_17 H_18 lc_19 hp hZ => ?_)
          obtain ⟨hF, hN_20⟩ := hp
          have hFr := hwF.tr hFr hF (fun _ h => h) (fun M h => by first | exact False.elim h | ((try dsimp only at h ⊢); omega))
          have gx := hF _ _ _ (by intro hNS; first | exact False.elim hNS | ((try dsimp only at hNS); omega)) gx
          have gi := hF _ _ _ (by intro hNS; first | exact False.elim hNS | ((try dsimp only at hNS); omega)) gi
          have gt := itsAt.fr hF (fun M h1 h2 hNS => by first | exact False.elim hNS | ((try dsimp only at hNS); omega)) gt
          have gl := hF _ _ _ (by intro hNS; first | exact False.elim hNS | ((try dsimp only at hNS); omega)) gl
          have gs := seAt.fr hF (by intro hNS; first | exact False.elim hNS | ((try dsimp only at hNS); omega)) (by intro hNS; first | exact False.elim hNS | ((try dsimp only at hNS); omega)) gs
          have htx := txAt.fr hF (by intro hNS; first | exact False.elim hNS | ((try dsimp only at hNS); omega)) (by intro hNS; first | exact False.elim hNS | ((try dsimp only at hNS); omega)) htx
          have ff_15 := tmAt.fr hF (by intro hNS; first | exact False.elim hNS | ((try dsimp only at hNS); omega)) (by intro hNS; first | exact False.elim hNS | ((try dsimp only at hNS); omega)) ff_15
          have ff_21 := hN_20
          refine lv_iinc (v := nI (n + 1)) (lv' := [(2, .int (nI (n + 1))), (0, .ref a), (1, .int (nI j))]) hx hb dIx_listTerms_30 hl (k := 0) rfl (nI_add _ 1) (by decide) rfl (fun ls hl => ?_)
          refine lv_goto (tgt := 9) hx hb dIx_listTerms_33 (by decide) ?_
          exact ih9 (n + 1) (adAll lz ((((its.getD (n - 1) hwIt0).2 j).1).map (trm (lg j) ss))) ((((its.getD (n - 1) hwIt0).2 j).1).map (trm (lg j) ss)) _ _ _ _ (by omega) (by omega) (by omega) (liN_some (by omega) hlz (Tf_t hth)) hFr gx gi gt gl ff_15 gs ff_21 hZ (lv_sub hl [0, 1, 2] rfl)
  exact loop9 (ni + 1 - 1 + 1) 1 ([]) tf _ _ _ _ (by omega) (by omega) (by omega) rfl hFr f0_ f1_ f2_ f3_ f4_ f5_ ff_5 hZ (lv_sub hl [0, 1, 2] rfl)
set_option maxHeartbeats 4000000 in
set_option maxRecDepth 100000 in
theorem c_Ix_listB (l : Launch) (D : va_G) (K : Nat → ClassId) (X : hwW) (sz : Nat) (a : Nat) (b0 : Nat) (b1 : Nat) (b2 : Nat) (b3 : Nat) (b4 : Nat) (b5 : Nat) (b6 : Nat) (b7 : Nat) (b8 : Nat) (ni : Nat) (fs : Nat) (qs : Nat) (fi : Nat → Option Nat) (its : hwIt) (tl : List (List Nat)) (kind : Int32) (f0_ : hwH X a 0 (.inr (5, [.ref b0, .int (nI ni), .int (nI fs), .ref b1, .ref b2, .int (nI qs), .ref b3, .ref b4, .ref b5, .ref b6, .ref b7, .ref b8]))) (f1_ : hwH X b0 1 (.inl (K 4, 30, .inr (.inr (.inr (.inr fi)))))) (f2_ : itsAt K X fi its) (f3_ : seAt K X b7 9 750 tl) (hni : ni = its.length) (hni3 : its.length ≤ 30) (hk : badK kind) : Met l yIx_listTerms (.code yIx_listTerms cIx_listTerms 3 none :: hwG) ({ frames := 6, cells := 0, slots := 0, locals := 138 } : Room) (hwPc D vwCl (hwT K) [.ref a, .int kind] X sz) (hwQv D vwCl X sz (fun Y => hwF X Y (fun M => M = 18 ∨ M = 19) ∧ seAt K Y b7 9 750 [])) 0 0 (va_A X.1 sz) := by
  refine hwMetv (cc := cIx_listTerms) (maxL := 3) (by decide) rfl (Nat.le_of_ble_eq_true rfl) (fun p e s m args below meth c ls A Q hx hb hml hown hts hname hret hK hO hZ hA hl => ?_)
  have hl : lv_has ls 3 [(0, .ref a), (1, .int kind)] := hl
  have hFr : hwF X X (fun M => M = 18 ∨ M = 19) := hwF.rf
  refine lv_aload_n hx hb dIx_listTerms_0 rfl (lv_at hl 0 rfl) ?_
  refine hw_get hx hb hts (hwInn inIx) hown hK hZ f0_ rfl 10 (by decide) (hts (.fieldLink RIx 52 RIx "listed" "LWordIndex2$WordSet;") (hwMem mm_264)) (fun _ h => h) rfl dIx_listTerms_1 ?_
  refine hw_callv (va_runV (As := []) (rest := []) ⟨hx, hb, hml, hown, hts⟩ (c_Se_clear l D K X s.heap.size (a := b7) (k := 9) (N := 750) (ts := tl) f3_) (cwV 0 hts (hwGood (hw_4 mm_270 mm_271 mm_272 mm_63 (hwAll mm_269))) rfl rfl rfl (by decide +kernel) ⟨Nat.le_of_ble_eq_true rfl, Nat.le_of_ble_eq_true rfl⟩) (hw_preV hK hO hZ (seAt.ob f3_) rfl) rfl rfl hl.1 rfl (lv_room (Nat.le_of_ble_eq_true rfl)) dIx_listTerms_4 ⟨(show 0 + 0 ≤ 0 by omega), (show 0 + 0 ≤ 0 by omega)⟩) hZ hA (fun X_1 H_2 lc_3 hp hZ => ?_)
  obtain ⟨hF, hN_4⟩ := hp
  have hFr := hwF.tr hFr hF (fun _ h => h) (fun M h => by first | exact False.elim h | ((try dsimp only at h ⊢); omega))
  have f0_ := hF _ _ _ (by intro hNS; first | exact False.elim hNS | ((try dsimp only at hNS); omega)) f0_
  have f1_ := hF _ _ _ (by intro hNS; first | exact False.elim hNS | ((try dsimp only at hNS); omega)) f1_
  have f2_ := itsAt.fr hF (fun M h1 h2 hNS => by first | exact False.elim hNS | ((try dsimp only at hNS); omega)) f2_
  have ff_5 := hN_4
  refine lv_iconst (v := nI 1) hx hb dIx_listTerms_7 (by decide) ?_
  refine lv_istore_n (lv' := [(2, .int (nI 1)), (0, .ref a), (1, .int kind)]) hx hb dIx_listTerms_8 rfl hl (by decide) rfl (fun ls hl => ?_)
  have loop9 : ∀ (fuel : Nat) (n : Nat) (Hh : Heap) (lcs : List Loc) (ls : Array Slot), ni + 1 - n < fuel → (1 ≤ n) → (n ≤ ni + 1) → hwZ D vwCl A s.heap X_1 Hh lcs → lv_has ls 3 [(2, .int (nI n)), (0, .ref a), (1, .int kind)] → W p l e ({ frames := 6, cells := 0, slots := 0, locals := 138 } : Room) s m args below meth c Hh lcs 0 0 Q (F0 m 9 ls []) := by
    intro fuel; induction fuel with
    | zero => intro n Hh lcs ls hfu; exact absurd hfu (Nat.not_lt_zero _)
    | succ fuel ih9 =>
      intro n Hh lcs ls hfu9 hn1 hn2 hZ hl
      refine lv_iload_n hx hb dIx_listTerms_9 rfl (lv_at hl 0 rfl) ?_
      refine lv_aload_n hx hb dIx_listTerms_10 rfl (lv_at hl 1 rfl) ?_
      refine hw_get hx hb hts (hwInn inIx) hown hK hZ f0_ rfl 1 (by decide) (hts (.fieldLink RIx 58 RIx "itemCount" "I") (hwMem mm_182)) (fun _ h => h) rfl dIx_listTerms_11 ?_
      refine hw_ic_gt (a := n) (b := ni) (tgt := 36) hx hb dIx_listTerms_14 (by decide) (by omega) (by omega) (fun cq_6 => ?_) (fun cq_6 => ?_)
      · exact hret hZ ⟨hFr, ff_5⟩ dIx_listTerms_36
      · cases hth : (its.getD (n - 1) hwIt0).1
        · have hpi := itsAt.pi f2_ (i := n - 1) (by omega)
          rw [hth] at hpi
          refine lv_aload_n hx hb dIx_listTerms_17 rfl (lv_at hl 1 rfl) ?_
          refine lv_iload_n hx hb dIx_listTerms_18 rfl (lv_at hl 0 rfl) ?_
          refine lv_iload_n hx hb dIx_listTerms_19 rfl (lv_at hl 2 rfl) ?_
          refine hw_calli (va_runV (As := [.int (nI n), .int kind]) (rest := []) ⟨hx, hb, hml, hown, hts⟩ (c_Ix_readF l D K X_1 Hh.size (a := a) (b0 := b0) (b1 := b1) (b2 := b2) (b3 := b3) (b4 := b4) (b5 := b5) (b6 := b6) (b7 := b7) (b8 := b8) (ni := ni) (fs := fs) (qs := qs) (fi := fi) (n := n) (kind := kind) f0_ f1_ (by omega) (by omega) (by omega) (by assumption)) (cwV 2 hts (hwGood (hw_4 mm_220 mm_221 mm_222 mm_188 (hwAll mm_219))) rfl rfl rfl (by decide +kernel) ⟨Nat.le_of_ble_eq_true rfl, Nat.le_of_ble_eq_true rfl⟩) (hw_preV hK hO hZ (⟨_, _, f0_⟩) rfl) rfl rfl hl.1 rfl (lv_room (Nat.le_of_ble_eq_true rfl)) dIx_listTerms_20 ⟨(show 0 + 0 ≤ 0 by omega), (show 0 + 0 ≤ 0 by omega)⟩) hZ hA (fun r X_7 H_8 lc_9 hp hZ => ?_)
          obtain ⟨hr, hy⟩ := hp
          subst hy
          refine hw_topi hr ?_
          refine hw_bz_eqT (tgt := 30) hx hb dIx_listTerms_23 (by decide) rfl ?_
          refine lv_iinc (v := nI (n + 1)) (lv' := [(2, .int (nI (n + 1))), (0, .ref a), (1, .int kind)]) hx hb dIx_listTerms_30 hl (k := 0) rfl (nI_add _ 1) (by decide) rfl (fun ls hl => ?_)
          refine lv_goto (tgt := 9) hx hb dIx_listTerms_33 (by decide) ?_
          exact ih9 (n + 1) _ _ _ (by omega) (by omega) (by omega)  hZ (lv_sub hl [0, 1, 2] rfl)
        · obtain ⟨t, hpt, htx⟩ := itsAt.pt f2_ (i := n - 1) (j := 0) (by omega) (by omega)
          rw [hth] at hpt
          refine lv_aload_n hx hb dIx_listTerms_17 rfl (lv_at hl 1 rfl) ?_
          refine lv_iload_n hx hb dIx_listTerms_18 rfl (lv_at hl 0 rfl) ?_
          refine lv_iload_n hx hb dIx_listTerms_19 rfl (lv_at hl 2 rfl) ?_
          refine hw_calli (va_runV (As := [.int (nI n), .int kind]) (rest := []) ⟨hx, hb, hml, hown, hts⟩ (c_Ix_readK l D K X_1 Hh.size (a := a) (b0 := b0) (b1 := b1) (b2 := b2) (b3 := b3) (b4 := b4) (b5 := b5) (b6 := b6) (b7 := b7) (b8 := b8) (ni := ni) (fs := fs) (qs := qs) (fi := fi) (n := n) (kind := kind) (t := t) f0_ f1_ (by omega) (by omega) (by omega) (by assumption) (by assumption)) (cwV 2 hts (hwGood (hw_4 mm_220 mm_221 mm_222 mm_188 (hwAll mm_219))) rfl rfl rfl (by decide +kernel) ⟨Nat.le_of_ble_eq_true rfl, Nat.le_of_ble_eq_true rfl⟩) (hw_preV hK hO hZ (⟨_, _, f0_⟩) rfl) rfl rfl hl.1 rfl (lv_room (Nat.le_of_ble_eq_true rfl)) dIx_listTerms_20 ⟨(show 0 + 0 ≤ 0 by omega), (show 0 + 0 ≤ 0 by omega)⟩) hZ hA (fun r X_11 H_12 lc_13 hp hZ => ?_)
          obtain ⟨hr, hy⟩ := hp
          subst hy
          refine hw_topi hr ?_
          refine hw_bz_eqT (tgt := 30) hx hb dIx_listTerms_23 (by decide) rfl ?_
          refine lv_iinc (v := nI (n + 1)) (lv' := [(2, .int (nI (n + 1))), (0, .ref a), (1, .int kind)]) hx hb dIx_listTerms_30 hl (k := 0) rfl (nI_add _ 1) (by decide) rfl (fun ls hl => ?_)
          refine lv_goto (tgt := 9) hx hb dIx_listTerms_33 (by decide) ?_
          exact ih9 (n + 1) _ _ _ (by omega) (by omega) (by omega)  hZ (lv_sub hl [0, 1, 2] rfl)
  exact loop9 (ni + 1 - 1 + 1) 1 _ _ _ (by omega) (by omega) (by omega)  hZ (lv_sub hl [0, 1, 2] rfl)
set_option maxHeartbeats 4000000 in
set_option maxRecDepth 100000 in
theorem c_Ix_cdv (l : Launch) (D : va_G) (K : Nat → ClassId) (X : hwW) (sz : Nat) (x0 : Nat) (y0 : Nat) (hx0 : x0 ≤ 1000) (hy0 : y0 ≤ 1000) : Met l yIx_commonDivisor (.code yIx_commonDivisor cIx_commonDivisor 3 (some .int) :: hwG) ({ frames := 1, cells := 0, slots := 0, locals := 22 } : Room) (hwPc D vwCl (hwT K) [.int (nI x0), .int (nI y0)] X sz) (hwQi D vwCl X sz (fun r Y => r = nI (cdv x0 y0) ∧ X = Y ∧ cdv x0 y0 ≤ 1000)) 0 0 (va_A X.1 sz) := by
  refine hwMeti (cc := cIx_commonDivisor) (maxL := 3) (by decide) rfl (Nat.le_of_ble_eq_true rfl) (fun p e s m args below meth c ls A Q hx hb hml hown hts hname hret hK hO hZ hA hl => ?_)
  have hl : lv_has ls 3 [(0, .int (nI x0)), (1, .int (nI y0))] := hl
  refine lv_iload_n hx hb dIx_commonDivisor_0 rfl (lv_at hl 0 rfl) ?_
  refine lv_iload_n hx hb dIx_commonDivisor_1 rfl (lv_at hl 1 rfl) ?_
  refine va_mmin hx hb (hml.trans hl.1.symm) hown (hts (.methodLink RIx 202 Lib.Math.min.name) (hwMem mm_277)) (hts (.static Lib.Math.min.name) (hwMem mm_18)) (hts (.initialized "java/lang/Math") (hwMem mm_19)) (hts (.code Lib.Math.min.name Lib.Math.min.code 2 (some .int)) (hwMem mm_20)) (Nat.le_of_ble_eq_true rfl) (Nat.le_of_ble_eq_true rfl) (show 0 ≤ 0 by omega) (show 0 ≤ 0 by omega) dIx_commonDivisor_2 ?_
  refine hw_topi (hw_nmin (a := x0) (b := y0) (by omega) (by omega)) ?_
  refine lv_istore_n (lv' := [(2, .int (nI (min x0 y0))), (0, .int (nI x0)), (1, .int (nI y0))]) hx hb dIx_commonDivisor_5 rfl hl (by decide) rfl (fun ls hl => ?_)
  have loop6 : ∀ (fuel : Nat) (d : Nat) (Hh : Heap) (lcs : List Loc) (ls : Array Slot), d < fuel → (d ≤ min x0 y0) → (∀ z, d < z → z ≤ min x0 y0 → ¬ (x0 % z = 0 ∧ y0 % z = 0)) → hwZ D vwCl A s.heap X Hh lcs → lv_has ls 3 [(2, .int (nI d)), (0, .int (nI x0)), (1, .int (nI y0))] → W p l e ({ frames := 1, cells := 0, slots := 0, locals := 22 } : Room) s m args below meth c Hh lcs 0 0 Q (F0 m 6 ls []) := by
    intro fuel; induction fuel with
    | zero => intro d Hh lcs ls hfu; exact absurd hfu (Nat.not_lt_zero _)
    | succ fuel ih6 =>
      intro d Hh lcs ls hfu6 hd hno hZ hl
      have hd1 : d ≤ x0 := by omega
      have hd2 : d ≤ y0 := by omega
      refine lv_iload_n hx hb dIx_commonDivisor_6 rfl (lv_at hl 0 rfl) ?_
      refine hw_if_le (a := d) (tgt := 30) hx hb dIx_commonDivisor_7 (by decide) (by omega) (fun cq_1 => ?_) (fun cq_1 => ?_)
      · refine lv_iconst (v := nI 0) hx hb dIx_commonDivisor_30 (by decide) ?_
        exact hret hZ ⟨congrArg nI (cdv_zero (fun z h1 h2 => hno z (by omega) h2)).symm, rfl, cdv_le _ _ hx0⟩ dIx_commonDivisor_31
      · refine lv_iload_n hx hb dIx_commonDivisor_10 rfl (lv_at hl 1 rfl) ?_
        refine lv_iload_n hx hb dIx_commonDivisor_11 rfl (lv_at hl 0 rfl) ?_
        refine lv_irem hx hb dIx_commonDivisor_12 (nI_ne0 (by omega) (by omega)) ?_
        refine hw_topi (pk_rem (a := x0) (d := d) (by omega) (by omega) (by omega)) ?_
        have hmd_2 := Nat.mod_le x0 d
        refine hw_if_ne (a := x0 % d) (tgt := 24) hx hb dIx_commonDivisor_13 (by decide) (by omega) (fun cq_3 => ?_) (fun cq_3 => ?_)
        · refine lv_iinc (v := nI (d - 1)) (lv' := [(2, .int (nI (d - 1))), (0, .int (nI x0)), (1, .int (nI y0))]) hx hb dIx_commonDivisor_24 hl (k := 0) rfl (hw_dec (k := 1) (by omega) (by decide)) (by decide) rfl (fun ls hl => ?_)
          refine lv_goto (tgt := 6) hx hb dIx_commonDivisor_27 (by decide) ?_
          exact ih6 (d - 1) _ _ _ (by omega) (by omega) (fun z h1 h2 hh => (Nat.lt_or_eq_of_le (show d ≤ z by omega)).elim (fun q => hno z q h2 hh) (fun q => by subst q; exact cq_3 hh.1))  hZ (lv_sub hl [0, 1, 2] rfl)
        · refine lv_iload_n hx hb dIx_commonDivisor_16 rfl (lv_at hl 2 rfl) ?_
          refine lv_iload_n hx hb dIx_commonDivisor_17 rfl (lv_at hl 0 rfl) ?_
          refine lv_irem hx hb dIx_commonDivisor_18 (nI_ne0 (by omega) (by omega)) ?_
          refine hw_topi (pk_rem (a := y0) (d := d) (by omega) (by omega) (by omega)) ?_
          have hmd_4 := Nat.mod_le y0 d
          refine hw_if_ne (a := y0 % d) (tgt := 24) hx hb dIx_commonDivisor_19 (by decide) (by omega) (fun cq_5 => ?_) (fun cq_5 => ?_)
          · refine lv_iinc (v := nI (d - 1)) (lv' := [(2, .int (nI (d - 1))), (0, .int (nI x0)), (1, .int (nI y0))]) hx hb dIx_commonDivisor_24 hl (k := 0) rfl (hw_dec (k := 1) (by omega) (by decide)) (by decide) rfl (fun ls hl => ?_)
            refine lv_goto (tgt := 6) hx hb dIx_commonDivisor_27 (by decide) ?_
            exact ih6 (d - 1) _ _ _ (by omega) (by omega) (fun z h1 h2 hh => (Nat.lt_or_eq_of_le (show d ≤ z by omega)).elim (fun q => hno z q h2 hh) (fun q => by subst q; exact cq_5 hh.2))  hZ (lv_sub hl [0, 1, 2] rfl)
          · refine lv_iload_n hx hb dIx_commonDivisor_22 rfl (lv_at hl 0 rfl) ?_
            exact hret hZ ⟨congrArg nI (gcd_found (by omega) (by omega) (by omega) cq_3 cq_5 hno).symm, rfl, cdv_le _ _ hx0⟩ dIx_commonDivisor_23
  exact loop6 ((min x0 y0) + 1) (min x0 y0) _ _ _ (by omega) (Nat.le_refl _) (fun z h1 h2 => absurd h1 (by omega))  hZ (lv_sub hl [0, 1, 2] rfl)
