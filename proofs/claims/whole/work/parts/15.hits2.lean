/-! hits: (record, COUNT, words), by rank -/
def ivec (f : Nat → Int32) (g : Nat × Nat × Nat → Nat) (hs : List (Nat × Nat × Nat)) : Prop := ∀ p, p < hs.length → f p = nI (g (hs.getD p (0, 0, 0)))
def okH (hs : List (Nat × Nat × Nat)) : Prop := ∀ h ∈ hs, h.1 ≤ 1000 ∧ h.2.1 ≤ 1000 ∧ h.2.2 ≤ 1000
theorem okH.at {hs : List (Nat × Nat × Nat)} (h : okH hs) (p : Nat) : (hs.getD p (0, 0, 0)).1 ≤ 1000 ∧ (hs.getD p (0, 0, 0)).2.1 ≤ 1000 ∧ (hs.getD p (0, 0, 0)).2.2 ≤ 1000 := by
  by_cases q : p < hs.length
  · have e : hs.getD p (0, 0, 0) = hs[p] := by simp [List.getD, q]
    rw [e]; exact h _ (List.getElem_mem q)
  · have e : hs.getD p (0, 0, 0) = (0, 0, 0) := by simp [List.getD, Nat.le_of_not_lt q]
    rw [e]; exact ⟨Nat.zero_le _, Nat.zero_le _, Nat.zero_le _⟩
theorem ivec.nil {f : Nat → Int32} {g : Nat × Nat × Nat → Nat} : ivec f g [] := fun _ h => absurd h (Nat.not_lt_zero _)
def gr (x h : Nat × Nat × Nat) : Bool := decide (h.2.1 * x.2.2 < x.2.1 * h.2.2)
def plH (x : Nat × Nat × Nat) (hs : List (Nat × Nat × Nat)) : Nat → Nat
  | 0 => 0
  | n + 1 => if gr x (hs.getD n (0, 0, 0)) then plH x hs n else n + 1
def insH (x : Nat × Nat × Nat) (hs : List (Nat × Nat × Nat)) : List (Nat × Nat × Nat) := hs.take (plH x hs hs.length) ++ x :: hs.drop (plH x hs hs.length)
theorem plH_t {x : Nat × Nat × Nat} {hs : List (Nat × Nat × Nat)} {n : Nat} (h0 : 0 < n) (h : gr x (hs.getD (n - 1) (0, 0, 0)) = true) : plH x hs n = plH x hs (n - 1) := by
  obtain ⟨k, rfl⟩ : ∃ k, n = k + 1 := ⟨n - 1, by omega⟩
  show (if gr x (hs.getD k (0, 0, 0)) then plH x hs k else k + 1) = _
  rw [show k + 1 - 1 = k from rfl] at h
  rw [h]; rfl
theorem plH_f {x : Nat × Nat × Nat} {hs : List (Nat × Nat × Nat)} {n : Nat} (h0 : 0 < n) (h : gr x (hs.getD (n - 1) (0, 0, 0)) = false) : plH x hs n = n := by
  obtain ⟨k, rfl⟩ : ∃ k, n = k + 1 := ⟨n - 1, by omega⟩
  show (if gr x (hs.getD k (0, 0, 0)) then plH x hs k else k + 1) = _
  rw [show k + 1 - 1 = k from rfl] at h
  rw [h]; rfl
theorem plH_le (x : Nat × Nat × Nat) (hs : List (Nat × Nat × Nat)) : ∀ n, plH x hs n ≤ n
  | 0 => Nat.le_refl _
  | n + 1 => by
    show (if gr x (hs.getD n (0, 0, 0)) then plH x hs n else n + 1) ≤ n + 1
    have := plH_le x hs n
    split <;> omega
theorem insH_at {x : Nat × Nat × Nat} {hs : List (Nat × Nat × Nat)} {p : Nat} (h : plH x hs hs.length = p) : insH x hs = hs.take p ++ x :: hs.drop p := by unfold insH; rw [h]
def shv (f : Nat → Int32) (g : Nat × Nat × Nat → Nat) (hs : List (Nat × Nat × Nat)) (p : Nat) : Prop := (∀ j, j < p → f j = nI (g (hs.getD j (0, 0, 0)))) ∧ ∀ j, p ≤ j → j < hs.length → f (j + 1) = nI (g (hs.getD j (0, 0, 0)))
theorem shv.start {f : Nat → Int32} {g : Nat × Nat × Nat → Nat} {hs : List (Nat × Nat × Nat)} (h : ivec f g hs) : shv f g hs hs.length := ⟨h, fun j h1 h2 => absurd h2 (by omega)⟩
theorem shv.step {f : Nat → Int32} {g : Nat × Nat × Nat → Nat} {hs : List (Nat × Nat × Nat)} {p : Nat} (h : shv f g hs p) (hp : 0 < p) : shv (upd f p (f (p - 1))) g hs (p - 1) := by
  refine ⟨fun j hj => ?_, fun j h1 h2 => ?_⟩
  · rw [pk_un (by omega)]; exact h.1 j (by omega)
  · rcases Nat.lt_or_ge j p with q | q
    · have e : j = p - 1 := by omega
      subst e
      rw [show p - 1 + 1 = p by omega, pk_us]
      exact h.1 (p - 1) (by omega)
    · rw [pk_un (by omega)]; exact h.2 j q h2
theorem insH_len {x : Nat × Nat × Nat} {hs : List (Nat × Nat × Nat)} {p : Nat} (h : p ≤ hs.length) : (hs.take p ++ x :: hs.drop p).length = hs.length + 1 := by
  simp [List.length_take, List.length_drop]; omega
theorem shv.done {f : Nat → Int32} {g : Nat × Nat × Nat → Nat} {hs : List (Nat × Nat × Nat)} {p : Nat} {x : Nat × Nat × Nat} (h : shv f g hs p) (hp : p ≤ hs.length) : ivec (upd f p (nI (g x))) g (hs.take p ++ x :: hs.drop p) := by
  intro j hj
  rw [insH_len hp] at hj
  have hl : (hs.take p).length = p := by rw [List.length_take]; omega
  rcases Nat.lt_trichotomy j p with q | q | q
  · rw [pk_un (by omega), h.1 j q]
    congr 2
    simp [List.getD, List.getElem?_append, hl, q, List.getElem?_take]
    rw [List.getElem?_eq_getElem (by omega)]; rfl
  · subst q
    rw [pk_us]
    congr 2
    simp [List.getD, List.getElem?_append, hl]
  · obtain ⟨d, rfl⟩ : ∃ d, j = p + 1 + d := ⟨j - (p + 1), by omega⟩
    have e2 : ¬ p + 1 + d < p := by omega
    have e3 : p + 1 + d - p = d + 1 := by omega
    have := h.2 (p + d) (by omega) (by omega)
    rw [pk_un (by omega), show p + 1 + d = p + d + 1 by omega, this]
    congr 2
    simp [List.getD, List.getElem?_append, hl, show ¬ p + d + 1 < p by omega, show p + d + 1 - p = d + 1 by omega]
theorem okH.ins {hs : List (Nat × Nat × Nat)} {x : Nat × Nat × Nat} {p : Nat} (h : okH hs) (hx : x.1 ≤ 1000 ∧ x.2.1 ≤ 1000 ∧ x.2.2 ≤ 1000) : okH (hs.take p ++ x :: hs.drop p) := by
  intro v hv
  rcases List.mem_append.mp hv with q | q
  · exact h v (List.mem_of_mem_take q)
  · rcases List.mem_cons.mp q with q | q
    · rw [q]; exact hx
    · exact h v (List.mem_of_mem_drop q)
def hiAt (K : Nat → ClassId) (X : hwW) (a : Nat) (hs : List (Nat × Nat × Nat)) : Prop := ∃ (q1 q2 q3 : Nat) (f1 f2 f3 : Nat → Int32), hwH X a 60 (.inr (0, [.ref q1, .ref q2, .ref q3, .int (nI hs.length)])) ∧ hwH X q1 61 (.inl (K 0, 30, .inl f1)) ∧ hwH X q2 62 (.inl (K 0, 30, .inl f2)) ∧ hwH X q3 63 (.inl (K 0, 30, .inl f3)) ∧ hs.length ≤ 30 ∧ ivec f1 (fun h => h.1) hs ∧ ivec f2 (fun h => h.2.1) hs ∧ ivec f3 (fun h => h.2.2) hs ∧ okH hs
theorem hiAt.fr {K : Nat → ClassId} {X Y : hwW} {S : Nat → Prop} {a : Nat} {hs : List (Nat × Nat × Nat)} (hF : hwF X Y S) (h0 : ¬ S 60) (h1 : ¬ S 61) (h2 : ¬ S 62) (h3 : ¬ S 63) (h : hiAt K X a hs) : hiAt K Y a hs := by
  obtain ⟨q1, q2, q3, f1, f2, f3, g0, g1, g2, g3, r⟩ := h
  exact ⟨q1, q2, q3, f1, f2, f3, hF _ _ _ h0 g0, hF _ _ _ h1 g1, hF _ _ _ h2 g2, hF _ _ _ h3 g3, r⟩
theorem hiAt.ob {K : Nat → ClassId} {X : hwW} {a : Nat} {hs : List (Nat × Nat × Nat)} (h : hiAt K X a hs) : ∃ (L : Nat) (fs : List Value), hwH X a L (.inr (0, fs)) := by
  obtain ⟨q1, q2, q3, f1, f2, f3, g0, -⟩ := h
  exact ⟨_, _, g0⟩
/-! a record: labels 100 + 20 * i .. 119 + 20 * i -/
def itAt (K : Nat → ClassId) (X : hwW) (a i : Nat) (th : Bool) (tx : Nat → List (List Nat) × Nat) : Prop := ∃ (q : Nat) (f : Nat → Option Nat), hwH X a (100 + 20 * i) (.inr (1, [.ref q, .int (bI th)])) ∧ hwH X q (101 + 20 * i) (.inl (K 5, 4, .inr (.inr (.inr (.inr f))))) ∧ ∀ j, j < 4 → ∃ t : Nat, f j = some t ∧ txAt K X t (55 + 10 * i + j) (tx j).1 (tx j).2
theorem itAt.fr {K : Nat → ClassId} {X Y : hwW} {S : Nat → Prop} {a i : Nat} {th : Bool} {tx : Nat → List (List Nat) × Nat} (hF : hwF X Y S) (hS : ∀ M, 100 + 20 * i ≤ M → M < 120 + 20 * i → ¬ S M) (h : itAt K X a i th tx) : itAt K Y a i th tx := by
  obtain ⟨q, f, g0, g1, g2⟩ := h
  refine ⟨q, f, hF _ _ _ (hS _ (by omega) (by omega)) g0, hF _ _ _ (hS _ (by omega) (by omega)) g1, fun j hj => ?_⟩
  obtain ⟨t, e, g⟩ := g2 j hj
  exact ⟨t, e, g.fr hF (hS _ (by omega) (by omega)) (hS _ (by omega) (by omega))⟩
theorem itAt.ob {K : Nat → ClassId} {X : hwW} {a i : Nat} {th : Bool} {tx : Nat → List (List Nat) × Nat} (h : itAt K X a i th tx) : ∃ (L : Nat) (fs : List Value), hwH X a L (.inr (1, fs)) := by
  obtain ⟨q, f, g0, -⟩ := h
  exact ⟨_, _, g0⟩
abbrev hwIt : Type := List (Bool × (Nat → List (List Nat) × Nat))
def hwIt0 : Bool × (Nat → List (List Nat) × Nat) := (false, fun _ => ([], 0))
def itsAt (K : Nat → ClassId) (X : hwW) (f : Nat → Option Nat) (its : hwIt) : Prop := ∀ i, i < its.length → ∃ b : Nat, f i = some b ∧ itAt K X b i (its.getD i hwIt0).1 (its.getD i hwIt0).2
theorem itsAt.fr {K : Nat → ClassId} {X Y : hwW} {S : Nat → Prop} {f : Nat → Option Nat} {its : hwIt} (hF : hwF X Y S) (hS : ∀ M, 100 ≤ M → M < 100 + 20 * its.length → ¬ S M) (h : itsAt K X f its) : itsAt K Y f its := fun i hi => by
  obtain ⟨b, e, g⟩ := h i hi
  exact ⟨b, e, g.fr hF (fun M h1 h2 => hS M (by omega) (by omega))⟩
theorem dHits_init_0 : decode cHits_init 0 = .ok (.aload_n 0, 1) := by decide +kernel
theorem dHits_init_1 : decode cHits_init 1 = .ok (.invokespecial 3, 3) := by decide +kernel
theorem dHits_init_4 : decode cHits_init 4 = .ok (.aload_n 0, 1) := by decide +kernel
theorem dHits_init_5 : decode cHits_init 5 = .ok (.bipush 30, 2) := by decide +kernel
theorem dHits_init_7 : decode cHits_init 7 = .ok (.newarray .int, 2) := by decide +kernel
theorem dHits_init_9 : decode cHits_init 9 = .ok (.putfield 9, 3) := by decide +kernel
theorem dHits_init_12 : decode cHits_init 12 = .ok (.aload_n 0, 1) := by decide +kernel
theorem dHits_init_13 : decode cHits_init 13 = .ok (.bipush 30, 2) := by decide +kernel
theorem dHits_init_15 : decode cHits_init 15 = .ok (.newarray .int, 2) := by decide +kernel
theorem dHits_init_17 : decode cHits_init 17 = .ok (.putfield 15, 3) := by decide +kernel
theorem dHits_init_20 : decode cHits_init 20 = .ok (.aload_n 0, 1) := by decide +kernel
theorem dHits_init_21 : decode cHits_init 21 = .ok (.bipush 30, 2) := by decide +kernel
theorem dHits_init_23 : decode cHits_init 23 = .ok (.newarray .int, 2) := by decide +kernel
theorem dHits_init_25 : decode cHits_init 25 = .ok (.putfield 18, 3) := by decide +kernel
theorem dHits_init_28 : decode cHits_init 28 = .ok (.return_, 1) := by decide +kernel
theorem dHits_add_0 : decode cHits_add 0 = .ok (.aload_n 0, 1) := by decide +kernel
theorem dHits_add_1 : decode cHits_add 1 = .ok (.getfield 21, 3) := by decide +kernel
theorem dHits_add_4 : decode cHits_add 4 = .ok (.bipush 30, 2) := by decide +kernel
theorem dHits_add_6 : decode cHits_add 6 = .ok (.if_icmp .lt 4, 3) := by decide +kernel
theorem dHits_add_9 : decode cHits_add 9 = .ok (.return_, 1) := by decide +kernel
theorem dHits_add_10 : decode cHits_add 10 = .ok (.aload_n 0, 1) := by decide +kernel
theorem dHits_add_11 : decode cHits_add 11 = .ok (.getfield 21, 3) := by decide +kernel
theorem dHits_add_14 : decode cHits_add 14 = .ok (.istore 4, 2) := by decide +kernel
theorem dHits_add_16 : decode cHits_add 16 = .ok (.iload 4, 2) := by decide +kernel
theorem dHits_add_18 : decode cHits_add 18 = .ok (.ifCond .le 70, 3) := by decide +kernel
theorem dHits_add_21 : decode cHits_add 21 = .ok (.aload_n 0, 1) := by decide +kernel
theorem dHits_add_22 : decode cHits_add 22 = .ok (.iload_n 2, 1) := by decide +kernel
theorem dHits_add_23 : decode cHits_add 23 = .ok (.iload_n 3, 1) := by decide +kernel
theorem dHits_add_24 : decode cHits_add 24 = .ok (.iload 4, 2) := by decide +kernel
theorem dHits_add_26 : decode cHits_add 26 = .ok (.iconst 1, 1) := by decide +kernel
theorem dHits_add_27 : decode cHits_add 27 = .ok (.isub, 1) := by decide +kernel
theorem dHits_add_28 : decode cHits_add 28 = .ok (.invokevirtual 29, 3) := by decide +kernel
theorem dHits_add_31 : decode cHits_add 31 = .ok (.ifCond .eq 57, 3) := by decide +kernel
theorem dHits_add_34 : decode cHits_add 34 = .ok (.aload_n 0, 1) := by decide +kernel
theorem dHits_add_35 : decode cHits_add 35 = .ok (.getfield 9, 3) := by decide +kernel
theorem dHits_add_38 : decode cHits_add 38 = .ok (.iload 4, 2) := by decide +kernel
theorem dHits_add_40 : decode cHits_add 40 = .ok (.aload_n 0, 1) := by decide +kernel
theorem dHits_add_41 : decode cHits_add 41 = .ok (.getfield 9, 3) := by decide +kernel
theorem dHits_add_44 : decode cHits_add 44 = .ok (.iload 4, 2) := by decide +kernel
theorem dHits_add_46 : decode cHits_add 46 = .ok (.iconst 1, 1) := by decide +kernel
theorem dHits_add_47 : decode cHits_add 47 = .ok (.isub, 1) := by decide +kernel
theorem dHits_add_48 : decode cHits_add 48 = .ok (.iaload, 1) := by decide +kernel
theorem dHits_add_49 : decode cHits_add 49 = .ok (.iastore, 1) := by decide +kernel
theorem dHits_add_50 : decode cHits_add 50 = .ok (.aload_n 0, 1) := by decide +kernel
theorem dHits_add_51 : decode cHits_add 51 = .ok (.getfield 15, 3) := by decide +kernel
theorem dHits_add_54 : decode cHits_add 54 = .ok (.iload 4, 2) := by decide +kernel
theorem dHits_add_56 : decode cHits_add 56 = .ok (.aload_n 0, 1) := by decide +kernel
theorem dHits_add_57 : decode cHits_add 57 = .ok (.getfield 15, 3) := by decide +kernel
theorem dHits_add_60 : decode cHits_add 60 = .ok (.iload 4, 2) := by decide +kernel
theorem dHits_add_62 : decode cHits_add 62 = .ok (.iconst 1, 1) := by decide +kernel
theorem dHits_add_63 : decode cHits_add 63 = .ok (.isub, 1) := by decide +kernel
theorem dHits_add_64 : decode cHits_add 64 = .ok (.iaload, 1) := by decide +kernel
theorem dHits_add_65 : decode cHits_add 65 = .ok (.iastore, 1) := by decide +kernel
theorem dHits_add_66 : decode cHits_add 66 = .ok (.aload_n 0, 1) := by decide +kernel
theorem dHits_add_67 : decode cHits_add 67 = .ok (.getfield 18, 3) := by decide +kernel
theorem dHits_add_70 : decode cHits_add 70 = .ok (.iload 4, 2) := by decide +kernel
theorem dHits_add_72 : decode cHits_add 72 = .ok (.aload_n 0, 1) := by decide +kernel
theorem dHits_add_73 : decode cHits_add 73 = .ok (.getfield 18, 3) := by decide +kernel
theorem dHits_add_76 : decode cHits_add 76 = .ok (.iload 4, 2) := by decide +kernel
theorem dHits_add_78 : decode cHits_add 78 = .ok (.iconst 1, 1) := by decide +kernel
theorem dHits_add_79 : decode cHits_add 79 = .ok (.isub, 1) := by decide +kernel
theorem dHits_add_80 : decode cHits_add 80 = .ok (.iaload, 1) := by decide +kernel
theorem dHits_add_81 : decode cHits_add 81 = .ok (.iastore, 1) := by decide +kernel
theorem dHits_add_82 : decode cHits_add 82 = .ok (.iinc 4 (-1), 3) := by decide +kernel
theorem dHits_add_85 : decode cHits_add 85 = .ok (.goto (-69), 3) := by decide +kernel
theorem dHits_add_88 : decode cHits_add 88 = .ok (.aload_n 0, 1) := by decide +kernel
theorem dHits_add_89 : decode cHits_add 89 = .ok (.getfield 9, 3) := by decide +kernel
theorem dHits_add_92 : decode cHits_add 92 = .ok (.iload 4, 2) := by decide +kernel
theorem dHits_add_94 : decode cHits_add 94 = .ok (.iload_n 1, 1) := by decide +kernel
theorem dHits_add_95 : decode cHits_add 95 = .ok (.iastore, 1) := by decide +kernel
theorem dHits_add_96 : decode cHits_add 96 = .ok (.aload_n 0, 1) := by decide +kernel
theorem dHits_add_97 : decode cHits_add 97 = .ok (.getfield 15, 3) := by decide +kernel
theorem dHits_add_100 : decode cHits_add 100 = .ok (.iload 4, 2) := by decide +kernel
theorem dHits_add_102 : decode cHits_add 102 = .ok (.iload_n 2, 1) := by decide +kernel
theorem dHits_add_103 : decode cHits_add 103 = .ok (.iastore, 1) := by decide +kernel
theorem dHits_add_104 : decode cHits_add 104 = .ok (.aload_n 0, 1) := by decide +kernel
theorem dHits_add_105 : decode cHits_add 105 = .ok (.getfield 18, 3) := by decide +kernel
theorem dHits_add_108 : decode cHits_add 108 = .ok (.iload 4, 2) := by decide +kernel
theorem dHits_add_110 : decode cHits_add 110 = .ok (.iload_n 3, 1) := by decide +kernel
theorem dHits_add_111 : decode cHits_add 111 = .ok (.iastore, 1) := by decide +kernel
theorem dHits_add_112 : decode cHits_add 112 = .ok (.aload_n 0, 1) := by decide +kernel
theorem dHits_add_113 : decode cHits_add 113 = .ok (.dup, 1) := by decide +kernel
theorem dHits_add_114 : decode cHits_add 114 = .ok (.getfield 21, 3) := by decide +kernel
theorem dHits_add_117 : decode cHits_add 117 = .ok (.iconst 1, 1) := by decide +kernel
theorem dHits_add_118 : decode cHits_add 118 = .ok (.iadd, 1) := by decide +kernel
theorem dHits_add_119 : decode cHits_add 119 = .ok (.putfield 21, 3) := by decide +kernel
theorem dHits_add_122 : decode cHits_add 122 = .ok (.return_, 1) := by decide +kernel
theorem dItem_init_0 : decode cItem_init 0 = .ok (.aload_n 0, 1) := by decide +kernel
theorem dItem_init_1 : decode cItem_init 1 = .ok (.invokespecial 3, 3) := by decide +kernel
theorem dItem_init_4 : decode cItem_init 4 = .ok (.aload_n 0, 1) := by decide +kernel
theorem dItem_init_5 : decode cItem_init 5 = .ok (.iconst 4, 1) := by decide +kernel
theorem dItem_init_6 : decode cItem_init 6 = .ok (.anewarray 9, 3) := by decide +kernel
theorem dItem_init_9 : decode cItem_init 9 = .ok (.putfield 11, 3) := by decide +kernel
theorem dItem_init_12 : decode cItem_init 12 = .ok (.aload_n 0, 1) := by decide +kernel
theorem dItem_init_13 : decode cItem_init 13 = .ok (.iconst 1, 1) := by decide +kernel
theorem dItem_init_14 : decode cItem_init 14 = .ok (.putfield 17, 3) := by decide +kernel
theorem dItem_init_17 : decode cItem_init 17 = .ok (.iconst 0, 1) := by decide +kernel
theorem dItem_init_18 : decode cItem_init 18 = .ok (.istore_n 1, 1) := by decide +kernel
theorem dItem_init_19 : decode cItem_init 19 = .ok (.iload_n 1, 1) := by decide +kernel
theorem dItem_init_20 : decode cItem_init 20 = .ok (.aload_n 0, 1) := by decide +kernel
theorem dItem_init_21 : decode cItem_init 21 = .ok (.getfield 11, 3) := by decide +kernel
theorem dItem_init_24 : decode cItem_init 24 = .ok (.arraylength, 1) := by decide +kernel
theorem dItem_init_25 : decode cItem_init 25 = .ok (.if_icmp .ge 22, 3) := by decide +kernel
theorem dItem_init_28 : decode cItem_init 28 = .ok (.aload_n 0, 1) := by decide +kernel
theorem dItem_init_29 : decode cItem_init 29 = .ok (.getfield 11, 3) := by decide +kernel
theorem dItem_init_32 : decode cItem_init 32 = .ok (.iload_n 1, 1) := by decide +kernel
theorem dItem_init_33 : decode cItem_init 33 = .ok (.new 9, 3) := by decide +kernel
theorem dItem_init_36 : decode cItem_init 36 = .ok (.dup, 1) := by decide +kernel
theorem dItem_init_37 : decode cItem_init 37 = .ok (.invokespecial 21, 3) := by decide +kernel
theorem dItem_init_40 : decode cItem_init 40 = .ok (.aastore, 1) := by decide +kernel
theorem dItem_init_41 : decode cItem_init 41 = .ok (.iinc 1 1, 3) := by decide +kernel
theorem dItem_init_44 : decode cItem_init 44 = .ok (.goto (-25), 3) := by decide +kernel
theorem dItem_init_47 : decode cItem_init 47 = .ok (.return_, 1) := by decide +kernel
theorem mm_169 : (.methodLink RHits 3 objectInit : Cond) ∈ hwG := hwIx 98 (by decide +kernel) (by decide +kernel)
theorem mm_170 : (.arrayClass .int : Cond) ∈ hwG := hwIx 75 (by decide +kernel) (by decide +kernel)
theorem mm_171 : (.code yHits_isGreater cHits_isGreater 4 (some .boolean) : Cond) ∈ hwG := hwIx 412 (by decide +kernel) (by decide +kernel)
theorem mm_172 : (.methodLink RHits 29 yHits_isGreater : Cond) ∈ hwG := hwIx 409 (by decide +kernel) (by decide +kernel)
theorem mm_173 : (.instanceMethod yHits_isGreater : Cond) ∈ hwG := hwIx 411 (by decide +kernel) (by decide +kernel)
theorem mm_174 : (.selects RHits yHits_isGreater yHits_isGreater : Cond) ∈ hwG := hwIx 10 (by decide +kernel) (by decide +kernel)
theorem mm_175 : (.methodLink RItem 3 objectInit : Cond) ∈ hwG := hwIx 171 (by decide +kernel) (by decide +kernel)
theorem mm_176 : (.classLink RItem 9 RText : Cond) ∈ hwG := hwIx 172 (by decide +kernel) (by decide +kernel)
theorem mm_177 : (.fieldLink RItem 11 RItem "texts" "[LWordIndex2$Text;" : Cond) ∈ hwG := hwIx 175 (by decide +kernel) (by decide +kernel)
theorem mm_178 : (.fieldLink RItem 17 RItem "there" "Z" : Cond) ∈ hwG := hwIx 176 (by decide +kernel) (by decide +kernel)
theorem mm_179 : (.instantiable RText 3 : Cond) ∈ hwG := hwIx 60 (by decide +kernel) (by decide +kernel)
theorem mm_180 : (.code yText_init cText_init 1 none : Cond) ∈ hwG := hwIx 63 (by decide +kernel) (by decide +kernel)
theorem mm_181 : (.instanceMethod yText_init : Cond) ∈ hwG := hwIx 62 (by decide +kernel) (by decide +kernel)
set_option maxHeartbeats 4000000 in
set_option maxRecDepth 100000 in
theorem c_Hi_init (l : Launch) (D : va_G) (K : Nat → ClassId) (X : hwW) (sz : Nat) (a : Nat) (f0_ : hwH X a 60 (.inr (0, [.null, .null, .null, .int (nI 0)]))) : Met l yHits_init (.code yHits_init cHits_init 1 none :: hwG) ({ frames := 1, cells := 3, slots := 90, locals := 20 } : Room) (hwPc D vwCl (hwT K) [.ref a] X sz) (hwQv D vwCl X sz (fun Y => hwF X Y (fun M => 60 ≤ M ∧ M ≤ 63) ∧ hiAt K Y a [])) 3 90 (va_A X.1 sz) := by
  refine hwMetv (cc := cHits_init) (maxL := 1) (by decide) rfl (Nat.le_of_ble_eq_true rfl) (fun p e s m args below meth c ls A Q hx hb hml hown hts hname hret hK hO hZ hA hl => ?_)
  have hl : lv_has ls 1 [(0, .ref a)] := hl
  have hFr : hwF X X (fun M => 60 ≤ M ∧ M ≤ 63) := hwF.rf
  refine lv_aload_n hx hb dHits_init_0 rfl (lv_at hl 0 rfl) ?_
  refine W.objInit hx hb hown (hts (.methodLink RHits 3 objectInit) (hwMem mm_169)) (hts (.instanceMethod objectInit) (hwMem mm_31)) (hts (.code objectInit ⟨#[0xb1]⟩ 1 none) (hwMem mm_32)) rfl (by rw [hml]; exact hl.1) rfl dHits_init_1 (Nat.le_of_ble_eq_true rfl) (Nat.le_of_ble_eq_true rfl) ?_
  refine W.eq (g2 := F0 m 4 ls []) rfl ?_
  refine lv_aload_n hx hb dHits_init_4 rfl (lv_at hl 0 rfl) ?_
  refine lv_bipush (v := nI 30) hx hb dHits_init_5 (by decide) ?_
  refine hw_newa (atype := .int) (ty := .int) (a0 := (30, .inl (fun _ => 0))) (N := 30) hx hb (hts (.arrayClass .int) (hwMem mm_170)) rfl hK hZ hA 0 rfl (fun _ _ => rfl) (fun _ => rfl) (by omega) (by show _ * _ ≤ _; first | decide | (simp only [componentBytes]; omega)) (show 0 + 1 ≤ 3 by omega) (show 0 + 30 ≤ 90 by omega) dHits_init_7 61 (fun qq_1 X_2 H_3 hZ hF hNw => ?_)
  have hFr := hwF.tr hFr hF (fun _ h => h) (fun M h => by first | exact False.elim h | ((try dsimp only at h ⊢); omega))
  have f0_ := hF _ _ _ (by intro hNS; first | exact False.elim hNS | ((try dsimp only at hNS); omega)) f0_
  have ff_5 := hNw
  refine hw_putF (ty := (.array .int)) (fs' := [.ref qq_1, .null, .null, .int (nI 0)]) hx hb hts (hwInn inHits) tyHits tyHits_ok nmHits hown hK hZ f0_ rfl 0 (by decide) (hts (.fieldLink RHits 9 RHits "numbers" "[I") (hwMem mm_96)) (fun _ h => h) rfl hname rfl (by decide +kernel) rfl rfl (Nat.le_of_ble_eq_true rfl) rfl dHits_init_9 (fun X_6 H_7 lc_8 hZ hF hNw => ?_)
  have hFr := hwF.tr hFr hF (fun _ h => h) (fun M h => by first | exact False.elim h | ((try dsimp only at h ⊢); omega))
  have f0_ := hNw
  have ff_5 := hF _ _ _ (by intro hNS; first | exact False.elim hNS | ((try dsimp only at hNS); omega)) ff_5
  refine lv_aload_n hx hb dHits_init_12 rfl (lv_at hl 0 rfl) ?_
  refine lv_bipush (v := nI 30) hx hb dHits_init_13 (by decide) ?_
  refine hw_newa (atype := .int) (ty := .int) (a0 := (30, .inl (fun _ => 0))) (N := 30) hx hb (hts (.arrayClass .int) (hwMem mm_170)) rfl hK hZ hA 0 rfl (fun _ _ => rfl) (fun _ => rfl) (by omega) (by show _ * _ ≤ _; first | decide | (simp only [componentBytes]; omega)) (show 1 + 1 ≤ 3 by omega) (show (0 + 30) + 30 ≤ 90 by omega) dHits_init_15 62 (fun qq_9 X_10 H_11 hZ hF hNw => ?_)
  have hFr := hwF.tr hFr hF (fun _ h => h) (fun M h => by first | exact False.elim h | ((try dsimp only at h ⊢); omega))
  have f0_ := hF _ _ _ (by intro hNS; first | exact False.elim hNS | ((try dsimp only at hNS); omega)) f0_
  have ff_5 := hF _ _ _ (by intro hNS; first | exact False.elim hNS | ((try dsimp only at hNS); omega)) ff_5
  have ff_13 := hNw
  refine hw_putF (ty := (.array .int)) (fs' := [.ref qq_1, .ref qq_9, .null, .int (nI 0)]) hx hb hts (hwInn inHits) tyHits tyHits_ok nmHits hown hK hZ f0_ rfl 1 (by decide) (hts (.fieldLink RHits 15 RHits "counts" "[I") (hwMem mm_97)) (fun _ h => h) rfl hname rfl (by decide +kernel) rfl rfl (Nat.le_of_ble_eq_true rfl) rfl dHits_init_17 (fun X_14 H_15 lc_16 hZ hF hNw => ?_)
  have hFr := hwF.tr hFr hF (fun _ h => h) (fun M h => by first | exact False.elim h | ((try dsimp only at h ⊢); omega))
  have f0_ := hNw
  have ff_5 := hF _ _ _ (by intro hNS; first | exact False.elim hNS | ((try dsimp only at hNS); omega)) ff_5
  have ff_13 := hF _ _ _ (by intro hNS; first | exact False.elim hNS | ((try dsimp only at hNS); omega)) ff_13
  refine lv_aload_n hx hb dHits_init_20 rfl (lv_at hl 0 rfl) ?_
  refine lv_bipush (v := nI 30) hx hb dHits_init_21 (by decide) ?_
  refine hw_newa (atype := .int) (ty := .int) (a0 := (30, .inl (fun _ => 0))) (N := 30) hx hb (hts (.arrayClass .int) (hwMem mm_170)) rfl hK hZ hA 0 rfl (fun _ _ => rfl) (fun _ => rfl) (by omega) (by show _ * _ ≤ _; first | decide | (simp only [componentBytes]; omega)) (show 2 + 1 ≤ 3 by omega) (show (0 + 30 + 30) + 30 ≤ 90 by omega) dHits_init_23 63 (fun qq_17 X_18 H_19 hZ hF hNw => ?_)
  have hFr := hwF.tr hFr hF (fun _ h => h) (fun M h => by first | exact False.elim h | ((try dsimp only at h ⊢); omega))
  have f0_ := hF _ _ _ (by intro hNS; first | exact False.elim hNS | ((try dsimp only at hNS); omega)) f0_
  have ff_5 := hF _ _ _ (by intro hNS; first | exact False.elim hNS | ((try dsimp only at hNS); omega)) ff_5
  have ff_13 := hF _ _ _ (by intro hNS; first | exact False.elim hNS | ((try dsimp only at hNS); omega)) ff_13
  have ff_21 := hNw
  refine hw_putF (ty := (.array .int)) (fs' := [.ref qq_1, .ref qq_9, .ref qq_17, .int (nI 0)]) hx hb hts (hwInn inHits) tyHits tyHits_ok nmHits hown hK hZ f0_ rfl 2 (by decide) (hts (.fieldLink RHits 18 RHits "sizes" "[I") (hwMem mm_98)) (fun _ h => h) rfl hname rfl (by decide +kernel) rfl rfl (Nat.le_of_ble_eq_true rfl) rfl dHits_init_25 (fun X_22 H_23 lc_24 hZ hF hNw => ?_)
  have hFr := hwF.tr hFr hF (fun _ h => h) (fun M h => by first | exact False.elim h | ((try dsimp only at h ⊢); omega))
  have f0_ := hNw
  have ff_5 := hF _ _ _ (by intro hNS; first | exact False.elim hNS | ((try dsimp only at hNS); omega)) ff_5
  have ff_13 := hF _ _ _ (by intro hNS; first | exact False.elim hNS | ((try dsimp only at hNS); omega)) ff_13
  have ff_21 := hF _ _ _ (by intro hNS; first | exact False.elim hNS | ((try dsimp only at hNS); omega)) ff_21
  refine W.widen (k := 3) (n := 90) (by omega) (by omega) ?_
  exact hret hZ ⟨hFr, _, _, _, _, _, _, f0_, ff_5, ff_13, ff_21, Nat.zero_le _, ivec.nil, ivec.nil, ivec.nil, fun _ h => absurd h List.not_mem_nil⟩ dHits_init_28
set_option maxHeartbeats 4000000 in
set_option maxRecDepth 100000 in
theorem c_Hi_add (l : Launch) (D : va_G) (K : Nat → ClassId) (X : hwW) (sz : Nat) (a : Nat) (hs : List (Nat × Nat × Nat)) (x0 : Nat) (c0 : Nat) (z0 : Nat) (f0_ : hiAt K X a hs) (h1k : x0 ≤ 1000) (h2k : c0 ≤ 1000) (h3k : z0 ≤ 1000) : Met l yHits_add (.code yHits_add cHits_add 5 none :: hwG) ({ frames := 3, cells := 0, slots := 0, locals := 65 } : Room) (hwPc D vwCl (hwT K) [.ref a, .int (nI x0), .int (nI c0), .int (nI z0)] X sz) (hwQv D vwCl X sz (fun Y => hwF X Y (fun M => 60 ≤ M ∧ M ≤ 63) ∧ hiAt K Y a (if 30 ≤ hs.length then hs else insH (x0, c0, z0) hs))) 0 0 (va_A X.1 sz) := by
  refine hwMetv (cc := cHits_add) (maxL := 5) (by decide) rfl (Nat.le_of_ble_eq_true rfl) (fun p e s m args below meth c ls A Q hx hb hml hown hts hname hret hK hO hZ hA hl => ?_)
  have hl : lv_has ls 5 [(0, .ref a), (1, .int (nI x0)), (2, .int (nI c0)), (3, .int (nI z0))] := hl
  have hFr : hwF X X (fun M => 60 ≤ M ∧ M ≤ 63) := hwF.rf
  have hT := f0_
  obtain ⟨q1, q2, q3, f1, f2, f3, g0, g1, g2, g3, hn30, hv1, hv2, hv3, hB⟩ := f0_
  have hBd := okH.at hB
  refine lv_aload_n hx hb dHits_add_0 rfl (lv_at hl 0 rfl) ?_
  refine hw_get hx hb hts (hwInn inHits) hown hK hZ g0 rfl 3 (by decide) (hts (.fieldLink RHits 21 RHits "count" "I") (hwMem mm_90)) (fun _ h => h) rfl dHits_add_1 ?_
  refine lv_bipush (v := nI 30) hx hb dHits_add_4 (by decide) ?_
  refine hw_ic_lt (a := hs.length) (b := 30) (tgt := 10) hx hb dHits_add_6 (by decide) (by omega) (by omega) (fun cq_1 => ?_) (fun cq_1 => ?_)
  · refine lv_aload_n hx hb dHits_add_10 rfl (lv_at hl 0 rfl) ?_
    refine hw_get hx hb hts (hwInn inHits) hown hK hZ g0 rfl 3 (by decide) (hts (.fieldLink RHits 21 RHits "count" "I") (hwMem mm_90)) (fun _ h => h) rfl dHits_add_11 ?_
    refine lv_istore (lv' := [(4, .int (nI hs.length)), (0, .ref a), (1, .int (nI x0)), (2, .int (nI c0)), (3, .int (nI z0))]) hx hb dHits_add_14 hl (by decide) rfl (fun ls hl => ?_)
    have loop16 : ∀ (fuel : Nat) (p0 : Nat) (y1 : Nat → Int32) (y2 : Nat → Int32) (y3 : Nat → Int32) (XL16 : hwW) (Hh : Heap) (lcs : List Loc) (ls : Array Slot), p0 < fuel → (p0 ≤ hs.length) → (plH (x0, c0, z0) hs p0 = plH (x0, c0, z0) hs hs.length) → (shv y1 (fun h => h.1) hs p0) → (shv y2 (fun h => h.2.1) hs p0) → (shv y3 (fun h => h.2.2) hs p0) → (hwF X XL16 (fun M => 60 ≤ M ∧ M ≤ 63)) → (hwH XL16 a 60 (.inr (0, [.ref q1, .ref q2, .ref q3, .int (nI hs.length)]))) → (hwH XL16 q1 61 (.inl (K 0, 30, .inl y1))) → (hwH XL16 q2 62 (.inl (K 0, 30, .inl y2))) → (hwH XL16 q3 63 (.inl (K 0, 30, .inl y3))) → hwZ D vwCl A s.heap XL16 Hh lcs → lv_has ls 5 [(4, .int (nI p0)), (0, .ref a), (1, .int (nI x0)), (2, .int (nI c0)), (3, .int (nI z0))] → W p l e ({ frames := 3, cells := 0, slots := 0, locals := 65 } : Room) s m args below meth c Hh lcs 0 0 Q (F0 m 16 ls []) := by
      intro fuel; induction fuel with
      | zero => intro p0 y1 y2 y3 XL16 Hh lcs ls hfu; exact absurd hfu (Nat.not_lt_zero _)
      | succ fuel ih16 =>
        intro p0 y1 y2 y3 XL16 Hh lcs ls hfu16 hp0 hpl hs1 hs2 hs3 hFr g0 g1 g2 g3 hZ hl
        refine lv_iload hx hb dHits_add_16 (lv_at hl 0 rfl) ?_
        refine hw_if_le (a := p0) (tgt := 88) hx hb dHits_add_18 (by decide) (by omega) (fun cq_2 => ?_) (fun cq_2 => ?_)
        · refine lv_aload_n hx hb dHits_add_88 rfl (lv_at hl 1 rfl) ?_
          refine hw_get hx hb hts (hwInn inHits) hown hK hZ g0 rfl 0 (by decide) (hts (.fieldLink RHits 9 RHits "numbers" "[I") (hwMem mm_96)) (fun _ h => h) rfl dHits_add_89 ?_
          refine lv_iload hx hb dHits_add_92 (lv_at hl 0 rfl) ?_
          refine lv_iload_n hx hb dHits_add_94 rfl (lv_at hl 2 rfl) ?_
          refine hw_iast hx hb hK hZ 0 g1 rfl (j := p0) (by omega) (by omega) dHits_add_95 (fun X_3 H_4 lc_5 hZ hF hNw => ?_)
          have hFr := hwF.tr hFr hF (fun _ h => h) (fun M h => by first | exact False.elim h | ((try dsimp only at h ⊢); omega))
          have g0 := hF _ _ _ (by intro hNS; first | exact False.elim hNS | ((try dsimp only at hNS); omega)) g0
          have g1 := hNw
          have g2 := hF _ _ _ (by intro hNS; first | exact False.elim hNS | ((try dsimp only at hNS); omega)) g2
          have g3 := hF _ _ _ (by intro hNS; first | exact False.elim hNS | ((try dsimp only at hNS); omega)) g3
          refine lv_aload_n hx hb dHits_add_96 rfl (lv_at hl 1 rfl) ?_
          refine hw_get hx hb hts (hwInn inHits) hown hK hZ g0 rfl 1 (by decide) (hts (.fieldLink RHits 15 RHits "counts" "[I") (hwMem mm_97)) (fun _ h => h) rfl dHits_add_97 ?_
          refine lv_iload hx hb dHits_add_100 (lv_at hl 0 rfl) ?_
          refine lv_iload_n hx hb dHits_add_102 rfl (lv_at hl 3 rfl) ?_
          refine hw_iast hx hb hK hZ 0 g2 rfl (j := p0) (by omega) (by omega) dHits_add_103 (fun X_6 H_7 lc_8 hZ hF hNw => ?_)
          have hFr := hwF.tr hFr hF (fun _ h => h) (fun M h => by first | exact False.elim h | ((try dsimp only at h ⊢); omega))
          have g0 := hF _ _ _ (by intro hNS; first | exact False.elim hNS | ((try dsimp only at hNS); omega)) g0
          have g1 := hF _ _ _ (by intro hNS; first | exact False.elim hNS | ((try dsimp only at hNS); omega)) g1
          have g2 := hNw
          have g3 := hF _ _ _ (by intro hNS; first | exact False.elim hNS | ((try dsimp only at hNS); omega)) g3
          refine lv_aload_n hx hb dHits_add_104 rfl (lv_at hl 1 rfl) ?_
          refine hw_get hx hb hts (hwInn inHits) hown hK hZ g0 rfl 2 (by decide) (hts (.fieldLink RHits 18 RHits "sizes" "[I") (hwMem mm_98)) (fun _ h => h) rfl dHits_add_105 ?_
          refine lv_iload hx hb dHits_add_108 (lv_at hl 0 rfl) ?_
          refine lv_iload_n hx hb dHits_add_110 rfl (lv_at hl 4 rfl) ?_
          refine hw_iast hx hb hK hZ 0 g3 rfl (j := p0) (by omega) (by omega) dHits_add_111 (fun X_9 H_10 lc_11 hZ hF hNw => ?_)
          have hFr := hwF.tr hFr hF (fun _ h => h) (fun M h => by first | exact False.elim h | ((try dsimp only at h ⊢); omega))
          have g0 := hF _ _ _ (by intro hNS; first | exact False.elim hNS | ((try dsimp only at hNS); omega)) g0
          have g1 := hF _ _ _ (by intro hNS; first | exact False.elim hNS | ((try dsimp only at hNS); omega)) g1
          have g2 := hF _ _ _ (by intro hNS; first | exact False.elim hNS | ((try dsimp only at hNS); omega)) g2
          have g3 := hNw
          refine lv_aload_n hx hb dHits_add_112 rfl (lv_at hl 1 rfl) ?_
          refine lv_dup hx hb dHits_add_113 rfl ?_
          refine hw_get hx hb hts (hwInn inHits) hown hK hZ g0 rfl 3 (by decide) (hts (.fieldLink RHits 21 RHits "count" "I") (hwMem mm_90)) (fun _ h => h) rfl dHits_add_114 ?_
          refine lv_iconst (v := nI 1) hx hb dHits_add_117 (by decide) ?_
          refine lv_iadd hx hb dHits_add_118 ?_
          refine hw_topi (nI_add hs.length 1) ?_
          refine hw_put (ty := .int) (fs' := [.ref q1, .ref q2, .ref q3, .int (nI (hs.length + 1))]) hx hb hts (hwInn inHits) tyHits tyHits_ok nmHits hown hK hZ g0 rfl 3 (by decide) (hts (.fieldLink RHits 21 RHits "count" "I") (hwMem mm_90)) (fun _ h => h) rfl (by decide +kernel) rfl rfl (Nat.le_of_ble_eq_true rfl) rfl dHits_add_119 (fun X_12 H_13 lc_14 hZ hF hNw => ?_)
          have hFr := hwF.tr hFr hF (fun _ h => h) (fun M h => by first | exact False.elim h | ((try dsimp only at h ⊢); omega))
          have g0 := hNw
          have g1 := hF _ _ _ (by intro hNS; first | exact False.elim hNS | ((try dsimp only at hNS); omega)) g1
          have g2 := hF _ _ _ (by intro hNS; first | exact False.elim hNS | ((try dsimp only at hNS); omega)) g2
          have g3 := hF _ _ _ (by intro hNS; first | exact False.elim hNS | ((try dsimp only at hNS); omega)) g3
          exact hret hZ (by rw [if_neg (by omega), insH_at (hpl.symm.trans (show plH (x0, c0, z0) hs p0 = p0 by rw [show p0 = 0 by omega]; rfl))]; exact ⟨hFr, q1, q2, q3, _, _, _, by rw [insH_len (by omega)]; exact g0, g1, g2, g3, by rw [insH_len (by omega)]; omega, shv.done (x := (x0, c0, z0)) hs1 (by omega), shv.done (x := (x0, c0, z0)) hs2 (by omega), shv.done (x := (x0, c0, z0)) hs3 (by omega), okH.ins hB ⟨h1k, h2k, h3k⟩⟩) dHits_add_122
        · refine lv_aload_n hx hb dHits_add_21 rfl (lv_at hl 1 rfl) ?_
          refine lv_iload_n hx hb dHits_add_22 rfl (lv_at hl 3 rfl) ?_
          refine lv_iload_n hx hb dHits_add_23 rfl (lv_at hl 4 rfl) ?_
          refine lv_iload hx hb dHits_add_24 (lv_at hl 0 rfl) ?_
          refine lv_iconst (v := nI 1) hx hb dHits_add_26 (by decide) ?_
          refine lv_isub hx hb dHits_add_27 ?_
          refine hw_topi (pk_sub (a := p0) (b := 1) (by omega)) ?_
          refine hw_calli (va_runV (As := [.int (nI c0), .int (nI z0), .int (nI (p0 - 1))]) (rest := []) ⟨hx, hb, hml, hown, hts⟩ (c_Hi_gr l D K XL16 Hh.size (a := a) (L := 60) (q1 := q1) (q2 := q2) (q3 := q3) (n := hs.length) (L2 := 62) (f2 := y2) (L3 := 63) (f3 := y3) (c0 := c0) (z0 := z0) (j := p0 - 1) (cj := (hs.getD (p0 - 1) (0, 0, 0)).2.1) (zj := (hs.getD (p0 - 1) (0, 0, 0)).2.2) g0 g2 g3 (by omega) (by omega) (hs2.1 (p0 - 1) (by omega)) (hs3.1 (p0 - 1) (by omega)) (by omega) (by omega) (hBd (p0 - 1)).2.1 (hBd (p0 - 1)).2.2) (cwV 3 hts (hwGood (hw_4 mm_172 mm_173 mm_174 mm_95 (hwAll mm_171))) rfl rfl rfl (by decide +kernel) ⟨Nat.le_of_ble_eq_true rfl, Nat.le_of_ble_eq_true rfl⟩) (hw_preV hK hO hZ (⟨_, _, g0⟩) rfl) rfl rfl hl.1 rfl (lv_room (Nat.le_of_ble_eq_true rfl)) dHits_add_28 ⟨(show 0 + 0 ≤ 0 by omega), (show 0 + 0 ≤ 0 by omega)⟩) hZ hA (fun r X_15 H_16 lc_17 hp hZ => ?_)
          obtain ⟨hr, hy⟩ := hp
          subst hy
          refine hw_topi hr ?_
          refine hw_bz_eq (tgt := 88) hx hb dHits_add_31 (by decide) (fun cq_18 => ?_) (fun cq_18 => ?_)
          · refine lv_aload_n hx hb dHits_add_88 rfl (lv_at hl 1 rfl) ?_
            refine hw_get hx hb hts (hwInn inHits) hown hK hZ g0 rfl 0 (by decide) (hts (.fieldLink RHits 9 RHits "numbers" "[I") (hwMem mm_96)) (fun _ h => h) rfl dHits_add_89 ?_
            refine lv_iload hx hb dHits_add_92 (lv_at hl 0 rfl) ?_
            refine lv_iload_n hx hb dHits_add_94 rfl (lv_at hl 2 rfl) ?_
            refine hw_iast hx hb hK hZ 0 g1 rfl (j := p0) (by omega) (by omega) dHits_add_95 (fun X_19 H_20 lc_21 hZ hF hNw => ?_)
            have hFr := hwF.tr hFr hF (fun _ h => h) (fun M h => by first | exact False.elim h | ((try dsimp only at h ⊢); omega))
            have g0 := hF _ _ _ (by intro hNS; first | exact False.elim hNS | ((try dsimp only at hNS); omega)) g0
            have g1 := hNw
            have g2 := hF _ _ _ (by intro hNS; first | exact False.elim hNS | ((try dsimp only at hNS); omega)) g2
            have g3 := hF _ _ _ (by intro hNS; first | exact False.elim hNS | ((try dsimp only at hNS); omega)) g3
            refine lv_aload_n hx hb dHits_add_96 rfl (lv_at hl 1 rfl) ?_
            refine hw_get hx hb hts (hwInn inHits) hown hK hZ g0 rfl 1 (by decide) (hts (.fieldLink RHits 15 RHits "counts" "[I") (hwMem mm_97)) (fun _ h => h) rfl dHits_add_97 ?_
            refine lv_iload hx hb dHits_add_100 (lv_at hl 0 rfl) ?_
            refine lv_iload_n hx hb dHits_add_102 rfl (lv_at hl 3 rfl) ?_
            refine hw_iast hx hb hK hZ 0 g2 rfl (j := p0) (by omega) (by omega) dHits_add_103 (fun X_22 H_23 lc_24 hZ hF hNw => ?_)
            have hFr := hwF.tr hFr hF (fun _ h => h) (fun M h => by first | exact False.elim h | ((try dsimp only at h ⊢); omega))
            have g0 := hF _ _ _ (by intro hNS; first | exact False.elim hNS | ((try dsimp only at hNS); omega)) g0
            have g1 := hF _ _ _ (by intro hNS; first | exact False.elim hNS | ((try dsimp only at hNS); omega)) g1
            have g2 := hNw
            have g3 := hF _ _ _ (by intro hNS; first | exact False.elim hNS | ((try dsimp only at hNS); omega)) g3
            refine lv_aload_n hx hb dHits_add_104 rfl (lv_at hl 1 rfl) ?_
            refine hw_get hx hb hts (hwInn inHits) hown hK hZ g0 rfl 2 (by decide) (hts (.fieldLink RHits 18 RHits "sizes" "[I") (hwMem mm_98)) (fun _ h => h) rfl dHits_add_105 ?_
            refine lv_iload hx hb dHits_add_108 (lv_at hl 0 rfl) ?_
            refine lv_iload_n hx hb dHits_add_110 rfl (lv_at hl 4 rfl) ?_
            refine hw_iast hx hb hK hZ 0 g3 rfl (j := p0) (by omega) (by omega) dHits_add_111 (fun X_25 H_26 lc_27 hZ hF hNw => ?_)
            have hFr := hwF.tr hFr hF (fun _ h => h) (fun M h => by first | exact False.elim h | ((try dsimp only at h ⊢); omega))
            have g0 := hF _ _ _ (by intro hNS; first | exact False.elim hNS | ((try dsimp only at hNS); omega)) g0
            have g1 := hF _ _ _ (by intro hNS; first | exact False.elim hNS | ((try dsimp only at hNS); omega)) g1
            have g2 := hF _ _ _ (by intro hNS; first | exact False.elim hNS | ((try dsimp only at hNS); omega)) g2
            have g3 := hNw
            refine lv_aload_n hx hb dHits_add_112 rfl (lv_at hl 1 rfl) ?_
            refine lv_dup hx hb dHits_add_113 rfl ?_
            refine hw_get hx hb hts (hwInn inHits) hown hK hZ g0 rfl 3 (by decide) (hts (.fieldLink RHits 21 RHits "count" "I") (hwMem mm_90)) (fun _ h => h) rfl dHits_add_114 ?_
            refine lv_iconst (v := nI 1) hx hb dHits_add_117 (by decide) ?_
            refine lv_iadd hx hb dHits_add_118 ?_
            refine hw_topi (nI_add hs.length 1) ?_
            refine hw_put (ty := .int) (fs' := [.ref q1, .ref q2, .ref q3, .int (nI (hs.length + 1))]) hx hb hts (hwInn inHits) tyHits tyHits_ok nmHits hown hK hZ g0 rfl 3 (by decide) (hts (.fieldLink RHits 21 RHits "count" "I") (hwMem mm_90)) (fun _ h => h) rfl (by decide +kernel) rfl rfl (Nat.le_of_ble_eq_true rfl) rfl dHits_add_119 (fun X_28 H_29 lc_30 hZ hF hNw => ?_)
            have hFr := hwF.tr hFr hF (fun _ h => h) (fun M h => by first | exact False.elim h | ((try dsimp only at h ⊢); omega))
            have g0 := hNw
            have g1 := hF _ _ _ (by intro hNS; first | exact False.elim hNS | ((try dsimp only at hNS); omega)) g1
            have g2 := hF _ _ _ (by intro hNS; first | exact False.elim hNS | ((try dsimp only at hNS); omega)) g2
            have g3 := hF _ _ _ (by intro hNS; first | exact False.elim hNS | ((try dsimp only at hNS); omega)) g3
            exact hret hZ (by rw [if_neg (by omega), insH_at (hpl.symm.trans (plH_f (x := (x0, c0, z0)) (hs := hs) (n := p0) (by omega) cq_18))]; exact ⟨hFr, q1, q2, q3, _, _, _, by rw [insH_len (by omega)]; exact g0, g1, g2, g3, by rw [insH_len (by omega)]; omega, shv.done (x := (x0, c0, z0)) hs1 (by omega), shv.done (x := (x0, c0, z0)) hs2 (by omega), shv.done (x := (x0, c0, z0)) hs3 (by omega), okH.ins hB ⟨h1k, h2k, h3k⟩⟩) dHits_add_122
          · refine lv_aload_n hx hb dHits_add_34 rfl (lv_at hl 1 rfl) ?_
            refine hw_get hx hb hts (hwInn inHits) hown hK hZ g0 rfl 0 (by decide) (hts (.fieldLink RHits 9 RHits "numbers" "[I") (hwMem mm_96)) (fun _ h => h) rfl dHits_add_35 ?_
            refine lv_iload hx hb dHits_add_38 (lv_at hl 0 rfl) ?_
            refine lv_aload_n hx hb dHits_add_40 rfl (lv_at hl 1 rfl) ?_
            refine hw_get hx hb hts (hwInn inHits) hown hK hZ g0 rfl 0 (by decide) (hts (.fieldLink RHits 9 RHits "numbers" "[I") (hwMem mm_96)) (fun _ h => h) rfl dHits_add_41 ?_
            refine lv_iload hx hb dHits_add_44 (lv_at hl 0 rfl) ?_
            refine lv_iconst (v := nI 1) hx hb dHits_add_46 (by decide) ?_
            refine lv_isub hx hb dHits_add_47 ?_
            refine hw_topi (pk_sub (a := p0) (b := 1) (by omega)) ?_
            refine hw_iald hx hb hK hZ 0 g1 rfl (j := p0 - 1) (by omega) (by omega) dHits_add_48 ?_
            refine hw_iast hx hb hK hZ 0 g1 rfl (j := p0) (by omega) (by omega) dHits_add_49 (fun X_31 H_32 lc_33 hZ hF hNw => ?_)
            have hFr := hwF.tr hFr hF (fun _ h => h) (fun M h => by first | exact False.elim h | ((try dsimp only at h ⊢); omega))
            have g0 := hF _ _ _ (by intro hNS; first | exact False.elim hNS | ((try dsimp only at hNS); omega)) g0
            have g1 := hNw
            have g2 := hF _ _ _ (by intro hNS; first | exact False.elim hNS | ((try dsimp only at hNS); omega)) g2
            have g3 := hF _ _ _ (by intro hNS; first | exact False.elim hNS | ((try dsimp only at hNS); omega)) g3
            refine lv_aload_n hx hb dHits_add_50 rfl (lv_at hl 1 rfl) ?_
            refine hw_get hx hb hts (hwInn inHits) hown hK hZ g0 rfl 1 (by decide) (hts (.fieldLink RHits 15 RHits "counts" "[I") (hwMem mm_97)) (fun _ h => h) rfl dHits_add_51 ?_
            refine lv_iload hx hb dHits_add_54 (lv_at hl 0 rfl) ?_
            refine lv_aload_n hx hb dHits_add_56 rfl (lv_at hl 1 rfl) ?_
            refine hw_get hx hb hts (hwInn inHits) hown hK hZ g0 rfl 1 (by decide) (hts (.fieldLink RHits 15 RHits "counts" "[I") (hwMem mm_97)) (fun _ h => h) rfl dHits_add_57 ?_
            refine lv_iload hx hb dHits_add_60 (lv_at hl 0 rfl) ?_
            refine lv_iconst (v := nI 1) hx hb dHits_add_62 (by decide) ?_
            refine lv_isub hx hb dHits_add_63 ?_
            refine hw_topi (pk_sub (a := p0) (b := 1) (by omega)) ?_
            refine hw_iald hx hb hK hZ 0 g2 rfl (j := p0 - 1) (by omega) (by omega) dHits_add_64 ?_
            refine hw_iast hx hb hK hZ 0 g2 rfl (j := p0) (by omega) (by omega) dHits_add_65 (fun X_34 H_35 lc_36 hZ hF hNw => ?_)
            have hFr := hwF.tr hFr hF (fun _ h => h) (fun M h => by first | exact False.elim h | ((try dsimp only at h ⊢); omega))
            have g0 := hF _ _ _ (by intro hNS; first | exact False.elim hNS | ((try dsimp only at hNS); omega)) g0
            have g1 := hF _ _ _ (by intro hNS; first | exact False.elim hNS | ((try dsimp only at hNS); omega)) g1
            have g2 := hNw
            have g3 := hF _ _ _ (by intro hNS; first | exact False.elim hNS | ((try dsimp only at hNS); omega)) g3
            refine lv_aload_n hx hb dHits_add_66 rfl (lv_at hl 1 rfl) ?_
            refine hw_get hx hb hts (hwInn inHits) hown hK hZ g0 rfl 2 (by decide) (hts (.fieldLink RHits 18 RHits "sizes" "[I") (hwMem mm_98)) (fun _ h => h) rfl dHits_add_67 ?_
            refine lv_iload hx hb dHits_add_70 (lv_at hl 0 rfl) ?_
            refine lv_aload_n hx hb dHits_add_72 rfl (lv_at hl 1 rfl) ?_
            refine hw_get hx hb hts (hwInn inHits) hown hK hZ g0 rfl 2 (by decide) (hts (.fieldLink RHits 18 RHits "sizes" "[I") (hwMem mm_98)) (fun _ h => h) rfl dHits_add_73 ?_
            refine lv_iload hx hb dHits_add_76 (lv_at hl 0 rfl) ?_
            refine lv_iconst (v := nI 1) hx hb dHits_add_78 (by decide) ?_
            refine lv_isub hx hb dHits_add_79 ?_
            refine hw_topi (pk_sub (a := p0) (b := 1) (by omega)) ?_
            refine hw_iald hx hb hK hZ 0 g3 rfl (j := p0 - 1) (by omega) (by omega) dHits_add_80 ?_
            refine hw_iast hx hb hK hZ 0 g3 rfl (j := p0) (by omega) (by omega) dHits_add_81 (fun X_37 H_38 lc_39 hZ hF hNw => ?_)
            have hFr := hwF.tr hFr hF (fun _ h => h) (fun M h => by first | exact False.elim h | ((try dsimp only at h ⊢); omega))
            have g0 := hF _ _ _ (by intro hNS; first | exact False.elim hNS | ((try dsimp only at hNS); omega)) g0
            have g1 := hF _ _ _ (by intro hNS; first | exact False.elim hNS | ((try dsimp only at hNS); omega)) g1
            have g2 := hF _ _ _ (by intro hNS; first | exact False.elim hNS | ((try dsimp only at hNS); omega)) g2
            have g3 := hNw
            refine lv_iinc (v := nI (p0 - 1)) (lv' := [(4, .int (nI (p0 - 1))), (0, .ref a), (1, .int (nI x0)), (2, .int (nI c0)), (3, .int (nI z0))]) hx hb dHits_add_82 hl (k := 0) rfl (hw_dec (k := 1) (by omega) (by decide)) (by decide) rfl (fun ls hl => ?_)
            refine lv_goto (tgt := 16) hx hb dHits_add_85 (by decide) ?_
            exact ih16 (p0 - 1) (upd y1 p0 (y1 (p0 - 1))) (upd y2 p0 (y2 (p0 - 1))) (upd y3 p0 (y3 (p0 - 1))) _ _ _ _ (by omega) (by omega) ((plH_t (x := (x0, c0, z0)) (hs := hs) (n := p0) (by omega) cq_18).symm.trans hpl) (hs1.step (by omega)) (hs2.step (by omega)) (hs3.step (by omega)) hFr g0 g1 g2 g3 hZ (lv_sub hl [0, 1, 2, 3, 4] rfl)
    exact loop16 (hs.length + 1) hs.length f1 f2 f3 _ _ _ _ (by omega) (by omega) rfl (shv.start hv1) (shv.start hv2) (shv.start hv3) hFr g0 g1 g2 g3 hZ (lv_sub hl [0, 1, 2, 3, 4] rfl)
  · exact hret hZ (by rw [if_pos (by omega)]; exact ⟨hFr, hT⟩) dHits_add_9
set_option maxHeartbeats 4000000 in
set_option maxRecDepth 100000 in
theorem c_It_init (l : Launch) (D : va_G) (K : Nat → ClassId) (X : hwW) (sz : Nat) (a : Nat) (i : Nat) (f0_ : hwH X a (100 + 20 * i) (.inr (1, [.null, .int (nI 0)]))) : Met l yItem_init (.code yItem_init cItem_init 2 none :: hwG) ({ frames := 2, cells := 9, slots := 32, locals := 40 } : Room) (hwPc D vwCl (hwT K) [.ref a] X sz) (hwQv D vwCl X sz (fun Y => hwF X Y (fun M => 100 + 20 * i ≤ M ∧ M < 120 + 20 * i) ∧ itAt K Y a i true (fun _ => ([], 0)))) 9 32 (va_A X.1 sz) := by
  refine hwMetv (cc := cItem_init) (maxL := 2) (by decide) rfl (Nat.le_of_ble_eq_true rfl) (fun p e s m args below meth c ls A Q hx hb hml hown hts hname hret hK hO hZ hA hl => ?_)
  have hl : lv_has ls 2 [(0, .ref a)] := hl
  have hFr : hwF X X (fun M => 100 + 20 * i ≤ M ∧ M < 120 + 20 * i) := hwF.rf
  refine lv_aload_n hx hb dItem_init_0 rfl (lv_at hl 0 rfl) ?_
  refine W.objInit hx hb hown (hts (.methodLink RItem 3 objectInit) (hwMem mm_175)) (hts (.instanceMethod objectInit) (hwMem mm_31)) (hts (.code objectInit ⟨#[0xb1]⟩ 1 none) (hwMem mm_32)) rfl (by rw [hml]; exact hl.1) rfl dItem_init_1 (Nat.le_of_ble_eq_true rfl) (Nat.le_of_ble_eq_true rfl) ?_
  refine W.eq (g2 := F0 m 4 ls []) rfl ?_
  refine lv_aload_n hx hb dItem_init_4 rfl (lv_at hl 0 rfl) ?_
  refine lv_iconst (v := nI 4) hx hb dItem_init_5 (by decide) ?_
  refine hw_newq (N := 4) hx hb hown (hts (.classLink RItem 9 RText) (hwMem mm_176)) hO hK hZ hA 5 rfl (by omega) (by omega) (show 0 + 1 ≤ 9 by omega) (show 0 + 4 ≤ 32 by omega) dItem_init_6 (101 + 20 * i) (fun qq_1 X_2 H_3 hZ hF hNw => ?_)
  have hFr := hwF.tr hFr hF (fun _ h => h) (fun M h => by first | exact False.elim h | ((try dsimp only at h ⊢); omega))
  have f0_ := hF _ _ _ (by intro hNS; first | exact False.elim hNS | ((try dsimp only at hNS); omega)) f0_
  have ff_5 := hNw
  refine hw_putF (ty := (.array (.object "WordIndex2$Text"))) (fs' := [.ref qq_1, .int (nI 0)]) hx hb hts (hwInn inItem) tyItem tyItem_ok nmItem hown hK hZ f0_ rfl 0 (by decide) (hts (.fieldLink RItem 11 RItem "texts" "[LWordIndex2$Text;") (hwMem mm_177)) (fun _ h => h) rfl hname rfl (by decide +kernel) rfl rfl (Nat.le_of_ble_eq_true rfl) rfl dItem_init_9 (fun X_6 H_7 lc_8 hZ hF hNw => ?_)
  have hFr := hwF.tr hFr hF (fun _ h => h) (fun M h => by first | exact False.elim h | ((try dsimp only at h ⊢); omega))
  have f0_ := hNw
  have ff_5 := hF _ _ _ (by intro hNS; first | exact False.elim hNS | ((try dsimp only at hNS); omega)) ff_5
  refine lv_aload_n hx hb dItem_init_12 rfl (lv_at hl 0 rfl) ?_
  refine lv_iconst (v := nI 1) hx hb dItem_init_13 (by decide) ?_
  refine hw_put (ty := .boolean) (fs' := [.ref qq_1, .int (nI 1)]) hx hb hts (hwInn inItem) tyItem tyItem_ok nmItem hown hK hZ f0_ rfl 1 (by decide) (hts (.fieldLink RItem 17 RItem "there" "Z") (hwMem mm_178)) (fun _ h => h) rfl (by decide +kernel) (by decide) (by decide) (Nat.le_of_ble_eq_true rfl) rfl dItem_init_14 (fun X_9 H_10 lc_11 hZ hF hNw => ?_)
  have hFr := hwF.tr hFr hF (fun _ h => h) (fun M h => by first | exact False.elim h | ((try dsimp only at h ⊢); omega))
  have f0_ := hNw
  have ff_5 := hF _ _ _ (by intro hNS; first | exact False.elim hNS | ((try dsimp only at hNS); omega)) ff_5
  refine lv_iconst (v := nI 0) hx hb dItem_init_17 (by decide) ?_
  refine lv_istore_n (lv' := [(1, .int (nI 0)), (0, .ref a)]) hx hb dItem_init_18 rfl hl (by decide) rfl (fun ls hl => ?_)
  refine lv_iload_n hx hb dItem_init_19 rfl (lv_at hl 0 rfl) ?_
  refine lv_aload_n hx hb dItem_init_20 rfl (lv_at hl 1 rfl) ?_
  refine hw_get hx hb hts (hwInn inItem) hown hK hZ f0_ rfl 0 (by decide) (hts (.fieldLink RItem 11 RItem "texts" "[LWordIndex2$Text;") (hwMem mm_177)) (fun _ h => h) rfl dItem_init_21 ?_
  refine hw_alen hx hb hK hZ 5 ff_5 rfl dItem_init_24 ?_
  refine hw_ic_ge (a := 0) (b := 4) (tgt := 47) hx hb dItem_init_25 (by decide) (by omega) (by omega) (fun cq_12 => by exfalso; omega) (fun cq_12 => ?_)
  refine lv_aload_n hx hb dItem_init_28 rfl (lv_at hl 1 rfl) ?_
  refine hw_get hx hb hts (hwInn inItem) hown hK hZ f0_ rfl 0 (by decide) (hts (.fieldLink RItem 11 RItem "texts" "[LWordIndex2$Text;") (hwMem mm_177)) (fun _ h => h) rfl dItem_init_29 ?_
  refine lv_iload_n hx hb dItem_init_32 rfl (lv_at hl 0 rfl) ?_
  refine hw_new (ci := 3) (fs := [.null, .int (nI 0), .int (nI 0)]) hx hb hts (hwInn inText) tyText tyText_ok hown (hts (.classLink RItem 9 RText) (hwMem mm_176)) (hts (.instantiable RText 3) (hwMem mm_179)) (hts (.initialized RText) (hwMem mm_45)) hK hZ hA rfl (fun j hj => by rcases (show j = 0 ∨ j = 1 ∨ j = 2 by omega) with rfl | rfl | rfl <;> rfl) (show 1 + 1 ≤ 9 by omega) (show (0 + 4) + 3 ≤ 32 by omega) dItem_init_33 (2 * (55 + 10 * i + 0)) (fun qq_13 X_14 H_15 hZ hF hNw => ?_)
  have hFr := hwF.tr hFr hF (fun _ h => h) (fun M h => by first | exact False.elim h | ((try dsimp only at h ⊢); omega))
  have f0_ := hF _ _ _ (by intro hNS; first | exact False.elim hNS | ((try dsimp only at hNS); omega)) f0_
  have ff_5 := hF _ _ _ (by intro hNS; first | exact False.elim hNS | ((try dsimp only at hNS); omega)) ff_5
  have ff_17 := hNw
  refine lv_dup hx hb dItem_init_36 rfl ?_
  refine hw_callv (va_runIN (As := []) (rest := [.ref qq_13, .int (nI 0), .ref qq_1]) ⟨hx, hb, hml, hown, hts⟩ (c_Tx_init l D K X_14 H_15.size (a := qq_13) (k := (55 + 10 * i + 0)) ff_17) ⟨va_cnB 0 hts (hwGood (hwAll mm_180)) rfl rfl rfl (hO.2 _ (List.mem_of_getElem? (i := 2) rfl)) (hts (.initialized RText) (hwMem mm_45)) (by decide +kernel) ⟨Nat.le_of_ble_eq_true rfl, Nat.le_of_ble_eq_true rfl⟩, rfl, hts _ (hwMem mm_181)⟩ (hw_preS hK hO hZ) rfl rfl hl.1 rfl (lv_room (Nat.le_of_ble_eq_true rfl)) dItem_init_37 ⟨(show 2 + 1 ≤ 9 by omega), (show (0 + 4 + 3) + 4 ≤ 32 by omega)⟩) hZ hA (fun X_18 H_19 lc_20 hp hZ => ?_)
  obtain ⟨hF, hN_21⟩ := hp
  have hFr := hwF.tr hFr hF (fun _ h => h) (fun M h => by first | exact False.elim h | ((try dsimp only at h ⊢); omega))
  have f0_ := hF _ _ _ (by intro hNS; first | exact False.elim hNS | ((try dsimp only at hNS); omega)) f0_
  have ff_5 := hF _ _ _ (by intro hNS; first | exact False.elim hNS | ((try dsimp only at hNS); omega)) ff_5
  have ff_22 := hN_21
  obtain ⟨_, _, hob⟩ := txAt.ob ff_22
  refine hw_astq hx hb hK hZ 5 3 ff_5 rfl hob rfl (j := 0) (by omega) (by omega) dItem_init_40 (fun X_23 H_24 lc_25 hZ hF hNw => ?_)
  have hFr := hwF.tr hFr hF (fun _ h => h) (fun M h => by first | exact False.elim h | ((try dsimp only at h ⊢); omega))
  have f0_ := hF _ _ _ (by intro hNS; first | exact False.elim hNS | ((try dsimp only at hNS); omega)) f0_
  have ff_5 := hNw
  have ff_22 := txAt.fr hF (by intro hNS; first | exact False.elim hNS | ((try dsimp only at hNS); omega)) (by intro hNS; first | exact False.elim hNS | ((try dsimp only at hNS); omega)) ff_22
  refine lv_iinc (v := nI 1) (lv' := [(1, .int (nI 1)), (0, .ref a)]) hx hb dItem_init_41 hl (k := 0) rfl (by decide) (by decide) rfl (fun ls hl => ?_)
  refine lv_goto (tgt := 19) hx hb dItem_init_44 (by decide) ?_
  refine lv_iload_n hx hb dItem_init_19 rfl (lv_at hl 0 rfl) ?_
  refine lv_aload_n hx hb dItem_init_20 rfl (lv_at hl 1 rfl) ?_
  refine hw_get hx hb hts (hwInn inItem) hown hK hZ f0_ rfl 0 (by decide) (hts (.fieldLink RItem 11 RItem "texts" "[LWordIndex2$Text;") (hwMem mm_177)) (fun _ h => h) rfl dItem_init_21 ?_
  refine hw_alen hx hb hK hZ 5 ff_5 rfl dItem_init_24 ?_
  refine hw_ic_ge (a := 1) (b := 4) (tgt := 47) hx hb dItem_init_25 (by decide) (by omega) (by omega) (fun cq_26 => by exfalso; omega) (fun cq_26 => ?_)
  refine lv_aload_n hx hb dItem_init_28 rfl (lv_at hl 1 rfl) ?_
  refine hw_get hx hb hts (hwInn inItem) hown hK hZ f0_ rfl 0 (by decide) (hts (.fieldLink RItem 11 RItem "texts" "[LWordIndex2$Text;") (hwMem mm_177)) (fun _ h => h) rfl dItem_init_29 ?_
  refine lv_iload_n hx hb dItem_init_32 rfl (lv_at hl 0 rfl) ?_
  refine hw_new (ci := 3) (fs := [.null, .int (nI 0), .int (nI 0)]) hx hb hts (hwInn inText) tyText tyText_ok hown (hts (.classLink RItem 9 RText) (hwMem mm_176)) (hts (.instantiable RText 3) (hwMem mm_179)) (hts (.initialized RText) (hwMem mm_45)) hK hZ hA rfl (fun j hj => by rcases (show j = 0 ∨ j = 1 ∨ j = 2 by omega) with rfl | rfl | rfl <;> rfl) (show 3 + 1 ≤ 9 by omega) (show (0 + 4 + 3 + 4) + 3 ≤ 32 by omega) dItem_init_33 (2 * (55 + 10 * i + 1)) (fun qq_27 X_28 H_29 hZ hF hNw => ?_)
  have hFr := hwF.tr hFr hF (fun _ h => h) (fun M h => by first | exact False.elim h | ((try dsimp only at h ⊢); omega))
  have f0_ := hF _ _ _ (by intro hNS; first | exact False.elim hNS | ((try dsimp only at hNS); omega)) f0_
  have ff_5 := hF _ _ _ (by intro hNS; first | exact False.elim hNS | ((try dsimp only at hNS); omega)) ff_5
  have ff_22 := txAt.fr hF (by intro hNS; first | exact False.elim hNS | ((try dsimp only at hNS); omega)) (by intro hNS; first | exact False.elim hNS | ((try dsimp only at hNS); omega)) ff_22
  have ff_31 := hNw
  refine lv_dup hx hb dItem_init_36 rfl ?_
  refine hw_callv (va_runIN (As := []) (rest := [.ref qq_27, .int (nI 1), .ref qq_1]) ⟨hx, hb, hml, hown, hts⟩ (c_Tx_init l D K X_28 H_29.size (a := qq_27) (k := (55 + 10 * i + 1)) ff_31) ⟨va_cnB 0 hts (hwGood (hwAll mm_180)) rfl rfl rfl (hO.2 _ (List.mem_of_getElem? (i := 2) rfl)) (hts (.initialized RText) (hwMem mm_45)) (by decide +kernel) ⟨Nat.le_of_ble_eq_true rfl, Nat.le_of_ble_eq_true rfl⟩, rfl, hts _ (hwMem mm_181)⟩ (hw_preS hK hO hZ) rfl rfl hl.1 rfl (lv_room (Nat.le_of_ble_eq_true rfl)) dItem_init_37 ⟨(show 4 + 1 ≤ 9 by omega), (show (0 + 4 + 3 + 4 + 3) + 4 ≤ 32 by omega)⟩) hZ hA (fun X_32 H_33 lc_34 hp hZ => ?_)
  obtain ⟨hF, hN_35⟩ := hp
  have hFr := hwF.tr hFr hF (fun _ h => h) (fun M h => by first | exact False.elim h | ((try dsimp only at h ⊢); omega))
  have f0_ := hF _ _ _ (by intro hNS; first | exact False.elim hNS | ((try dsimp only at hNS); omega)) f0_
  have ff_5 := hF _ _ _ (by intro hNS; first | exact False.elim hNS | ((try dsimp only at hNS); omega)) ff_5
  have ff_22 := txAt.fr hF (by intro hNS; first | exact False.elim hNS | ((try dsimp only at hNS); omega)) (by intro hNS; first | exact False.elim hNS | ((try dsimp only at hNS); omega)) ff_22
  have ff_36 := hN_35
  obtain ⟨_, _, hob⟩ := txAt.ob ff_36
  refine hw_astq hx hb hK hZ 5 3 ff_5 rfl hob rfl (j := 1) (by omega) (by omega) dItem_init_40 (fun X_37 H_38 lc_39 hZ hF hNw => ?_)
  have hFr := hwF.tr hFr hF (fun _ h => h) (fun M h => by first | exact False.elim h | ((try dsimp only at h ⊢); omega))
  have f0_ := hF _ _ _ (by intro hNS; first | exact False.elim hNS | ((try dsimp only at hNS); omega)) f0_
  have ff_5 := hNw
  have ff_22 := txAt.fr hF (by intro hNS; first | exact False.elim hNS | ((try dsimp only at hNS); omega)) (by intro hNS; first | exact False.elim hNS | ((try dsimp only at hNS); omega)) ff_22
  have ff_36 := txAt.fr hF (by intro hNS; first | exact False.elim hNS | ((try dsimp only at hNS); omega)) (by intro hNS; first | exact False.elim hNS | ((try dsimp only at hNS); omega)) ff_36
  refine lv_iinc (v := nI 2) (lv' := [(1, .int (nI 2)), (0, .ref a)]) hx hb dItem_init_41 hl (k := 0) rfl (by decide) (by decide) rfl (fun ls hl => ?_)
  refine lv_goto (tgt := 19) hx hb dItem_init_44 (by decide) ?_
  refine lv_iload_n hx hb dItem_init_19 rfl (lv_at hl 0 rfl) ?_
  refine lv_aload_n hx hb dItem_init_20 rfl (lv_at hl 1 rfl) ?_
  refine hw_get hx hb hts (hwInn inItem) hown hK hZ f0_ rfl 0 (by decide) (hts (.fieldLink RItem 11 RItem "texts" "[LWordIndex2$Text;") (hwMem mm_177)) (fun _ h => h) rfl dItem_init_21 ?_
  refine hw_alen hx hb hK hZ 5 ff_5 rfl dItem_init_24 ?_
  refine hw_ic_ge (a := 2) (b := 4) (tgt := 47) hx hb dItem_init_25 (by decide) (by omega) (by omega) (fun cq_40 => by exfalso; omega) (fun cq_40 => ?_)
  refine lv_aload_n hx hb dItem_init_28 rfl (lv_at hl 1 rfl) ?_
  refine hw_get hx hb hts (hwInn inItem) hown hK hZ f0_ rfl 0 (by decide) (hts (.fieldLink RItem 11 RItem "texts" "[LWordIndex2$Text;") (hwMem mm_177)) (fun _ h => h) rfl dItem_init_29 ?_
  refine lv_iload_n hx hb dItem_init_32 rfl (lv_at hl 0 rfl) ?_
  refine hw_new (ci := 3) (fs := [.null, .int (nI 0), .int (nI 0)]) hx hb hts (hwInn inText) tyText tyText_ok hown (hts (.classLink RItem 9 RText) (hwMem mm_176)) (hts (.instantiable RText 3) (hwMem mm_179)) (hts (.initialized RText) (hwMem mm_45)) hK hZ hA rfl (fun j hj => by rcases (show j = 0 ∨ j = 1 ∨ j = 2 by omega) with rfl | rfl | rfl <;> rfl) (show 5 + 1 ≤ 9 by omega) (show (0 + 4 + 3 + 4 + 3 + 4) + 3 ≤ 32 by omega) dItem_init_33 (2 * (55 + 10 * i + 2)) (fun qq_41 X_42 H_43 hZ hF hNw => ?_)
  have hFr := hwF.tr hFr hF (fun _ h => h) (fun M h => by first | exact False.elim h | ((try dsimp only at h ⊢); omega))
  have f0_ := hF _ _ _ (by intro hNS; first | exact False.elim hNS | ((try dsimp only at hNS); omega)) f0_
  have ff_5 := hF _ _ _ (by intro hNS; first | exact False.elim hNS | ((try dsimp only at hNS); omega)) ff_5
  have ff_22 := txAt.fr hF (by intro hNS; first | exact False.elim hNS | ((try dsimp only at hNS); omega)) (by intro hNS; first | exact False.elim hNS | ((try dsimp only at hNS); omega)) ff_22
  have ff_36 := txAt.fr hF (by intro hNS; first | exact False.elim hNS | ((try dsimp only at hNS); omega)) (by intro hNS; first | exact False.elim hNS | ((try dsimp only at hNS); omega)) ff_36
  have ff_45 := hNw
  refine lv_dup hx hb dItem_init_36 rfl ?_
  refine hw_callv (va_runIN (As := []) (rest := [.ref qq_41, .int (nI 2), .ref qq_1]) ⟨hx, hb, hml, hown, hts⟩ (c_Tx_init l D K X_42 H_43.size (a := qq_41) (k := (55 + 10 * i + 2)) ff_45) ⟨va_cnB 0 hts (hwGood (hwAll mm_180)) rfl rfl rfl (hO.2 _ (List.mem_of_getElem? (i := 2) rfl)) (hts (.initialized RText) (hwMem mm_45)) (by decide +kernel) ⟨Nat.le_of_ble_eq_true rfl, Nat.le_of_ble_eq_true rfl⟩, rfl, hts _ (hwMem mm_181)⟩ (hw_preS hK hO hZ) rfl rfl hl.1 rfl (lv_room (Nat.le_of_ble_eq_true rfl)) dItem_init_37 ⟨(show 6 + 1 ≤ 9 by omega), (show (0 + 4 + 3 + 4 + 3 + 4 + 3) + 4 ≤ 32 by omega)⟩) hZ hA (fun X_46 H_47 lc_48 hp hZ => ?_)
  obtain ⟨hF, hN_49⟩ := hp
  have hFr := hwF.tr hFr hF (fun _ h => h) (fun M h => by first | exact False.elim h | ((try dsimp only at h ⊢); omega))
  have f0_ := hF _ _ _ (by intro hNS; first | exact False.elim hNS | ((try dsimp only at hNS); omega)) f0_
  have ff_5 := hF _ _ _ (by intro hNS; first | exact False.elim hNS | ((try dsimp only at hNS); omega)) ff_5
  have ff_22 := txAt.fr hF (by intro hNS; first | exact False.elim hNS | ((try dsimp only at hNS); omega)) (by intro hNS; first | exact False.elim hNS | ((try dsimp only at hNS); omega)) ff_22
  have ff_36 := txAt.fr hF (by intro hNS; first | exact False.elim hNS | ((try dsimp only at hNS); omega)) (by intro hNS; first | exact False.elim hNS | ((try dsimp only at hNS); omega)) ff_36
  have ff_50 := hN_49
  obtain ⟨_, _, hob⟩ := txAt.ob ff_50
  refine hw_astq hx hb hK hZ 5 3 ff_5 rfl hob rfl (j := 2) (by omega) (by omega) dItem_init_40 (fun X_51 H_52 lc_53 hZ hF hNw => ?_)
  have hFr := hwF.tr hFr hF (fun _ h => h) (fun M h => by first | exact False.elim h | ((try dsimp only at h ⊢); omega))
  have f0_ := hF _ _ _ (by intro hNS; first | exact False.elim hNS | ((try dsimp only at hNS); omega)) f0_
  have ff_5 := hNw
  have ff_22 := txAt.fr hF (by intro hNS; first | exact False.elim hNS | ((try dsimp only at hNS); omega)) (by intro hNS; first | exact False.elim hNS | ((try dsimp only at hNS); omega)) ff_22
  have ff_36 := txAt.fr hF (by intro hNS; first | exact False.elim hNS | ((try dsimp only at hNS); omega)) (by intro hNS; first | exact False.elim hNS | ((try dsimp only at hNS); omega)) ff_36
  have ff_50 := txAt.fr hF (by intro hNS; first | exact False.elim hNS | ((try dsimp only at hNS); omega)) (by intro hNS; first | exact False.elim hNS | ((try dsimp only at hNS); omega)) ff_50
  refine lv_iinc (v := nI 3) (lv' := [(1, .int (nI 3)), (0, .ref a)]) hx hb dItem_init_41 hl (k := 0) rfl (by decide) (by decide) rfl (fun ls hl => ?_)
  refine lv_goto (tgt := 19) hx hb dItem_init_44 (by decide) ?_
  refine lv_iload_n hx hb dItem_init_19 rfl (lv_at hl 0 rfl) ?_
  refine lv_aload_n hx hb dItem_init_20 rfl (lv_at hl 1 rfl) ?_
  refine hw_get hx hb hts (hwInn inItem) hown hK hZ f0_ rfl 0 (by decide) (hts (.fieldLink RItem 11 RItem "texts" "[LWordIndex2$Text;") (hwMem mm_177)) (fun _ h => h) rfl dItem_init_21 ?_
  refine hw_alen hx hb hK hZ 5 ff_5 rfl dItem_init_24 ?_
  refine hw_ic_ge (a := 3) (b := 4) (tgt := 47) hx hb dItem_init_25 (by decide) (by omega) (by omega) (fun cq_54 => by exfalso; omega) (fun cq_54 => ?_)
  refine lv_aload_n hx hb dItem_init_28 rfl (lv_at hl 1 rfl) ?_
  refine hw_get hx hb hts (hwInn inItem) hown hK hZ f0_ rfl 0 (by decide) (hts (.fieldLink RItem 11 RItem "texts" "[LWordIndex2$Text;") (hwMem mm_177)) (fun _ h => h) rfl dItem_init_29 ?_
  refine lv_iload_n hx hb dItem_init_32 rfl (lv_at hl 0 rfl) ?_
  refine hw_new (ci := 3) (fs := [.null, .int (nI 0), .int (nI 0)]) hx hb hts (hwInn inText) tyText tyText_ok hown (hts (.classLink RItem 9 RText) (hwMem mm_176)) (hts (.instantiable RText 3) (hwMem mm_179)) (hts (.initialized RText) (hwMem mm_45)) hK hZ hA rfl (fun j hj => by rcases (show j = 0 ∨ j = 1 ∨ j = 2 by omega) with rfl | rfl | rfl <;> rfl) (show 7 + 1 ≤ 9 by omega) (show (0 + 4 + 3 + 4 + 3 + 4 + 3 + 4) + 3 ≤ 32 by omega) dItem_init_33 (2 * (55 + 10 * i + 3)) (fun qq_55 X_56 H_57 hZ hF hNw => ?_)
  have hFr := hwF.tr hFr hF (fun _ h => h) (fun M h => by first | exact False.elim h | ((try dsimp only at h ⊢); omega))
  have f0_ := hF _ _ _ (by intro hNS; first | exact False.elim hNS | ((try dsimp only at hNS); omega)) f0_
  have ff_5 := hF _ _ _ (by intro hNS; first | exact False.elim hNS | ((try dsimp only at hNS); omega)) ff_5
  have ff_22 := txAt.fr hF (by intro hNS; first | exact False.elim hNS | ((try dsimp only at hNS); omega)) (by intro hNS; first | exact False.elim hNS | ((try dsimp only at hNS); omega)) ff_22
  have ff_36 := txAt.fr hF (by intro hNS; first | exact False.elim hNS | ((try dsimp only at hNS); omega)) (by intro hNS; first | exact False.elim hNS | ((try dsimp only at hNS); omega)) ff_36
  have ff_50 := txAt.fr hF (by intro hNS; first | exact False.elim hNS | ((try dsimp only at hNS); omega)) (by intro hNS; first | exact False.elim hNS | ((try dsimp only at hNS); omega)) ff_50
  have ff_59 := hNw
  refine lv_dup hx hb dItem_init_36 rfl ?_
  refine hw_callv (va_runIN (As := []) (rest := [.ref qq_55, .int (nI 3), .ref qq_1]) ⟨hx, hb, hml, hown, hts⟩ (c_Tx_init l D K X_56 H_57.size (a := qq_55) (k := (55 + 10 * i + 3)) ff_59) ⟨va_cnB 0 hts (hwGood (hwAll mm_180)) rfl rfl rfl (hO.2 _ (List.mem_of_getElem? (i := 2) rfl)) (hts (.initialized RText) (hwMem mm_45)) (by decide +kernel) ⟨Nat.le_of_ble_eq_true rfl, Nat.le_of_ble_eq_true rfl⟩, rfl, hts _ (hwMem mm_181)⟩ (hw_preS hK hO hZ) rfl rfl hl.1 rfl (lv_room (Nat.le_of_ble_eq_true rfl)) dItem_init_37 ⟨(show 8 + 1 ≤ 9 by omega), (show (0 + 4 + 3 + 4 + 3 + 4 + 3 + 4 + 3) + 4 ≤ 32 by omega)⟩) hZ hA (fun X_60 H_61 lc_62 hp hZ => ?_)
  obtain ⟨hF, hN_63⟩ := hp
  have hFr := hwF.tr hFr hF (fun _ h => h) (fun M h => by first | exact False.elim h | ((try dsimp only at h ⊢); omega))
  have f0_ := hF _ _ _ (by intro hNS; first | exact False.elim hNS | ((try dsimp only at hNS); omega)) f0_
  have ff_5 := hF _ _ _ (by intro hNS; first | exact False.elim hNS | ((try dsimp only at hNS); omega)) ff_5
  have ff_22 := txAt.fr hF (by intro hNS; first | exact False.elim hNS | ((try dsimp only at hNS); omega)) (by intro hNS; first | exact False.elim hNS | ((try dsimp only at hNS); omega)) ff_22
  have ff_36 := txAt.fr hF (by intro hNS; first | exact False.elim hNS | ((try dsimp only at hNS); omega)) (by intro hNS; first | exact False.elim hNS | ((try dsimp only at hNS); omega)) ff_36
  have ff_50 := txAt.fr hF (by intro hNS; first | exact False.elim hNS | ((try dsimp only at hNS); omega)) (by intro hNS; first | exact False.elim hNS | ((try dsimp only at hNS); omega)) ff_50
  have ff_64 := hN_63
  obtain ⟨_, _, hob⟩ := txAt.ob ff_64
  refine hw_astq hx hb hK hZ 5 3 ff_5 rfl hob rfl (j := 3) (by omega) (by omega) dItem_init_40 (fun X_65 H_66 lc_67 hZ hF hNw => ?_)
  have hFr := hwF.tr hFr hF (fun _ h => h) (fun M h => by first | exact False.elim h | ((try dsimp only at h ⊢); omega))
  have f0_ := hF _ _ _ (by intro hNS; first | exact False.elim hNS | ((try dsimp only at hNS); omega)) f0_
  have ff_5 := hNw
  have ff_22 := txAt.fr hF (by intro hNS; first | exact False.elim hNS | ((try dsimp only at hNS); omega)) (by intro hNS; first | exact False.elim hNS | ((try dsimp only at hNS); omega)) ff_22
  have ff_36 := txAt.fr hF (by intro hNS; first | exact False.elim hNS | ((try dsimp only at hNS); omega)) (by intro hNS; first | exact False.elim hNS | ((try dsimp only at hNS); omega)) ff_36
  have ff_50 := txAt.fr hF (by intro hNS; first | exact False.elim hNS | ((try dsimp only at hNS); omega)) (by intro hNS; first | exact False.elim hNS | ((try dsimp only at hNS); omega)) ff_50
  have ff_64 := txAt.fr hF (by intro hNS; first | exact False.elim hNS | ((try dsimp only at hNS); omega)) (by intro hNS; first | exact False.elim hNS | ((try dsimp only at hNS); omega)) ff_64
  refine lv_iinc (v := nI 4) (lv' := [(1, .int (nI 4)), (0, .ref a)]) hx hb dItem_init_41 hl (k := 0) rfl (by decide) (by decide) rfl (fun ls hl => ?_)
  refine lv_goto (tgt := 19) hx hb dItem_init_44 (by decide) ?_
  refine lv_iload_n hx hb dItem_init_19 rfl (lv_at hl 0 rfl) ?_
  refine lv_aload_n hx hb dItem_init_20 rfl (lv_at hl 1 rfl) ?_
  refine hw_get hx hb hts (hwInn inItem) hown hK hZ f0_ rfl 0 (by decide) (hts (.fieldLink RItem 11 RItem "texts" "[LWordIndex2$Text;") (hwMem mm_177)) (fun _ h => h) rfl dItem_init_21 ?_
  refine hw_alen hx hb hK hZ 5 ff_5 rfl dItem_init_24 ?_
  refine hw_ic_ge (a := 4) (b := 4) (tgt := 47) hx hb dItem_init_25 (by decide) (by omega) (by omega) (fun cq_68 => ?_) (fun cq_68 => by exfalso; omega)
  refine W.widen (k := 9) (n := 32) (by omega) (by omega) ?_
  exact hret hZ ⟨hFr, qq_1, _, f0_, ff_5, fun j hj => match j, hj with | 0, _ => ⟨_, rfl, ff_22⟩ | 1, _ => ⟨_, rfl, ff_36⟩ | 2, _ => ⟨_, rfl, ff_50⟩ | 3, _ => ⟨_, rfl, ff_64⟩ | _ + 4, h => absurd h (by omega)⟩ dItem_init_47
