def sgP (its : hwIt) (sg : List (Nat × Nat)) (r k c : Int32) : List (Nat × Nat) := match rN its.length r, kN k with
  | some i, some j => if (its.getD i hwIt0).1 = true then sg ++ [(4 * (i + 1) + j, ltr (lo8 c))] else sg
  | _, _ => sg
theorem sgP_r {its : hwIt} {sg : List (Nat × Nat)} {r k c : Int32} (h : rN its.length r = none) : sgP its sg r k c = sg := by unfold sgP; rw [h]
theorem sgP_k {its : hwIt} {sg : List (Nat × Nat)} {r k c : Int32} (h : kN k = none) : sgP its sg r k c = sg := by unfold sgP; rw [h]; cases rN its.length r <;> rfl
theorem sgP_g {its : hwIt} {sg : List (Nat × Nat)} {i : Nat} {r k c : Int32} (h : rN its.length r = some i) (ht : (its.getD i hwIt0).1 = false) : sgP its sg r k c = sg := by
  unfold sgP
  rw [h]
  cases kN k with
  | none => rfl
  | some j => show (if (its.getD i hwIt0).1 = true then _ else _) = _; rw [if_neg (by rw [ht]; decide)]
theorem sgP_y {its : hwIt} {sg : List (Nat × Nat)} {i j : Nat} {r k c : Int32} (h : rN its.length r = some i) (hk : kN k = some j) (ht : (its.getD i hwIt0).1 = true) : sgP its sg r k c = sg ++ [(4 * (i + 1) + j, ltr (lo8 c))] := by
  unfold sgP
  rw [h, hk]
  show (if (its.getD i hwIt0).1 = true then _ else _) = _
  rw [if_pos ht]
def sdP (sd : List Nat) (c : Int32) : List Nat := if sd.length < 100 then sd ++ [ltr (lo8 c)] else sd
theorem nar_1 : vp_nar .boolean (nI 1) = bI true := rfl
theorem nar_0 : vp_nar .boolean (nI 0) = bI false := rfl
theorem nar_b (c : Int32) : mL (vp_nar .byte c.toInt8.toInt32) = ltr (lo8 c) := by rw [pk_vb, mL_byte]
theorem ft_push {ft : Nat → Int32} {its : hwIt} {v : Bool × (Nat → List (List Nat) × Nat)} (h : ∀ i, i < its.length → ft (i + 1) = bI (its.getD i hwIt0).1) (hv : v.1 = true) : ∀ i, i < (its ++ [v]).length → upd ft (its.length + 1) (vp_nar .boolean (nI 1)) (i + 1) = bI ((its ++ [v]).getD i hwIt0).1 := by
  intro i hi
  have hi2 : i < its.length + 1 := by simpa using hi
  by_cases e : i = its.length
  · subst e; rw [pk_us, hwIt_app_hi, hv, nar_1]
  · rw [pk_un (by omega), hwIt_app_lo (by omega)]; exact h i (by omega)
theorem ft_set {ft : Nat → Int32} {its : hwIt} {n : Nat} {tx : Nat → List (List Nat) × Nat} (h : ∀ i, i < its.length → ft (i + 1) = bI (its.getD i hwIt0).1) (hn1 : 1 ≤ n) (hn2 : n ≤ its.length) : ∀ i, i < (its.set (n - 1) (false, tx)).length → upd ft n (vp_nar .boolean (nI 0)) (i + 1) = bI ((its.set (n - 1) (false, tx)).getD i hwIt0).1 := by
  intro i hi
  rw [List.length_set] at hi
  by_cases e : i = n - 1
  · subst e; rw [show n - 1 + 1 = n by omega, pk_us, hwIt_set_eq hi, nar_0]
  · rw [pk_un (by omega), hwIt_set_ne e]; exact h i hi
theorem ft_fld {ft : Nat → Int32} {its : hwIt} {m : Nat} {tx : Nat → List (List Nat) × Nat} (h : ∀ i, i < its.length → ft (i + 1) = bI (its.getD i hwIt0).1) : ∀ i, i < (its.set m ((its.getD m hwIt0).1, tx)).length → ft (i + 1) = bI ((its.set m ((its.getD m hwIt0).1, tx)).getD i hwIt0).1 := by
  intro i hi
  rw [List.length_set] at hi
  by_cases e : i = m
  · subst e; rw [hwIt_set_eq hi]; exact h i hi
  · rw [hwIt_set_ne e]; exact h i hi
theorem sg_push1 {fg : Nat → Int32} {sg : List (Nat × Nat)} {p : Nat} {c : Int32} (h : ∀ k, k < sg.length → mL (fg k) = (sg.getD k (0, 0)).2) : ∀ k, k < (sg ++ [(p, ltr (lo8 c))]).length → mL (upd fg sg.length (vp_nar .byte c.toInt8.toInt32) k) = ((sg ++ [(p, ltr (lo8 c))]).getD k (0, 0)).2 := by
  intro k hk
  have hk2 : k < sg.length + 1 := by simpa using hk
  by_cases e : k = sg.length
  · subst e; rw [pk_us, nar_b]; simp [List.getD]
  · rw [pk_un e, h k (by omega)]; simp [List.getD, List.getElem?_append_left (show k < sg.length by omega)]
theorem sg_push2 {fp : Nat → Int32} {sg : List (Nat × Nat)} {p x : Nat} (h : ∀ k, k < sg.length → fp k = nI (sg.getD k (0, 0)).1) : ∀ k, k < (sg ++ [(p, x)]).length → upd fp sg.length (nI p) k = nI ((sg ++ [(p, x)]).getD k (0, 0)).1 := by
  intro k hk
  have hk2 : k < sg.length + 1 := by simpa using hk
  by_cases e : k = sg.length
  · subst e; rw [pk_us]; simp [List.getD]
  · rw [pk_un e, h k (by omega)]; simp [List.getD, List.getElem?_append_left (show k < sg.length by omega)]
theorem sd_push {fd : Nat → Int32} {sd : List Nat} {c : Int32} (h : ∀ k, k < sd.length → mL (fd k) = sd.getD k 0) : ∀ k, k < (sd ++ [ltr (lo8 c)]).length → mL (upd fd sd.length (vp_nar .byte c.toInt8.toInt32) k) = (sd ++ [ltr (lo8 c)]).getD k 0 := by
  intro k hk
  have hk2 : k < sd.length + 1 := by simpa using hk
  by_cases e : k = sd.length
  · subst e; rw [pk_us, nar_b]; simp [List.getD]
  · rw [pk_un e, h k (by omega)]; simp [List.getD, List.getElem?_append_left (show k < sd.length by omega)]
def stF (st : List (List Nat)) (qa : List (List Nat)) : List (List Nat) := qa.foldl (fun l w => if 40 ≤ l.length ∨ w ∈ l then l else l ++ [w]) st
theorem stF_take {st qa : List (List Nat)} {i : Nat} (h : i < qa.length) : stF st (qa.take (i + 1)) = if 40 ≤ (stF st (qa.take i)).length ∨ qa.getD i [] ∈ stF st (qa.take i) then stF st (qa.take i) else stF st (qa.take i) ++ [qa.getD i []] := by
  unfold stF
  rw [take_succ_getD h, List.foldl_append]
  rfl
def cw (sg : List (Nat × Nat)) (j : Nat) : Nat → Nat
  | 0 => 0
  | n + 1 => cw sg j n + (ltL sg (4 * (n + 1) + j)).length
theorem ltL_cons (z : Nat × Nat) (sg : List (Nat × Nat)) (p : Nat) : (ltL (z :: sg) p).length = (ltL sg p).length + (if z.1 = p then 1 else 0) := by
  unfold ltL
  rw [List.filter_cons]
  by_cases h : z.1 = p
  · rw [decide_eq_true h, if_pos h]; simp
  · rw [decide_eq_false h, if_neg h]; simp
theorem cw_cons (z : Nat × Nat) (sg : List (Nat × Nat)) (j : Nat) : ∀ n, cw (z :: sg) j n ≤ cw sg j n + 1 ∧ (z.1 ≥ 4 * (n + 1) + j → cw (z :: sg) j n = cw sg j n)
  | 0 => ⟨Nat.zero_le _, fun _ => rfl⟩
  | n + 1 => by
    have ih := cw_cons z sg j n
    have e := ltL_cons z sg (4 * (n + 1) + j)
    have u1 : cw (z :: sg) j (n + 1) = cw (z :: sg) j n + (ltL (z :: sg) (4 * (n + 1) + j)).length := rfl
    have u2 : cw sg j (n + 1) = cw sg j n + (ltL sg (4 * (n + 1) + j)).length := rfl
    rw [u1, u2, e]
    by_cases h : z.1 = 4 * (n + 1) + j
    · have h2 := ih.2 (by omega)
      rw [if_pos h, h2]
      exact ⟨by omega, fun q => by omega⟩
    · rw [if_neg h]
      refine ⟨by have := ih.1; omega, fun q => ?_⟩
      have := ih.2 (by omega)
      omega
theorem cw_nil (j : Nat) : ∀ n, cw [] j n = 0
  | 0 => rfl
  | n + 1 => by show cw [] j n + (ltL [] (4 * (n + 1) + j)).length = 0; rw [cw_nil j n]; rfl
theorem cw_le (j : Nat) : ∀ (sg : List (Nat × Nat)) (n : Nat), cw sg j n ≤ sg.length
  | [], n => by rw [cw_nil]; exact Nat.le_refl _
  | z :: sg, n => by
    have h1 := (cw_cons z sg j n).1
    have h2 := cw_le j sg n
    rw [List.length_cons]
    omega
theorem ins_len2 (w : List Nat) : ∀ (l : List (List Nat)), (ins w l).length = l.length + 1
  | [] => rfl
  | x :: xs => by
    unfold ins
    split
    · rw [List.length_cons, ins_len2 w xs, List.length_cons]
    · rw [List.length_cons, List.length_cons]
theorem adW_len (l : List (List Nat)) (w : List Nat) : (adW l w).length ≤ l.length + 1 := by
  unfold adW
  split
  · omega
  · unfold insS
    split
    · omega
    · rw [ins_len2]; exact Nat.le_refl _
theorem adAll_len : ∀ (t l : List (List Nat)), (adAll l t).length ≤ l.length + t.length
  | [], l => Nat.le_refl _
  | w :: t, l => by
    have h1 := adAll_len t (adW l w)
    have h2 := adW_len l w
    show (adAll (adW l w) t).length ≤ _
    rw [List.length_cons]
    omega
theorem Tf_some {its : hwIt} {lg : Nat → Nat} {st : List (List Nat)} {j n : Nat} {t : List (List Nat)} (h : Tf its lg st j n = some t) : t.length = ((its.getD n hwIt0).2 j).1.length := by
  unfold Tf at h
  split at h
  · injection h with h; rw [← h, List.length_map]
  · cases h
theorem liN_len {its : hwIt} {sg : List (Nat × Nat)} {lg : Nat → Nat} {st : List (List Nat)} {j : Nat} (htx : ∀ i, i < its.length → ∀ j, j < 4 → ((its.getD i hwIt0).2 j).1 = (tkF (ltL sg (4 * (i + 1) + j))).1) (hj : j < 4) : ∀ n, n ≤ its.length → (liN (Tf its lg st j) n).length ≤ cw sg j n
  | 0, _ => Nat.le_refl _
  | n + 1, hn => by
    have ih := liN_len (lg := lg) (st := st) htx hj n (by omega)
    show (match Tf its lg st j n with | none => liN (Tf its lg st j) n | some t => adAll (liN (Tf its lg st j) n) t).length ≤ cw sg j n + (ltL sg (4 * (n + 1) + j)).length
    split
    · omega
    · rename_i t ht
      have h1 := adAll_len t (liN (Tf its lg st j) n)
      have h2 := Tf_some ht
      rw [htx n (by omega) j hj] at h2
      have h3 := tkF_len (ltL sg (4 * (n + 1) + j))
      omega
theorem hbd_of {its : hwIt} {sg : List (Nat × Nat)} {lg : Nat → Nat} {st : List (List Nat)} {j : Nat} (htx : ∀ i, i < its.length → ∀ j, j < 4 → ((its.getD i hwIt0).2 j).1 = (tkF (ltL sg (4 * (i + 1) + j))).1) (hj : j < 4) (hsl : sg.length ≤ 600) : ∀ n, n < its.length → ∀ t, Tf its lg st j n = some t → ∀ k, (adAll (liN (Tf its lg st j) n) (t.take k)).length ≤ 600 := by
  intro n hn t ht k
  have h1 := adAll_len (t.take k) (liN (Tf its lg st j) n)
  have h2 := Tf_some ht
  rw [htx n hn j hj] at h2
  have h3 := tkF_len (ltL sg (4 * (n + 1) + j))
  have h4 := liN_len (lg := lg) (st := st) htx hj n (by omega)
  have h5 : cw sg j n + (ltL sg (4 * (n + 1) + j)).length ≤ sg.length := cw_le j sg (n + 1)
  have h6 : (t.take k).length ≤ t.length := by rw [List.length_take]; omega
  omega
theorem liN_ne {T : Nat → Option (List (List Nat))} : ∀ n, ∀ w ∈ liN T n, w ≠ []
  | 0, _, h => absurd h List.not_mem_nil
  | n + 1, w, h => by
    have ih := liN_ne (T := T) n
    have key : ∀ (t l : List (List Nat)), (∀ w ∈ l, w ≠ []) → ∀ w ∈ adAll l t, w ≠ [] := by
      intro t
      induction t with
      | nil => intro l hl; exact hl
      | cons x t iht =>
        intro l hl
        refine iht (adW l x) (fun v hv => ?_)
        unfold adW at hv
        split at hv
        · exact hl v hv
        · rename_i hx
          unfold insS at hv
          split at hv
          · exact hl v hv
          · rcases mem_ins.mp hv with q | q
            · rw [q]; exact hx
            · exact hl v q
    have h2 : w ∈ (match T n with | none => liN T n | some t => adAll (liN T n) t) := h
    split at h2
    · exact ih w h2
    · exact key _ _ ih w h2
def okP (hs : List (Nat × Nat × Nat)) : Prop := ∀ h ∈ hs, 1 ≤ h.2.1 ∧ 1 ≤ h.2.2
theorem okP.at {hs : List (Nat × Nat × Nat)} (h : okP hs) {p : Nat} (hp : p < hs.length) : 1 ≤ (hs.getD p (0, 0, 0)).2.1 ∧ 1 ≤ (hs.getD p (0, 0, 0)).2.2 := by
  have e : hs.getD p (0, 0, 0) = hs[p] := by simp [List.getD, hp]
  rw [e]; exact h _ (List.getElem_mem hp)
theorem rankP_out {hs : List (Nat × Nat × Nat)} {i side : Int32} (h : hA hs i = (0, 0, 0)) : rankP hs i side = -1 := by unfold rankP; rw [h]; rfl
theorem cdv_gcd {a b : Nat} (ha : 1 ≤ a) (hb : 1 ≤ b) : cdv a b = Nat.gcd a b := by unfold cdv; rw [if_neg (by omega)]
theorem sgn_pos {x : Nat} (h : 1 ≤ x) : sgn x = 96 + x := by unfold sgn; rw [if_neg (by omega)]; omega
theorem hitP_out {hs : List (Nat × Nat × Nat)} {i what : Int32} (h : hA hs i = (0, 0, 0)) : hitP hs i what = nI 0 := by unfold hitP; rw [h]; (repeat' split) <;> rfl
theorem hw_lt1 {x : Int32} (h : x ≤ 0) : x < nI 1 := by
  rw [Int32.le_iff_toInt_le] at h
  rw [Int32.lt_iff_toInt_lt, nI_toInt (by decide)]
  have e : (0 : Int32).toInt = 0 := rfl
  omega
theorem hw_gt2 {x : Int32} (h : nI 3 ≤ x) : nI 2 < x := by
  rw [Int32.le_iff_toInt_le, nI_toInt (by decide)] at h
  rw [Int32.lt_iff_toInt_lt, nI_toInt (by decide)]
  omega
theorem dMo_record_0 : decode cMo_record 0 = .ok (.aload_n 0, 1) := by decide +kernel
theorem dMo_record_1 : decode cMo_record 1 = .ok (.iconst 0, 1) := by decide +kernel
theorem dMo_record_2 : decode cMo_record 2 = .ok (.putfield 58, 3) := by decide +kernel
theorem dMo_record_5 : decode cMo_record 5 = .ok (.aload_n 0, 1) := by decide +kernel
theorem dMo_record_6 : decode cMo_record 6 = .ok (.getfield 62, 3) := by decide +kernel
theorem dMo_record_9 : decode cMo_record 9 = .ok (.bipush 30, 2) := by decide +kernel
theorem dMo_record_11 : decode cMo_record 11 = .ok (.if_icmp .ne 5, 3) := by decide +kernel
theorem dMo_record_14 : decode cMo_record 14 = .ok (.iconst 0, 1) := by decide +kernel
theorem dMo_record_15 : decode cMo_record 15 = .ok (.ireturn, 1) := by decide +kernel
theorem dMo_record_16 : decode cMo_record 16 = .ok (.aload_n 0, 1) := by decide +kernel
theorem dMo_record_17 : decode cMo_record 17 = .ok (.dup, 1) := by decide +kernel
theorem dMo_record_18 : decode cMo_record 18 = .ok (.getfield 62, 3) := by decide +kernel
theorem dMo_record_21 : decode cMo_record 21 = .ok (.iconst 1, 1) := by decide +kernel
theorem dMo_record_22 : decode cMo_record 22 = .ok (.iadd, 1) := by decide +kernel
theorem dMo_record_23 : decode cMo_record 23 = .ok (.putfield 62, 3) := by decide +kernel
theorem dMo_record_26 : decode cMo_record 26 = .ok (.aload_n 0, 1) := by decide +kernel
theorem dMo_record_27 : decode cMo_record 27 = .ok (.getfield 7, 3) := by decide +kernel
theorem dMo_record_30 : decode cMo_record 30 = .ok (.aload_n 0, 1) := by decide +kernel
theorem dMo_record_31 : decode cMo_record 31 = .ok (.getfield 62, 3) := by decide +kernel
theorem dMo_record_34 : decode cMo_record 34 = .ok (.iconst 1, 1) := by decide +kernel
theorem dMo_record_35 : decode cMo_record 35 = .ok (.bastore, 1) := by decide +kernel
theorem dMo_record_36 : decode cMo_record 36 = .ok (.aload_n 0, 1) := by decide +kernel
theorem dMo_record_37 : decode cMo_record 37 = .ok (.getfield 62, 3) := by decide +kernel
theorem dMo_record_40 : decode cMo_record 40 = .ok (.ireturn, 1) := by decide +kernel
theorem dMo_field_0 : decode cMo_field 0 = .ok (.aload_n 0, 1) := by decide +kernel
theorem dMo_field_1 : decode cMo_field 1 = .ok (.iconst 0, 1) := by decide +kernel
theorem dMo_field_2 : decode cMo_field 2 = .ok (.putfield 58, 3) := by decide +kernel
theorem dMo_field_5 : decode cMo_field 5 = .ok (.iload_n 1, 1) := by decide +kernel
theorem dMo_field_6 : decode cMo_field 6 = .ok (.ifCond .le 72, 3) := by decide +kernel
theorem dMo_field_9 : decode cMo_field 9 = .ok (.iload_n 1, 1) := by decide +kernel
theorem dMo_field_10 : decode cMo_field 10 = .ok (.aload_n 0, 1) := by decide +kernel
theorem dMo_field_11 : decode cMo_field 11 = .ok (.getfield 62, 3) := by decide +kernel
theorem dMo_field_14 : decode cMo_field 14 = .ok (.if_icmp .gt 64, 3) := by decide +kernel
theorem dMo_field_17 : decode cMo_field 17 = .ok (.aload_n 0, 1) := by decide +kernel
theorem dMo_field_18 : decode cMo_field 18 = .ok (.getfield 7, 3) := by decide +kernel
theorem dMo_field_21 : decode cMo_field 21 = .ok (.iload_n 1, 1) := by decide +kernel
theorem dMo_field_22 : decode cMo_field 22 = .ok (.baload, 1) := by decide +kernel
theorem dMo_field_23 : decode cMo_field 23 = .ok (.ifCond .eq 55, 3) := by decide +kernel
theorem dMo_field_26 : decode cMo_field 26 = .ok (.iload_n 2, 1) := by decide +kernel
theorem dMo_field_27 : decode cMo_field 27 = .ok (.invokestatic 65, 3) := by decide +kernel
theorem dMo_field_30 : decode cMo_field 30 = .ok (.ifCond .eq 48, 3) := by decide +kernel
theorem dMo_field_33 : decode cMo_field 33 = .ok (.aload_n 0, 1) := by decide +kernel
theorem dMo_field_34 : decode cMo_field 34 = .ok (.getfield 69, 3) := by decide +kernel
theorem dMo_field_37 : decode cMo_field 37 = .ok (.sipush 1500, 3) := by decide +kernel
theorem dMo_field_40 : decode cMo_field 40 = .ok (.if_icmp .ge 38, 3) := by decide +kernel
theorem dMo_field_43 : decode cMo_field 43 = .ok (.aload_n 0, 1) := by decide +kernel
theorem dMo_field_44 : decode cMo_field 44 = .ok (.getfield 13, 3) := by decide +kernel
theorem dMo_field_47 : decode cMo_field 47 = .ok (.aload_n 0, 1) := by decide +kernel
theorem dMo_field_48 : decode cMo_field 48 = .ok (.getfield 69, 3) := by decide +kernel
theorem dMo_field_51 : decode cMo_field 51 = .ok (.iload_n 3, 1) := by decide +kernel
theorem dMo_field_52 : decode cMo_field 52 = .ok (.i2b, 1) := by decide +kernel
theorem dMo_field_53 : decode cMo_field 53 = .ok (.bastore, 1) := by decide +kernel
theorem dMo_field_54 : decode cMo_field 54 = .ok (.aload_n 0, 1) := by decide +kernel
theorem dMo_field_55 : decode cMo_field 55 = .ok (.getfield 17, 3) := by decide +kernel
theorem dMo_field_58 : decode cMo_field 58 = .ok (.aload_n 0, 1) := by decide +kernel
theorem dMo_field_59 : decode cMo_field 59 = .ok (.getfield 69, 3) := by decide +kernel
theorem dMo_field_62 : decode cMo_field 62 = .ok (.iconst 4, 1) := by decide +kernel
theorem dMo_field_63 : decode cMo_field 63 = .ok (.iload_n 1, 1) := by decide +kernel
theorem dMo_field_64 : decode cMo_field 64 = .ok (.imul, 1) := by decide +kernel
theorem dMo_field_65 : decode cMo_field 65 = .ok (.iload_n 2, 1) := by decide +kernel
theorem dMo_field_66 : decode cMo_field 66 = .ok (.iadd, 1) := by decide +kernel
theorem dMo_field_67 : decode cMo_field 67 = .ok (.iastore, 1) := by decide +kernel
theorem dMo_field_68 : decode cMo_field 68 = .ok (.aload_n 0, 1) := by decide +kernel
theorem dMo_field_69 : decode cMo_field 69 = .ok (.dup, 1) := by decide +kernel
theorem dMo_field_70 : decode cMo_field 70 = .ok (.getfield 69, 3) := by decide +kernel
theorem dMo_field_73 : decode cMo_field 73 = .ok (.iconst 1, 1) := by decide +kernel
theorem dMo_field_74 : decode cMo_field 74 = .ok (.iadd, 1) := by decide +kernel
theorem dMo_field_75 : decode cMo_field 75 = .ok (.putfield 69, 3) := by decide +kernel
theorem dMo_field_78 : decode cMo_field 78 = .ok (.return_, 1) := by decide +kernel
theorem dMo_remove_0 : decode cMo_remove 0 = .ok (.aload_n 0, 1) := by decide +kernel
theorem dMo_remove_1 : decode cMo_remove 1 = .ok (.iconst 0, 1) := by decide +kernel
theorem dMo_remove_2 : decode cMo_remove 2 = .ok (.putfield 58, 3) := by decide +kernel
theorem dMo_remove_5 : decode cMo_remove 5 = .ok (.iload_n 1, 1) := by decide +kernel
theorem dMo_remove_6 : decode cMo_remove 6 = .ok (.iconst 1, 1) := by decide +kernel
theorem dMo_remove_7 : decode cMo_remove 7 = .ok (.if_icmp .lt 20, 3) := by decide +kernel
theorem dMo_remove_10 : decode cMo_remove 10 = .ok (.iload_n 1, 1) := by decide +kernel
theorem dMo_remove_11 : decode cMo_remove 11 = .ok (.aload_n 0, 1) := by decide +kernel
theorem dMo_remove_12 : decode cMo_remove 12 = .ok (.getfield 62, 3) := by decide +kernel
theorem dMo_remove_15 : decode cMo_remove 15 = .ok (.if_icmp .gt 12, 3) := by decide +kernel
theorem dMo_remove_18 : decode cMo_remove 18 = .ok (.aload_n 0, 1) := by decide +kernel
theorem dMo_remove_19 : decode cMo_remove 19 = .ok (.getfield 7, 3) := by decide +kernel
theorem dMo_remove_22 : decode cMo_remove 22 = .ok (.iload_n 1, 1) := by decide +kernel
theorem dMo_remove_23 : decode cMo_remove 23 = .ok (.baload, 1) := by decide +kernel
theorem dMo_remove_24 : decode cMo_remove 24 = .ok (.ifCond .ne 5, 3) := by decide +kernel
theorem dMo_remove_27 : decode cMo_remove 27 = .ok (.iconst 0, 1) := by decide +kernel
theorem dMo_remove_28 : decode cMo_remove 28 = .ok (.ireturn, 1) := by decide +kernel
theorem dMo_remove_29 : decode cMo_remove 29 = .ok (.aload_n 0, 1) := by decide +kernel
theorem dMo_remove_30 : decode cMo_remove 30 = .ok (.getfield 7, 3) := by decide +kernel
theorem dMo_remove_33 : decode cMo_remove 33 = .ok (.iload_n 1, 1) := by decide +kernel
theorem dMo_remove_34 : decode cMo_remove 34 = .ok (.iconst 0, 1) := by decide +kernel
theorem dMo_remove_35 : decode cMo_remove 35 = .ok (.bastore, 1) := by decide +kernel
theorem dMo_remove_36 : decode cMo_remove 36 = .ok (.iconst 1, 1) := by decide +kernel
theorem dMo_remove_37 : decode cMo_remove 37 = .ok (.ireturn, 1) := by decide +kernel
theorem dMo_sign_0 : decode cMo_sign 0 = .ok (.aload_n 0, 1) := by decide +kernel
theorem dMo_sign_1 : decode cMo_sign 1 = .ok (.iconst 0, 1) := by decide +kernel
theorem dMo_sign_2 : decode cMo_sign 2 = .ok (.putfield 58, 3) := by decide +kernel
theorem dMo_sign_5 : decode cMo_sign 5 = .ok (.aload_n 0, 1) := by decide +kernel
theorem dMo_sign_6 : decode cMo_sign 6 = .ok (.getfield 72, 3) := by decide +kernel
theorem dMo_sign_9 : decode cMo_sign 9 = .ok (.bipush 100, 2) := by decide +kernel
theorem dMo_sign_11 : decode cMo_sign 11 = .ok (.if_icmp .ge 24, 3) := by decide +kernel
theorem dMo_sign_14 : decode cMo_sign 14 = .ok (.aload_n 0, 1) := by decide +kernel
theorem dMo_sign_15 : decode cMo_sign 15 = .ok (.getfield 28, 3) := by decide +kernel
theorem dMo_sign_18 : decode cMo_sign 18 = .ok (.aload_n 0, 1) := by decide +kernel
theorem dMo_sign_19 : decode cMo_sign 19 = .ok (.getfield 72, 3) := by decide +kernel
theorem dMo_sign_22 : decode cMo_sign 22 = .ok (.iload_n 1, 1) := by decide +kernel
theorem dMo_sign_23 : decode cMo_sign 23 = .ok (.i2b, 1) := by decide +kernel
theorem dMo_sign_24 : decode cMo_sign 24 = .ok (.bastore, 1) := by decide +kernel
theorem dMo_sign_25 : decode cMo_sign 25 = .ok (.aload_n 0, 1) := by decide +kernel
theorem dMo_sign_26 : decode cMo_sign 26 = .ok (.dup, 1) := by decide +kernel
theorem dMo_sign_27 : decode cMo_sign 27 = .ok (.getfield 72, 3) := by decide +kernel
theorem dMo_sign_30 : decode cMo_sign 30 = .ok (.iconst 1, 1) := by decide +kernel
theorem dMo_sign_31 : decode cMo_sign 31 = .ok (.iadd, 1) := by decide +kernel
theorem dMo_sign_32 : decode cMo_sign 32 = .ok (.putfield 72, 3) := by decide +kernel
theorem dMo_sign_35 : decode cMo_sign 35 = .ok (.return_, 1) := by decide +kernel
theorem dMo_ask_0 : decode cMo_ask 0 = .ok (.aload_n 0, 1) := by decide +kernel
theorem dMo_ask_1 : decode cMo_ask 1 = .ok (.iconst 0, 1) := by decide +kernel
theorem dMo_ask_2 : decode cMo_ask 2 = .ok (.putfield 58, 3) := by decide +kernel
theorem dMo_ask_5 : decode cMo_ask 5 = .ok (.aload_n 0, 1) := by decide +kernel
theorem dMo_ask_6 : decode cMo_ask 6 = .ok (.iconst 0, 1) := by decide +kernel
theorem dMo_ask_7 : decode cMo_ask 7 = .ok (.iload_n 1, 1) := by decide +kernel
theorem dMo_ask_8 : decode cMo_ask 8 = .ok (.iconst 0, 1) := by decide +kernel
theorem dMo_ask_9 : decode cMo_ask 9 = .ok (.iconst 0, 1) := by decide +kernel
theorem dMo_ask_10 : decode cMo_ask 10 = .ok (.invokevirtual 155, 3) := by decide +kernel
theorem dMo_ask_13 : decode cMo_ask 13 = .ok (.ireturn, 1) := by decide +kernel
theorem dMo_phrase_0 : decode cMo_phrase 0 = .ok (.aload_n 0, 1) := by decide +kernel
theorem dMo_phrase_1 : decode cMo_phrase 1 = .ok (.iconst 0, 1) := by decide +kernel
theorem dMo_phrase_2 : decode cMo_phrase 2 = .ok (.putfield 58, 3) := by decide +kernel
theorem dMo_phrase_5 : decode cMo_phrase 5 = .ok (.aload_n 0, 1) := by decide +kernel
theorem dMo_phrase_6 : decode cMo_phrase 6 = .ok (.iconst 1, 1) := by decide +kernel
theorem dMo_phrase_7 : decode cMo_phrase 7 = .ok (.iload_n 1, 1) := by decide +kernel
theorem dMo_phrase_8 : decode cMo_phrase 8 = .ok (.iconst 0, 1) := by decide +kernel
theorem dMo_phrase_9 : decode cMo_phrase 9 = .ok (.iconst 0, 1) := by decide +kernel
theorem dMo_phrase_10 : decode cMo_phrase 10 = .ok (.invokevirtual 155, 3) := by decide +kernel
theorem dMo_phrase_13 : decode cMo_phrase 13 = .ok (.ireturn, 1) := by decide +kernel
theorem dMo_near_0 : decode cMo_near 0 = .ok (.aload_n 0, 1) := by decide +kernel
theorem dMo_near_1 : decode cMo_near 1 = .ok (.iconst 0, 1) := by decide +kernel
theorem dMo_near_2 : decode cMo_near 2 = .ok (.putfield 58, 3) := by decide +kernel
theorem dMo_near_5 : decode cMo_near 5 = .ok (.aload_n 0, 1) := by decide +kernel
theorem dMo_near_6 : decode cMo_near 6 = .ok (.iconst 2, 1) := by decide +kernel
theorem dMo_near_7 : decode cMo_near 7 = .ok (.iload_n 1, 1) := by decide +kernel
theorem dMo_near_8 : decode cMo_near 8 = .ok (.iload_n 2, 1) := by decide +kernel
theorem dMo_near_9 : decode cMo_near 9 = .ok (.iconst 0, 1) := by decide +kernel
theorem dMo_near_10 : decode cMo_near 10 = .ok (.invokevirtual 155, 3) := by decide +kernel
theorem dMo_near_13 : decode cMo_near 13 = .ok (.ireturn, 1) := by decide +kernel
theorem dMo_wild_0 : decode cMo_wild 0 = .ok (.aload_n 0, 1) := by decide +kernel
theorem dMo_wild_1 : decode cMo_wild 1 = .ok (.iconst 0, 1) := by decide +kernel
theorem dMo_wild_2 : decode cMo_wild 2 = .ok (.putfield 58, 3) := by decide +kernel
theorem dMo_wild_5 : decode cMo_wild 5 = .ok (.aload_n 0, 1) := by decide +kernel
theorem dMo_wild_6 : decode cMo_wild 6 = .ok (.iconst 3, 1) := by decide +kernel
theorem dMo_wild_7 : decode cMo_wild 7 = .ok (.iload_n 1, 1) := by decide +kernel
theorem dMo_wild_8 : decode cMo_wild 8 = .ok (.iconst 0, 1) := by decide +kernel
theorem dMo_wild_9 : decode cMo_wild 9 = .ok (.iload_n 2, 1) := by decide +kernel
theorem dMo_wild_10 : decode cMo_wild 10 = .ok (.invokevirtual 155, 3) := by decide +kernel
theorem dMo_wild_13 : decode cMo_wild 13 = .ok (.ireturn, 1) := by decide +kernel
theorem dMo_hit_0 : decode cMo_hit 0 = .ok (.aload_n 0, 1) := by decide +kernel
theorem dMo_hit_1 : decode cMo_hit 1 = .ok (.iconst 0, 1) := by decide +kernel
theorem dMo_hit_2 : decode cMo_hit 2 = .ok (.putfield 58, 3) := by decide +kernel
theorem dMo_hit_5 : decode cMo_hit 5 = .ok (.iload_n 1, 1) := by decide +kernel
theorem dMo_hit_6 : decode cMo_hit 6 = .ok (.ifCond .lt 11, 3) := by decide +kernel
theorem dMo_hit_9 : decode cMo_hit 9 = .ok (.iload_n 1, 1) := by decide +kernel
theorem dMo_hit_10 : decode cMo_hit 10 = .ok (.aload_n 0, 1) := by decide +kernel
theorem dMo_hit_11 : decode cMo_hit 11 = .ok (.getfield 111, 3) := by decide +kernel
theorem dMo_hit_14 : decode cMo_hit 14 = .ok (.if_icmp .lt 7, 3) := by decide +kernel
theorem dMo_hit_17 : decode cMo_hit 17 = .ok (.iconst 0, 1) := by decide +kernel
theorem dMo_hit_18 : decode cMo_hit 18 = .ok (.goto 31, 3) := by decide +kernel
theorem dMo_hit_21 : decode cMo_hit 21 = .ok (.iload_n 2, 1) := by decide +kernel
theorem dMo_hit_22 : decode cMo_hit 22 = .ok (.ifCond .ne 12, 3) := by decide +kernel
theorem dMo_hit_25 : decode cMo_hit 25 = .ok (.aload_n 0, 1) := by decide +kernel
theorem dMo_hit_26 : decode cMo_hit 26 = .ok (.getfield 43, 3) := by decide +kernel
theorem dMo_hit_29 : decode cMo_hit 29 = .ok (.iload_n 1, 1) := by decide +kernel
theorem dMo_hit_30 : decode cMo_hit 30 = .ok (.iaload, 1) := by decide +kernel
theorem dMo_hit_31 : decode cMo_hit 31 = .ok (.goto 18, 3) := by decide +kernel
theorem dMo_hit_34 : decode cMo_hit 34 = .ok (.iload_n 2, 1) := by decide +kernel
theorem dMo_hit_35 : decode cMo_hit 35 = .ok (.iconst 1, 1) := by decide +kernel
theorem dMo_hit_36 : decode cMo_hit 36 = .ok (.if_icmp .ne 12, 3) := by decide +kernel
theorem dMo_hit_39 : decode cMo_hit 39 = .ok (.aload_n 0, 1) := by decide +kernel
theorem dMo_hit_40 : decode cMo_hit 40 = .ok (.getfield 46, 3) := by decide +kernel
theorem dMo_hit_43 : decode cMo_hit 43 = .ok (.iload_n 1, 1) := by decide +kernel
theorem dMo_hit_44 : decode cMo_hit 44 = .ok (.iaload, 1) := by decide +kernel
theorem dMo_hit_45 : decode cMo_hit 45 = .ok (.goto 4, 3) := by decide +kernel
theorem dMo_hit_48 : decode cMo_hit 48 = .ok (.iconst 0, 1) := by decide +kernel
theorem dMo_hit_49 : decode cMo_hit 49 = .ok (.ireturn, 1) := by decide +kernel
theorem dMo_rank_0 : decode cMo_rank 0 = .ok (.aload_n 0, 1) := by decide +kernel
theorem dMo_rank_1 : decode cMo_rank 1 = .ok (.iconst 0, 1) := by decide +kernel
theorem dMo_rank_2 : decode cMo_rank 2 = .ok (.putfield 58, 3) := by decide +kernel
theorem dMo_rank_5 : decode cMo_rank 5 = .ok (.iload_n 1, 1) := by decide +kernel
theorem dMo_rank_6 : decode cMo_rank 6 = .ok (.ifCond .lt 11, 3) := by decide +kernel
theorem dMo_rank_9 : decode cMo_rank 9 = .ok (.iload_n 1, 1) := by decide +kernel
theorem dMo_rank_10 : decode cMo_rank 10 = .ok (.aload_n 0, 1) := by decide +kernel
theorem dMo_rank_11 : decode cMo_rank 11 = .ok (.getfield 111, 3) := by decide +kernel
theorem dMo_rank_14 : decode cMo_rank 14 = .ok (.if_icmp .lt 7, 3) := by decide +kernel
theorem dMo_rank_17 : decode cMo_rank 17 = .ok (.ldc2_w 159, 3) := by decide +kernel
theorem dMo_rank_20 : decode cMo_rank 20 = .ok (.lreturn, 1) := by decide +kernel
theorem dMo_rank_21 : decode cMo_rank 21 = .ok (.aload_n 0, 1) := by decide +kernel
theorem dMo_rank_22 : decode cMo_rank 22 = .ok (.getfield 46, 3) := by decide +kernel
theorem dMo_rank_25 : decode cMo_rank 25 = .ok (.iload_n 1, 1) := by decide +kernel
theorem dMo_rank_26 : decode cMo_rank 26 = .ok (.iaload, 1) := by decide +kernel
theorem dMo_rank_27 : decode cMo_rank 27 = .ok (.istore_n 3, 1) := by decide +kernel
theorem dMo_rank_28 : decode cMo_rank 28 = .ok (.aload_n 0, 1) := by decide +kernel
theorem dMo_rank_29 : decode cMo_rank 29 = .ok (.getfield 49, 3) := by decide +kernel
theorem dMo_rank_32 : decode cMo_rank 32 = .ok (.iload_n 1, 1) := by decide +kernel
theorem dMo_rank_33 : decode cMo_rank 33 = .ok (.iaload, 1) := by decide +kernel
theorem dMo_rank_34 : decode cMo_rank 34 = .ok (.istore 4, 2) := by decide +kernel
theorem dMo_rank_36 : decode cMo_rank 36 = .ok (.iload 4, 2) := by decide +kernel
theorem dMo_rank_38 : decode cMo_rank 38 = .ok (.ifCond .le 19, 3) := by decide +kernel
theorem dMo_rank_41 : decode cMo_rank 41 = .ok (.iload_n 3, 1) := by decide +kernel
theorem dMo_rank_42 : decode cMo_rank 42 = .ok (.iload 4, 2) := by decide +kernel
theorem dMo_rank_44 : decode cMo_rank 44 = .ok (.irem, 1) := by decide +kernel
theorem dMo_rank_45 : decode cMo_rank 45 = .ok (.istore 5, 2) := by decide +kernel
theorem dMo_rank_47 : decode cMo_rank 47 = .ok (.iload 4, 2) := by decide +kernel
theorem dMo_rank_49 : decode cMo_rank 49 = .ok (.istore_n 3, 1) := by decide +kernel
theorem dMo_rank_50 : decode cMo_rank 50 = .ok (.iload 5, 2) := by decide +kernel
theorem dMo_rank_52 : decode cMo_rank 52 = .ok (.istore 4, 2) := by decide +kernel
theorem dMo_rank_54 : decode cMo_rank 54 = .ok (.goto (-18), 3) := by decide +kernel
theorem dMo_rank_57 : decode cMo_rank 57 = .ok (.iload_n 2, 1) := by decide +kernel
theorem dMo_rank_58 : decode cMo_rank 58 = .ok (.ifCond .ne 15, 3) := by decide +kernel
theorem dMo_rank_61 : decode cMo_rank 61 = .ok (.aload_n 0, 1) := by decide +kernel
theorem dMo_rank_62 : decode cMo_rank 62 = .ok (.getfield 46, 3) := by decide +kernel
theorem dMo_rank_65 : decode cMo_rank 65 = .ok (.iload_n 1, 1) := by decide +kernel
theorem dMo_rank_66 : decode cMo_rank 66 = .ok (.iaload, 1) := by decide +kernel
theorem dMo_rank_67 : decode cMo_rank 67 = .ok (.iload_n 3, 1) := by decide +kernel
theorem dMo_rank_68 : decode cMo_rank 68 = .ok (.idiv, 1) := by decide +kernel
theorem dMo_rank_69 : decode cMo_rank 69 = .ok (.i2l, 1) := by decide +kernel
theorem dMo_rank_70 : decode cMo_rank 70 = .ok (.goto 12, 3) := by decide +kernel
theorem dMo_rank_73 : decode cMo_rank 73 = .ok (.aload_n 0, 1) := by decide +kernel
theorem dMo_rank_74 : decode cMo_rank 74 = .ok (.getfield 49, 3) := by decide +kernel
theorem dMo_rank_77 : decode cMo_rank 77 = .ok (.iload_n 1, 1) := by decide +kernel
theorem dMo_rank_78 : decode cMo_rank 78 = .ok (.iaload, 1) := by decide +kernel
theorem dMo_rank_79 : decode cMo_rank 79 = .ok (.iload_n 3, 1) := by decide +kernel
theorem dMo_rank_80 : decode cMo_rank 80 = .ok (.idiv, 1) := by decide +kernel
theorem dMo_rank_81 : decode cMo_rank 81 = .ok (.i2l, 1) := by decide +kernel
theorem dMo_rank_82 : decode cMo_rank 82 = .ok (.lreturn, 1) := by decide +kernel
theorem dMo_language_0 : decode cMo_language 0 = .ok (.aload_n 0, 1) := by decide +kernel
theorem dMo_language_1 : decode cMo_language 1 = .ok (.iconst 0, 1) := by decide +kernel
theorem dMo_language_2 : decode cMo_language 2 = .ok (.putfield 58, 3) := by decide +kernel
theorem dMo_language_5 : decode cMo_language 5 = .ok (.iload_n 1, 1) := by decide +kernel
theorem dMo_language_6 : decode cMo_language 6 = .ok (.invokestatic 65, 3) := by decide +kernel
theorem dMo_language_9 : decode cMo_language 9 = .ok (.ifCond .eq 12, 3) := by decide +kernel
theorem dMo_language_12 : decode cMo_language 12 = .ok (.iload_n 2, 1) := by decide +kernel
theorem dMo_language_13 : decode cMo_language 13 = .ok (.ifCond .lt 8, 3) := by decide +kernel
theorem dMo_language_16 : decode cMo_language 16 = .ok (.iload_n 2, 1) := by decide +kernel
theorem dMo_language_17 : decode cMo_language 17 = .ok (.iconst 2, 1) := by decide +kernel
theorem dMo_language_18 : decode cMo_language 18 = .ok (.if_icmp .le 5, 3) := by decide +kernel
theorem dMo_language_21 : decode cMo_language 21 = .ok (.iconst (-1), 1) := by decide +kernel
theorem dMo_language_22 : decode cMo_language 22 = .ok (.ireturn, 1) := by decide +kernel
theorem dMo_language_23 : decode cMo_language 23 = .ok (.aload_n 0, 1) := by decide +kernel
theorem dMo_language_24 : decode cMo_language 24 = .ok (.getfield 21, 3) := by decide +kernel
theorem dMo_language_27 : decode cMo_language 27 = .ok (.iload_n 1, 1) := by decide +kernel
theorem dMo_language_28 : decode cMo_language 28 = .ok (.iaload, 1) := by decide +kernel
theorem dMo_language_29 : decode cMo_language 29 = .ok (.istore_n 3, 1) := by decide +kernel
theorem dMo_language_30 : decode cMo_language 30 = .ok (.aload_n 0, 1) := by decide +kernel
theorem dMo_language_31 : decode cMo_language 31 = .ok (.getfield 21, 3) := by decide +kernel
theorem dMo_language_34 : decode cMo_language 34 = .ok (.iload_n 1, 1) := by decide +kernel
theorem dMo_language_35 : decode cMo_language 35 = .ok (.iload_n 2, 1) := by decide +kernel
theorem dMo_language_36 : decode cMo_language 36 = .ok (.iastore, 1) := by decide +kernel
theorem dMo_language_37 : decode cMo_language 37 = .ok (.iload_n 3, 1) := by decide +kernel
theorem dMo_language_38 : decode cMo_language 38 = .ok (.ireturn, 1) := by decide +kernel
theorem mm_471 : (.fieldLink RMo 58 RMo "thrown" "I" : Cond) ∈ hwG := hwIx 555 (by decide +kernel) (by decide +kernel)
theorem mm_472 : (.code yMo_question cMo_question 8 (some .int) : Cond) ∈ hwG := hwIx 656 (by decide +kernel) (by decide +kernel)
theorem mm_473 : (.methodLink RMo 155 yMo_question : Cond) ∈ hwG := hwIx 653 (by decide +kernel) (by decide +kernel)
theorem mm_474 : (.instanceMethod yMo_question : Cond) ∈ hwG := hwIx 655 (by decide +kernel) (by decide +kernel)
theorem mm_475 : (.selects RMo yMo_question yMo_question : Cond) ∈ hwG := hwIx 14 (by decide +kernel) (by decide +kernel)
theorem mm_476 : (.constantLong RMo 159 (-1) : Cond) ∈ hwG := hwIx 746 (by decide +kernel) (by decide +kernel)
set_option maxHeartbeats 4000000 in
set_option maxRecDepth 100000 in
theorem q_record (l : Launch) (D : va_G) (K : Nat → ClassId) (X : hwW) (sz : Nat) (a : Nat) (its : hwIt) (sg : List (Nat × Nat)) (lg : Nat → Nat) (st : List (List Nat)) (sd : List Nat) (hs : List (Nat × Nat × Nat)) (f0_ : moAt K X a its sg lg st sd hs) (okm : okM its sg lg st sd hs) : Met l yMo_record (.code yMo_record cMo_record 1 (some .int) :: hwG) ({ frames := 0, cells := 0, slots := 0, locals := 0 } : Room) (hwPc D vwCl (hwT K) [.ref a] X sz) (hwQi D vwCl X sz (fun r Y => r = nI (if its.length < 30 then its.length + 1 else 0) ∧ hwF X Y (fun M => 1000 ≤ M ∧ M < 1100) ∧ moAt K Y a (recP its) sg lg st sd hs)) 0 0 (va_A X.1 sz) := by
  refine hwMeti (cc := cMo_record) (maxL := 1) (by decide) rfl (Nat.le_of_ble_eq_true rfl) (fun p e s m args below meth c ls A Q hx hb hml hown hts hname hret hK hO hZ hA hl => ?_)
  have hl : lv_has ls 1 [(0, .ref a)] := hl
  have hFr : hwF X X (fun M => 1000 ≤ M ∧ M < 1100) := hwF.rf
  obtain ⟨hni3, hsl, hsb, hlg, hsd, hh30, hB, htx⟩ := okm
  obtain ⟨r1, r2, r3, r4, r5, r6, r7, r8, r9, r10, r11, r12, r13, r14, r15, tz, na, nw, nt, ft, fg, fp, fl, fd, f1, f2, f3, qa, rw, rt, at_, tm, y, gx, g1, g2, g3, g4, g5, g6, g7, g8, g9, g10, g11, g12, g13, g14, g15, hft, hfg, hfp, hfl, hfd, hv1, hv2, hv3⟩ := f0_
  have hst40 := rwAt.len g5
  refine lv_aload_n hx hb dMo_record_0 rfl (lv_at hl 0 rfl) ?_
  refine lv_iconst (v := nI 0) hx hb dMo_record_1 (by decide) ?_
  refine hw_put (ty := .int) (fs' := [.int (nI 0), .int (nI its.length), .ref r1, .int (nI sg.length), .ref r2, .ref r3, .ref r4, .ref r5, .int (nI st.length), .ref r6, .int (nI sd.length), .ref r7, .int (nI na), .ref r8, .ref r9, .ref r10, .int (nI nw), .int (nI hs.length), .ref r11, .ref r12, .ref r13, .ref r14, .int (nI nt), .ref r15]) hx hb hts (hwInn inMo) tyMo tyMo_ok nmMo hown hK hZ gx rfl 0 (by decide) (hts (.fieldLink RMo 58 RMo "thrown" "I") (hwMem mm_471)) (fun _ h => h) rfl (by decide +kernel) rfl rfl (Nat.le_of_ble_eq_true rfl) rfl dMo_record_2 (fun X_1 H_2 lc_3 hZ hF hNw => ?_)
  have hFr := hwF.tr hFr hF (fun _ h => h) (fun M h => by first | exact False.elim h | ((try dsimp only at h ⊢); omega))
  have gx := hNw
  have g1 := hF _ _ _ (by intro hNS; first | exact False.elim hNS | ((try dsimp only at hNS); omega)) g1
  have g2 := hF _ _ _ (by intro hNS; first | exact False.elim hNS | ((try dsimp only at hNS); omega)) g2
  have g3 := hF _ _ _ (by intro hNS; first | exact False.elim hNS | ((try dsimp only at hNS); omega)) g3
  have g4 := hF _ _ _ (by intro hNS; first | exact False.elim hNS | ((try dsimp only at hNS); omega)) g4
  have g5 := rwAt.fr hF (by intro hNS; first | exact False.elim hNS | ((try dsimp only at hNS); omega)) g5
  have g6 := hF _ _ _ (by intro hNS; first | exact False.elim hNS | ((try dsimp only at hNS); omega)) g6
  have g7 := rwAt.fr hF (by intro hNS; first | exact False.elim hNS | ((try dsimp only at hNS); omega)) g7
  have g8 := rwAt.fr hF (by intro hNS; first | exact False.elim hNS | ((try dsimp only at hNS); omega)) g8
  have g9 := rwAt.fr hF (by intro hNS; first | exact False.elim hNS | ((try dsimp only at hNS); omega)) g9
  have g10 := rwAt.fr hF (by intro hNS; first | exact False.elim hNS | ((try dsimp only at hNS); omega)) g10
  have g11 := hF _ _ _ (by intro hNS; first | exact False.elim hNS | ((try dsimp only at hNS); omega)) g11
  have g12 := hF _ _ _ (by intro hNS; first | exact False.elim hNS | ((try dsimp only at hNS); omega)) g12
  have g13 := hF _ _ _ (by intro hNS; first | exact False.elim hNS | ((try dsimp only at hNS); omega)) g13
  have g14 := rwAt.fr hF (by intro hNS; first | exact False.elim hNS | ((try dsimp only at hNS); omega)) g14
  have g15 := hF _ _ _ (by intro hNS; first | exact False.elim hNS | ((try dsimp only at hNS); omega)) g15
  refine lv_aload_n hx hb dMo_record_5 rfl (lv_at hl 0 rfl) ?_
  refine hw_get hx hb hts (hwInn inMo) hown hK hZ gx rfl 1 (by decide) (hts (.fieldLink RMo 62 RMo "records" "I") (hwMem mm_418)) (fun _ h => h) rfl dMo_record_6 ?_
  refine lv_bipush (v := nI 30) hx hb dMo_record_9 (by decide) ?_
  refine hw_ic_ne (a := its.length) (b := 30) (tgt := 16) hx hb dMo_record_11 (by decide) (by omega) (by omega) (fun cq_4 => ?_) (fun cq_4 => ?_)
  · refine lv_aload_n hx hb dMo_record_16 rfl (lv_at hl 0 rfl) ?_
    refine lv_dup hx hb dMo_record_17 rfl ?_
    refine hw_get hx hb hts (hwInn inMo) hown hK hZ gx rfl 1 (by decide) (hts (.fieldLink RMo 62 RMo "records" "I") (hwMem mm_418)) (fun _ h => h) rfl dMo_record_18 ?_
    refine lv_iconst (v := nI 1) hx hb dMo_record_21 (by decide) ?_
    refine lv_iadd hx hb dMo_record_22 ?_
    refine hw_topi (nI_add its.length 1) ?_
    refine hw_put (ty := .int) (fs' := [.int (nI 0), .int (nI (its.length + 1)), .ref r1, .int (nI sg.length), .ref r2, .ref r3, .ref r4, .ref r5, .int (nI st.length), .ref r6, .int (nI sd.length), .ref r7, .int (nI na), .ref r8, .ref r9, .ref r10, .int (nI nw), .int (nI hs.length), .ref r11, .ref r12, .ref r13, .ref r14, .int (nI nt), .ref r15]) hx hb hts (hwInn inMo) tyMo tyMo_ok nmMo hown hK hZ gx rfl 1 (by decide) (hts (.fieldLink RMo 62 RMo "records" "I") (hwMem mm_418)) (fun _ h => h) rfl (by decide +kernel) rfl rfl (Nat.le_of_ble_eq_true rfl) rfl dMo_record_23 (fun X_5 H_6 lc_7 hZ hF hNw => ?_)
    have hFr := hwF.tr hFr hF (fun _ h => h) (fun M h => by first | exact False.elim h | ((try dsimp only at h ⊢); omega))
    have gx := hNw
    have g1 := hF _ _ _ (by intro hNS; first | exact False.elim hNS | ((try dsimp only at hNS); omega)) g1
    have g2 := hF _ _ _ (by intro hNS; first | exact False.elim hNS | ((try dsimp only at hNS); omega)) g2
    have g3 := hF _ _ _ (by intro hNS; first | exact False.elim hNS | ((try dsimp only at hNS); omega)) g3
    have g4 := hF _ _ _ (by intro hNS; first | exact False.elim hNS | ((try dsimp only at hNS); omega)) g4
    have g5 := rwAt.fr hF (by intro hNS; first | exact False.elim hNS | ((try dsimp only at hNS); omega)) g5
    have g6 := hF _ _ _ (by intro hNS; first | exact False.elim hNS | ((try dsimp only at hNS); omega)) g6
    have g7 := rwAt.fr hF (by intro hNS; first | exact False.elim hNS | ((try dsimp only at hNS); omega)) g7
    have g8 := rwAt.fr hF (by intro hNS; first | exact False.elim hNS | ((try dsimp only at hNS); omega)) g8
    have g9 := rwAt.fr hF (by intro hNS; first | exact False.elim hNS | ((try dsimp only at hNS); omega)) g9
    have g10 := rwAt.fr hF (by intro hNS; first | exact False.elim hNS | ((try dsimp only at hNS); omega)) g10
    have g11 := hF _ _ _ (by intro hNS; first | exact False.elim hNS | ((try dsimp only at hNS); omega)) g11
    have g12 := hF _ _ _ (by intro hNS; first | exact False.elim hNS | ((try dsimp only at hNS); omega)) g12
    have g13 := hF _ _ _ (by intro hNS; first | exact False.elim hNS | ((try dsimp only at hNS); omega)) g13
    have g14 := rwAt.fr hF (by intro hNS; first | exact False.elim hNS | ((try dsimp only at hNS); omega)) g14
    have g15 := hF _ _ _ (by intro hNS; first | exact False.elim hNS | ((try dsimp only at hNS); omega)) g15
    refine lv_aload_n hx hb dMo_record_26 rfl (lv_at hl 0 rfl) ?_
    refine hw_get hx hb hts (hwInn inMo) hown hK hZ gx rfl 2 (by decide) (hts (.fieldLink RMo 7 RMo "there" "[Z") (hwMem mm_419)) (fun _ h => h) rfl dMo_record_27 ?_
    refine lv_aload_n hx hb dMo_record_30 rfl (lv_at hl 0 rfl) ?_
    refine hw_get hx hb hts (hwInn inMo) hown hK hZ gx rfl 1 (by decide) (hts (.fieldLink RMo 62 RMo "records" "I") (hwMem mm_418)) (fun _ h => h) rfl dMo_record_31 ?_
    refine lv_iconst (v := nI 1) hx hb dMo_record_34 (by decide) ?_
    refine hw_zast hx hb hK hZ 2 g1 rfl (j := its.length + 1) (by omega) (by omega) dMo_record_35 (fun X_8 H_9 lc_10 hZ hF hNw => ?_)
    have hFr := hwF.tr hFr hF (fun _ h => h) (fun M h => by first | exact False.elim h | ((try dsimp only at h ⊢); omega))
    have gx := hF _ _ _ (by intro hNS; first | exact False.elim hNS | ((try dsimp only at hNS); omega)) gx
    have g1 := hNw
    have g2 := hF _ _ _ (by intro hNS; first | exact False.elim hNS | ((try dsimp only at hNS); omega)) g2
    have g3 := hF _ _ _ (by intro hNS; first | exact False.elim hNS | ((try dsimp only at hNS); omega)) g3
    have g4 := hF _ _ _ (by intro hNS; first | exact False.elim hNS | ((try dsimp only at hNS); omega)) g4
    have g5 := rwAt.fr hF (by intro hNS; first | exact False.elim hNS | ((try dsimp only at hNS); omega)) g5
    have g6 := hF _ _ _ (by intro hNS; first | exact False.elim hNS | ((try dsimp only at hNS); omega)) g6
    have g7 := rwAt.fr hF (by intro hNS; first | exact False.elim hNS | ((try dsimp only at hNS); omega)) g7
    have g8 := rwAt.fr hF (by intro hNS; first | exact False.elim hNS | ((try dsimp only at hNS); omega)) g8
    have g9 := rwAt.fr hF (by intro hNS; first | exact False.elim hNS | ((try dsimp only at hNS); omega)) g9
    have g10 := rwAt.fr hF (by intro hNS; first | exact False.elim hNS | ((try dsimp only at hNS); omega)) g10
    have g11 := hF _ _ _ (by intro hNS; first | exact False.elim hNS | ((try dsimp only at hNS); omega)) g11
    have g12 := hF _ _ _ (by intro hNS; first | exact False.elim hNS | ((try dsimp only at hNS); omega)) g12
    have g13 := hF _ _ _ (by intro hNS; first | exact False.elim hNS | ((try dsimp only at hNS); omega)) g13
    have g14 := rwAt.fr hF (by intro hNS; first | exact False.elim hNS | ((try dsimp only at hNS); omega)) g14
    have g15 := hF _ _ _ (by intro hNS; first | exact False.elim hNS | ((try dsimp only at hNS); omega)) g15
    refine lv_aload_n hx hb dMo_record_36 rfl (lv_at hl 0 rfl) ?_
    refine hw_get hx hb hts (hwInn inMo) hown hK hZ gx rfl 1 (by decide) (hts (.fieldLink RMo 62 RMo "records" "I") (hwMem mm_418)) (fun _ h => h) rfl dMo_record_37 ?_
    exact hret hZ (by unfold recP; rw [if_pos (by omega), if_pos (by omega)]; exact ⟨rfl, hFr, ⟨_, _, _, _, _, _, _, _, _, _, _, _, _, _, _, _, _, _, _, _, _, _, _, _, _, _, _, _, _, _, _, _, _, (by rw [List.length_append]; exact gx), g1, g2, g3, g4, g5, g6, g7, g8, g9, g10, g11, g12, g13, g14, g15, (ft_push hft rfl), hfg, hfp, hfl, hfd, hv1, hv2, hv3⟩⟩) dMo_record_40
  · refine lv_iconst (v := nI 0) hx hb dMo_record_14 (by decide) ?_
    exact hret hZ (by unfold recP; rw [if_neg (by omega), if_neg (by omega)]; exact ⟨rfl, hFr, ⟨_, _, _, _, _, _, _, _, _, _, _, _, _, _, _, _, _, _, _, _, _, _, _, _, _, _, _, _, _, _, _, _, _, gx, g1, g2, g3, g4, g5, g6, g7, g8, g9, g10, g11, g12, g13, g14, g15, hft, hfg, hfp, hfl, hfd, hv1, hv2, hv3⟩⟩) dMo_record_15
set_option maxHeartbeats 4000000 in
set_option maxRecDepth 100000 in
theorem q_field (l : Launch) (D : va_G) (K : Nat → ClassId) (X : hwW) (sz : Nat) (a : Nat) (its : hwIt) (sg : List (Nat × Nat)) (lg : Nat → Nat) (st : List (List Nat)) (sd : List Nat) (hs : List (Nat × Nat × Nat)) (rr : Int32) (kk : Int32) (cc0 : Int32) (f0_ : moAt K X a its sg lg st sd hs) (okm : okM its sg lg st sd hs) : Met l yMo_field (.code yMo_field cMo_field 4 none :: hwG) ({ frames := 1, cells := 0, slots := 0, locals := 20 } : Room) (hwPc D vwCl (hwT K) [.ref a, .int rr, .int kk, .int cc0] X sz) (hwQv D vwCl X sz (fun Y => hwF X Y (fun M => 1000 ≤ M ∧ M < 1100) ∧ moAt K Y a (fldP its sg.length rr kk cc0).1 (sgP its sg rr kk cc0) lg st sd hs)) 0 0 (va_A X.1 sz) := by
  refine hwMetv (cc := cMo_field) (maxL := 4) (by decide) rfl (Nat.le_of_ble_eq_true rfl) (fun p e s m args below meth c ls A Q hx hb hml hown hts hname hret hK hO hZ hA hl => ?_)
  have hl : lv_has ls 4 [(0, .ref a), (1, .int rr), (2, .int kk), (3, .int cc0)] := hl
  have hFr : hwF X X (fun M => 1000 ≤ M ∧ M < 1100) := hwF.rf
  obtain ⟨hni3, hsl, hsb, hlg, hsd, hh30, hB, htx⟩ := okm
  obtain ⟨r1, r2, r3, r4, r5, r6, r7, r8, r9, r10, r11, r12, r13, r14, r15, tz, na, nw, nt, ft, fg, fp, fl, fd, f1, f2, f3, qa, rw, rt, at_, tm, y, gx, g1, g2, g3, g4, g5, g6, g7, g8, g9, g10, g11, g12, g13, g14, g15, hft, hfg, hfp, hfl, hfd, hv1, hv2, hv3⟩ := f0_
  have hst40 := rwAt.len g5
  rcases rN_cases its.length (by omega) rr with hx9 | ⟨n, hn1, hn2, rfl⟩
  · have hx0 := hx9
    rcases hx9 with hx9 | hx9
    · refine lv_aload_n hx hb dMo_field_0 rfl (lv_at hl 0 rfl) ?_
      refine lv_iconst (v := nI 0) hx hb dMo_field_1 (by decide) ?_
      refine hw_put (ty := .int) (fs' := [.int (nI 0), .int (nI its.length), .ref r1, .int (nI sg.length), .ref r2, .ref r3, .ref r4, .ref r5, .int (nI st.length), .ref r6, .int (nI sd.length), .ref r7, .int (nI na), .ref r8, .ref r9, .ref r10, .int (nI nw), .int (nI hs.length), .ref r11, .ref r12, .ref r13, .ref r14, .int (nI nt), .ref r15]) hx hb hts (hwInn inMo) tyMo tyMo_ok nmMo hown hK hZ gx rfl 0 (by decide) (hts (.fieldLink RMo 58 RMo "thrown" "I") (hwMem mm_471)) (fun _ h => h) rfl (by decide +kernel) rfl rfl (Nat.le_of_ble_eq_true rfl) rfl dMo_field_2 (fun X_1 H_2 lc_3 hZ hF hNw => ?_)
      have hFr := hwF.tr hFr hF (fun _ h => h) (fun M h => by first | exact False.elim h | ((try dsimp only at h ⊢); omega))
      have gx := hNw
      have g1 := hF _ _ _ (by intro hNS; first | exact False.elim hNS | ((try dsimp only at hNS); omega)) g1
      have g2 := hF _ _ _ (by intro hNS; first | exact False.elim hNS | ((try dsimp only at hNS); omega)) g2
      have g3 := hF _ _ _ (by intro hNS; first | exact False.elim hNS | ((try dsimp only at hNS); omega)) g3
      have g4 := hF _ _ _ (by intro hNS; first | exact False.elim hNS | ((try dsimp only at hNS); omega)) g4
      have g5 := rwAt.fr hF (by intro hNS; first | exact False.elim hNS | ((try dsimp only at hNS); omega)) g5
      have g6 := hF _ _ _ (by intro hNS; first | exact False.elim hNS | ((try dsimp only at hNS); omega)) g6
      have g7 := rwAt.fr hF (by intro hNS; first | exact False.elim hNS | ((try dsimp only at hNS); omega)) g7
      have g8 := rwAt.fr hF (by intro hNS; first | exact False.elim hNS | ((try dsimp only at hNS); omega)) g8
      have g9 := rwAt.fr hF (by intro hNS; first | exact False.elim hNS | ((try dsimp only at hNS); omega)) g9
      have g10 := rwAt.fr hF (by intro hNS; first | exact False.elim hNS | ((try dsimp only at hNS); omega)) g10
      have g11 := hF _ _ _ (by intro hNS; first | exact False.elim hNS | ((try dsimp only at hNS); omega)) g11
      have g12 := hF _ _ _ (by intro hNS; first | exact False.elim hNS | ((try dsimp only at hNS); omega)) g12
      have g13 := hF _ _ _ (by intro hNS; first | exact False.elim hNS | ((try dsimp only at hNS); omega)) g13
      have g14 := rwAt.fr hF (by intro hNS; first | exact False.elim hNS | ((try dsimp only at hNS); omega)) g14
      have g15 := hF _ _ _ (by intro hNS; first | exact False.elim hNS | ((try dsimp only at hNS); omega)) g15
      refine lv_iload_n hx hb dMo_field_5 rfl (lv_at hl 1 rfl) ?_
      refine lv_if_le (tgt := 78) hx hb dMo_field_6 (by decide) (fun cq_4 => ?_) (fun cq_4 => absurd (hw_le0 hx9) cq_4)
      exact hret hZ (by rw [fldP_r (rN_bad (by omega) hx0), sgP_r (rN_bad (by omega) hx0)]; exact ⟨hFr, ⟨_, _, _, _, _, _, _, _, _, _, _, _, _, _, _, _, _, _, _, _, _, _, _, _, _, _, _, _, _, _, _, _, _, gx, g1, g2, g3, g4, g5, g6, g7, g8, g9, g10, g11, g12, g13, g14, g15, hft, hfg, hfp, hfl, hfd, hv1, hv2, hv3⟩⟩) dMo_field_78
    · refine lv_aload_n hx hb dMo_field_0 rfl (lv_at hl 0 rfl) ?_
      refine lv_iconst (v := nI 0) hx hb dMo_field_1 (by decide) ?_
      refine hw_put (ty := .int) (fs' := [.int (nI 0), .int (nI its.length), .ref r1, .int (nI sg.length), .ref r2, .ref r3, .ref r4, .ref r5, .int (nI st.length), .ref r6, .int (nI sd.length), .ref r7, .int (nI na), .ref r8, .ref r9, .ref r10, .int (nI nw), .int (nI hs.length), .ref r11, .ref r12, .ref r13, .ref r14, .int (nI nt), .ref r15]) hx hb hts (hwInn inMo) tyMo tyMo_ok nmMo hown hK hZ gx rfl 0 (by decide) (hts (.fieldLink RMo 58 RMo "thrown" "I") (hwMem mm_471)) (fun _ h => h) rfl (by decide +kernel) rfl rfl (Nat.le_of_ble_eq_true rfl) rfl dMo_field_2 (fun X_5 H_6 lc_7 hZ hF hNw => ?_)
      have hFr := hwF.tr hFr hF (fun _ h => h) (fun M h => by first | exact False.elim h | ((try dsimp only at h ⊢); omega))
      have gx := hNw
      have g1 := hF _ _ _ (by intro hNS; first | exact False.elim hNS | ((try dsimp only at hNS); omega)) g1
      have g2 := hF _ _ _ (by intro hNS; first | exact False.elim hNS | ((try dsimp only at hNS); omega)) g2
      have g3 := hF _ _ _ (by intro hNS; first | exact False.elim hNS | ((try dsimp only at hNS); omega)) g3
      have g4 := hF _ _ _ (by intro hNS; first | exact False.elim hNS | ((try dsimp only at hNS); omega)) g4
      have g5 := rwAt.fr hF (by intro hNS; first | exact False.elim hNS | ((try dsimp only at hNS); omega)) g5
      have g6 := hF _ _ _ (by intro hNS; first | exact False.elim hNS | ((try dsimp only at hNS); omega)) g6
      have g7 := rwAt.fr hF (by intro hNS; first | exact False.elim hNS | ((try dsimp only at hNS); omega)) g7
      have g8 := rwAt.fr hF (by intro hNS; first | exact False.elim hNS | ((try dsimp only at hNS); omega)) g8
      have g9 := rwAt.fr hF (by intro hNS; first | exact False.elim hNS | ((try dsimp only at hNS); omega)) g9
      have g10 := rwAt.fr hF (by intro hNS; first | exact False.elim hNS | ((try dsimp only at hNS); omega)) g10
      have g11 := hF _ _ _ (by intro hNS; first | exact False.elim hNS | ((try dsimp only at hNS); omega)) g11
      have g12 := hF _ _ _ (by intro hNS; first | exact False.elim hNS | ((try dsimp only at hNS); omega)) g12
      have g13 := hF _ _ _ (by intro hNS; first | exact False.elim hNS | ((try dsimp only at hNS); omega)) g13
      have g14 := rwAt.fr hF (by intro hNS; first | exact False.elim hNS | ((try dsimp only at hNS); omega)) g14
      have g15 := hF _ _ _ (by intro hNS; first | exact False.elim hNS | ((try dsimp only at hNS); omega)) g15
      refine lv_iload_n hx hb dMo_field_5 rfl (lv_at hl 1 rfl) ?_
      refine lv_if_le (tgt := 78) hx hb dMo_field_6 (by decide) (fun cq_8 => absurd cq_8 (fun h => hw_n1 (n := its.length) (by omega) hx9 (hw_lt1 h))) (fun cq_8 => ?_)
      refine lv_iload_n hx hb dMo_field_9 rfl (lv_at hl 1 rfl) ?_
      refine lv_aload_n hx hb dMo_field_10 rfl (lv_at hl 0 rfl) ?_
      refine hw_get hx hb hts (hwInn inMo) hown hK hZ gx rfl 1 (by decide) (hts (.fieldLink RMo 62 RMo "records" "I") (hwMem mm_418)) (fun _ h => h) rfl dMo_field_11 ?_
      refine lv_icmp_gt (tgt := 78) hx hb dMo_field_14 (by decide) (fun cq_9 => ?_) (fun cq_9 => absurd hx9 cq_9)
      exact hret hZ (by rw [fldP_r (rN_bad (by omega) hx0), sgP_r (rN_bad (by omega) hx0)]; exact ⟨hFr, ⟨_, _, _, _, _, _, _, _, _, _, _, _, _, _, _, _, _, _, _, _, _, _, _, _, _, _, _, _, _, _, _, _, _, gx, g1, g2, g3, g4, g5, g6, g7, g8, g9, g10, g11, g12, g13, g14, g15, hft, hfg, hfp, hfl, hfd, hv1, hv2, hv3⟩⟩) dMo_field_78
  · have hft9 := hft (n - 1) (by omega)
    rw [show n - 1 + 1 = n by omega] at hft9
    cases hth : (its.getD (n - 1) hwIt0).1
    · rw [hth] at hft9
      refine lv_aload_n hx hb dMo_field_0 rfl (lv_at hl 0 rfl) ?_
      refine lv_iconst (v := nI 0) hx hb dMo_field_1 (by decide) ?_
      refine hw_put (ty := .int) (fs' := [.int (nI 0), .int (nI its.length), .ref r1, .int (nI sg.length), .ref r2, .ref r3, .ref r4, .ref r5, .int (nI st.length), .ref r6, .int (nI sd.length), .ref r7, .int (nI na), .ref r8, .ref r9, .ref r10, .int (nI nw), .int (nI hs.length), .ref r11, .ref r12, .ref r13, .ref r14, .int (nI nt), .ref r15]) hx hb hts (hwInn inMo) tyMo tyMo_ok nmMo hown hK hZ gx rfl 0 (by decide) (hts (.fieldLink RMo 58 RMo "thrown" "I") (hwMem mm_471)) (fun _ h => h) rfl (by decide +kernel) rfl rfl (Nat.le_of_ble_eq_true rfl) rfl dMo_field_2 (fun X_10 H_11 lc_12 hZ hF hNw => ?_)
      have hFr := hwF.tr hFr hF (fun _ h => h) (fun M h => by first | exact False.elim h | ((try dsimp only at h ⊢); omega))
      have gx := hNw
      have g1 := hF _ _ _ (by intro hNS; first | exact False.elim hNS | ((try dsimp only at hNS); omega)) g1
      have g2 := hF _ _ _ (by intro hNS; first | exact False.elim hNS | ((try dsimp only at hNS); omega)) g2
      have g3 := hF _ _ _ (by intro hNS; first | exact False.elim hNS | ((try dsimp only at hNS); omega)) g3
      have g4 := hF _ _ _ (by intro hNS; first | exact False.elim hNS | ((try dsimp only at hNS); omega)) g4
      have g5 := rwAt.fr hF (by intro hNS; first | exact False.elim hNS | ((try dsimp only at hNS); omega)) g5
      have g6 := hF _ _ _ (by intro hNS; first | exact False.elim hNS | ((try dsimp only at hNS); omega)) g6
      have g7 := rwAt.fr hF (by intro hNS; first | exact False.elim hNS | ((try dsimp only at hNS); omega)) g7
      have g8 := rwAt.fr hF (by intro hNS; first | exact False.elim hNS | ((try dsimp only at hNS); omega)) g8
      have g9 := rwAt.fr hF (by intro hNS; first | exact False.elim hNS | ((try dsimp only at hNS); omega)) g9
      have g10 := rwAt.fr hF (by intro hNS; first | exact False.elim hNS | ((try dsimp only at hNS); omega)) g10
      have g11 := hF _ _ _ (by intro hNS; first | exact False.elim hNS | ((try dsimp only at hNS); omega)) g11
      have g12 := hF _ _ _ (by intro hNS; first | exact False.elim hNS | ((try dsimp only at hNS); omega)) g12
      have g13 := hF _ _ _ (by intro hNS; first | exact False.elim hNS | ((try dsimp only at hNS); omega)) g13
      have g14 := rwAt.fr hF (by intro hNS; first | exact False.elim hNS | ((try dsimp only at hNS); omega)) g14
      have g15 := hF _ _ _ (by intro hNS; first | exact False.elim hNS | ((try dsimp only at hNS); omega)) g15
      refine lv_iload_n hx hb dMo_field_5 rfl (lv_at hl 1 rfl) ?_
      refine hw_if_le (a := n) (tgt := 78) hx hb dMo_field_6 (by decide) (by omega) (fun cq_13 => by exfalso; omega) (fun cq_13 => ?_)
      refine lv_iload_n hx hb dMo_field_9 rfl (lv_at hl 1 rfl) ?_
      refine lv_aload_n hx hb dMo_field_10 rfl (lv_at hl 0 rfl) ?_
      refine hw_get hx hb hts (hwInn inMo) hown hK hZ gx rfl 1 (by decide) (hts (.fieldLink RMo 62 RMo "records" "I") (hwMem mm_418)) (fun _ h => h) rfl dMo_field_11 ?_
      refine hw_ic_gt (a := n) (b := its.length) (tgt := 78) hx hb dMo_field_14 (by decide) (by omega) (by omega) (fun cq_14 => by exfalso; omega) (fun cq_14 => ?_)
      refine lv_aload_n hx hb dMo_field_17 rfl (lv_at hl 0 rfl) ?_
      refine hw_get hx hb hts (hwInn inMo) hown hK hZ gx rfl 2 (by decide) (hts (.fieldLink RMo 7 RMo "there" "[Z") (hwMem mm_419)) (fun _ h => h) rfl dMo_field_18 ?_
      refine lv_iload_n hx hb dMo_field_21 rfl (lv_at hl 1 rfl) ?_
      refine hw_zald hx hb hK hZ 2 g1 rfl (j := n) (by omega) (by omega) dMo_field_22 ?_
      refine hw_topi hft9 ?_
      refine hw_bz_eqT (tgt := 78) hx hb dMo_field_23 (by decide) rfl ?_
      exact hret hZ (by rw [fldP_g (rN_nI hn1 hn2 (by omega)) hth, sgP_g (rN_nI hn1 hn2 (by omega)) hth]; exact ⟨hFr, ⟨_, _, _, _, _, _, _, _, _, _, _, _, _, _, _, _, _, _, _, _, _, _, _, _, _, _, _, _, _, _, _, _, _, gx, g1, g2, g3, g4, g5, g6, g7, g8, g9, g10, g11, g12, g13, g14, g15, hft, hfg, hfp, hfl, hfd, hv1, hv2, hv3⟩⟩) dMo_field_78
    · rw [hth] at hft9
      rcases kN_cases kk with hk | ⟨j, hj, rfl⟩
      · refine lv_aload_n hx hb dMo_field_0 rfl (lv_at hl 0 rfl) ?_
        refine lv_iconst (v := nI 0) hx hb dMo_field_1 (by decide) ?_
        refine hw_put (ty := .int) (fs' := [.int (nI 0), .int (nI its.length), .ref r1, .int (nI sg.length), .ref r2, .ref r3, .ref r4, .ref r5, .int (nI st.length), .ref r6, .int (nI sd.length), .ref r7, .int (nI na), .ref r8, .ref r9, .ref r10, .int (nI nw), .int (nI hs.length), .ref r11, .ref r12, .ref r13, .ref r14, .int (nI nt), .ref r15]) hx hb hts (hwInn inMo) tyMo tyMo_ok nmMo hown hK hZ gx rfl 0 (by decide) (hts (.fieldLink RMo 58 RMo "thrown" "I") (hwMem mm_471)) (fun _ h => h) rfl (by decide +kernel) rfl rfl (Nat.le_of_ble_eq_true rfl) rfl dMo_field_2 (fun X_16 H_17 lc_18 hZ hF hNw => ?_)
        have hFr := hwF.tr hFr hF (fun _ h => h) (fun M h => by first | exact False.elim h | ((try dsimp only at h ⊢); omega))
        have gx := hNw
        have g1 := hF _ _ _ (by intro hNS; first | exact False.elim hNS | ((try dsimp only at hNS); omega)) g1
        have g2 := hF _ _ _ (by intro hNS; first | exact False.elim hNS | ((try dsimp only at hNS); omega)) g2
        have g3 := hF _ _ _ (by intro hNS; first | exact False.elim hNS | ((try dsimp only at hNS); omega)) g3
        have g4 := hF _ _ _ (by intro hNS; first | exact False.elim hNS | ((try dsimp only at hNS); omega)) g4
        have g5 := rwAt.fr hF (by intro hNS; first | exact False.elim hNS | ((try dsimp only at hNS); omega)) g5
        have g6 := hF _ _ _ (by intro hNS; first | exact False.elim hNS | ((try dsimp only at hNS); omega)) g6
        have g7 := rwAt.fr hF (by intro hNS; first | exact False.elim hNS | ((try dsimp only at hNS); omega)) g7
        have g8 := rwAt.fr hF (by intro hNS; first | exact False.elim hNS | ((try dsimp only at hNS); omega)) g8
        have g9 := rwAt.fr hF (by intro hNS; first | exact False.elim hNS | ((try dsimp only at hNS); omega)) g9
        have g10 := rwAt.fr hF (by intro hNS; first | exact False.elim hNS | ((try dsimp only at hNS); omega)) g10
        have g11 := hF _ _ _ (by intro hNS; first | exact False.elim hNS | ((try dsimp only at hNS); omega)) g11
        have g12 := hF _ _ _ (by intro hNS; first | exact False.elim hNS | ((try dsimp only at hNS); omega)) g12
        have g13 := hF _ _ _ (by intro hNS; first | exact False.elim hNS | ((try dsimp only at hNS); omega)) g13
        have g14 := rwAt.fr hF (by intro hNS; first | exact False.elim hNS | ((try dsimp only at hNS); omega)) g14
        have g15 := hF _ _ _ (by intro hNS; first | exact False.elim hNS | ((try dsimp only at hNS); omega)) g15
        refine lv_iload_n hx hb dMo_field_5 rfl (lv_at hl 1 rfl) ?_
        refine hw_if_le (a := n) (tgt := 78) hx hb dMo_field_6 (by decide) (by omega) (fun cq_19 => by exfalso; omega) (fun cq_19 => ?_)
        refine lv_iload_n hx hb dMo_field_9 rfl (lv_at hl 1 rfl) ?_
        refine lv_aload_n hx hb dMo_field_10 rfl (lv_at hl 0 rfl) ?_
        refine hw_get hx hb hts (hwInn inMo) hown hK hZ gx rfl 1 (by decide) (hts (.fieldLink RMo 62 RMo "records" "I") (hwMem mm_418)) (fun _ h => h) rfl dMo_field_11 ?_
        refine hw_ic_gt (a := n) (b := its.length) (tgt := 78) hx hb dMo_field_14 (by decide) (by omega) (by omega) (fun cq_20 => by exfalso; omega) (fun cq_20 => ?_)
        refine lv_aload_n hx hb dMo_field_17 rfl (lv_at hl 0 rfl) ?_
        refine hw_get hx hb hts (hwInn inMo) hown hK hZ gx rfl 2 (by decide) (hts (.fieldLink RMo 7 RMo "there" "[Z") (hwMem mm_419)) (fun _ h => h) rfl dMo_field_18 ?_
        refine lv_iload_n hx hb dMo_field_21 rfl (lv_at hl 1 rfl) ?_
        refine hw_zald hx hb hK hZ 2 g1 rfl (j := n) (by omega) (by omega) dMo_field_22 ?_
        refine hw_topi hft9 ?_
        refine hw_bz_eqF (tgt := 78) hx hb dMo_field_23 (by decide) rfl ?_
        refine lv_iload_n hx hb dMo_field_26 rfl (lv_at hl 2 rfl) ?_
        refine hw_calli (va_runS (As := [.int kk]) (rest := []) ⟨hx, hb, hml, hown, hts⟩ (m_isFieldB l D K X_16 H_17.size (kind := kk) (by assumption)) (va_cwS 1 hts (hwGood (hw_3 mm_442 mm_441 mm_365 (hwAll mm_440))) rfl rfl rfl (by decide +kernel) ⟨Nat.le_of_ble_eq_true rfl, Nat.le_of_ble_eq_true rfl⟩) (hw_preS hK hO hZ) rfl rfl hl.1 rfl (lv_room (Nat.le_of_ble_eq_true rfl)) dMo_field_27 ⟨(show 0 + 0 ≤ 0 by omega), (show 0 + 0 ≤ 0 by omega)⟩) hZ hA (fun r X_22 H_23 lc_24 hp hZ => ?_)
        obtain ⟨hr, hy⟩ := hp
        subst hy
        refine hw_topi hr ?_
        refine hw_bz_eqT (tgt := 78) hx hb dMo_field_30 (by decide) rfl ?_
        exact hret hZ (by rw [fldP_k (kN_bad hk), sgP_k (kN_bad hk)]; exact ⟨hFr, ⟨_, _, _, _, _, _, _, _, _, _, _, _, _, _, _, _, _, _, _, _, _, _, _, _, _, _, _, _, _, _, _, _, _, gx, g1, g2, g3, g4, g5, g6, g7, g8, g9, g10, g11, g12, g13, g14, g15, hft, hfg, hfp, hfl, hfd, hv1, hv2, hv3⟩⟩) dMo_field_78
      · refine lv_aload_n hx hb dMo_field_0 rfl (lv_at hl 0 rfl) ?_
        refine lv_iconst (v := nI 0) hx hb dMo_field_1 (by decide) ?_
        refine hw_put (ty := .int) (fs' := [.int (nI 0), .int (nI its.length), .ref r1, .int (nI sg.length), .ref r2, .ref r3, .ref r4, .ref r5, .int (nI st.length), .ref r6, .int (nI sd.length), .ref r7, .int (nI na), .ref r8, .ref r9, .ref r10, .int (nI nw), .int (nI hs.length), .ref r11, .ref r12, .ref r13, .ref r14, .int (nI nt), .ref r15]) hx hb hts (hwInn inMo) tyMo tyMo_ok nmMo hown hK hZ gx rfl 0 (by decide) (hts (.fieldLink RMo 58 RMo "thrown" "I") (hwMem mm_471)) (fun _ h => h) rfl (by decide +kernel) rfl rfl (Nat.le_of_ble_eq_true rfl) rfl dMo_field_2 (fun X_26 H_27 lc_28 hZ hF hNw => ?_)
        have hFr := hwF.tr hFr hF (fun _ h => h) (fun M h => by first | exact False.elim h | ((try dsimp only at h ⊢); omega))
        have gx := hNw
        have g1 := hF _ _ _ (by intro hNS; first | exact False.elim hNS | ((try dsimp only at hNS); omega)) g1
        have g2 := hF _ _ _ (by intro hNS; first | exact False.elim hNS | ((try dsimp only at hNS); omega)) g2
        have g3 := hF _ _ _ (by intro hNS; first | exact False.elim hNS | ((try dsimp only at hNS); omega)) g3
        have g4 := hF _ _ _ (by intro hNS; first | exact False.elim hNS | ((try dsimp only at hNS); omega)) g4
        have g5 := rwAt.fr hF (by intro hNS; first | exact False.elim hNS | ((try dsimp only at hNS); omega)) g5
        have g6 := hF _ _ _ (by intro hNS; first | exact False.elim hNS | ((try dsimp only at hNS); omega)) g6
        have g7 := rwAt.fr hF (by intro hNS; first | exact False.elim hNS | ((try dsimp only at hNS); omega)) g7
        have g8 := rwAt.fr hF (by intro hNS; first | exact False.elim hNS | ((try dsimp only at hNS); omega)) g8
        have g9 := rwAt.fr hF (by intro hNS; first | exact False.elim hNS | ((try dsimp only at hNS); omega)) g9
        have g10 := rwAt.fr hF (by intro hNS; first | exact False.elim hNS | ((try dsimp only at hNS); omega)) g10
        have g11 := hF _ _ _ (by intro hNS; first | exact False.elim hNS | ((try dsimp only at hNS); omega)) g11
        have g12 := hF _ _ _ (by intro hNS; first | exact False.elim hNS | ((try dsimp only at hNS); omega)) g12
        have g13 := hF _ _ _ (by intro hNS; first | exact False.elim hNS | ((try dsimp only at hNS); omega)) g13
        have g14 := rwAt.fr hF (by intro hNS; first | exact False.elim hNS | ((try dsimp only at hNS); omega)) g14
        have g15 := hF _ _ _ (by intro hNS; first | exact False.elim hNS | ((try dsimp only at hNS); omega)) g15
        refine lv_iload_n hx hb dMo_field_5 rfl (lv_at hl 1 rfl) ?_
        refine hw_if_le (a := n) (tgt := 78) hx hb dMo_field_6 (by decide) (by omega) (fun cq_29 => by exfalso; omega) (fun cq_29 => ?_)
        refine lv_iload_n hx hb dMo_field_9 rfl (lv_at hl 1 rfl) ?_
        refine lv_aload_n hx hb dMo_field_10 rfl (lv_at hl 0 rfl) ?_
        refine hw_get hx hb hts (hwInn inMo) hown hK hZ gx rfl 1 (by decide) (hts (.fieldLink RMo 62 RMo "records" "I") (hwMem mm_418)) (fun _ h => h) rfl dMo_field_11 ?_
        refine hw_ic_gt (a := n) (b := its.length) (tgt := 78) hx hb dMo_field_14 (by decide) (by omega) (by omega) (fun cq_30 => by exfalso; omega) (fun cq_30 => ?_)
        refine lv_aload_n hx hb dMo_field_17 rfl (lv_at hl 0 rfl) ?_
        refine hw_get hx hb hts (hwInn inMo) hown hK hZ gx rfl 2 (by decide) (hts (.fieldLink RMo 7 RMo "there" "[Z") (hwMem mm_419)) (fun _ h => h) rfl dMo_field_18 ?_
        refine lv_iload_n hx hb dMo_field_21 rfl (lv_at hl 1 rfl) ?_
        refine hw_zald hx hb hK hZ 2 g1 rfl (j := n) (by omega) (by omega) dMo_field_22 ?_
        refine hw_topi hft9 ?_
        refine hw_bz_eqF (tgt := 78) hx hb dMo_field_23 (by decide) rfl ?_
        refine lv_iload_n hx hb dMo_field_26 rfl (lv_at hl 2 rfl) ?_
        refine hw_calli (va_runS (As := [.int (nI j)]) (rest := []) ⟨hx, hb, hml, hown, hts⟩ (m_isField l D K X_26 H_27.size (j := j) (by omega)) (va_cwS 1 hts (hwGood (hw_3 mm_442 mm_441 mm_365 (hwAll mm_440))) rfl rfl rfl (by decide +kernel) ⟨Nat.le_of_ble_eq_true rfl, Nat.le_of_ble_eq_true rfl⟩) (hw_preS hK hO hZ) rfl rfl hl.1 rfl (lv_room (Nat.le_of_ble_eq_true rfl)) dMo_field_27 ⟨(show 0 + 0 ≤ 0 by omega), (show 0 + 0 ≤ 0 by omega)⟩) hZ hA (fun r X_32 H_33 lc_34 hp hZ => ?_)
        obtain ⟨hr, hy⟩ := hp
        subst hy
        refine hw_topi hr ?_
        refine hw_bz_eqF (tgt := 78) hx hb dMo_field_30 (by decide) rfl ?_
        refine lv_aload_n hx hb dMo_field_33 rfl (lv_at hl 0 rfl) ?_
        refine hw_get hx hb hts (hwInn inMo) hown hK hZ gx rfl 3 (by decide) (hts (.fieldLink RMo 69 RMo "signs" "I") (hwMem mm_388)) (fun _ h => h) rfl dMo_field_34 ?_
        refine lv_sipush (v := nI 1500) hx hb dMo_field_37 (by decide) ?_
        refine hw_ic_ge (a := sg.length) (b := 1500) (tgt := 78) hx hb dMo_field_40 (by decide) (by omega) (by omega) (fun cq_36 => by exfalso; omega) (fun cq_36 => ?_)
        refine lv_aload_n hx hb dMo_field_43 rfl (lv_at hl 0 rfl) ?_
        refine hw_get hx hb hts (hwInn inMo) hown hK hZ gx rfl 4 (by decide) (hts (.fieldLink RMo 13 RMo "sign" "[B") (hwMem mm_396)) (fun _ h => h) rfl dMo_field_44 ?_
        refine lv_aload_n hx hb dMo_field_47 rfl (lv_at hl 0 rfl) ?_
        refine hw_get hx hb hts (hwInn inMo) hown hK hZ gx rfl 3 (by decide) (hts (.fieldLink RMo 69 RMo "signs" "I") (hwMem mm_388)) (fun _ h => h) rfl dMo_field_48 ?_
        refine lv_iload_n hx hb dMo_field_51 rfl (lv_at hl 3 rfl) ?_
        refine lv_i2b hx hb dMo_field_52 rfl ?_
        refine hw_bast hx hb hK hZ 3 g2 rfl (j := sg.length) (by omega) (by omega) dMo_field_53 (fun X_37 H_38 lc_39 hZ hF hNw => ?_)
        have hFr := hwF.tr hFr hF (fun _ h => h) (fun M h => by first | exact False.elim h | ((try dsimp only at h ⊢); omega))
        have gx := hF _ _ _ (by intro hNS; first | exact False.elim hNS | ((try dsimp only at hNS); omega)) gx
        have g1 := hF _ _ _ (by intro hNS; first | exact False.elim hNS | ((try dsimp only at hNS); omega)) g1
        have g2 := hNw
        have g3 := hF _ _ _ (by intro hNS; first | exact False.elim hNS | ((try dsimp only at hNS); omega)) g3
        have g4 := hF _ _ _ (by intro hNS; first | exact False.elim hNS | ((try dsimp only at hNS); omega)) g4
        have g5 := rwAt.fr hF (by intro hNS; first | exact False.elim hNS | ((try dsimp only at hNS); omega)) g5
        have g6 := hF _ _ _ (by intro hNS; first | exact False.elim hNS | ((try dsimp only at hNS); omega)) g6
        have g7 := rwAt.fr hF (by intro hNS; first | exact False.elim hNS | ((try dsimp only at hNS); omega)) g7
        have g8 := rwAt.fr hF (by intro hNS; first | exact False.elim hNS | ((try dsimp only at hNS); omega)) g8
        have g9 := rwAt.fr hF (by intro hNS; first | exact False.elim hNS | ((try dsimp only at hNS); omega)) g9
        have g10 := rwAt.fr hF (by intro hNS; first | exact False.elim hNS | ((try dsimp only at hNS); omega)) g10
        have g11 := hF _ _ _ (by intro hNS; first | exact False.elim hNS | ((try dsimp only at hNS); omega)) g11
        have g12 := hF _ _ _ (by intro hNS; first | exact False.elim hNS | ((try dsimp only at hNS); omega)) g12
        have g13 := hF _ _ _ (by intro hNS; first | exact False.elim hNS | ((try dsimp only at hNS); omega)) g13
        have g14 := rwAt.fr hF (by intro hNS; first | exact False.elim hNS | ((try dsimp only at hNS); omega)) g14
        have g15 := hF _ _ _ (by intro hNS; first | exact False.elim hNS | ((try dsimp only at hNS); omega)) g15
        refine lv_aload_n hx hb dMo_field_54 rfl (lv_at hl 0 rfl) ?_
        refine hw_get hx hb hts (hwInn inMo) hown hK hZ gx rfl 5 (by decide) (hts (.fieldLink RMo 17 RMo "place" "[I") (hwMem mm_395)) (fun _ h => h) rfl dMo_field_55 ?_
        refine lv_aload_n hx hb dMo_field_58 rfl (lv_at hl 0 rfl) ?_
        refine hw_get hx hb hts (hwInn inMo) hown hK hZ gx rfl 3 (by decide) (hts (.fieldLink RMo 69 RMo "signs" "I") (hwMem mm_388)) (fun _ h => h) rfl dMo_field_59 ?_
        refine lv_iconst (v := nI 4) hx hb dMo_field_62 (by decide) ?_
        refine lv_iload_n hx hb dMo_field_63 rfl (lv_at hl 1 rfl) ?_
        refine lv_imul hx hb dMo_field_64 ?_
        refine hw_topi (pk_mul 4 n) ?_
        refine lv_iload_n hx hb dMo_field_65 rfl (lv_at hl 2 rfl) ?_
        refine lv_iadd hx hb dMo_field_66 ?_
        refine hw_topi (nI_add (4 * n) j) ?_
        refine hw_iast hx hb hK hZ 0 g3 rfl (j := sg.length) (by omega) (by omega) dMo_field_67 (fun X_40 H_41 lc_42 hZ hF hNw => ?_)
        have hFr := hwF.tr hFr hF (fun _ h => h) (fun M h => by first | exact False.elim h | ((try dsimp only at h ⊢); omega))
        have gx := hF _ _ _ (by intro hNS; first | exact False.elim hNS | ((try dsimp only at hNS); omega)) gx
        have g1 := hF _ _ _ (by intro hNS; first | exact False.elim hNS | ((try dsimp only at hNS); omega)) g1
        have g2 := hF _ _ _ (by intro hNS; first | exact False.elim hNS | ((try dsimp only at hNS); omega)) g2
        have g3 := hNw
        have g4 := hF _ _ _ (by intro hNS; first | exact False.elim hNS | ((try dsimp only at hNS); omega)) g4
        have g5 := rwAt.fr hF (by intro hNS; first | exact False.elim hNS | ((try dsimp only at hNS); omega)) g5
        have g6 := hF _ _ _ (by intro hNS; first | exact False.elim hNS | ((try dsimp only at hNS); omega)) g6
        have g7 := rwAt.fr hF (by intro hNS; first | exact False.elim hNS | ((try dsimp only at hNS); omega)) g7
        have g8 := rwAt.fr hF (by intro hNS; first | exact False.elim hNS | ((try dsimp only at hNS); omega)) g8
        have g9 := rwAt.fr hF (by intro hNS; first | exact False.elim hNS | ((try dsimp only at hNS); omega)) g9
        have g10 := rwAt.fr hF (by intro hNS; first | exact False.elim hNS | ((try dsimp only at hNS); omega)) g10
        have g11 := hF _ _ _ (by intro hNS; first | exact False.elim hNS | ((try dsimp only at hNS); omega)) g11
        have g12 := hF _ _ _ (by intro hNS; first | exact False.elim hNS | ((try dsimp only at hNS); omega)) g12
        have g13 := hF _ _ _ (by intro hNS; first | exact False.elim hNS | ((try dsimp only at hNS); omega)) g13
        have g14 := rwAt.fr hF (by intro hNS; first | exact False.elim hNS | ((try dsimp only at hNS); omega)) g14
        have g15 := hF _ _ _ (by intro hNS; first | exact False.elim hNS | ((try dsimp only at hNS); omega)) g15
        refine lv_aload_n hx hb dMo_field_68 rfl (lv_at hl 0 rfl) ?_
        refine lv_dup hx hb dMo_field_69 rfl ?_
        refine hw_get hx hb hts (hwInn inMo) hown hK hZ gx rfl 3 (by decide) (hts (.fieldLink RMo 69 RMo "signs" "I") (hwMem mm_388)) (fun _ h => h) rfl dMo_field_70 ?_
        refine lv_iconst (v := nI 1) hx hb dMo_field_73 (by decide) ?_
        refine lv_iadd hx hb dMo_field_74 ?_
        refine hw_topi (nI_add sg.length 1) ?_
        refine hw_put (ty := .int) (fs' := [.int (nI 0), .int (nI its.length), .ref r1, .int (nI (sg.length + 1)), .ref r2, .ref r3, .ref r4, .ref r5, .int (nI st.length), .ref r6, .int (nI sd.length), .ref r7, .int (nI na), .ref r8, .ref r9, .ref r10, .int (nI nw), .int (nI hs.length), .ref r11, .ref r12, .ref r13, .ref r14, .int (nI nt), .ref r15]) hx hb hts (hwInn inMo) tyMo tyMo_ok nmMo hown hK hZ gx rfl 3 (by decide) (hts (.fieldLink RMo 69 RMo "signs" "I") (hwMem mm_388)) (fun _ h => h) rfl (by decide +kernel) rfl rfl (Nat.le_of_ble_eq_true rfl) rfl dMo_field_75 (fun X_43 H_44 lc_45 hZ hF hNw => ?_)
        have hFr := hwF.tr hFr hF (fun _ h => h) (fun M h => by first | exact False.elim h | ((try dsimp only at h ⊢); omega))
        have gx := hNw
        have g1 := hF _ _ _ (by intro hNS; first | exact False.elim hNS | ((try dsimp only at hNS); omega)) g1
        have g2 := hF _ _ _ (by intro hNS; first | exact False.elim hNS | ((try dsimp only at hNS); omega)) g2
        have g3 := hF _ _ _ (by intro hNS; first | exact False.elim hNS | ((try dsimp only at hNS); omega)) g3
        have g4 := hF _ _ _ (by intro hNS; first | exact False.elim hNS | ((try dsimp only at hNS); omega)) g4
        have g5 := rwAt.fr hF (by intro hNS; first | exact False.elim hNS | ((try dsimp only at hNS); omega)) g5
        have g6 := hF _ _ _ (by intro hNS; first | exact False.elim hNS | ((try dsimp only at hNS); omega)) g6
        have g7 := rwAt.fr hF (by intro hNS; first | exact False.elim hNS | ((try dsimp only at hNS); omega)) g7
        have g8 := rwAt.fr hF (by intro hNS; first | exact False.elim hNS | ((try dsimp only at hNS); omega)) g8
        have g9 := rwAt.fr hF (by intro hNS; first | exact False.elim hNS | ((try dsimp only at hNS); omega)) g9
        have g10 := rwAt.fr hF (by intro hNS; first | exact False.elim hNS | ((try dsimp only at hNS); omega)) g10
        have g11 := hF _ _ _ (by intro hNS; first | exact False.elim hNS | ((try dsimp only at hNS); omega)) g11
        have g12 := hF _ _ _ (by intro hNS; first | exact False.elim hNS | ((try dsimp only at hNS); omega)) g12
        have g13 := hF _ _ _ (by intro hNS; first | exact False.elim hNS | ((try dsimp only at hNS); omega)) g13
        have g14 := rwAt.fr hF (by intro hNS; first | exact False.elim hNS | ((try dsimp only at hNS); omega)) g14
        have g15 := hF _ _ _ (by intro hNS; first | exact False.elim hNS | ((try dsimp only at hNS); omega)) g15
        exact hret hZ (by rw [fldP_y (rN_nI hn1 hn2 (by omega)) (kN_nI hj) hth, sgP_y (rN_nI hn1 hn2 (by omega)) (kN_nI hj) hth, show n - 1 + 1 = n by omega]; exact ⟨hFr, ⟨_, _, _, _, _, _, _, _, _, _, _, _, _, _, _, _, _, _, _, _, _, _, _, _, _, _, _, _, _, _, _, _, _, (by rw [List.length_set, List.length_append]; exact gx), g1, g2, g3, g4, g5, g6, g7, g8, g9, g10, g11, g12, g13, g14, g15, (ft_fld hft), (sg_push1 hfg), (sg_push2 hfp), hfl, hfd, hv1, hv2, hv3⟩⟩) dMo_field_78
set_option maxHeartbeats 4000000 in
set_option maxRecDepth 100000 in
theorem q_remove (l : Launch) (D : va_G) (K : Nat → ClassId) (X : hwW) (sz : Nat) (a : Nat) (its : hwIt) (sg : List (Nat × Nat)) (lg : Nat → Nat) (st : List (List Nat)) (sd : List Nat) (hs : List (Nat × Nat × Nat)) (rr : Int32) (f0_ : moAt K X a its sg lg st sd hs) (okm : okM its sg lg st sd hs) : Met l yMo_remove (.code yMo_remove cMo_remove 2 (some .int) :: hwG) ({ frames := 0, cells := 0, slots := 0, locals := 0 } : Room) (hwPc D vwCl (hwT K) [.ref a, .int rr] X sz) (hwQi D vwCl X sz (fun r Y => r = nI (remP its rr).2 ∧ hwF X Y (fun M => 1000 ≤ M ∧ M < 1100) ∧ moAt K Y a (remP its rr).1 sg lg st sd hs)) 0 0 (va_A X.1 sz) := by
  refine hwMeti (cc := cMo_remove) (maxL := 2) (by decide) rfl (Nat.le_of_ble_eq_true rfl) (fun p e s m args below meth c ls A Q hx hb hml hown hts hname hret hK hO hZ hA hl => ?_)
  have hl : lv_has ls 2 [(0, .ref a), (1, .int rr)] := hl
  have hFr : hwF X X (fun M => 1000 ≤ M ∧ M < 1100) := hwF.rf
  obtain ⟨hni3, hsl, hsb, hlg, hsd, hh30, hB, htx⟩ := okm
  obtain ⟨r1, r2, r3, r4, r5, r6, r7, r8, r9, r10, r11, r12, r13, r14, r15, tz, na, nw, nt, ft, fg, fp, fl, fd, f1, f2, f3, qa, rw, rt, at_, tm, y, gx, g1, g2, g3, g4, g5, g6, g7, g8, g9, g10, g11, g12, g13, g14, g15, hft, hfg, hfp, hfl, hfd, hv1, hv2, hv3⟩ := f0_
  have hst40 := rwAt.len g5
  rcases rN_cases its.length (by omega) rr with hx9 | ⟨n, hn1, hn2, rfl⟩
  · have hx0 := hx9
    rcases hx9 with hx9 | hx9
    · refine lv_aload_n hx hb dMo_remove_0 rfl (lv_at hl 0 rfl) ?_
      refine lv_iconst (v := nI 0) hx hb dMo_remove_1 (by decide) ?_
      refine hw_put (ty := .int) (fs' := [.int (nI 0), .int (nI its.length), .ref r1, .int (nI sg.length), .ref r2, .ref r3, .ref r4, .ref r5, .int (nI st.length), .ref r6, .int (nI sd.length), .ref r7, .int (nI na), .ref r8, .ref r9, .ref r10, .int (nI nw), .int (nI hs.length), .ref r11, .ref r12, .ref r13, .ref r14, .int (nI nt), .ref r15]) hx hb hts (hwInn inMo) tyMo tyMo_ok nmMo hown hK hZ gx rfl 0 (by decide) (hts (.fieldLink RMo 58 RMo "thrown" "I") (hwMem mm_471)) (fun _ h => h) rfl (by decide +kernel) rfl rfl (Nat.le_of_ble_eq_true rfl) rfl dMo_remove_2 (fun X_1 H_2 lc_3 hZ hF hNw => ?_)
      have hFr := hwF.tr hFr hF (fun _ h => h) (fun M h => by first | exact False.elim h | ((try dsimp only at h ⊢); omega))
      have gx := hNw
      have g1 := hF _ _ _ (by intro hNS; first | exact False.elim hNS | ((try dsimp only at hNS); omega)) g1
      have g2 := hF _ _ _ (by intro hNS; first | exact False.elim hNS | ((try dsimp only at hNS); omega)) g2
      have g3 := hF _ _ _ (by intro hNS; first | exact False.elim hNS | ((try dsimp only at hNS); omega)) g3
      have g4 := hF _ _ _ (by intro hNS; first | exact False.elim hNS | ((try dsimp only at hNS); omega)) g4
      have g5 := rwAt.fr hF (by intro hNS; first | exact False.elim hNS | ((try dsimp only at hNS); omega)) g5
      have g6 := hF _ _ _ (by intro hNS; first | exact False.elim hNS | ((try dsimp only at hNS); omega)) g6
      have g7 := rwAt.fr hF (by intro hNS; first | exact False.elim hNS | ((try dsimp only at hNS); omega)) g7
      have g8 := rwAt.fr hF (by intro hNS; first | exact False.elim hNS | ((try dsimp only at hNS); omega)) g8
      have g9 := rwAt.fr hF (by intro hNS; first | exact False.elim hNS | ((try dsimp only at hNS); omega)) g9
      have g10 := rwAt.fr hF (by intro hNS; first | exact False.elim hNS | ((try dsimp only at hNS); omega)) g10
      have g11 := hF _ _ _ (by intro hNS; first | exact False.elim hNS | ((try dsimp only at hNS); omega)) g11
      have g12 := hF _ _ _ (by intro hNS; first | exact False.elim hNS | ((try dsimp only at hNS); omega)) g12
      have g13 := hF _ _ _ (by intro hNS; first | exact False.elim hNS | ((try dsimp only at hNS); omega)) g13
      have g14 := rwAt.fr hF (by intro hNS; first | exact False.elim hNS | ((try dsimp only at hNS); omega)) g14
      have g15 := hF _ _ _ (by intro hNS; first | exact False.elim hNS | ((try dsimp only at hNS); omega)) g15
      refine lv_iload_n hx hb dMo_remove_5 rfl (lv_at hl 1 rfl) ?_
      refine lv_iconst (v := nI 1) hx hb dMo_remove_6 (by decide) ?_
      refine lv_icmp_lt (tgt := 27) hx hb dMo_remove_7 (by decide) (fun cq_4 => ?_) (fun cq_4 => absurd hx9 cq_4)
      refine lv_iconst (v := nI 0) hx hb dMo_remove_27 (by decide) ?_
      exact hret hZ (by rw [remP_r (rN_bad (by omega) hx0)]; exact ⟨rfl, hFr, ⟨_, _, _, _, _, _, _, _, _, _, _, _, _, _, _, _, _, _, _, _, _, _, _, _, _, _, _, _, _, _, _, _, _, gx, g1, g2, g3, g4, g5, g6, g7, g8, g9, g10, g11, g12, g13, g14, g15, hft, hfg, hfp, hfl, hfd, hv1, hv2, hv3⟩⟩) dMo_remove_28
    · refine lv_aload_n hx hb dMo_remove_0 rfl (lv_at hl 0 rfl) ?_
      refine lv_iconst (v := nI 0) hx hb dMo_remove_1 (by decide) ?_
      refine hw_put (ty := .int) (fs' := [.int (nI 0), .int (nI its.length), .ref r1, .int (nI sg.length), .ref r2, .ref r3, .ref r4, .ref r5, .int (nI st.length), .ref r6, .int (nI sd.length), .ref r7, .int (nI na), .ref r8, .ref r9, .ref r10, .int (nI nw), .int (nI hs.length), .ref r11, .ref r12, .ref r13, .ref r14, .int (nI nt), .ref r15]) hx hb hts (hwInn inMo) tyMo tyMo_ok nmMo hown hK hZ gx rfl 0 (by decide) (hts (.fieldLink RMo 58 RMo "thrown" "I") (hwMem mm_471)) (fun _ h => h) rfl (by decide +kernel) rfl rfl (Nat.le_of_ble_eq_true rfl) rfl dMo_remove_2 (fun X_5 H_6 lc_7 hZ hF hNw => ?_)
      have hFr := hwF.tr hFr hF (fun _ h => h) (fun M h => by first | exact False.elim h | ((try dsimp only at h ⊢); omega))
      have gx := hNw
      have g1 := hF _ _ _ (by intro hNS; first | exact False.elim hNS | ((try dsimp only at hNS); omega)) g1
      have g2 := hF _ _ _ (by intro hNS; first | exact False.elim hNS | ((try dsimp only at hNS); omega)) g2
      have g3 := hF _ _ _ (by intro hNS; first | exact False.elim hNS | ((try dsimp only at hNS); omega)) g3
      have g4 := hF _ _ _ (by intro hNS; first | exact False.elim hNS | ((try dsimp only at hNS); omega)) g4
      have g5 := rwAt.fr hF (by intro hNS; first | exact False.elim hNS | ((try dsimp only at hNS); omega)) g5
      have g6 := hF _ _ _ (by intro hNS; first | exact False.elim hNS | ((try dsimp only at hNS); omega)) g6
      have g7 := rwAt.fr hF (by intro hNS; first | exact False.elim hNS | ((try dsimp only at hNS); omega)) g7
      have g8 := rwAt.fr hF (by intro hNS; first | exact False.elim hNS | ((try dsimp only at hNS); omega)) g8
      have g9 := rwAt.fr hF (by intro hNS; first | exact False.elim hNS | ((try dsimp only at hNS); omega)) g9
      have g10 := rwAt.fr hF (by intro hNS; first | exact False.elim hNS | ((try dsimp only at hNS); omega)) g10
      have g11 := hF _ _ _ (by intro hNS; first | exact False.elim hNS | ((try dsimp only at hNS); omega)) g11
      have g12 := hF _ _ _ (by intro hNS; first | exact False.elim hNS | ((try dsimp only at hNS); omega)) g12
      have g13 := hF _ _ _ (by intro hNS; first | exact False.elim hNS | ((try dsimp only at hNS); omega)) g13
      have g14 := rwAt.fr hF (by intro hNS; first | exact False.elim hNS | ((try dsimp only at hNS); omega)) g14
      have g15 := hF _ _ _ (by intro hNS; first | exact False.elim hNS | ((try dsimp only at hNS); omega)) g15
      refine lv_iload_n hx hb dMo_remove_5 rfl (lv_at hl 1 rfl) ?_
      refine lv_iconst (v := nI 1) hx hb dMo_remove_6 (by decide) ?_
      refine lv_icmp_lt (tgt := 27) hx hb dMo_remove_7 (by decide) (fun cq_8 => absurd cq_8 (hw_n1 (n := its.length) (by omega) hx9)) (fun cq_8 => ?_)
      refine lv_iload_n hx hb dMo_remove_10 rfl (lv_at hl 1 rfl) ?_
      refine lv_aload_n hx hb dMo_remove_11 rfl (lv_at hl 0 rfl) ?_
      refine hw_get hx hb hts (hwInn inMo) hown hK hZ gx rfl 1 (by decide) (hts (.fieldLink RMo 62 RMo "records" "I") (hwMem mm_418)) (fun _ h => h) rfl dMo_remove_12 ?_
      refine lv_icmp_gt (tgt := 27) hx hb dMo_remove_15 (by decide) (fun cq_9 => ?_) (fun cq_9 => absurd hx9 cq_9)
      refine lv_iconst (v := nI 0) hx hb dMo_remove_27 (by decide) ?_
      exact hret hZ (by rw [remP_r (rN_bad (by omega) hx0)]; exact ⟨rfl, hFr, ⟨_, _, _, _, _, _, _, _, _, _, _, _, _, _, _, _, _, _, _, _, _, _, _, _, _, _, _, _, _, _, _, _, _, gx, g1, g2, g3, g4, g5, g6, g7, g8, g9, g10, g11, g12, g13, g14, g15, hft, hfg, hfp, hfl, hfd, hv1, hv2, hv3⟩⟩) dMo_remove_28
  · have hft9 := hft (n - 1) (by omega)
    rw [show n - 1 + 1 = n by omega] at hft9
    cases hth : (its.getD (n - 1) hwIt0).1
    · rw [hth] at hft9
      refine lv_aload_n hx hb dMo_remove_0 rfl (lv_at hl 0 rfl) ?_
      refine lv_iconst (v := nI 0) hx hb dMo_remove_1 (by decide) ?_
      refine hw_put (ty := .int) (fs' := [.int (nI 0), .int (nI its.length), .ref r1, .int (nI sg.length), .ref r2, .ref r3, .ref r4, .ref r5, .int (nI st.length), .ref r6, .int (nI sd.length), .ref r7, .int (nI na), .ref r8, .ref r9, .ref r10, .int (nI nw), .int (nI hs.length), .ref r11, .ref r12, .ref r13, .ref r14, .int (nI nt), .ref r15]) hx hb hts (hwInn inMo) tyMo tyMo_ok nmMo hown hK hZ gx rfl 0 (by decide) (hts (.fieldLink RMo 58 RMo "thrown" "I") (hwMem mm_471)) (fun _ h => h) rfl (by decide +kernel) rfl rfl (Nat.le_of_ble_eq_true rfl) rfl dMo_remove_2 (fun X_10 H_11 lc_12 hZ hF hNw => ?_)
      have hFr := hwF.tr hFr hF (fun _ h => h) (fun M h => by first | exact False.elim h | ((try dsimp only at h ⊢); omega))
      have gx := hNw
      have g1 := hF _ _ _ (by intro hNS; first | exact False.elim hNS | ((try dsimp only at hNS); omega)) g1
      have g2 := hF _ _ _ (by intro hNS; first | exact False.elim hNS | ((try dsimp only at hNS); omega)) g2
      have g3 := hF _ _ _ (by intro hNS; first | exact False.elim hNS | ((try dsimp only at hNS); omega)) g3
      have g4 := hF _ _ _ (by intro hNS; first | exact False.elim hNS | ((try dsimp only at hNS); omega)) g4
      have g5 := rwAt.fr hF (by intro hNS; first | exact False.elim hNS | ((try dsimp only at hNS); omega)) g5
      have g6 := hF _ _ _ (by intro hNS; first | exact False.elim hNS | ((try dsimp only at hNS); omega)) g6
      have g7 := rwAt.fr hF (by intro hNS; first | exact False.elim hNS | ((try dsimp only at hNS); omega)) g7
      have g8 := rwAt.fr hF (by intro hNS; first | exact False.elim hNS | ((try dsimp only at hNS); omega)) g8
      have g9 := rwAt.fr hF (by intro hNS; first | exact False.elim hNS | ((try dsimp only at hNS); omega)) g9
      have g10 := rwAt.fr hF (by intro hNS; first | exact False.elim hNS | ((try dsimp only at hNS); omega)) g10
      have g11 := hF _ _ _ (by intro hNS; first | exact False.elim hNS | ((try dsimp only at hNS); omega)) g11
      have g12 := hF _ _ _ (by intro hNS; first | exact False.elim hNS | ((try dsimp only at hNS); omega)) g12
      have g13 := hF _ _ _ (by intro hNS; first | exact False.elim hNS | ((try dsimp only at hNS); omega)) g13
      have g14 := rwAt.fr hF (by intro hNS; first | exact False.elim hNS | ((try dsimp only at hNS); omega)) g14
      have g15 := hF _ _ _ (by intro hNS; first | exact False.elim hNS | ((try dsimp only at hNS); omega)) g15
      refine lv_iload_n hx hb dMo_remove_5 rfl (lv_at hl 1 rfl) ?_
      refine lv_iconst (v := nI 1) hx hb dMo_remove_6 (by decide) ?_
      refine hw_ic_lt (a := n) (b := 1) (tgt := 27) hx hb dMo_remove_7 (by decide) (by omega) (by omega) (fun cq_13 => by exfalso; omega) (fun cq_13 => ?_)
      refine lv_iload_n hx hb dMo_remove_10 rfl (lv_at hl 1 rfl) ?_
      refine lv_aload_n hx hb dMo_remove_11 rfl (lv_at hl 0 rfl) ?_
      refine hw_get hx hb hts (hwInn inMo) hown hK hZ gx rfl 1 (by decide) (hts (.fieldLink RMo 62 RMo "records" "I") (hwMem mm_418)) (fun _ h => h) rfl dMo_remove_12 ?_
      refine hw_ic_gt (a := n) (b := its.length) (tgt := 27) hx hb dMo_remove_15 (by decide) (by omega) (by omega) (fun cq_14 => by exfalso; omega) (fun cq_14 => ?_)
      refine lv_aload_n hx hb dMo_remove_18 rfl (lv_at hl 0 rfl) ?_
      refine hw_get hx hb hts (hwInn inMo) hown hK hZ gx rfl 2 (by decide) (hts (.fieldLink RMo 7 RMo "there" "[Z") (hwMem mm_419)) (fun _ h => h) rfl dMo_remove_19 ?_
      refine lv_iload_n hx hb dMo_remove_22 rfl (lv_at hl 1 rfl) ?_
      refine hw_zald hx hb hK hZ 2 g1 rfl (j := n) (by omega) (by omega) dMo_remove_23 ?_
      refine hw_topi hft9 ?_
      refine hw_bz_neF (tgt := 29) hx hb dMo_remove_24 (by decide) rfl ?_
      refine lv_iconst (v := nI 0) hx hb dMo_remove_27 (by decide) ?_
      exact hret hZ (by rw [remP_g (rN_nI hn1 hn2 (by omega)) hth]; exact ⟨rfl, hFr, ⟨_, _, _, _, _, _, _, _, _, _, _, _, _, _, _, _, _, _, _, _, _, _, _, _, _, _, _, _, _, _, _, _, _, gx, g1, g2, g3, g4, g5, g6, g7, g8, g9, g10, g11, g12, g13, g14, g15, hft, hfg, hfp, hfl, hfd, hv1, hv2, hv3⟩⟩) dMo_remove_28
    · rw [hth] at hft9
      refine lv_aload_n hx hb dMo_remove_0 rfl (lv_at hl 0 rfl) ?_
      refine lv_iconst (v := nI 0) hx hb dMo_remove_1 (by decide) ?_
      refine hw_put (ty := .int) (fs' := [.int (nI 0), .int (nI its.length), .ref r1, .int (nI sg.length), .ref r2, .ref r3, .ref r4, .ref r5, .int (nI st.length), .ref r6, .int (nI sd.length), .ref r7, .int (nI na), .ref r8, .ref r9, .ref r10, .int (nI nw), .int (nI hs.length), .ref r11, .ref r12, .ref r13, .ref r14, .int (nI nt), .ref r15]) hx hb hts (hwInn inMo) tyMo tyMo_ok nmMo hown hK hZ gx rfl 0 (by decide) (hts (.fieldLink RMo 58 RMo "thrown" "I") (hwMem mm_471)) (fun _ h => h) rfl (by decide +kernel) rfl rfl (Nat.le_of_ble_eq_true rfl) rfl dMo_remove_2 (fun X_16 H_17 lc_18 hZ hF hNw => ?_)
      have hFr := hwF.tr hFr hF (fun _ h => h) (fun M h => by first | exact False.elim h | ((try dsimp only at h ⊢); omega))
      have gx := hNw
      have g1 := hF _ _ _ (by intro hNS; first | exact False.elim hNS | ((try dsimp only at hNS); omega)) g1
      have g2 := hF _ _ _ (by intro hNS; first | exact False.elim hNS | ((try dsimp only at hNS); omega)) g2
      have g3 := hF _ _ _ (by intro hNS; first | exact False.elim hNS | ((try dsimp only at hNS); omega)) g3
      have g4 := hF _ _ _ (by intro hNS; first | exact False.elim hNS | ((try dsimp only at hNS); omega)) g4
      have g5 := rwAt.fr hF (by intro hNS; first | exact False.elim hNS | ((try dsimp only at hNS); omega)) g5
      have g6 := hF _ _ _ (by intro hNS; first | exact False.elim hNS | ((try dsimp only at hNS); omega)) g6
      have g7 := rwAt.fr hF (by intro hNS; first | exact False.elim hNS | ((try dsimp only at hNS); omega)) g7
      have g8 := rwAt.fr hF (by intro hNS; first | exact False.elim hNS | ((try dsimp only at hNS); omega)) g8
      have g9 := rwAt.fr hF (by intro hNS; first | exact False.elim hNS | ((try dsimp only at hNS); omega)) g9
      have g10 := rwAt.fr hF (by intro hNS; first | exact False.elim hNS | ((try dsimp only at hNS); omega)) g10
      have g11 := hF _ _ _ (by intro hNS; first | exact False.elim hNS | ((try dsimp only at hNS); omega)) g11
      have g12 := hF _ _ _ (by intro hNS; first | exact False.elim hNS | ((try dsimp only at hNS); omega)) g12
      have g13 := hF _ _ _ (by intro hNS; first | exact False.elim hNS | ((try dsimp only at hNS); omega)) g13
      have g14 := rwAt.fr hF (by intro hNS; first | exact False.elim hNS | ((try dsimp only at hNS); omega)) g14
      have g15 := hF _ _ _ (by intro hNS; first | exact False.elim hNS | ((try dsimp only at hNS); omega)) g15
      refine lv_iload_n hx hb dMo_remove_5 rfl (lv_at hl 1 rfl) ?_
      refine lv_iconst (v := nI 1) hx hb dMo_remove_6 (by decide) ?_
      refine hw_ic_lt (a := n) (b := 1) (tgt := 27) hx hb dMo_remove_7 (by decide) (by omega) (by omega) (fun cq_19 => by exfalso; omega) (fun cq_19 => ?_)
      refine lv_iload_n hx hb dMo_remove_10 rfl (lv_at hl 1 rfl) ?_
      refine lv_aload_n hx hb dMo_remove_11 rfl (lv_at hl 0 rfl) ?_
      refine hw_get hx hb hts (hwInn inMo) hown hK hZ gx rfl 1 (by decide) (hts (.fieldLink RMo 62 RMo "records" "I") (hwMem mm_418)) (fun _ h => h) rfl dMo_remove_12 ?_
      refine hw_ic_gt (a := n) (b := its.length) (tgt := 27) hx hb dMo_remove_15 (by decide) (by omega) (by omega) (fun cq_20 => by exfalso; omega) (fun cq_20 => ?_)
      refine lv_aload_n hx hb dMo_remove_18 rfl (lv_at hl 0 rfl) ?_
      refine hw_get hx hb hts (hwInn inMo) hown hK hZ gx rfl 2 (by decide) (hts (.fieldLink RMo 7 RMo "there" "[Z") (hwMem mm_419)) (fun _ h => h) rfl dMo_remove_19 ?_
      refine lv_iload_n hx hb dMo_remove_22 rfl (lv_at hl 1 rfl) ?_
      refine hw_zald hx hb hK hZ 2 g1 rfl (j := n) (by omega) (by omega) dMo_remove_23 ?_
      refine hw_topi hft9 ?_
      refine hw_bz_neT (tgt := 29) hx hb dMo_remove_24 (by decide) rfl ?_
      refine lv_aload_n hx hb dMo_remove_29 rfl (lv_at hl 0 rfl) ?_
      refine hw_get hx hb hts (hwInn inMo) hown hK hZ gx rfl 2 (by decide) (hts (.fieldLink RMo 7 RMo "there" "[Z") (hwMem mm_419)) (fun _ h => h) rfl dMo_remove_30 ?_
      refine lv_iload_n hx hb dMo_remove_33 rfl (lv_at hl 1 rfl) ?_
      refine lv_iconst (v := nI 0) hx hb dMo_remove_34 (by decide) ?_
      refine hw_zast hx hb hK hZ 2 g1 rfl (j := n) (by omega) (by omega) dMo_remove_35 (fun X_22 H_23 lc_24 hZ hF hNw => ?_)
      have hFr := hwF.tr hFr hF (fun _ h => h) (fun M h => by first | exact False.elim h | ((try dsimp only at h ⊢); omega))
      have gx := hF _ _ _ (by intro hNS; first | exact False.elim hNS | ((try dsimp only at hNS); omega)) gx
      have g1 := hNw
      have g2 := hF _ _ _ (by intro hNS; first | exact False.elim hNS | ((try dsimp only at hNS); omega)) g2
      have g3 := hF _ _ _ (by intro hNS; first | exact False.elim hNS | ((try dsimp only at hNS); omega)) g3
      have g4 := hF _ _ _ (by intro hNS; first | exact False.elim hNS | ((try dsimp only at hNS); omega)) g4
      have g5 := rwAt.fr hF (by intro hNS; first | exact False.elim hNS | ((try dsimp only at hNS); omega)) g5
      have g6 := hF _ _ _ (by intro hNS; first | exact False.elim hNS | ((try dsimp only at hNS); omega)) g6
      have g7 := rwAt.fr hF (by intro hNS; first | exact False.elim hNS | ((try dsimp only at hNS); omega)) g7
      have g8 := rwAt.fr hF (by intro hNS; first | exact False.elim hNS | ((try dsimp only at hNS); omega)) g8
      have g9 := rwAt.fr hF (by intro hNS; first | exact False.elim hNS | ((try dsimp only at hNS); omega)) g9
      have g10 := rwAt.fr hF (by intro hNS; first | exact False.elim hNS | ((try dsimp only at hNS); omega)) g10
      have g11 := hF _ _ _ (by intro hNS; first | exact False.elim hNS | ((try dsimp only at hNS); omega)) g11
      have g12 := hF _ _ _ (by intro hNS; first | exact False.elim hNS | ((try dsimp only at hNS); omega)) g12
      have g13 := hF _ _ _ (by intro hNS; first | exact False.elim hNS | ((try dsimp only at hNS); omega)) g13
      have g14 := rwAt.fr hF (by intro hNS; first | exact False.elim hNS | ((try dsimp only at hNS); omega)) g14
      have g15 := hF _ _ _ (by intro hNS; first | exact False.elim hNS | ((try dsimp only at hNS); omega)) g15
      refine lv_iconst (v := nI 1) hx hb dMo_remove_36 (by decide) ?_
      exact hret hZ (by rw [remP_y (rN_nI hn1 hn2 (by omega)) hth]; exact ⟨rfl, hFr, ⟨_, _, _, _, _, _, _, _, _, _, _, _, _, _, _, _, _, _, _, _, _, _, _, _, _, _, _, _, _, _, _, _, _, (by rw [List.length_set]; exact gx), g1, g2, g3, g4, g5, g6, g7, g8, g9, g10, g11, g12, g13, g14, g15, (ft_set hft hn1 hn2), hfg, hfp, hfl, hfd, hv1, hv2, hv3⟩⟩) dMo_remove_37
set_option maxHeartbeats 4000000 in
set_option maxRecDepth 100000 in
theorem q_sign (l : Launch) (D : va_G) (K : Nat → ClassId) (X : hwW) (sz : Nat) (a : Nat) (its : hwIt) (sg : List (Nat × Nat)) (lg : Nat → Nat) (st : List (List Nat)) (sd : List Nat) (hs : List (Nat × Nat × Nat)) (cc0 : Int32) (f0_ : moAt K X a its sg lg st sd hs) (okm : okM its sg lg st sd hs) : Met l yMo_sign (.code yMo_sign cMo_sign 2 none :: hwG) ({ frames := 0, cells := 0, slots := 0, locals := 0 } : Room) (hwPc D vwCl (hwT K) [.ref a, .int cc0] X sz) (hwQv D vwCl X sz (fun Y => hwF X Y (fun M => 1000 ≤ M ∧ M < 1100) ∧ moAt K Y a its sg lg st (sdP sd cc0) hs)) 0 0 (va_A X.1 sz) := by
  refine hwMetv (cc := cMo_sign) (maxL := 2) (by decide) rfl (Nat.le_of_ble_eq_true rfl) (fun p e s m args below meth c ls A Q hx hb hml hown hts hname hret hK hO hZ hA hl => ?_)
  have hl : lv_has ls 2 [(0, .ref a), (1, .int cc0)] := hl
  have hFr : hwF X X (fun M => 1000 ≤ M ∧ M < 1100) := hwF.rf
  obtain ⟨hni3, hsl, hsb, hlg, hsd, hh30, hB, htx⟩ := okm
  obtain ⟨r1, r2, r3, r4, r5, r6, r7, r8, r9, r10, r11, r12, r13, r14, r15, tz, na, nw, nt, ft, fg, fp, fl, fd, f1, f2, f3, qa, rw, rt, at_, tm, y, gx, g1, g2, g3, g4, g5, g6, g7, g8, g9, g10, g11, g12, g13, g14, g15, hft, hfg, hfp, hfl, hfd, hv1, hv2, hv3⟩ := f0_
  have hst40 := rwAt.len g5
  refine lv_aload_n hx hb dMo_sign_0 rfl (lv_at hl 0 rfl) ?_
  refine lv_iconst (v := nI 0) hx hb dMo_sign_1 (by decide) ?_
  refine hw_put (ty := .int) (fs' := [.int (nI 0), .int (nI its.length), .ref r1, .int (nI sg.length), .ref r2, .ref r3, .ref r4, .ref r5, .int (nI st.length), .ref r6, .int (nI sd.length), .ref r7, .int (nI na), .ref r8, .ref r9, .ref r10, .int (nI nw), .int (nI hs.length), .ref r11, .ref r12, .ref r13, .ref r14, .int (nI nt), .ref r15]) hx hb hts (hwInn inMo) tyMo tyMo_ok nmMo hown hK hZ gx rfl 0 (by decide) (hts (.fieldLink RMo 58 RMo "thrown" "I") (hwMem mm_471)) (fun _ h => h) rfl (by decide +kernel) rfl rfl (Nat.le_of_ble_eq_true rfl) rfl dMo_sign_2 (fun X_1 H_2 lc_3 hZ hF hNw => ?_)
  have hFr := hwF.tr hFr hF (fun _ h => h) (fun M h => by first | exact False.elim h | ((try dsimp only at h ⊢); omega))
  have gx := hNw
  have g1 := hF _ _ _ (by intro hNS; first | exact False.elim hNS | ((try dsimp only at hNS); omega)) g1
  have g2 := hF _ _ _ (by intro hNS; first | exact False.elim hNS | ((try dsimp only at hNS); omega)) g2
  have g3 := hF _ _ _ (by intro hNS; first | exact False.elim hNS | ((try dsimp only at hNS); omega)) g3
  have g4 := hF _ _ _ (by intro hNS; first | exact False.elim hNS | ((try dsimp only at hNS); omega)) g4
  have g5 := rwAt.fr hF (by intro hNS; first | exact False.elim hNS | ((try dsimp only at hNS); omega)) g5
  have g6 := hF _ _ _ (by intro hNS; first | exact False.elim hNS | ((try dsimp only at hNS); omega)) g6
  have g7 := rwAt.fr hF (by intro hNS; first | exact False.elim hNS | ((try dsimp only at hNS); omega)) g7
  have g8 := rwAt.fr hF (by intro hNS; first | exact False.elim hNS | ((try dsimp only at hNS); omega)) g8
  have g9 := rwAt.fr hF (by intro hNS; first | exact False.elim hNS | ((try dsimp only at hNS); omega)) g9
  have g10 := rwAt.fr hF (by intro hNS; first | exact False.elim hNS | ((try dsimp only at hNS); omega)) g10
  have g11 := hF _ _ _ (by intro hNS; first | exact False.elim hNS | ((try dsimp only at hNS); omega)) g11
  have g12 := hF _ _ _ (by intro hNS; first | exact False.elim hNS | ((try dsimp only at hNS); omega)) g12
  have g13 := hF _ _ _ (by intro hNS; first | exact False.elim hNS | ((try dsimp only at hNS); omega)) g13
  have g14 := rwAt.fr hF (by intro hNS; first | exact False.elim hNS | ((try dsimp only at hNS); omega)) g14
  have g15 := hF _ _ _ (by intro hNS; first | exact False.elim hNS | ((try dsimp only at hNS); omega)) g15
  refine lv_aload_n hx hb dMo_sign_5 rfl (lv_at hl 0 rfl) ?_
  refine hw_get hx hb hts (hwInn inMo) hown hK hZ gx rfl 10 (by decide) (hts (.fieldLink RMo 72 RMo "size" "I") (hwMem mm_378)) (fun _ h => h) rfl dMo_sign_6 ?_
  refine lv_bipush (v := nI 100) hx hb dMo_sign_9 (by decide) ?_
  refine hw_ic_ge (a := sd.length) (b := 100) (tgt := 35) hx hb dMo_sign_11 (by decide) (by omega) (by omega) (fun cq_4 => ?_) (fun cq_4 => ?_)
  · exact hret hZ (by unfold sdP; rw [if_neg (by omega)]; exact ⟨hFr, ⟨_, _, _, _, _, _, _, _, _, _, _, _, _, _, _, _, _, _, _, _, _, _, _, _, _, _, _, _, _, _, _, _, _, gx, g1, g2, g3, g4, g5, g6, g7, g8, g9, g10, g11, g12, g13, g14, g15, hft, hfg, hfp, hfl, hfd, hv1, hv2, hv3⟩⟩) dMo_sign_35
  · refine lv_aload_n hx hb dMo_sign_14 rfl (lv_at hl 0 rfl) ?_
    refine hw_get hx hb hts (hwInn inMo) hown hK hZ gx rfl 9 (by decide) (hts (.fieldLink RMo 28 RMo "said" "[B") (hwMem mm_379)) (fun _ h => h) rfl dMo_sign_15 ?_
    refine lv_aload_n hx hb dMo_sign_18 rfl (lv_at hl 0 rfl) ?_
    refine hw_get hx hb hts (hwInn inMo) hown hK hZ gx rfl 10 (by decide) (hts (.fieldLink RMo 72 RMo "size" "I") (hwMem mm_378)) (fun _ h => h) rfl dMo_sign_19 ?_
    refine lv_iload_n hx hb dMo_sign_22 rfl (lv_at hl 1 rfl) ?_
    refine lv_i2b hx hb dMo_sign_23 rfl ?_
    refine hw_bast hx hb hK hZ 3 g6 rfl (j := sd.length) (by omega) (by omega) dMo_sign_24 (fun X_5 H_6 lc_7 hZ hF hNw => ?_)
    have hFr := hwF.tr hFr hF (fun _ h => h) (fun M h => by first | exact False.elim h | ((try dsimp only at h ⊢); omega))
    have gx := hF _ _ _ (by intro hNS; first | exact False.elim hNS | ((try dsimp only at hNS); omega)) gx
    have g1 := hF _ _ _ (by intro hNS; first | exact False.elim hNS | ((try dsimp only at hNS); omega)) g1
    have g2 := hF _ _ _ (by intro hNS; first | exact False.elim hNS | ((try dsimp only at hNS); omega)) g2
    have g3 := hF _ _ _ (by intro hNS; first | exact False.elim hNS | ((try dsimp only at hNS); omega)) g3
    have g4 := hF _ _ _ (by intro hNS; first | exact False.elim hNS | ((try dsimp only at hNS); omega)) g4
    have g5 := rwAt.fr hF (by intro hNS; first | exact False.elim hNS | ((try dsimp only at hNS); omega)) g5
    have g6 := hNw
    have g7 := rwAt.fr hF (by intro hNS; first | exact False.elim hNS | ((try dsimp only at hNS); omega)) g7
    have g8 := rwAt.fr hF (by intro hNS; first | exact False.elim hNS | ((try dsimp only at hNS); omega)) g8
    have g9 := rwAt.fr hF (by intro hNS; first | exact False.elim hNS | ((try dsimp only at hNS); omega)) g9
    have g10 := rwAt.fr hF (by intro hNS; first | exact False.elim hNS | ((try dsimp only at hNS); omega)) g10
    have g11 := hF _ _ _ (by intro hNS; first | exact False.elim hNS | ((try dsimp only at hNS); omega)) g11
    have g12 := hF _ _ _ (by intro hNS; first | exact False.elim hNS | ((try dsimp only at hNS); omega)) g12
    have g13 := hF _ _ _ (by intro hNS; first | exact False.elim hNS | ((try dsimp only at hNS); omega)) g13
    have g14 := rwAt.fr hF (by intro hNS; first | exact False.elim hNS | ((try dsimp only at hNS); omega)) g14
    have g15 := hF _ _ _ (by intro hNS; first | exact False.elim hNS | ((try dsimp only at hNS); omega)) g15
    refine lv_aload_n hx hb dMo_sign_25 rfl (lv_at hl 0 rfl) ?_
    refine lv_dup hx hb dMo_sign_26 rfl ?_
    refine hw_get hx hb hts (hwInn inMo) hown hK hZ gx rfl 10 (by decide) (hts (.fieldLink RMo 72 RMo "size" "I") (hwMem mm_378)) (fun _ h => h) rfl dMo_sign_27 ?_
    refine lv_iconst (v := nI 1) hx hb dMo_sign_30 (by decide) ?_
    refine lv_iadd hx hb dMo_sign_31 ?_
    refine hw_topi (nI_add sd.length 1) ?_
    refine hw_put (ty := .int) (fs' := [.int (nI 0), .int (nI its.length), .ref r1, .int (nI sg.length), .ref r2, .ref r3, .ref r4, .ref r5, .int (nI st.length), .ref r6, .int (nI (sd.length + 1)), .ref r7, .int (nI na), .ref r8, .ref r9, .ref r10, .int (nI nw), .int (nI hs.length), .ref r11, .ref r12, .ref r13, .ref r14, .int (nI nt), .ref r15]) hx hb hts (hwInn inMo) tyMo tyMo_ok nmMo hown hK hZ gx rfl 10 (by decide) (hts (.fieldLink RMo 72 RMo "size" "I") (hwMem mm_378)) (fun _ h => h) rfl (by decide +kernel) rfl rfl (Nat.le_of_ble_eq_true rfl) rfl dMo_sign_32 (fun X_8 H_9 lc_10 hZ hF hNw => ?_)
    have hFr := hwF.tr hFr hF (fun _ h => h) (fun M h => by first | exact False.elim h | ((try dsimp only at h ⊢); omega))
    have gx := hNw
    have g1 := hF _ _ _ (by intro hNS; first | exact False.elim hNS | ((try dsimp only at hNS); omega)) g1
    have g2 := hF _ _ _ (by intro hNS; first | exact False.elim hNS | ((try dsimp only at hNS); omega)) g2
    have g3 := hF _ _ _ (by intro hNS; first | exact False.elim hNS | ((try dsimp only at hNS); omega)) g3
    have g4 := hF _ _ _ (by intro hNS; first | exact False.elim hNS | ((try dsimp only at hNS); omega)) g4
    have g5 := rwAt.fr hF (by intro hNS; first | exact False.elim hNS | ((try dsimp only at hNS); omega)) g5
    have g6 := hF _ _ _ (by intro hNS; first | exact False.elim hNS | ((try dsimp only at hNS); omega)) g6
    have g7 := rwAt.fr hF (by intro hNS; first | exact False.elim hNS | ((try dsimp only at hNS); omega)) g7
    have g8 := rwAt.fr hF (by intro hNS; first | exact False.elim hNS | ((try dsimp only at hNS); omega)) g8
    have g9 := rwAt.fr hF (by intro hNS; first | exact False.elim hNS | ((try dsimp only at hNS); omega)) g9
    have g10 := rwAt.fr hF (by intro hNS; first | exact False.elim hNS | ((try dsimp only at hNS); omega)) g10
    have g11 := hF _ _ _ (by intro hNS; first | exact False.elim hNS | ((try dsimp only at hNS); omega)) g11
    have g12 := hF _ _ _ (by intro hNS; first | exact False.elim hNS | ((try dsimp only at hNS); omega)) g12
    have g13 := hF _ _ _ (by intro hNS; first | exact False.elim hNS | ((try dsimp only at hNS); omega)) g13
    have g14 := rwAt.fr hF (by intro hNS; first | exact False.elim hNS | ((try dsimp only at hNS); omega)) g14
    have g15 := hF _ _ _ (by intro hNS; first | exact False.elim hNS | ((try dsimp only at hNS); omega)) g15
    exact hret hZ (by unfold sdP; rw [if_pos (by omega)]; exact ⟨hFr, ⟨_, _, _, _, _, _, _, _, _, _, _, _, _, _, _, _, _, _, _, _, _, _, _, _, _, _, _, _, _, _, _, _, _, (by rw [List.length_append]; exact gx), g1, g2, g3, g4, g5, g6, g7, g8, g9, g10, g11, g12, g13, g14, g15, hft, hfg, hfp, hfl, (sd_push hfd), hv1, hv2, hv3⟩⟩) dMo_sign_35
set_option maxHeartbeats 4000000 in
set_option maxRecDepth 100000 in
theorem q_ask (l : Launch) (D : va_G) (K : Nat → ClassId) (X : hwW) (sz : Nat) (a : Nat) (its : hwIt) (sg : List (Nat × Nat)) (lg : Nat → Nat) (st : List (List Nat)) (sd : List Nat) (hs : List (Nat × Nat × Nat)) (kk : Int32) (f0_ : moAt K X a its sg lg st sd hs) (okm : okM its sg lg st sd hs) : Met l yMo_ask (.code yMo_ask cMo_ask 2 (some .int) :: hwG) ({ frames := 4, cells := 0, slots := 0, locals := 100 } : Room) (hwPc D vwCl (hwT K) [.ref a, .int kk] X sz) (hwQi D vwCl X sz (fun r Y => r = nI (askS (fun j => hsA ((tkF sd).1.map (trm (lg j) st)) (Tf its lg st j) its.length) kk).length ∧ hwF X Y (fun M => 1000 ≤ M ∧ M < 1100) ∧ moAt K Y a its sg lg st [] (askS (fun j => hsA ((tkF sd).1.map (trm (lg j) st)) (Tf its lg st j) its.length) kk))) 0 0 (va_A X.1 sz) := by
  refine hwMeti (cc := cMo_ask) (maxL := 2) (by decide) rfl (Nat.le_of_ble_eq_true rfl) (fun p e s m args below meth c ls A Q hx hb hml hown hts hname hret hK hO hZ hA hl => ?_)
  have hl : lv_has ls 2 [(0, .ref a), (1, .int kk)] := hl
  have hFr : hwF X X (fun M => 1000 ≤ M ∧ M < 1100) := hwF.rf
  have okm0 := okm
  obtain ⟨hni3, hsl, hsb, hlg, hsd, hh30, hB, htx⟩ := okm
  obtain ⟨r1, r2, r3, r4, r5, r6, r7, r8, r9, r10, r11, r12, r13, r14, r15, tz, na, nw, nt, ft, fg, fp, fl, fd, f1, f2, f3, qa, rw, rt, at_, tm, y, gx, g1, g2, g3, g4, g5, g6, g7, g8, g9, g10, g11, g12, g13, g14, g15, hft, hfg, hfp, hfl, hfd, hv1, hv2, hv3⟩ := f0_
  have hst40 := rwAt.len g5
  rcases kN_cases kk with hk | ⟨j, hj, rfl⟩
  · refine lv_aload_n hx hb dMo_ask_0 rfl (lv_at hl 0 rfl) ?_
    refine lv_iconst (v := nI 0) hx hb dMo_ask_1 (by decide) ?_
    refine hw_put (ty := .int) (fs' := [.int (nI 0), .int (nI its.length), .ref r1, .int (nI sg.length), .ref r2, .ref r3, .ref r4, .ref r5, .int (nI st.length), .ref r6, .int (nI sd.length), .ref r7, .int (nI na), .ref r8, .ref r9, .ref r10, .int (nI nw), .int (nI hs.length), .ref r11, .ref r12, .ref r13, .ref r14, .int (nI nt), .ref r15]) hx hb hts (hwInn inMo) tyMo tyMo_ok nmMo hown hK hZ gx rfl 0 (by decide) (hts (.fieldLink RMo 58 RMo "thrown" "I") (hwMem mm_471)) (fun _ h => h) rfl (by decide +kernel) rfl rfl (Nat.le_of_ble_eq_true rfl) rfl dMo_ask_2 (fun X_1 H_2 lc_3 hZ hF hNw => ?_)
    have hFr := hwF.tr hFr hF (fun _ h => h) (fun M h => by first | exact False.elim h | ((try dsimp only at h ⊢); omega))
    have gx := hNw
    have g1 := hF _ _ _ (by intro hNS; first | exact False.elim hNS | ((try dsimp only at hNS); omega)) g1
    have g2 := hF _ _ _ (by intro hNS; first | exact False.elim hNS | ((try dsimp only at hNS); omega)) g2
    have g3 := hF _ _ _ (by intro hNS; first | exact False.elim hNS | ((try dsimp only at hNS); omega)) g3
    have g4 := hF _ _ _ (by intro hNS; first | exact False.elim hNS | ((try dsimp only at hNS); omega)) g4
    have g5 := rwAt.fr hF (by intro hNS; first | exact False.elim hNS | ((try dsimp only at hNS); omega)) g5
    have g6 := hF _ _ _ (by intro hNS; first | exact False.elim hNS | ((try dsimp only at hNS); omega)) g6
    have g7 := rwAt.fr hF (by intro hNS; first | exact False.elim hNS | ((try dsimp only at hNS); omega)) g7
    have g8 := rwAt.fr hF (by intro hNS; first | exact False.elim hNS | ((try dsimp only at hNS); omega)) g8
    have g9 := rwAt.fr hF (by intro hNS; first | exact False.elim hNS | ((try dsimp only at hNS); omega)) g9
    have g10 := rwAt.fr hF (by intro hNS; first | exact False.elim hNS | ((try dsimp only at hNS); omega)) g10
    have g11 := hF _ _ _ (by intro hNS; first | exact False.elim hNS | ((try dsimp only at hNS); omega)) g11
    have g12 := hF _ _ _ (by intro hNS; first | exact False.elim hNS | ((try dsimp only at hNS); omega)) g12
    have g13 := hF _ _ _ (by intro hNS; first | exact False.elim hNS | ((try dsimp only at hNS); omega)) g13
    have g14 := rwAt.fr hF (by intro hNS; first | exact False.elim hNS | ((try dsimp only at hNS); omega)) g14
    have g15 := hF _ _ _ (by intro hNS; first | exact False.elim hNS | ((try dsimp only at hNS); omega)) g15
    have gm : moAt K X_1 a its sg lg st sd hs := ⟨_, _, _, _, _, _, _, _, _, _, _, _, _, _, _, _, _, _, _, _, _, _, _, _, _, _, _, _, _, _, _, _, _, gx, g1, g2, g3, g4, g5, g6, g7, g8, g9, g10, g11, g12, g13, g14, g15, hft, hfg, hfp, hfl, hfd, hv1, hv2, hv3⟩
    refine lv_aload_n hx hb dMo_ask_5 rfl (lv_at hl 0 rfl) ?_
    refine lv_iconst (v := nI 0) hx hb dMo_ask_6 (by decide) ?_
    refine lv_iload_n hx hb dMo_ask_7 rfl (lv_at hl 1 rfl) ?_
    refine lv_iconst (v := nI 0) hx hb dMo_ask_8 (by decide) ?_
    refine lv_iconst (v := nI 0) hx hb dMo_ask_9 (by decide) ?_
    refine hw_calli (va_runV (As := [.int (nI 0), .int kk, .int (nI 0), .int (nI 0)]) (rest := []) ⟨hx, hb, hml, hown, hts⟩ (m_qB l D K X_1 H_2.size (a := a) (its := its) (sg := sg) (lg := lg) (st := st) (sd := sd) (hs := hs) (s_ := nI 0) (kind := kk) (d_ := nI 0) (e_ := nI 0) gm okm0 (by assumption)) (cwV 4 hts (hwGood (hw_4 mm_473 mm_474 mm_475 mm_365 (hwAll mm_472))) rfl rfl rfl (by decide +kernel) ⟨Nat.le_of_ble_eq_true rfl, Nat.le_of_ble_eq_true rfl⟩) (hw_preV hK hO hZ (moAt.ob gm) rfl) rfl rfl hl.1 rfl (lv_room (Nat.le_of_ble_eq_true rfl)) dMo_ask_10 ⟨(show 0 + 0 ≤ 0 by omega), (show 0 + 0 ≤ 0 by omega)⟩) hZ hA (fun r X_4 H_5 lc_6 hp hZ => ?_)
    obtain ⟨hr, hF, hN_7⟩ := hp
    have hFr := hwF.tr hFr hF (fun _ h => h) (fun M h => by first | exact False.elim h | ((try dsimp only at h ⊢); omega))
    have ff_8 := hN_7
    refine hw_topi hr ?_
    exact hret hZ (by rw [askS_b (kN_bad hk)]; exact ⟨rfl, hFr, ff_8⟩) dMo_ask_13
  · refine lv_aload_n hx hb dMo_ask_0 rfl (lv_at hl 0 rfl) ?_
    refine lv_iconst (v := nI 0) hx hb dMo_ask_1 (by decide) ?_
    refine hw_put (ty := .int) (fs' := [.int (nI 0), .int (nI its.length), .ref r1, .int (nI sg.length), .ref r2, .ref r3, .ref r4, .ref r5, .int (nI st.length), .ref r6, .int (nI sd.length), .ref r7, .int (nI na), .ref r8, .ref r9, .ref r10, .int (nI nw), .int (nI hs.length), .ref r11, .ref r12, .ref r13, .ref r14, .int (nI nt), .ref r15]) hx hb hts (hwInn inMo) tyMo tyMo_ok nmMo hown hK hZ gx rfl 0 (by decide) (hts (.fieldLink RMo 58 RMo "thrown" "I") (hwMem mm_471)) (fun _ h => h) rfl (by decide +kernel) rfl rfl (Nat.le_of_ble_eq_true rfl) rfl dMo_ask_2 (fun X_9 H_10 lc_11 hZ hF hNw => ?_)
    have hFr := hwF.tr hFr hF (fun _ h => h) (fun M h => by first | exact False.elim h | ((try dsimp only at h ⊢); omega))
    have gx := hNw
    have g1 := hF _ _ _ (by intro hNS; first | exact False.elim hNS | ((try dsimp only at hNS); omega)) g1
    have g2 := hF _ _ _ (by intro hNS; first | exact False.elim hNS | ((try dsimp only at hNS); omega)) g2
    have g3 := hF _ _ _ (by intro hNS; first | exact False.elim hNS | ((try dsimp only at hNS); omega)) g3
    have g4 := hF _ _ _ (by intro hNS; first | exact False.elim hNS | ((try dsimp only at hNS); omega)) g4
    have g5 := rwAt.fr hF (by intro hNS; first | exact False.elim hNS | ((try dsimp only at hNS); omega)) g5
    have g6 := hF _ _ _ (by intro hNS; first | exact False.elim hNS | ((try dsimp only at hNS); omega)) g6
    have g7 := rwAt.fr hF (by intro hNS; first | exact False.elim hNS | ((try dsimp only at hNS); omega)) g7
    have g8 := rwAt.fr hF (by intro hNS; first | exact False.elim hNS | ((try dsimp only at hNS); omega)) g8
    have g9 := rwAt.fr hF (by intro hNS; first | exact False.elim hNS | ((try dsimp only at hNS); omega)) g9
    have g10 := rwAt.fr hF (by intro hNS; first | exact False.elim hNS | ((try dsimp only at hNS); omega)) g10
    have g11 := hF _ _ _ (by intro hNS; first | exact False.elim hNS | ((try dsimp only at hNS); omega)) g11
    have g12 := hF _ _ _ (by intro hNS; first | exact False.elim hNS | ((try dsimp only at hNS); omega)) g12
    have g13 := hF _ _ _ (by intro hNS; first | exact False.elim hNS | ((try dsimp only at hNS); omega)) g13
    have g14 := rwAt.fr hF (by intro hNS; first | exact False.elim hNS | ((try dsimp only at hNS); omega)) g14
    have g15 := hF _ _ _ (by intro hNS; first | exact False.elim hNS | ((try dsimp only at hNS); omega)) g15
    have gm : moAt K X_9 a its sg lg st sd hs := ⟨_, _, _, _, _, _, _, _, _, _, _, _, _, _, _, _, _, _, _, _, _, _, _, _, _, _, _, _, _, _, _, _, _, gx, g1, g2, g3, g4, g5, g6, g7, g8, g9, g10, g11, g12, g13, g14, g15, hft, hfg, hfp, hfl, hfd, hv1, hv2, hv3⟩
    refine lv_aload_n hx hb dMo_ask_5 rfl (lv_at hl 0 rfl) ?_
    refine lv_iconst (v := nI 0) hx hb dMo_ask_6 (by decide) ?_
    refine lv_iload_n hx hb dMo_ask_7 rfl (lv_at hl 1 rfl) ?_
    refine lv_iconst (v := nI 0) hx hb dMo_ask_8 (by decide) ?_
    refine lv_iconst (v := nI 0) hx hb dMo_ask_9 (by decide) ?_
    refine hw_calli (va_runV (As := [.int (nI 0), .int (nI j), .int (nI 0), .int (nI 0)]) (rest := []) ⟨hx, hb, hml, hown, hts⟩ (m_q0 l D K X_9 H_10.size (a := a) (its := its) (sg := sg) (lg := lg) (st := st) (sd := sd) (hs := hs) (j := j) gm okm0 (by omega)) (cwV 4 hts (hwGood (hw_4 mm_473 mm_474 mm_475 mm_365 (hwAll mm_472))) rfl rfl rfl (by decide +kernel) ⟨Nat.le_of_ble_eq_true rfl, Nat.le_of_ble_eq_true rfl⟩) (hw_preV hK hO hZ (moAt.ob gm) rfl) rfl rfl hl.1 rfl (lv_room (Nat.le_of_ble_eq_true rfl)) dMo_ask_10 ⟨(show 0 + 0 ≤ 0 by omega), (show 0 + 0 ≤ 0 by omega)⟩) hZ hA (fun r X_12 H_13 lc_14 hp hZ => ?_)
    obtain ⟨hr, hF, hN_15⟩ := hp
    have hFr := hwF.tr hFr hF (fun _ h => h) (fun M h => by first | exact False.elim h | ((try dsimp only at h ⊢); omega))
    have ff_16 := hN_15
    refine hw_topi hr ?_
    exact hret hZ (by rw [askS_g (kN_nI hj)]; exact ⟨rfl, hFr, ff_16⟩) dMo_ask_13
set_option maxHeartbeats 4000000 in
set_option maxRecDepth 100000 in
theorem q_phrase (l : Launch) (D : va_G) (K : Nat → ClassId) (X : hwW) (sz : Nat) (a : Nat) (its : hwIt) (sg : List (Nat × Nat)) (lg : Nat → Nat) (st : List (List Nat)) (sd : List Nat) (hs : List (Nat × Nat × Nat)) (kk : Int32) (f0_ : moAt K X a its sg lg st sd hs) (okm : okM its sg lg st sd hs) : Met l yMo_phrase (.code yMo_phrase cMo_phrase 2 (some .int) :: hwG) ({ frames := 4, cells := 0, slots := 0, locals := 100 } : Room) (hwPc D vwCl (hwT K) [.ref a, .int kk] X sz) (hwQi D vwCl X sz (fun r Y => r = nI (askS (fun j => hsP ((tkF sd).1.map (trm (lg j) st)) (Tf its lg st j) its.length) kk).length ∧ hwF X Y (fun M => 1000 ≤ M ∧ M < 1100) ∧ moAt K Y a its sg lg st [] (askS (fun j => hsP ((tkF sd).1.map (trm (lg j) st)) (Tf its lg st j) its.length) kk))) 0 0 (va_A X.1 sz) := by
  refine hwMeti (cc := cMo_phrase) (maxL := 2) (by decide) rfl (Nat.le_of_ble_eq_true rfl) (fun p e s m args below meth c ls A Q hx hb hml hown hts hname hret hK hO hZ hA hl => ?_)
  have hl : lv_has ls 2 [(0, .ref a), (1, .int kk)] := hl
  have hFr : hwF X X (fun M => 1000 ≤ M ∧ M < 1100) := hwF.rf
  have okm0 := okm
  obtain ⟨hni3, hsl, hsb, hlg, hsd, hh30, hB, htx⟩ := okm
  obtain ⟨r1, r2, r3, r4, r5, r6, r7, r8, r9, r10, r11, r12, r13, r14, r15, tz, na, nw, nt, ft, fg, fp, fl, fd, f1, f2, f3, qa, rw, rt, at_, tm, y, gx, g1, g2, g3, g4, g5, g6, g7, g8, g9, g10, g11, g12, g13, g14, g15, hft, hfg, hfp, hfl, hfd, hv1, hv2, hv3⟩ := f0_
  have hst40 := rwAt.len g5
  rcases kN_cases kk with hk | ⟨j, hj, rfl⟩
  · refine lv_aload_n hx hb dMo_phrase_0 rfl (lv_at hl 0 rfl) ?_
    refine lv_iconst (v := nI 0) hx hb dMo_phrase_1 (by decide) ?_
    refine hw_put (ty := .int) (fs' := [.int (nI 0), .int (nI its.length), .ref r1, .int (nI sg.length), .ref r2, .ref r3, .ref r4, .ref r5, .int (nI st.length), .ref r6, .int (nI sd.length), .ref r7, .int (nI na), .ref r8, .ref r9, .ref r10, .int (nI nw), .int (nI hs.length), .ref r11, .ref r12, .ref r13, .ref r14, .int (nI nt), .ref r15]) hx hb hts (hwInn inMo) tyMo tyMo_ok nmMo hown hK hZ gx rfl 0 (by decide) (hts (.fieldLink RMo 58 RMo "thrown" "I") (hwMem mm_471)) (fun _ h => h) rfl (by decide +kernel) rfl rfl (Nat.le_of_ble_eq_true rfl) rfl dMo_phrase_2 (fun X_1 H_2 lc_3 hZ hF hNw => ?_)
    have hFr := hwF.tr hFr hF (fun _ h => h) (fun M h => by first | exact False.elim h | ((try dsimp only at h ⊢); omega))
    have gx := hNw
    have g1 := hF _ _ _ (by intro hNS; first | exact False.elim hNS | ((try dsimp only at hNS); omega)) g1
    have g2 := hF _ _ _ (by intro hNS; first | exact False.elim hNS | ((try dsimp only at hNS); omega)) g2
    have g3 := hF _ _ _ (by intro hNS; first | exact False.elim hNS | ((try dsimp only at hNS); omega)) g3
    have g4 := hF _ _ _ (by intro hNS; first | exact False.elim hNS | ((try dsimp only at hNS); omega)) g4
    have g5 := rwAt.fr hF (by intro hNS; first | exact False.elim hNS | ((try dsimp only at hNS); omega)) g5
    have g6 := hF _ _ _ (by intro hNS; first | exact False.elim hNS | ((try dsimp only at hNS); omega)) g6
    have g7 := rwAt.fr hF (by intro hNS; first | exact False.elim hNS | ((try dsimp only at hNS); omega)) g7
    have g8 := rwAt.fr hF (by intro hNS; first | exact False.elim hNS | ((try dsimp only at hNS); omega)) g8
    have g9 := rwAt.fr hF (by intro hNS; first | exact False.elim hNS | ((try dsimp only at hNS); omega)) g9
    have g10 := rwAt.fr hF (by intro hNS; first | exact False.elim hNS | ((try dsimp only at hNS); omega)) g10
    have g11 := hF _ _ _ (by intro hNS; first | exact False.elim hNS | ((try dsimp only at hNS); omega)) g11
    have g12 := hF _ _ _ (by intro hNS; first | exact False.elim hNS | ((try dsimp only at hNS); omega)) g12
    have g13 := hF _ _ _ (by intro hNS; first | exact False.elim hNS | ((try dsimp only at hNS); omega)) g13
    have g14 := rwAt.fr hF (by intro hNS; first | exact False.elim hNS | ((try dsimp only at hNS); omega)) g14
    have g15 := hF _ _ _ (by intro hNS; first | exact False.elim hNS | ((try dsimp only at hNS); omega)) g15
    have gm : moAt K X_1 a its sg lg st sd hs := ⟨_, _, _, _, _, _, _, _, _, _, _, _, _, _, _, _, _, _, _, _, _, _, _, _, _, _, _, _, _, _, _, _, _, gx, g1, g2, g3, g4, g5, g6, g7, g8, g9, g10, g11, g12, g13, g14, g15, hft, hfg, hfp, hfl, hfd, hv1, hv2, hv3⟩
    refine lv_aload_n hx hb dMo_phrase_5 rfl (lv_at hl 0 rfl) ?_
    refine lv_iconst (v := nI 1) hx hb dMo_phrase_6 (by decide) ?_
    refine lv_iload_n hx hb dMo_phrase_7 rfl (lv_at hl 1 rfl) ?_
    refine lv_iconst (v := nI 0) hx hb dMo_phrase_8 (by decide) ?_
    refine lv_iconst (v := nI 0) hx hb dMo_phrase_9 (by decide) ?_
    refine hw_calli (va_runV (As := [.int (nI 1), .int kk, .int (nI 0), .int (nI 0)]) (rest := []) ⟨hx, hb, hml, hown, hts⟩ (m_qB l D K X_1 H_2.size (a := a) (its := its) (sg := sg) (lg := lg) (st := st) (sd := sd) (hs := hs) (s_ := nI 1) (kind := kk) (d_ := nI 0) (e_ := nI 0) gm okm0 (by assumption)) (cwV 4 hts (hwGood (hw_4 mm_473 mm_474 mm_475 mm_365 (hwAll mm_472))) rfl rfl rfl (by decide +kernel) ⟨Nat.le_of_ble_eq_true rfl, Nat.le_of_ble_eq_true rfl⟩) (hw_preV hK hO hZ (moAt.ob gm) rfl) rfl rfl hl.1 rfl (lv_room (Nat.le_of_ble_eq_true rfl)) dMo_phrase_10 ⟨(show 0 + 0 ≤ 0 by omega), (show 0 + 0 ≤ 0 by omega)⟩) hZ hA (fun r X_4 H_5 lc_6 hp hZ => ?_)
    obtain ⟨hr, hF, hN_7⟩ := hp
    have hFr := hwF.tr hFr hF (fun _ h => h) (fun M h => by first | exact False.elim h | ((try dsimp only at h ⊢); omega))
    have ff_8 := hN_7
    refine hw_topi hr ?_
    exact hret hZ (by rw [askS_b (kN_bad hk)]; exact ⟨rfl, hFr, ff_8⟩) dMo_phrase_13
  · refine lv_aload_n hx hb dMo_phrase_0 rfl (lv_at hl 0 rfl) ?_
    refine lv_iconst (v := nI 0) hx hb dMo_phrase_1 (by decide) ?_
    refine hw_put (ty := .int) (fs' := [.int (nI 0), .int (nI its.length), .ref r1, .int (nI sg.length), .ref r2, .ref r3, .ref r4, .ref r5, .int (nI st.length), .ref r6, .int (nI sd.length), .ref r7, .int (nI na), .ref r8, .ref r9, .ref r10, .int (nI nw), .int (nI hs.length), .ref r11, .ref r12, .ref r13, .ref r14, .int (nI nt), .ref r15]) hx hb hts (hwInn inMo) tyMo tyMo_ok nmMo hown hK hZ gx rfl 0 (by decide) (hts (.fieldLink RMo 58 RMo "thrown" "I") (hwMem mm_471)) (fun _ h => h) rfl (by decide +kernel) rfl rfl (Nat.le_of_ble_eq_true rfl) rfl dMo_phrase_2 (fun X_9 H_10 lc_11 hZ hF hNw => ?_)
    have hFr := hwF.tr hFr hF (fun _ h => h) (fun M h => by first | exact False.elim h | ((try dsimp only at h ⊢); omega))
    have gx := hNw
    have g1 := hF _ _ _ (by intro hNS; first | exact False.elim hNS | ((try dsimp only at hNS); omega)) g1
    have g2 := hF _ _ _ (by intro hNS; first | exact False.elim hNS | ((try dsimp only at hNS); omega)) g2
    have g3 := hF _ _ _ (by intro hNS; first | exact False.elim hNS | ((try dsimp only at hNS); omega)) g3
    have g4 := hF _ _ _ (by intro hNS; first | exact False.elim hNS | ((try dsimp only at hNS); omega)) g4
    have g5 := rwAt.fr hF (by intro hNS; first | exact False.elim hNS | ((try dsimp only at hNS); omega)) g5
    have g6 := hF _ _ _ (by intro hNS; first | exact False.elim hNS | ((try dsimp only at hNS); omega)) g6
    have g7 := rwAt.fr hF (by intro hNS; first | exact False.elim hNS | ((try dsimp only at hNS); omega)) g7
    have g8 := rwAt.fr hF (by intro hNS; first | exact False.elim hNS | ((try dsimp only at hNS); omega)) g8
    have g9 := rwAt.fr hF (by intro hNS; first | exact False.elim hNS | ((try dsimp only at hNS); omega)) g9
    have g10 := rwAt.fr hF (by intro hNS; first | exact False.elim hNS | ((try dsimp only at hNS); omega)) g10
    have g11 := hF _ _ _ (by intro hNS; first | exact False.elim hNS | ((try dsimp only at hNS); omega)) g11
    have g12 := hF _ _ _ (by intro hNS; first | exact False.elim hNS | ((try dsimp only at hNS); omega)) g12
    have g13 := hF _ _ _ (by intro hNS; first | exact False.elim hNS | ((try dsimp only at hNS); omega)) g13
    have g14 := rwAt.fr hF (by intro hNS; first | exact False.elim hNS | ((try dsimp only at hNS); omega)) g14
    have g15 := hF _ _ _ (by intro hNS; first | exact False.elim hNS | ((try dsimp only at hNS); omega)) g15
    have gm : moAt K X_9 a its sg lg st sd hs := ⟨_, _, _, _, _, _, _, _, _, _, _, _, _, _, _, _, _, _, _, _, _, _, _, _, _, _, _, _, _, _, _, _, _, gx, g1, g2, g3, g4, g5, g6, g7, g8, g9, g10, g11, g12, g13, g14, g15, hft, hfg, hfp, hfl, hfd, hv1, hv2, hv3⟩
    refine lv_aload_n hx hb dMo_phrase_5 rfl (lv_at hl 0 rfl) ?_
    refine lv_iconst (v := nI 1) hx hb dMo_phrase_6 (by decide) ?_
    refine lv_iload_n hx hb dMo_phrase_7 rfl (lv_at hl 1 rfl) ?_
    refine lv_iconst (v := nI 0) hx hb dMo_phrase_8 (by decide) ?_
    refine lv_iconst (v := nI 0) hx hb dMo_phrase_9 (by decide) ?_
    refine hw_calli (va_runV (As := [.int (nI 1), .int (nI j), .int (nI 0), .int (nI 0)]) (rest := []) ⟨hx, hb, hml, hown, hts⟩ (m_q1 l D K X_9 H_10.size (a := a) (its := its) (sg := sg) (lg := lg) (st := st) (sd := sd) (hs := hs) (j := j) gm okm0 (by omega)) (cwV 4 hts (hwGood (hw_4 mm_473 mm_474 mm_475 mm_365 (hwAll mm_472))) rfl rfl rfl (by decide +kernel) ⟨Nat.le_of_ble_eq_true rfl, Nat.le_of_ble_eq_true rfl⟩) (hw_preV hK hO hZ (moAt.ob gm) rfl) rfl rfl hl.1 rfl (lv_room (Nat.le_of_ble_eq_true rfl)) dMo_phrase_10 ⟨(show 0 + 0 ≤ 0 by omega), (show 0 + 0 ≤ 0 by omega)⟩) hZ hA (fun r X_12 H_13 lc_14 hp hZ => ?_)
    obtain ⟨hr, hF, hN_15⟩ := hp
    have hFr := hwF.tr hFr hF (fun _ h => h) (fun M h => by first | exact False.elim h | ((try dsimp only at h ⊢); omega))
    have ff_16 := hN_15
    refine hw_topi hr ?_
    exact hret hZ (by rw [askS_g (kN_nI hj)]; exact ⟨rfl, hFr, ff_16⟩) dMo_phrase_13
set_option maxHeartbeats 4000000 in
set_option maxRecDepth 100000 in
theorem q_near (l : Launch) (D : va_G) (K : Nat → ClassId) (X : hwW) (sz : Nat) (a : Nat) (its : hwIt) (sg : List (Nat × Nat)) (lg : Nat → Nat) (st : List (List Nat)) (sd : List Nat) (hs : List (Nat × Nat × Nat)) (kk : Int32) (dx : Int32) (f0_ : moAt K X a its sg lg st sd hs) (okm : okM its sg lg st sd hs) : Met l yMo_near (.code yMo_near cMo_near 3 (some .int) :: hwG) ({ frames := 4, cells := 0, slots := 0, locals := 100 } : Room) (hwPc D vwCl (hwT K) [.ref a, .int kk, .int dx] X sz) (hwQi D vwCl X sz (fun r Y => r = nI (askS (fun j => hsN ((tkF sd).1.map (trm (lg j) st)) dx (Tf its lg st j) its.length) kk).length ∧ hwF X Y (fun M => 1000 ≤ M ∧ M < 1100) ∧ moAt K Y a its sg lg st [] (askS (fun j => hsN ((tkF sd).1.map (trm (lg j) st)) dx (Tf its lg st j) its.length) kk))) 0 0 (va_A X.1 sz) := by
  refine hwMeti (cc := cMo_near) (maxL := 3) (by decide) rfl (Nat.le_of_ble_eq_true rfl) (fun p e s m args below meth c ls A Q hx hb hml hown hts hname hret hK hO hZ hA hl => ?_)
  have hl : lv_has ls 3 [(0, .ref a), (1, .int kk), (2, .int dx)] := hl
  have hFr : hwF X X (fun M => 1000 ≤ M ∧ M < 1100) := hwF.rf
  have okm0 := okm
  obtain ⟨hni3, hsl, hsb, hlg, hsd, hh30, hB, htx⟩ := okm
  obtain ⟨r1, r2, r3, r4, r5, r6, r7, r8, r9, r10, r11, r12, r13, r14, r15, tz, na, nw, nt, ft, fg, fp, fl, fd, f1, f2, f3, qa, rw, rt, at_, tm, y, gx, g1, g2, g3, g4, g5, g6, g7, g8, g9, g10, g11, g12, g13, g14, g15, hft, hfg, hfp, hfl, hfd, hv1, hv2, hv3⟩ := f0_
  have hst40 := rwAt.len g5
  rcases kN_cases kk with hk | ⟨j, hj, rfl⟩
  · rcases d1_cases dx with hd | ⟨dd, hd1, hd2, rfl⟩
    · refine lv_aload_n hx hb dMo_near_0 rfl (lv_at hl 0 rfl) ?_
      refine lv_iconst (v := nI 0) hx hb dMo_near_1 (by decide) ?_
      refine hw_put (ty := .int) (fs' := [.int (nI 0), .int (nI its.length), .ref r1, .int (nI sg.length), .ref r2, .ref r3, .ref r4, .ref r5, .int (nI st.length), .ref r6, .int (nI sd.length), .ref r7, .int (nI na), .ref r8, .ref r9, .ref r10, .int (nI nw), .int (nI hs.length), .ref r11, .ref r12, .ref r13, .ref r14, .int (nI nt), .ref r15]) hx hb hts (hwInn inMo) tyMo tyMo_ok nmMo hown hK hZ gx rfl 0 (by decide) (hts (.fieldLink RMo 58 RMo "thrown" "I") (hwMem mm_471)) (fun _ h => h) rfl (by decide +kernel) rfl rfl (Nat.le_of_ble_eq_true rfl) rfl dMo_near_2 (fun X_1 H_2 lc_3 hZ hF hNw => ?_)
      have hFr := hwF.tr hFr hF (fun _ h => h) (fun M h => by first | exact False.elim h | ((try dsimp only at h ⊢); omega))
      have gx := hNw
      have g1 := hF _ _ _ (by intro hNS; first | exact False.elim hNS | ((try dsimp only at hNS); omega)) g1
      have g2 := hF _ _ _ (by intro hNS; first | exact False.elim hNS | ((try dsimp only at hNS); omega)) g2
      have g3 := hF _ _ _ (by intro hNS; first | exact False.elim hNS | ((try dsimp only at hNS); omega)) g3
      have g4 := hF _ _ _ (by intro hNS; first | exact False.elim hNS | ((try dsimp only at hNS); omega)) g4
      have g5 := rwAt.fr hF (by intro hNS; first | exact False.elim hNS | ((try dsimp only at hNS); omega)) g5
      have g6 := hF _ _ _ (by intro hNS; first | exact False.elim hNS | ((try dsimp only at hNS); omega)) g6
      have g7 := rwAt.fr hF (by intro hNS; first | exact False.elim hNS | ((try dsimp only at hNS); omega)) g7
      have g8 := rwAt.fr hF (by intro hNS; first | exact False.elim hNS | ((try dsimp only at hNS); omega)) g8
      have g9 := rwAt.fr hF (by intro hNS; first | exact False.elim hNS | ((try dsimp only at hNS); omega)) g9
      have g10 := rwAt.fr hF (by intro hNS; first | exact False.elim hNS | ((try dsimp only at hNS); omega)) g10
      have g11 := hF _ _ _ (by intro hNS; first | exact False.elim hNS | ((try dsimp only at hNS); omega)) g11
      have g12 := hF _ _ _ (by intro hNS; first | exact False.elim hNS | ((try dsimp only at hNS); omega)) g12
      have g13 := hF _ _ _ (by intro hNS; first | exact False.elim hNS | ((try dsimp only at hNS); omega)) g13
      have g14 := rwAt.fr hF (by intro hNS; first | exact False.elim hNS | ((try dsimp only at hNS); omega)) g14
      have g15 := hF _ _ _ (by intro hNS; first | exact False.elim hNS | ((try dsimp only at hNS); omega)) g15
      have gm : moAt K X_1 a its sg lg st sd hs := ⟨_, _, _, _, _, _, _, _, _, _, _, _, _, _, _, _, _, _, _, _, _, _, _, _, _, _, _, _, _, _, _, _, _, gx, g1, g2, g3, g4, g5, g6, g7, g8, g9, g10, g11, g12, g13, g14, g15, hft, hfg, hfp, hfl, hfd, hv1, hv2, hv3⟩
      refine lv_aload_n hx hb dMo_near_5 rfl (lv_at hl 0 rfl) ?_
      refine lv_iconst (v := nI 2) hx hb dMo_near_6 (by decide) ?_
      refine lv_iload_n hx hb dMo_near_7 rfl (lv_at hl 1 rfl) ?_
      refine lv_iload_n hx hb dMo_near_8 rfl (lv_at hl 2 rfl) ?_
      refine lv_iconst (v := nI 0) hx hb dMo_near_9 (by decide) ?_
      refine hw_calli (va_runV (As := [.int (nI 2), .int kk, .int dx, .int (nI 0)]) (rest := []) ⟨hx, hb, hml, hown, hts⟩ (m_qB l D K X_1 H_2.size (a := a) (its := its) (sg := sg) (lg := lg) (st := st) (sd := sd) (hs := hs) (s_ := nI 2) (kind := kk) (d_ := dx) (e_ := nI 0) gm okm0 (by assumption)) (cwV 4 hts (hwGood (hw_4 mm_473 mm_474 mm_475 mm_365 (hwAll mm_472))) rfl rfl rfl (by decide +kernel) ⟨Nat.le_of_ble_eq_true rfl, Nat.le_of_ble_eq_true rfl⟩) (hw_preV hK hO hZ (moAt.ob gm) rfl) rfl rfl hl.1 rfl (lv_room (Nat.le_of_ble_eq_true rfl)) dMo_near_10 ⟨(show 0 + 0 ≤ 0 by omega), (show 0 + 0 ≤ 0 by omega)⟩) hZ hA (fun r X_4 H_5 lc_6 hp hZ => ?_)
      obtain ⟨hr, hF, hN_7⟩ := hp
      have hFr := hwF.tr hFr hF (fun _ h => h) (fun M h => by first | exact False.elim h | ((try dsimp only at h ⊢); omega))
      have ff_8 := hN_7
      refine hw_topi hr ?_
      exact hret hZ (by rw [askS_b (kN_bad hk)]; exact ⟨rfl, hFr, ff_8⟩) dMo_near_13
    · refine lv_aload_n hx hb dMo_near_0 rfl (lv_at hl 0 rfl) ?_
      refine lv_iconst (v := nI 0) hx hb dMo_near_1 (by decide) ?_
      refine hw_put (ty := .int) (fs' := [.int (nI 0), .int (nI its.length), .ref r1, .int (nI sg.length), .ref r2, .ref r3, .ref r4, .ref r5, .int (nI st.length), .ref r6, .int (nI sd.length), .ref r7, .int (nI na), .ref r8, .ref r9, .ref r10, .int (nI nw), .int (nI hs.length), .ref r11, .ref r12, .ref r13, .ref r14, .int (nI nt), .ref r15]) hx hb hts (hwInn inMo) tyMo tyMo_ok nmMo hown hK hZ gx rfl 0 (by decide) (hts (.fieldLink RMo 58 RMo "thrown" "I") (hwMem mm_471)) (fun _ h => h) rfl (by decide +kernel) rfl rfl (Nat.le_of_ble_eq_true rfl) rfl dMo_near_2 (fun X_9 H_10 lc_11 hZ hF hNw => ?_)
      have hFr := hwF.tr hFr hF (fun _ h => h) (fun M h => by first | exact False.elim h | ((try dsimp only at h ⊢); omega))
      have gx := hNw
      have g1 := hF _ _ _ (by intro hNS; first | exact False.elim hNS | ((try dsimp only at hNS); omega)) g1
      have g2 := hF _ _ _ (by intro hNS; first | exact False.elim hNS | ((try dsimp only at hNS); omega)) g2
      have g3 := hF _ _ _ (by intro hNS; first | exact False.elim hNS | ((try dsimp only at hNS); omega)) g3
      have g4 := hF _ _ _ (by intro hNS; first | exact False.elim hNS | ((try dsimp only at hNS); omega)) g4
      have g5 := rwAt.fr hF (by intro hNS; first | exact False.elim hNS | ((try dsimp only at hNS); omega)) g5
      have g6 := hF _ _ _ (by intro hNS; first | exact False.elim hNS | ((try dsimp only at hNS); omega)) g6
      have g7 := rwAt.fr hF (by intro hNS; first | exact False.elim hNS | ((try dsimp only at hNS); omega)) g7
      have g8 := rwAt.fr hF (by intro hNS; first | exact False.elim hNS | ((try dsimp only at hNS); omega)) g8
      have g9 := rwAt.fr hF (by intro hNS; first | exact False.elim hNS | ((try dsimp only at hNS); omega)) g9
      have g10 := rwAt.fr hF (by intro hNS; first | exact False.elim hNS | ((try dsimp only at hNS); omega)) g10
      have g11 := hF _ _ _ (by intro hNS; first | exact False.elim hNS | ((try dsimp only at hNS); omega)) g11
      have g12 := hF _ _ _ (by intro hNS; first | exact False.elim hNS | ((try dsimp only at hNS); omega)) g12
      have g13 := hF _ _ _ (by intro hNS; first | exact False.elim hNS | ((try dsimp only at hNS); omega)) g13
      have g14 := rwAt.fr hF (by intro hNS; first | exact False.elim hNS | ((try dsimp only at hNS); omega)) g14
      have g15 := hF _ _ _ (by intro hNS; first | exact False.elim hNS | ((try dsimp only at hNS); omega)) g15
      have gm : moAt K X_9 a its sg lg st sd hs := ⟨_, _, _, _, _, _, _, _, _, _, _, _, _, _, _, _, _, _, _, _, _, _, _, _, _, _, _, _, _, _, _, _, _, gx, g1, g2, g3, g4, g5, g6, g7, g8, g9, g10, g11, g12, g13, g14, g15, hft, hfg, hfp, hfl, hfd, hv1, hv2, hv3⟩
      refine lv_aload_n hx hb dMo_near_5 rfl (lv_at hl 0 rfl) ?_
      refine lv_iconst (v := nI 2) hx hb dMo_near_6 (by decide) ?_
      refine lv_iload_n hx hb dMo_near_7 rfl (lv_at hl 1 rfl) ?_
      refine lv_iload_n hx hb dMo_near_8 rfl (lv_at hl 2 rfl) ?_
      refine lv_iconst (v := nI 0) hx hb dMo_near_9 (by decide) ?_
      refine hw_calli (va_runV (As := [.int (nI 2), .int kk, .int (nI dd), .int (nI 0)]) (rest := []) ⟨hx, hb, hml, hown, hts⟩ (m_qB l D K X_9 H_10.size (a := a) (its := its) (sg := sg) (lg := lg) (st := st) (sd := sd) (hs := hs) (s_ := nI 2) (kind := kk) (d_ := nI dd) (e_ := nI 0) gm okm0 (by assumption)) (cwV 4 hts (hwGood (hw_4 mm_473 mm_474 mm_475 mm_365 (hwAll mm_472))) rfl rfl rfl (by decide +kernel) ⟨Nat.le_of_ble_eq_true rfl, Nat.le_of_ble_eq_true rfl⟩) (hw_preV hK hO hZ (moAt.ob gm) rfl) rfl rfl hl.1 rfl (lv_room (Nat.le_of_ble_eq_true rfl)) dMo_near_10 ⟨(show 0 + 0 ≤ 0 by omega), (show 0 + 0 ≤ 0 by omega)⟩) hZ hA (fun r X_12 H_13 lc_14 hp hZ => ?_)
      obtain ⟨hr, hF, hN_15⟩ := hp
      have hFr := hwF.tr hFr hF (fun _ h => h) (fun M h => by first | exact False.elim h | ((try dsimp only at h ⊢); omega))
      have ff_16 := hN_15
      refine hw_topi hr ?_
      exact hret hZ (by rw [askS_b (kN_bad hk)]; exact ⟨rfl, hFr, ff_16⟩) dMo_near_13
  · rcases d1_cases dx with hd | ⟨dd, hd1, hd2, rfl⟩
    · refine lv_aload_n hx hb dMo_near_0 rfl (lv_at hl 0 rfl) ?_
      refine lv_iconst (v := nI 0) hx hb dMo_near_1 (by decide) ?_
      refine hw_put (ty := .int) (fs' := [.int (nI 0), .int (nI its.length), .ref r1, .int (nI sg.length), .ref r2, .ref r3, .ref r4, .ref r5, .int (nI st.length), .ref r6, .int (nI sd.length), .ref r7, .int (nI na), .ref r8, .ref r9, .ref r10, .int (nI nw), .int (nI hs.length), .ref r11, .ref r12, .ref r13, .ref r14, .int (nI nt), .ref r15]) hx hb hts (hwInn inMo) tyMo tyMo_ok nmMo hown hK hZ gx rfl 0 (by decide) (hts (.fieldLink RMo 58 RMo "thrown" "I") (hwMem mm_471)) (fun _ h => h) rfl (by decide +kernel) rfl rfl (Nat.le_of_ble_eq_true rfl) rfl dMo_near_2 (fun X_17 H_18 lc_19 hZ hF hNw => ?_)
      have hFr := hwF.tr hFr hF (fun _ h => h) (fun M h => by first | exact False.elim h | ((try dsimp only at h ⊢); omega))
      have gx := hNw
      have g1 := hF _ _ _ (by intro hNS; first | exact False.elim hNS | ((try dsimp only at hNS); omega)) g1
      have g2 := hF _ _ _ (by intro hNS; first | exact False.elim hNS | ((try dsimp only at hNS); omega)) g2
      have g3 := hF _ _ _ (by intro hNS; first | exact False.elim hNS | ((try dsimp only at hNS); omega)) g3
      have g4 := hF _ _ _ (by intro hNS; first | exact False.elim hNS | ((try dsimp only at hNS); omega)) g4
      have g5 := rwAt.fr hF (by intro hNS; first | exact False.elim hNS | ((try dsimp only at hNS); omega)) g5
      have g6 := hF _ _ _ (by intro hNS; first | exact False.elim hNS | ((try dsimp only at hNS); omega)) g6
      have g7 := rwAt.fr hF (by intro hNS; first | exact False.elim hNS | ((try dsimp only at hNS); omega)) g7
      have g8 := rwAt.fr hF (by intro hNS; first | exact False.elim hNS | ((try dsimp only at hNS); omega)) g8
      have g9 := rwAt.fr hF (by intro hNS; first | exact False.elim hNS | ((try dsimp only at hNS); omega)) g9
      have g10 := rwAt.fr hF (by intro hNS; first | exact False.elim hNS | ((try dsimp only at hNS); omega)) g10
      have g11 := hF _ _ _ (by intro hNS; first | exact False.elim hNS | ((try dsimp only at hNS); omega)) g11
      have g12 := hF _ _ _ (by intro hNS; first | exact False.elim hNS | ((try dsimp only at hNS); omega)) g12
      have g13 := hF _ _ _ (by intro hNS; first | exact False.elim hNS | ((try dsimp only at hNS); omega)) g13
      have g14 := rwAt.fr hF (by intro hNS; first | exact False.elim hNS | ((try dsimp only at hNS); omega)) g14
      have g15 := hF _ _ _ (by intro hNS; first | exact False.elim hNS | ((try dsimp only at hNS); omega)) g15
      have gm : moAt K X_17 a its sg lg st sd hs := ⟨_, _, _, _, _, _, _, _, _, _, _, _, _, _, _, _, _, _, _, _, _, _, _, _, _, _, _, _, _, _, _, _, _, gx, g1, g2, g3, g4, g5, g6, g7, g8, g9, g10, g11, g12, g13, g14, g15, hft, hfg, hfp, hfl, hfd, hv1, hv2, hv3⟩
      refine lv_aload_n hx hb dMo_near_5 rfl (lv_at hl 0 rfl) ?_
      refine lv_iconst (v := nI 2) hx hb dMo_near_6 (by decide) ?_
      refine lv_iload_n hx hb dMo_near_7 rfl (lv_at hl 1 rfl) ?_
      refine lv_iload_n hx hb dMo_near_8 rfl (lv_at hl 2 rfl) ?_
      refine lv_iconst (v := nI 0) hx hb dMo_near_9 (by decide) ?_
      refine hw_calli (va_runV (As := [.int (nI 2), .int (nI j), .int dx, .int (nI 0)]) (rest := []) ⟨hx, hb, hml, hown, hts⟩ (m_q2 l D K X_17 H_18.size (a := a) (its := its) (sg := sg) (lg := lg) (st := st) (sd := sd) (hs := hs) (j := j) (dx := dx) gm okm0 (by omega) (by assumption)) (cwV 4 hts (hwGood (hw_4 mm_473 mm_474 mm_475 mm_365 (hwAll mm_472))) rfl rfl rfl (by decide +kernel) ⟨Nat.le_of_ble_eq_true rfl, Nat.le_of_ble_eq_true rfl⟩) (hw_preV hK hO hZ (moAt.ob gm) rfl) rfl rfl hl.1 rfl (lv_room (Nat.le_of_ble_eq_true rfl)) dMo_near_10 ⟨(show 0 + 0 ≤ 0 by omega), (show 0 + 0 ≤ 0 by omega)⟩) hZ hA (fun r X_20 H_21 lc_22 hp hZ => ?_)
      obtain ⟨hr, hF, hN_23⟩ := hp
      have hFr := hwF.tr hFr hF (fun _ h => h) (fun M h => by first | exact False.elim h | ((try dsimp only at h ⊢); omega))
      have ff_24 := hN_23
      refine hw_topi hr ?_
      exact hret hZ (by rw [askS_g (kN_nI hj)]; exact ⟨rfl, hFr, ff_24⟩) dMo_near_13
    · refine lv_aload_n hx hb dMo_near_0 rfl (lv_at hl 0 rfl) ?_
      refine lv_iconst (v := nI 0) hx hb dMo_near_1 (by decide) ?_
      refine hw_put (ty := .int) (fs' := [.int (nI 0), .int (nI its.length), .ref r1, .int (nI sg.length), .ref r2, .ref r3, .ref r4, .ref r5, .int (nI st.length), .ref r6, .int (nI sd.length), .ref r7, .int (nI na), .ref r8, .ref r9, .ref r10, .int (nI nw), .int (nI hs.length), .ref r11, .ref r12, .ref r13, .ref r14, .int (nI nt), .ref r15]) hx hb hts (hwInn inMo) tyMo tyMo_ok nmMo hown hK hZ gx rfl 0 (by decide) (hts (.fieldLink RMo 58 RMo "thrown" "I") (hwMem mm_471)) (fun _ h => h) rfl (by decide +kernel) rfl rfl (Nat.le_of_ble_eq_true rfl) rfl dMo_near_2 (fun X_25 H_26 lc_27 hZ hF hNw => ?_)
      have hFr := hwF.tr hFr hF (fun _ h => h) (fun M h => by first | exact False.elim h | ((try dsimp only at h ⊢); omega))
      have gx := hNw
      have g1 := hF _ _ _ (by intro hNS; first | exact False.elim hNS | ((try dsimp only at hNS); omega)) g1
      have g2 := hF _ _ _ (by intro hNS; first | exact False.elim hNS | ((try dsimp only at hNS); omega)) g2
      have g3 := hF _ _ _ (by intro hNS; first | exact False.elim hNS | ((try dsimp only at hNS); omega)) g3
      have g4 := hF _ _ _ (by intro hNS; first | exact False.elim hNS | ((try dsimp only at hNS); omega)) g4
      have g5 := rwAt.fr hF (by intro hNS; first | exact False.elim hNS | ((try dsimp only at hNS); omega)) g5
      have g6 := hF _ _ _ (by intro hNS; first | exact False.elim hNS | ((try dsimp only at hNS); omega)) g6
      have g7 := rwAt.fr hF (by intro hNS; first | exact False.elim hNS | ((try dsimp only at hNS); omega)) g7
      have g8 := rwAt.fr hF (by intro hNS; first | exact False.elim hNS | ((try dsimp only at hNS); omega)) g8
      have g9 := rwAt.fr hF (by intro hNS; first | exact False.elim hNS | ((try dsimp only at hNS); omega)) g9
      have g10 := rwAt.fr hF (by intro hNS; first | exact False.elim hNS | ((try dsimp only at hNS); omega)) g10
      have g11 := hF _ _ _ (by intro hNS; first | exact False.elim hNS | ((try dsimp only at hNS); omega)) g11
      have g12 := hF _ _ _ (by intro hNS; first | exact False.elim hNS | ((try dsimp only at hNS); omega)) g12
      have g13 := hF _ _ _ (by intro hNS; first | exact False.elim hNS | ((try dsimp only at hNS); omega)) g13
      have g14 := rwAt.fr hF (by intro hNS; first | exact False.elim hNS | ((try dsimp only at hNS); omega)) g14
      have g15 := hF _ _ _ (by intro hNS; first | exact False.elim hNS | ((try dsimp only at hNS); omega)) g15
      have gm : moAt K X_25 a its sg lg st sd hs := ⟨_, _, _, _, _, _, _, _, _, _, _, _, _, _, _, _, _, _, _, _, _, _, _, _, _, _, _, _, _, _, _, _, _, gx, g1, g2, g3, g4, g5, g6, g7, g8, g9, g10, g11, g12, g13, g14, g15, hft, hfg, hfp, hfl, hfd, hv1, hv2, hv3⟩
      refine lv_aload_n hx hb dMo_near_5 rfl (lv_at hl 0 rfl) ?_
      refine lv_iconst (v := nI 2) hx hb dMo_near_6 (by decide) ?_
      refine lv_iload_n hx hb dMo_near_7 rfl (lv_at hl 1 rfl) ?_
      refine lv_iload_n hx hb dMo_near_8 rfl (lv_at hl 2 rfl) ?_
      refine lv_iconst (v := nI 0) hx hb dMo_near_9 (by decide) ?_
      refine hw_calli (va_runV (As := [.int (nI 2), .int (nI j), .int (nI dd), .int (nI 0)]) (rest := []) ⟨hx, hb, hml, hown, hts⟩ (m_q2n l D K X_25 H_26.size (a := a) (its := its) (sg := sg) (lg := lg) (st := st) (sd := sd) (hs := hs) (j := j) (dd := dd) gm okm0 (by omega) (by omega) (by omega)) (cwV 4 hts (hwGood (hw_4 mm_473 mm_474 mm_475 mm_365 (hwAll mm_472))) rfl rfl rfl (by decide +kernel) ⟨Nat.le_of_ble_eq_true rfl, Nat.le_of_ble_eq_true rfl⟩) (hw_preV hK hO hZ (moAt.ob gm) rfl) rfl rfl hl.1 rfl (lv_room (Nat.le_of_ble_eq_true rfl)) dMo_near_10 ⟨(show 0 + 0 ≤ 0 by omega), (show 0 + 0 ≤ 0 by omega)⟩) hZ hA (fun r X_28 H_29 lc_30 hp hZ => ?_)
      obtain ⟨hr, hF, hN_31⟩ := hp
      have hFr := hwF.tr hFr hF (fun _ h => h) (fun M h => by first | exact False.elim h | ((try dsimp only at h ⊢); omega))
      have ff_32 := hN_31
      refine hw_topi hr ?_
      exact hret hZ (by rw [askS_g (kN_nI hj)]; exact ⟨rfl, hFr, ff_32⟩) dMo_near_13
set_option maxHeartbeats 4000000 in
set_option maxRecDepth 100000 in
theorem q_wild (l : Launch) (D : va_G) (K : Nat → ClassId) (X : hwW) (sz : Nat) (a : Nat) (its : hwIt) (sg : List (Nat × Nat)) (lg : Nat → Nat) (st : List (List Nat)) (sd : List Nat) (hs : List (Nat × Nat × Nat)) (kk : Int32) (be : Bool) (f0_ : moAt K X a its sg lg st sd hs) (okm : okM its sg lg st sd hs) : Met l yMo_wild (.code yMo_wild cMo_wild 3 (some .int) :: hwG) ({ frames := 4, cells := 0, slots := 0, locals := 100 } : Room) (hwPc D vwCl (hwT K) [.ref a, .int kk, .int (bI be)] X sz) (hwQi D vwCl X sz (fun r Y => r = nI (askS (fun j => hsW ((tkF sd).1.getD 0 []) be (Tf its lg st j) its.length) kk).length ∧ hwF X Y (fun M => 1000 ≤ M ∧ M < 1100) ∧ moAt K Y a its sg lg st [] (askS (fun j => hsW ((tkF sd).1.getD 0 []) be (Tf its lg st j) its.length) kk))) 0 0 (va_A X.1 sz) := by
  refine hwMeti (cc := cMo_wild) (maxL := 3) (by decide) rfl (Nat.le_of_ble_eq_true rfl) (fun p e s m args below meth c ls A Q hx hb hml hown hts hname hret hK hO hZ hA hl => ?_)
  have hl : lv_has ls 3 [(0, .ref a), (1, .int kk), (2, .int (bI be))] := hl
  have hFr : hwF X X (fun M => 1000 ≤ M ∧ M < 1100) := hwF.rf
  have okm0 := okm
  obtain ⟨hni3, hsl, hsb, hlg, hsd, hh30, hB, htx⟩ := okm
  obtain ⟨r1, r2, r3, r4, r5, r6, r7, r8, r9, r10, r11, r12, r13, r14, r15, tz, na, nw, nt, ft, fg, fp, fl, fd, f1, f2, f3, qa, rw, rt, at_, tm, y, gx, g1, g2, g3, g4, g5, g6, g7, g8, g9, g10, g11, g12, g13, g14, g15, hft, hfg, hfp, hfl, hfd, hv1, hv2, hv3⟩ := f0_
  have hst40 := rwAt.len g5
  rcases kN_cases kk with hk | ⟨j, hj, rfl⟩
  · refine lv_aload_n hx hb dMo_wild_0 rfl (lv_at hl 0 rfl) ?_
    refine lv_iconst (v := nI 0) hx hb dMo_wild_1 (by decide) ?_
    refine hw_put (ty := .int) (fs' := [.int (nI 0), .int (nI its.length), .ref r1, .int (nI sg.length), .ref r2, .ref r3, .ref r4, .ref r5, .int (nI st.length), .ref r6, .int (nI sd.length), .ref r7, .int (nI na), .ref r8, .ref r9, .ref r10, .int (nI nw), .int (nI hs.length), .ref r11, .ref r12, .ref r13, .ref r14, .int (nI nt), .ref r15]) hx hb hts (hwInn inMo) tyMo tyMo_ok nmMo hown hK hZ gx rfl 0 (by decide) (hts (.fieldLink RMo 58 RMo "thrown" "I") (hwMem mm_471)) (fun _ h => h) rfl (by decide +kernel) rfl rfl (Nat.le_of_ble_eq_true rfl) rfl dMo_wild_2 (fun X_1 H_2 lc_3 hZ hF hNw => ?_)
    have hFr := hwF.tr hFr hF (fun _ h => h) (fun M h => by first | exact False.elim h | ((try dsimp only at h ⊢); omega))
    have gx := hNw
    have g1 := hF _ _ _ (by intro hNS; first | exact False.elim hNS | ((try dsimp only at hNS); omega)) g1
    have g2 := hF _ _ _ (by intro hNS; first | exact False.elim hNS | ((try dsimp only at hNS); omega)) g2
    have g3 := hF _ _ _ (by intro hNS; first | exact False.elim hNS | ((try dsimp only at hNS); omega)) g3
    have g4 := hF _ _ _ (by intro hNS; first | exact False.elim hNS | ((try dsimp only at hNS); omega)) g4
    have g5 := rwAt.fr hF (by intro hNS; first | exact False.elim hNS | ((try dsimp only at hNS); omega)) g5
    have g6 := hF _ _ _ (by intro hNS; first | exact False.elim hNS | ((try dsimp only at hNS); omega)) g6
    have g7 := rwAt.fr hF (by intro hNS; first | exact False.elim hNS | ((try dsimp only at hNS); omega)) g7
    have g8 := rwAt.fr hF (by intro hNS; first | exact False.elim hNS | ((try dsimp only at hNS); omega)) g8
    have g9 := rwAt.fr hF (by intro hNS; first | exact False.elim hNS | ((try dsimp only at hNS); omega)) g9
    have g10 := rwAt.fr hF (by intro hNS; first | exact False.elim hNS | ((try dsimp only at hNS); omega)) g10
    have g11 := hF _ _ _ (by intro hNS; first | exact False.elim hNS | ((try dsimp only at hNS); omega)) g11
    have g12 := hF _ _ _ (by intro hNS; first | exact False.elim hNS | ((try dsimp only at hNS); omega)) g12
    have g13 := hF _ _ _ (by intro hNS; first | exact False.elim hNS | ((try dsimp only at hNS); omega)) g13
    have g14 := rwAt.fr hF (by intro hNS; first | exact False.elim hNS | ((try dsimp only at hNS); omega)) g14
    have g15 := hF _ _ _ (by intro hNS; first | exact False.elim hNS | ((try dsimp only at hNS); omega)) g15
    have gm : moAt K X_1 a its sg lg st sd hs := ⟨_, _, _, _, _, _, _, _, _, _, _, _, _, _, _, _, _, _, _, _, _, _, _, _, _, _, _, _, _, _, _, _, _, gx, g1, g2, g3, g4, g5, g6, g7, g8, g9, g10, g11, g12, g13, g14, g15, hft, hfg, hfp, hfl, hfd, hv1, hv2, hv3⟩
    refine lv_aload_n hx hb dMo_wild_5 rfl (lv_at hl 0 rfl) ?_
    refine lv_iconst (v := nI 3) hx hb dMo_wild_6 (by decide) ?_
    refine lv_iload_n hx hb dMo_wild_7 rfl (lv_at hl 1 rfl) ?_
    refine lv_iconst (v := nI 0) hx hb dMo_wild_8 (by decide) ?_
    refine lv_iload_n hx hb dMo_wild_9 rfl (lv_at hl 2 rfl) ?_
    refine hw_calli (va_runV (As := [.int (nI 3), .int kk, .int (nI 0), .int (bI be)]) (rest := []) ⟨hx, hb, hml, hown, hts⟩ (m_qB l D K X_1 H_2.size (a := a) (its := its) (sg := sg) (lg := lg) (st := st) (sd := sd) (hs := hs) (s_ := nI 3) (kind := kk) (d_ := nI 0) (e_ := bI be) gm okm0 (by assumption)) (cwV 4 hts (hwGood (hw_4 mm_473 mm_474 mm_475 mm_365 (hwAll mm_472))) rfl rfl rfl (by decide +kernel) ⟨Nat.le_of_ble_eq_true rfl, Nat.le_of_ble_eq_true rfl⟩) (hw_preV hK hO hZ (moAt.ob gm) rfl) rfl rfl hl.1 rfl (lv_room (Nat.le_of_ble_eq_true rfl)) dMo_wild_10 ⟨(show 0 + 0 ≤ 0 by omega), (show 0 + 0 ≤ 0 by omega)⟩) hZ hA (fun r X_4 H_5 lc_6 hp hZ => ?_)
    obtain ⟨hr, hF, hN_7⟩ := hp
    have hFr := hwF.tr hFr hF (fun _ h => h) (fun M h => by first | exact False.elim h | ((try dsimp only at h ⊢); omega))
    have ff_8 := hN_7
    refine hw_topi hr ?_
    exact hret hZ (by rw [askS_b (kN_bad hk)]; exact ⟨rfl, hFr, ff_8⟩) dMo_wild_13
  · refine lv_aload_n hx hb dMo_wild_0 rfl (lv_at hl 0 rfl) ?_
    refine lv_iconst (v := nI 0) hx hb dMo_wild_1 (by decide) ?_
    refine hw_put (ty := .int) (fs' := [.int (nI 0), .int (nI its.length), .ref r1, .int (nI sg.length), .ref r2, .ref r3, .ref r4, .ref r5, .int (nI st.length), .ref r6, .int (nI sd.length), .ref r7, .int (nI na), .ref r8, .ref r9, .ref r10, .int (nI nw), .int (nI hs.length), .ref r11, .ref r12, .ref r13, .ref r14, .int (nI nt), .ref r15]) hx hb hts (hwInn inMo) tyMo tyMo_ok nmMo hown hK hZ gx rfl 0 (by decide) (hts (.fieldLink RMo 58 RMo "thrown" "I") (hwMem mm_471)) (fun _ h => h) rfl (by decide +kernel) rfl rfl (Nat.le_of_ble_eq_true rfl) rfl dMo_wild_2 (fun X_9 H_10 lc_11 hZ hF hNw => ?_)
    have hFr := hwF.tr hFr hF (fun _ h => h) (fun M h => by first | exact False.elim h | ((try dsimp only at h ⊢); omega))
    have gx := hNw
    have g1 := hF _ _ _ (by intro hNS; first | exact False.elim hNS | ((try dsimp only at hNS); omega)) g1
    have g2 := hF _ _ _ (by intro hNS; first | exact False.elim hNS | ((try dsimp only at hNS); omega)) g2
    have g3 := hF _ _ _ (by intro hNS; first | exact False.elim hNS | ((try dsimp only at hNS); omega)) g3
    have g4 := hF _ _ _ (by intro hNS; first | exact False.elim hNS | ((try dsimp only at hNS); omega)) g4
    have g5 := rwAt.fr hF (by intro hNS; first | exact False.elim hNS | ((try dsimp only at hNS); omega)) g5
    have g6 := hF _ _ _ (by intro hNS; first | exact False.elim hNS | ((try dsimp only at hNS); omega)) g6
    have g7 := rwAt.fr hF (by intro hNS; first | exact False.elim hNS | ((try dsimp only at hNS); omega)) g7
    have g8 := rwAt.fr hF (by intro hNS; first | exact False.elim hNS | ((try dsimp only at hNS); omega)) g8
    have g9 := rwAt.fr hF (by intro hNS; first | exact False.elim hNS | ((try dsimp only at hNS); omega)) g9
    have g10 := rwAt.fr hF (by intro hNS; first | exact False.elim hNS | ((try dsimp only at hNS); omega)) g10
    have g11 := hF _ _ _ (by intro hNS; first | exact False.elim hNS | ((try dsimp only at hNS); omega)) g11
    have g12 := hF _ _ _ (by intro hNS; first | exact False.elim hNS | ((try dsimp only at hNS); omega)) g12
    have g13 := hF _ _ _ (by intro hNS; first | exact False.elim hNS | ((try dsimp only at hNS); omega)) g13
    have g14 := rwAt.fr hF (by intro hNS; first | exact False.elim hNS | ((try dsimp only at hNS); omega)) g14
    have g15 := hF _ _ _ (by intro hNS; first | exact False.elim hNS | ((try dsimp only at hNS); omega)) g15
    have gm : moAt K X_9 a its sg lg st sd hs := ⟨_, _, _, _, _, _, _, _, _, _, _, _, _, _, _, _, _, _, _, _, _, _, _, _, _, _, _, _, _, _, _, _, _, gx, g1, g2, g3, g4, g5, g6, g7, g8, g9, g10, g11, g12, g13, g14, g15, hft, hfg, hfp, hfl, hfd, hv1, hv2, hv3⟩
    refine lv_aload_n hx hb dMo_wild_5 rfl (lv_at hl 0 rfl) ?_
    refine lv_iconst (v := nI 3) hx hb dMo_wild_6 (by decide) ?_
    refine lv_iload_n hx hb dMo_wild_7 rfl (lv_at hl 1 rfl) ?_
    refine lv_iconst (v := nI 0) hx hb dMo_wild_8 (by decide) ?_
    refine lv_iload_n hx hb dMo_wild_9 rfl (lv_at hl 2 rfl) ?_
    refine hw_calli (va_runV (As := [.int (nI 3), .int (nI j), .int (nI 0), .int (bI be)]) (rest := []) ⟨hx, hb, hml, hown, hts⟩ (m_q3 l D K X_9 H_10.size (a := a) (its := its) (sg := sg) (lg := lg) (st := st) (sd := sd) (hs := hs) (j := j) (be := be) gm okm0 (by omega)) (cwV 4 hts (hwGood (hw_4 mm_473 mm_474 mm_475 mm_365 (hwAll mm_472))) rfl rfl rfl (by decide +kernel) ⟨Nat.le_of_ble_eq_true rfl, Nat.le_of_ble_eq_true rfl⟩) (hw_preV hK hO hZ (moAt.ob gm) rfl) rfl rfl hl.1 rfl (lv_room (Nat.le_of_ble_eq_true rfl)) dMo_wild_10 ⟨(show 0 + 0 ≤ 0 by omega), (show 0 + 0 ≤ 0 by omega)⟩) hZ hA (fun r X_12 H_13 lc_14 hp hZ => ?_)
    obtain ⟨hr, hF, hN_15⟩ := hp
    have hFr := hwF.tr hFr hF (fun _ h => h) (fun M h => by first | exact False.elim h | ((try dsimp only at h ⊢); omega))
    have ff_16 := hN_15
    refine hw_topi hr ?_
    exact hret hZ (by rw [askS_g (kN_nI hj)]; exact ⟨rfl, hFr, ff_16⟩) dMo_wild_13
set_option maxHeartbeats 4000000 in
set_option maxRecDepth 100000 in
theorem q_hit (l : Launch) (D : va_G) (K : Nat → ClassId) (X : hwW) (sz : Nat) (a : Nat) (its : hwIt) (sg : List (Nat × Nat)) (lg : Nat → Nat) (st : List (List Nat)) (sd : List Nat) (hs : List (Nat × Nat × Nat)) (ii : Int32) (what : Int32) (f0_ : moAt K X a its sg lg st sd hs) (okm : okM its sg lg st sd hs) : Met l yMo_hit (.code yMo_hit cMo_hit 3 (some .int) :: hwG) ({ frames := 0, cells := 0, slots := 0, locals := 0 } : Room) (hwPc D vwCl (hwT K) [.ref a, .int ii, .int what] X sz) (hwQi D vwCl X sz (fun r Y => r = hitP hs ii what ∧ hwF X Y (fun M => 1000 ≤ M ∧ M < 1100) ∧ moAt K Y a its sg lg st sd hs)) 0 0 (va_A X.1 sz) := by
  refine hwMeti (cc := cMo_hit) (maxL := 3) (by decide) rfl (Nat.le_of_ble_eq_true rfl) (fun p e s m args below meth c ls A Q hx hb hml hown hts hname hret hK hO hZ hA hl => ?_)
  have hl : lv_has ls 3 [(0, .ref a), (1, .int ii), (2, .int what)] := hl
  have hFr : hwF X X (fun M => 1000 ≤ M ∧ M < 1100) := hwF.rf
  obtain ⟨hni3, hsl, hsb, hlg, hsd, hh30, hB, htx⟩ := okm
  obtain ⟨r1, r2, r3, r4, r5, r6, r7, r8, r9, r10, r11, r12, r13, r14, r15, tz, na, nw, nt, ft, fg, fp, fl, fd, f1, f2, f3, qa, rw, rt, at_, tm, y, gx, g1, g2, g3, g4, g5, g6, g7, g8, g9, g10, g11, g12, g13, g14, g15, hft, hfg, hfp, hfl, hfd, hv1, hv2, hv3⟩ := f0_
  have hst40 := rwAt.len g5
  rcases nI_cases ii with hi0 | ⟨x, hx2, rfl⟩
  · refine lv_aload_n hx hb dMo_hit_0 rfl (lv_at hl 0 rfl) ?_
    refine lv_iconst (v := nI 0) hx hb dMo_hit_1 (by decide) ?_
    refine hw_put (ty := .int) (fs' := [.int (nI 0), .int (nI its.length), .ref r1, .int (nI sg.length), .ref r2, .ref r3, .ref r4, .ref r5, .int (nI st.length), .ref r6, .int (nI sd.length), .ref r7, .int (nI na), .ref r8, .ref r9, .ref r10, .int (nI nw), .int (nI hs.length), .ref r11, .ref r12, .ref r13, .ref r14, .int (nI nt), .ref r15]) hx hb hts (hwInn inMo) tyMo tyMo_ok nmMo hown hK hZ gx rfl 0 (by decide) (hts (.fieldLink RMo 58 RMo "thrown" "I") (hwMem mm_471)) (fun _ h => h) rfl (by decide +kernel) rfl rfl (Nat.le_of_ble_eq_true rfl) rfl dMo_hit_2 (fun X_1 H_2 lc_3 hZ hF hNw => ?_)
    have hFr := hwF.tr hFr hF (fun _ h => h) (fun M h => by first | exact False.elim h | ((try dsimp only at h ⊢); omega))
    have gx := hNw
    have g1 := hF _ _ _ (by intro hNS; first | exact False.elim hNS | ((try dsimp only at hNS); omega)) g1
    have g2 := hF _ _ _ (by intro hNS; first | exact False.elim hNS | ((try dsimp only at hNS); omega)) g2
    have g3 := hF _ _ _ (by intro hNS; first | exact False.elim hNS | ((try dsimp only at hNS); omega)) g3
    have g4 := hF _ _ _ (by intro hNS; first | exact False.elim hNS | ((try dsimp only at hNS); omega)) g4
    have g5 := rwAt.fr hF (by intro hNS; first | exact False.elim hNS | ((try dsimp only at hNS); omega)) g5
    have g6 := hF _ _ _ (by intro hNS; first | exact False.elim hNS | ((try dsimp only at hNS); omega)) g6
    have g7 := rwAt.fr hF (by intro hNS; first | exact False.elim hNS | ((try dsimp only at hNS); omega)) g7
    have g8 := rwAt.fr hF (by intro hNS; first | exact False.elim hNS | ((try dsimp only at hNS); omega)) g8
    have g9 := rwAt.fr hF (by intro hNS; first | exact False.elim hNS | ((try dsimp only at hNS); omega)) g9
    have g10 := rwAt.fr hF (by intro hNS; first | exact False.elim hNS | ((try dsimp only at hNS); omega)) g10
    have g11 := hF _ _ _ (by intro hNS; first | exact False.elim hNS | ((try dsimp only at hNS); omega)) g11
    have g12 := hF _ _ _ (by intro hNS; first | exact False.elim hNS | ((try dsimp only at hNS); omega)) g12
    have g13 := hF _ _ _ (by intro hNS; first | exact False.elim hNS | ((try dsimp only at hNS); omega)) g13
    have g14 := rwAt.fr hF (by intro hNS; first | exact False.elim hNS | ((try dsimp only at hNS); omega)) g14
    have g15 := hF _ _ _ (by intro hNS; first | exact False.elim hNS | ((try dsimp only at hNS); omega)) g15
    refine lv_iload_n hx hb dMo_hit_5 rfl (lv_at hl 1 rfl) ?_
    refine lv_if_lt (tgt := 17) hx hb dMo_hit_6 (by decide) (fun cq_4 => ?_) (fun cq_4 => absurd hi0 cq_4)
    refine lv_iconst (v := nI 0) hx hb dMo_hit_17 (by decide) ?_
    refine lv_goto (tgt := 49) hx hb dMo_hit_18 (by decide) ?_
    exact hret hZ ⟨by rw [hitP_out (hA_neg hi0)], hFr, ⟨_, _, _, _, _, _, _, _, _, _, _, _, _, _, _, _, _, _, _, _, _, _, _, _, _, _, _, _, _, _, _, _, _, gx, g1, g2, g3, g4, g5, g6, g7, g8, g9, g10, g11, g12, g13, g14, g15, hft, hfg, hfp, hfl, hfd, hv1, hv2, hv3⟩⟩ dMo_hit_49
  · refine lv_aload_n hx hb dMo_hit_0 rfl (lv_at hl 0 rfl) ?_
    refine lv_iconst (v := nI 0) hx hb dMo_hit_1 (by decide) ?_
    refine hw_put (ty := .int) (fs' := [.int (nI 0), .int (nI its.length), .ref r1, .int (nI sg.length), .ref r2, .ref r3, .ref r4, .ref r5, .int (nI st.length), .ref r6, .int (nI sd.length), .ref r7, .int (nI na), .ref r8, .ref r9, .ref r10, .int (nI nw), .int (nI hs.length), .ref r11, .ref r12, .ref r13, .ref r14, .int (nI nt), .ref r15]) hx hb hts (hwInn inMo) tyMo tyMo_ok nmMo hown hK hZ gx rfl 0 (by decide) (hts (.fieldLink RMo 58 RMo "thrown" "I") (hwMem mm_471)) (fun _ h => h) rfl (by decide +kernel) rfl rfl (Nat.le_of_ble_eq_true rfl) rfl dMo_hit_2 (fun X_5 H_6 lc_7 hZ hF hNw => ?_)
    have hFr := hwF.tr hFr hF (fun _ h => h) (fun M h => by first | exact False.elim h | ((try dsimp only at h ⊢); omega))
    have gx := hNw
    have g1 := hF _ _ _ (by intro hNS; first | exact False.elim hNS | ((try dsimp only at hNS); omega)) g1
    have g2 := hF _ _ _ (by intro hNS; first | exact False.elim hNS | ((try dsimp only at hNS); omega)) g2
    have g3 := hF _ _ _ (by intro hNS; first | exact False.elim hNS | ((try dsimp only at hNS); omega)) g3
    have g4 := hF _ _ _ (by intro hNS; first | exact False.elim hNS | ((try dsimp only at hNS); omega)) g4
    have g5 := rwAt.fr hF (by intro hNS; first | exact False.elim hNS | ((try dsimp only at hNS); omega)) g5
    have g6 := hF _ _ _ (by intro hNS; first | exact False.elim hNS | ((try dsimp only at hNS); omega)) g6
    have g7 := rwAt.fr hF (by intro hNS; first | exact False.elim hNS | ((try dsimp only at hNS); omega)) g7
    have g8 := rwAt.fr hF (by intro hNS; first | exact False.elim hNS | ((try dsimp only at hNS); omega)) g8
    have g9 := rwAt.fr hF (by intro hNS; first | exact False.elim hNS | ((try dsimp only at hNS); omega)) g9
    have g10 := rwAt.fr hF (by intro hNS; first | exact False.elim hNS | ((try dsimp only at hNS); omega)) g10
    have g11 := hF _ _ _ (by intro hNS; first | exact False.elim hNS | ((try dsimp only at hNS); omega)) g11
    have g12 := hF _ _ _ (by intro hNS; first | exact False.elim hNS | ((try dsimp only at hNS); omega)) g12
    have g13 := hF _ _ _ (by intro hNS; first | exact False.elim hNS | ((try dsimp only at hNS); omega)) g13
    have g14 := rwAt.fr hF (by intro hNS; first | exact False.elim hNS | ((try dsimp only at hNS); omega)) g14
    have g15 := hF _ _ _ (by intro hNS; first | exact False.elim hNS | ((try dsimp only at hNS); omega)) g15
    refine lv_iload_n hx hb dMo_hit_5 rfl (lv_at hl 1 rfl) ?_
    refine hw_if_lt (a := x) (tgt := 17) hx hb dMo_hit_6 (by decide) (by omega) (fun cq_8 => by exfalso; omega) (fun cq_8 => ?_)
    refine lv_iload_n hx hb dMo_hit_9 rfl (lv_at hl 1 rfl) ?_
    refine lv_aload_n hx hb dMo_hit_10 rfl (lv_at hl 0 rfl) ?_
    refine hw_get hx hb hts (hwInn inMo) hown hK hZ gx rfl 17 (by decide) (hts (.fieldLink RMo 111 RMo "hits" "I") (hwMem mm_409)) (fun _ h => h) rfl dMo_hit_11 ?_
    refine hw_ic_lt (a := x) (b := hs.length) (tgt := 21) hx hb dMo_hit_14 (by decide) (by omega) (by omega) (fun cq_9 => ?_) (fun cq_9 => ?_)
    · refine lv_iload_n hx hb dMo_hit_21 rfl (lv_at hl 2 rfl) ?_
      refine lv_if_ne (tgt := 34) hx hb dMo_hit_22 (by decide) (fun cq_10 => ?_) (fun cq_10 => ?_)
      · refine lv_iload_n hx hb dMo_hit_34 rfl (lv_at hl 2 rfl) ?_
        refine lv_iconst (v := nI 1) hx hb dMo_hit_35 (by decide) ?_
        refine lv_icmp_ne (tgt := 48) hx hb dMo_hit_36 (by decide) (fun cq_11 => ?_) (fun cq_11 => ?_)
        · refine lv_iconst (v := nI 0) hx hb dMo_hit_48 (by decide) ?_
          exact hret hZ ⟨by unfold hitP; rw [if_neg cq_10, if_neg cq_11], hFr, ⟨_, _, _, _, _, _, _, _, _, _, _, _, _, _, _, _, _, _, _, _, _, _, _, _, _, _, _, _, _, _, _, _, _, gx, g1, g2, g3, g4, g5, g6, g7, g8, g9, g10, g11, g12, g13, g14, g15, hft, hfg, hfp, hfl, hfd, hv1, hv2, hv3⟩⟩ dMo_hit_49
        · refine lv_aload_n hx hb dMo_hit_39 rfl (lv_at hl 0 rfl) ?_
          refine hw_get hx hb hts (hwInn inMo) hown hK hZ gx rfl 19 (by decide) (hts (.fieldLink RMo 46 RMo "hitCount" "[I") (hwMem mm_411)) (fun _ h => h) rfl dMo_hit_40 ?_
          refine lv_iload_n hx hb dMo_hit_43 rfl (lv_at hl 1 rfl) ?_
          refine hw_iald hx hb hK hZ 0 g12 rfl (j := x) (by omega) (by omega) dMo_hit_44 ?_
          refine lv_goto (tgt := 49) hx hb dMo_hit_45 (by decide) ?_
          exact hret hZ ⟨by unfold hitP; rw [if_neg cq_10, if_pos cq_11, hA_nI hx2]; exact hv2 x (by omega), hFr, ⟨_, _, _, _, _, _, _, _, _, _, _, _, _, _, _, _, _, _, _, _, _, _, _, _, _, _, _, _, _, _, _, _, _, gx, g1, g2, g3, g4, g5, g6, g7, g8, g9, g10, g11, g12, g13, g14, g15, hft, hfg, hfp, hfl, hfd, hv1, hv2, hv3⟩⟩ dMo_hit_49
      · refine lv_aload_n hx hb dMo_hit_25 rfl (lv_at hl 0 rfl) ?_
        refine hw_get hx hb hts (hwInn inMo) hown hK hZ gx rfl 18 (by decide) (hts (.fieldLink RMo 43 RMo "hitRecord" "[I") (hwMem mm_410)) (fun _ h => h) rfl dMo_hit_26 ?_
        refine lv_iload_n hx hb dMo_hit_29 rfl (lv_at hl 1 rfl) ?_
        refine hw_iald hx hb hK hZ 0 g11 rfl (j := x) (by omega) (by omega) dMo_hit_30 ?_
        refine lv_goto (tgt := 49) hx hb dMo_hit_31 (by decide) ?_
        exact hret hZ ⟨by unfold hitP; rw [if_pos cq_10, hA_nI hx2]; exact hv1 x (by omega), hFr, ⟨_, _, _, _, _, _, _, _, _, _, _, _, _, _, _, _, _, _, _, _, _, _, _, _, _, _, _, _, _, _, _, _, _, gx, g1, g2, g3, g4, g5, g6, g7, g8, g9, g10, g11, g12, g13, g14, g15, hft, hfg, hfp, hfl, hfd, hv1, hv2, hv3⟩⟩ dMo_hit_49
    · refine lv_iconst (v := nI 0) hx hb dMo_hit_17 (by decide) ?_
      refine lv_goto (tgt := 49) hx hb dMo_hit_18 (by decide) ?_
      exact hret hZ ⟨by rw [hitP_out ((hA_nI hx2).trans (getH_out (by omega)))], hFr, ⟨_, _, _, _, _, _, _, _, _, _, _, _, _, _, _, _, _, _, _, _, _, _, _, _, _, _, _, _, _, _, _, _, _, gx, g1, g2, g3, g4, g5, g6, g7, g8, g9, g10, g11, g12, g13, g14, g15, hft, hfg, hfp, hfl, hfd, hv1, hv2, hv3⟩⟩ dMo_hit_49
set_option maxHeartbeats 4000000 in
set_option maxRecDepth 100000 in
theorem q_rank (l : Launch) (D : va_G) (K : Nat → ClassId) (X : hwW) (sz : Nat) (a : Nat) (its : hwIt) (sg : List (Nat × Nat)) (lg : Nat → Nat) (st : List (List Nat)) (sd : List Nat) (hs : List (Nat × Nat × Nat)) (ii : Int32) (side : Int32) (f0_ : moAt K X a its sg lg st sd hs) (okm : okM its sg lg st sd hs) (hpp : okP hs) : Met l yMo_rank (.code yMo_rank cMo_rank 6 (some .long) :: hwG) ({ frames := 0, cells := 0, slots := 0, locals := 0 } : Room) (hwPc D vwCl (hwT K) [.ref a, .int ii, .int side] X sz) (hwQl D vwCl X sz (fun r Y => r = rankP hs ii side ∧ hwF X Y (fun M => 1000 ≤ M ∧ M < 1100) ∧ moAt K Y a its sg lg st sd hs)) 0 0 (va_A X.1 sz) := by
  refine hwMetl (cc := cMo_rank) (maxL := 6) (by decide) rfl (Nat.le_of_ble_eq_true rfl) (fun p e s m args below meth c ls A Q hx hb hml hown hts hname hret hK hO hZ hA hl => ?_)
  have hl : lv_has ls 6 [(0, .ref a), (1, .int ii), (2, .int side)] := hl
  have hFr : hwF X X (fun M => 1000 ≤ M ∧ M < 1100) := hwF.rf
  obtain ⟨hni3, hsl, hsb, hlg, hsd, hh30, hB, htx⟩ := okm
  obtain ⟨r1, r2, r3, r4, r5, r6, r7, r8, r9, r10, r11, r12, r13, r14, r15, tz, na, nw, nt, ft, fg, fp, fl, fd, f1, f2, f3, qa, rw, rt, at_, tm, y, gx, g1, g2, g3, g4, g5, g6, g7, g8, g9, g10, g11, g12, g13, g14, g15, hft, hfg, hfp, hfl, hfd, hv1, hv2, hv3⟩ := f0_
  have hst40 := rwAt.len g5
  rcases nI_cases ii with hi0 | ⟨x, hx2, rfl⟩
  · refine lv_aload_n hx hb dMo_rank_0 rfl (lv_at hl 0 rfl) ?_
    refine lv_iconst (v := nI 0) hx hb dMo_rank_1 (by decide) ?_
    refine hw_put (ty := .int) (fs' := [.int (nI 0), .int (nI its.length), .ref r1, .int (nI sg.length), .ref r2, .ref r3, .ref r4, .ref r5, .int (nI st.length), .ref r6, .int (nI sd.length), .ref r7, .int (nI na), .ref r8, .ref r9, .ref r10, .int (nI nw), .int (nI hs.length), .ref r11, .ref r12, .ref r13, .ref r14, .int (nI nt), .ref r15]) hx hb hts (hwInn inMo) tyMo tyMo_ok nmMo hown hK hZ gx rfl 0 (by decide) (hts (.fieldLink RMo 58 RMo "thrown" "I") (hwMem mm_471)) (fun _ h => h) rfl (by decide +kernel) rfl rfl (Nat.le_of_ble_eq_true rfl) rfl dMo_rank_2 (fun X_1 H_2 lc_3 hZ hF hNw => ?_)
    have hFr := hwF.tr hFr hF (fun _ h => h) (fun M h => by first | exact False.elim h | ((try dsimp only at h ⊢); omega))
    have gx := hNw
    have g1 := hF _ _ _ (by intro hNS; first | exact False.elim hNS | ((try dsimp only at hNS); omega)) g1
    have g2 := hF _ _ _ (by intro hNS; first | exact False.elim hNS | ((try dsimp only at hNS); omega)) g2
    have g3 := hF _ _ _ (by intro hNS; first | exact False.elim hNS | ((try dsimp only at hNS); omega)) g3
    have g4 := hF _ _ _ (by intro hNS; first | exact False.elim hNS | ((try dsimp only at hNS); omega)) g4
    have g5 := rwAt.fr hF (by intro hNS; first | exact False.elim hNS | ((try dsimp only at hNS); omega)) g5
    have g6 := hF _ _ _ (by intro hNS; first | exact False.elim hNS | ((try dsimp only at hNS); omega)) g6
    have g7 := rwAt.fr hF (by intro hNS; first | exact False.elim hNS | ((try dsimp only at hNS); omega)) g7
    have g8 := rwAt.fr hF (by intro hNS; first | exact False.elim hNS | ((try dsimp only at hNS); omega)) g8
    have g9 := rwAt.fr hF (by intro hNS; first | exact False.elim hNS | ((try dsimp only at hNS); omega)) g9
    have g10 := rwAt.fr hF (by intro hNS; first | exact False.elim hNS | ((try dsimp only at hNS); omega)) g10
    have g11 := hF _ _ _ (by intro hNS; first | exact False.elim hNS | ((try dsimp only at hNS); omega)) g11
    have g12 := hF _ _ _ (by intro hNS; first | exact False.elim hNS | ((try dsimp only at hNS); omega)) g12
    have g13 := hF _ _ _ (by intro hNS; first | exact False.elim hNS | ((try dsimp only at hNS); omega)) g13
    have g14 := rwAt.fr hF (by intro hNS; first | exact False.elim hNS | ((try dsimp only at hNS); omega)) g14
    have g15 := hF _ _ _ (by intro hNS; first | exact False.elim hNS | ((try dsimp only at hNS); omega)) g15
    refine lv_iload_n hx hb dMo_rank_5 rfl (lv_at hl 1 rfl) ?_
    refine lv_if_lt (tgt := 17) hx hb dMo_rank_6 (by decide) (fun cq_4 => ?_) (fun cq_4 => absurd hi0 cq_4)
    refine lv_ldc2 (v := (-1)) hx hb hown (hts (.constantLong RMo 159 (-1)) (hwMem mm_476)) dMo_rank_17 ?_
    exact hret hZ ⟨by rw [rankP_out (hA_neg hi0)], hFr, ⟨_, _, _, _, _, _, _, _, _, _, _, _, _, _, _, _, _, _, _, _, _, _, _, _, _, _, _, _, _, _, _, _, _, gx, g1, g2, g3, g4, g5, g6, g7, g8, g9, g10, g11, g12, g13, g14, g15, hft, hfg, hfp, hfl, hfd, hv1, hv2, hv3⟩⟩ dMo_rank_20
  · refine lv_aload_n hx hb dMo_rank_0 rfl (lv_at hl 0 rfl) ?_
    refine lv_iconst (v := nI 0) hx hb dMo_rank_1 (by decide) ?_
    refine hw_put (ty := .int) (fs' := [.int (nI 0), .int (nI its.length), .ref r1, .int (nI sg.length), .ref r2, .ref r3, .ref r4, .ref r5, .int (nI st.length), .ref r6, .int (nI sd.length), .ref r7, .int (nI na), .ref r8, .ref r9, .ref r10, .int (nI nw), .int (nI hs.length), .ref r11, .ref r12, .ref r13, .ref r14, .int (nI nt), .ref r15]) hx hb hts (hwInn inMo) tyMo tyMo_ok nmMo hown hK hZ gx rfl 0 (by decide) (hts (.fieldLink RMo 58 RMo "thrown" "I") (hwMem mm_471)) (fun _ h => h) rfl (by decide +kernel) rfl rfl (Nat.le_of_ble_eq_true rfl) rfl dMo_rank_2 (fun X_5 H_6 lc_7 hZ hF hNw => ?_)
    have hFr := hwF.tr hFr hF (fun _ h => h) (fun M h => by first | exact False.elim h | ((try dsimp only at h ⊢); omega))
    have gx := hNw
    have g1 := hF _ _ _ (by intro hNS; first | exact False.elim hNS | ((try dsimp only at hNS); omega)) g1
    have g2 := hF _ _ _ (by intro hNS; first | exact False.elim hNS | ((try dsimp only at hNS); omega)) g2
    have g3 := hF _ _ _ (by intro hNS; first | exact False.elim hNS | ((try dsimp only at hNS); omega)) g3
    have g4 := hF _ _ _ (by intro hNS; first | exact False.elim hNS | ((try dsimp only at hNS); omega)) g4
    have g5 := rwAt.fr hF (by intro hNS; first | exact False.elim hNS | ((try dsimp only at hNS); omega)) g5
    have g6 := hF _ _ _ (by intro hNS; first | exact False.elim hNS | ((try dsimp only at hNS); omega)) g6
    have g7 := rwAt.fr hF (by intro hNS; first | exact False.elim hNS | ((try dsimp only at hNS); omega)) g7
    have g8 := rwAt.fr hF (by intro hNS; first | exact False.elim hNS | ((try dsimp only at hNS); omega)) g8
    have g9 := rwAt.fr hF (by intro hNS; first | exact False.elim hNS | ((try dsimp only at hNS); omega)) g9
    have g10 := rwAt.fr hF (by intro hNS; first | exact False.elim hNS | ((try dsimp only at hNS); omega)) g10
    have g11 := hF _ _ _ (by intro hNS; first | exact False.elim hNS | ((try dsimp only at hNS); omega)) g11
    have g12 := hF _ _ _ (by intro hNS; first | exact False.elim hNS | ((try dsimp only at hNS); omega)) g12
    have g13 := hF _ _ _ (by intro hNS; first | exact False.elim hNS | ((try dsimp only at hNS); omega)) g13
    have g14 := rwAt.fr hF (by intro hNS; first | exact False.elim hNS | ((try dsimp only at hNS); omega)) g14
    have g15 := hF _ _ _ (by intro hNS; first | exact False.elim hNS | ((try dsimp only at hNS); omega)) g15
    refine lv_iload_n hx hb dMo_rank_5 rfl (lv_at hl 1 rfl) ?_
    refine hw_if_lt (a := x) (tgt := 17) hx hb dMo_rank_6 (by decide) (by omega) (fun cq_8 => by exfalso; omega) (fun cq_8 => ?_)
    refine lv_iload_n hx hb dMo_rank_9 rfl (lv_at hl 1 rfl) ?_
    refine lv_aload_n hx hb dMo_rank_10 rfl (lv_at hl 0 rfl) ?_
    refine hw_get hx hb hts (hwInn inMo) hown hK hZ gx rfl 17 (by decide) (hts (.fieldLink RMo 111 RMo "hits" "I") (hwMem mm_409)) (fun _ h => h) rfl dMo_rank_11 ?_
    refine hw_ic_lt (a := x) (b := hs.length) (tgt := 21) hx hb dMo_rank_14 (by decide) (by omega) (by omega) (fun cq_9 => ?_) (fun cq_9 => ?_)
    · have hbx := okH.at hB x
      have hpx := okP.at hpp (p := x) (by omega)
      refine lv_aload_n hx hb dMo_rank_21 rfl (lv_at hl 0 rfl) ?_
      refine hw_get hx hb hts (hwInn inMo) hown hK hZ gx rfl 19 (by decide) (hts (.fieldLink RMo 46 RMo "hitCount" "[I") (hwMem mm_411)) (fun _ h => h) rfl dMo_rank_22 ?_
      refine lv_iload_n hx hb dMo_rank_25 rfl (lv_at hl 1 rfl) ?_
      refine hw_iald hx hb hK hZ 0 g12 rfl (j := x) (by omega) (by omega) dMo_rank_26 ?_
      refine hw_topi (y := nI ((hs.getD x (0, 0, 0)).2.1)) (hv2 x (by omega)) ?_
      refine lv_istore_n (lv' := [(3, .int (nI ((hs.getD x (0, 0, 0)).2.1))), (0, .ref a), (1, .int (nI x)), (2, .int side)]) hx hb dMo_rank_27 rfl hl (by decide) rfl (fun ls hl => ?_)
      refine lv_aload_n hx hb dMo_rank_28 rfl (lv_at hl 1 rfl) ?_
      refine hw_get hx hb hts (hwInn inMo) hown hK hZ gx rfl 20 (by decide) (hts (.fieldLink RMo 49 RMo "hitWords" "[I") (hwMem mm_412)) (fun _ h => h) rfl dMo_rank_29 ?_
      refine lv_iload_n hx hb dMo_rank_32 rfl (lv_at hl 2 rfl) ?_
      refine hw_iald hx hb hK hZ 0 g13 rfl (j := x) (by omega) (by omega) dMo_rank_33 ?_
      refine hw_topi (y := nI ((hs.getD x (0, 0, 0)).2.2)) (hv3 x (by omega)) ?_
      refine lv_istore (lv' := [(4, .int (nI ((hs.getD x (0, 0, 0)).2.2))), (3, .int (nI ((hs.getD x (0, 0, 0)).2.1))), (0, .ref a), (1, .int (nI x)), (2, .int side)]) hx hb dMo_rank_34 hl (by decide) rfl (fun ls hl => ?_)
      have loop36 : ∀ (fuel : Nat) (u : Nat) (v : Nat) (Hh : Heap) (lcs : List Loc) (ls : Array Slot), v < fuel → (u ≤ 1000) → (v ≤ 1000) → (Nat.gcd u v = Nat.gcd (hs.getD x (0, 0, 0)).2.1 (hs.getD x (0, 0, 0)).2.2) → hwZ D vwCl A s.heap X_5 Hh lcs → lv_has ls 6 [(3, .int (nI u)), (4, .int (nI v)), (0, .ref a), (1, .int (nI x)), (2, .int side)] → W p l e ({ frames := 0, cells := 0, slots := 0, locals := 0 } : Room) s m args below meth c Hh lcs 0 0 Q (F0 m 36 ls []) := by
        intro fuel; induction fuel with
        | zero => intro u v Hh lcs ls hfu; exact absurd hfu (Nat.not_lt_zero _)
        | succ fuel ih36 =>
          intro u v Hh lcs ls hfu36 hu hv hg hZ hl
          refine lv_iload hx hb dMo_rank_36 (lv_at hl 1 rfl) ?_
          refine hw_if_le (a := v) (tgt := 57) hx hb dMo_rank_38 (by decide) (by omega) (fun cq_10 => ?_) (fun cq_10 => ?_)
          · have hgg : u = Nat.gcd (hs.getD x (0, 0, 0)).2.1 (hs.getD x (0, 0, 0)).2.2 := by rw [← hg, show v = 0 by omega, Nat.gcd_zero_right]
            have hgp : 0 < Nat.gcd (hs.getD x (0, 0, 0)).2.1 (hs.getD x (0, 0, 0)).2.2 := Nat.gcd_pos_of_pos_left _ (by omega)
            refine lv_iload_n hx hb dMo_rank_57 rfl (lv_at hl 4 rfl) ?_
            refine lv_if_ne (tgt := 73) hx hb dMo_rank_58 (by decide) (fun cq_11 => ?_) (fun cq_11 => ?_)
            · refine lv_aload_n hx hb dMo_rank_73 rfl (lv_at hl 2 rfl) ?_
              refine hw_get hx hb hts (hwInn inMo) hown hK hZ gx rfl 20 (by decide) (hts (.fieldLink RMo 49 RMo "hitWords" "[I") (hwMem mm_412)) (fun _ h => h) rfl dMo_rank_74 ?_
              refine lv_iload_n hx hb dMo_rank_77 rfl (lv_at hl 3 rfl) ?_
              refine hw_iald hx hb hK hZ 0 g13 rfl (j := x) (by omega) (by omega) dMo_rank_78 ?_
              refine hw_topi (y := nI ((hs.getD x (0, 0, 0)).2.2)) (hv3 x (by omega)) ?_
              refine lv_iload_n hx hb dMo_rank_79 rfl (lv_at hl 0 rfl) ?_
              refine lv_idiv hx hb dMo_rank_80 (nI_ne0 (by omega) (by omega)) ?_
              refine hw_topi (pk_div (a := (hs.getD x (0, 0, 0)).2.2) (d := u) (by omega) (by omega) (by omega)) ?_
              have hmd_12 := Nat.div_le_self ((hs.getD x (0, 0, 0)).2.2) u
              refine lv_i2l hx hb dMo_rank_81 (nI_l (n := ((hs.getD x (0, 0, 0)).2.2) / u) (by omega)) ?_
              exact hret hZ ⟨by unfold rankP; rw [hA_nI hx2, cdv_gcd (by omega) (by omega), if_neg (by omega), if_neg cq_11, ← hgg], hFr, ⟨_, _, _, _, _, _, _, _, _, _, _, _, _, _, _, _, _, _, _, _, _, _, _, _, _, _, _, _, _, _, _, _, _, gx, g1, g2, g3, g4, g5, g6, g7, g8, g9, g10, g11, g12, g13, g14, g15, hft, hfg, hfp, hfl, hfd, hv1, hv2, hv3⟩⟩ dMo_rank_82
            · refine lv_aload_n hx hb dMo_rank_61 rfl (lv_at hl 2 rfl) ?_
              refine hw_get hx hb hts (hwInn inMo) hown hK hZ gx rfl 19 (by decide) (hts (.fieldLink RMo 46 RMo "hitCount" "[I") (hwMem mm_411)) (fun _ h => h) rfl dMo_rank_62 ?_
              refine lv_iload_n hx hb dMo_rank_65 rfl (lv_at hl 3 rfl) ?_
              refine hw_iald hx hb hK hZ 0 g12 rfl (j := x) (by omega) (by omega) dMo_rank_66 ?_
              refine hw_topi (y := nI ((hs.getD x (0, 0, 0)).2.1)) (hv2 x (by omega)) ?_
              refine lv_iload_n hx hb dMo_rank_67 rfl (lv_at hl 0 rfl) ?_
              refine lv_idiv hx hb dMo_rank_68 (nI_ne0 (by omega) (by omega)) ?_
              refine hw_topi (pk_div (a := (hs.getD x (0, 0, 0)).2.1) (d := u) (by omega) (by omega) (by omega)) ?_
              have hmd_13 := Nat.div_le_self ((hs.getD x (0, 0, 0)).2.1) u
              refine lv_i2l hx hb dMo_rank_69 (nI_l (n := ((hs.getD x (0, 0, 0)).2.1) / u) (by omega)) ?_
              refine lv_goto (tgt := 82) hx hb dMo_rank_70 (by decide) ?_
              exact hret hZ ⟨by unfold rankP; rw [hA_nI hx2, cdv_gcd (by omega) (by omega), if_neg (by omega), if_pos cq_11, ← hgg], hFr, ⟨_, _, _, _, _, _, _, _, _, _, _, _, _, _, _, _, _, _, _, _, _, _, _, _, _, _, _, _, _, _, _, _, _, gx, g1, g2, g3, g4, g5, g6, g7, g8, g9, g10, g11, g12, g13, g14, g15, hft, hfg, hfp, hfl, hfd, hv1, hv2, hv3⟩⟩ dMo_rank_82
          · refine lv_iload_n hx hb dMo_rank_41 rfl (lv_at hl 0 rfl) ?_
            refine lv_iload hx hb dMo_rank_42 (lv_at hl 1 rfl) ?_
            refine lv_irem hx hb dMo_rank_44 (nI_ne0 (by omega) (by omega)) ?_
            refine hw_topi (pk_rem (a := u) (d := v) (by omega) (by omega) (by omega)) ?_
            have hmd_14 := Nat.mod_le u v
            refine lv_istore (lv' := [(5, .int (nI (u % v))), (3, .int (nI u)), (4, .int (nI v)), (0, .ref a), (1, .int (nI x)), (2, .int side)]) hx hb dMo_rank_45 hl (by decide) rfl (fun ls hl => ?_)
            refine lv_iload hx hb dMo_rank_47 (lv_at hl 2 rfl) ?_
            refine lv_istore_n (lv' := [(3, .int (nI v)), (5, .int (nI (u % v))), (4, .int (nI v)), (0, .ref a), (1, .int (nI x)), (2, .int side)]) hx hb dMo_rank_49 rfl hl (by decide) rfl (fun ls hl => ?_)
            refine lv_iload hx hb dMo_rank_50 (lv_at hl 1 rfl) ?_
            refine lv_istore (lv' := [(4, .int (nI (u % v))), (3, .int (nI v)), (5, .int (nI (u % v))), (0, .ref a), (1, .int (nI x)), (2, .int side)]) hx hb dMo_rank_52 hl (by decide) rfl (fun ls hl => ?_)
            refine lv_goto (tgt := 36) hx hb dMo_rank_54 (by decide) ?_
            have hml9 : u % v < v := Nat.mod_lt _ (by omega)
            exact ih36 v (u % v) _ _ _ (by omega) (by omega) (by omega) (by rw [Nat.gcd_comm, ← Nat.gcd_rec, Nat.gcd_comm]; exact hg)  hZ (lv_sub hl [1, 0, 3, 4, 5] rfl)
      exact loop36 (((hs.getD x (0, 0, 0)).2.2) + 1) ((hs.getD x (0, 0, 0)).2.1) ((hs.getD x (0, 0, 0)).2.2) _ _ _ (by omega) (by omega) (by omega) rfl  hZ (lv_sub hl [1, 0, 2, 3, 4] rfl)
    · refine lv_ldc2 (v := (-1)) hx hb hown (hts (.constantLong RMo 159 (-1)) (hwMem mm_476)) dMo_rank_17 ?_
      exact hret hZ ⟨by rw [rankP_out ((hA_nI hx2).trans (getH_out (by omega)))], hFr, ⟨_, _, _, _, _, _, _, _, _, _, _, _, _, _, _, _, _, _, _, _, _, _, _, _, _, _, _, _, _, _, _, _, _, gx, g1, g2, g3, g4, g5, g6, g7, g8, g9, g10, g11, g12, g13, g14, g15, hft, hfg, hfp, hfl, hfd, hv1, hv2, hv3⟩⟩ dMo_rank_20
set_option maxHeartbeats 4000000 in
set_option maxRecDepth 100000 in
theorem q_language (l : Launch) (D : va_G) (K : Nat → ClassId) (X : hwW) (sz : Nat) (a : Nat) (its : hwIt) (sg : List (Nat × Nat)) (lg : Nat → Nat) (st : List (List Nat)) (sd : List Nat) (hs : List (Nat × Nat × Nat)) (kk : Int32) (ll : Int32) (f0_ : moAt K X a its sg lg st sd hs) (okm : okM its sg lg st sd hs) : Met l yMo_language (.code yMo_language cMo_language 4 (some .int) :: hwG) ({ frames := 1, cells := 0, slots := 0, locals := 20 } : Room) (hwPc D vwCl (hwT K) [.ref a, .int kk, .int ll] X sz) (hwQi D vwCl X sz (fun r Y => r = (lanP lg kk ll).2 ∧ hwF X Y (fun M => 1000 ≤ M ∧ M < 1100) ∧ moAt K Y a its sg (lanP lg kk ll).1 st sd hs)) 0 0 (va_A X.1 sz) := by
  refine hwMeti (cc := cMo_language) (maxL := 4) (by decide) rfl (Nat.le_of_ble_eq_true rfl) (fun p e s m args below meth c ls A Q hx hb hml hown hts hname hret hK hO hZ hA hl => ?_)
  have hl : lv_has ls 4 [(0, .ref a), (1, .int kk), (2, .int ll)] := hl
  have hFr : hwF X X (fun M => 1000 ≤ M ∧ M < 1100) := hwF.rf
  obtain ⟨hni3, hsl, hsb, hlg, hsd, hh30, hB, htx⟩ := okm
  obtain ⟨r1, r2, r3, r4, r5, r6, r7, r8, r9, r10, r11, r12, r13, r14, r15, tz, na, nw, nt, ft, fg, fp, fl, fd, f1, f2, f3, qa, rw, rt, at_, tm, y, gx, g1, g2, g3, g4, g5, g6, g7, g8, g9, g10, g11, g12, g13, g14, g15, hft, hfg, hfp, hfl, hfd, hv1, hv2, hv3⟩ := f0_
  have hst40 := rwAt.len g5
  rcases kN_cases kk with hk | ⟨j, hj, rfl⟩
  · rcases l3_cases ll with hl0 | hl0 | ⟨x, hx3, rfl⟩
    · refine lv_aload_n hx hb dMo_language_0 rfl (lv_at hl 0 rfl) ?_
      refine lv_iconst (v := nI 0) hx hb dMo_language_1 (by decide) ?_
      refine hw_put (ty := .int) (fs' := [.int (nI 0), .int (nI its.length), .ref r1, .int (nI sg.length), .ref r2, .ref r3, .ref r4, .ref r5, .int (nI st.length), .ref r6, .int (nI sd.length), .ref r7, .int (nI na), .ref r8, .ref r9, .ref r10, .int (nI nw), .int (nI hs.length), .ref r11, .ref r12, .ref r13, .ref r14, .int (nI nt), .ref r15]) hx hb hts (hwInn inMo) tyMo tyMo_ok nmMo hown hK hZ gx rfl 0 (by decide) (hts (.fieldLink RMo 58 RMo "thrown" "I") (hwMem mm_471)) (fun _ h => h) rfl (by decide +kernel) rfl rfl (Nat.le_of_ble_eq_true rfl) rfl dMo_language_2 (fun X_1 H_2 lc_3 hZ hF hNw => ?_)
      have hFr := hwF.tr hFr hF (fun _ h => h) (fun M h => by first | exact False.elim h | ((try dsimp only at h ⊢); omega))
      have gx := hNw
      have g1 := hF _ _ _ (by intro hNS; first | exact False.elim hNS | ((try dsimp only at hNS); omega)) g1
      have g2 := hF _ _ _ (by intro hNS; first | exact False.elim hNS | ((try dsimp only at hNS); omega)) g2
      have g3 := hF _ _ _ (by intro hNS; first | exact False.elim hNS | ((try dsimp only at hNS); omega)) g3
      have g4 := hF _ _ _ (by intro hNS; first | exact False.elim hNS | ((try dsimp only at hNS); omega)) g4
      have g5 := rwAt.fr hF (by intro hNS; first | exact False.elim hNS | ((try dsimp only at hNS); omega)) g5
      have g6 := hF _ _ _ (by intro hNS; first | exact False.elim hNS | ((try dsimp only at hNS); omega)) g6
      have g7 := rwAt.fr hF (by intro hNS; first | exact False.elim hNS | ((try dsimp only at hNS); omega)) g7
      have g8 := rwAt.fr hF (by intro hNS; first | exact False.elim hNS | ((try dsimp only at hNS); omega)) g8
      have g9 := rwAt.fr hF (by intro hNS; first | exact False.elim hNS | ((try dsimp only at hNS); omega)) g9
      have g10 := rwAt.fr hF (by intro hNS; first | exact False.elim hNS | ((try dsimp only at hNS); omega)) g10
      have g11 := hF _ _ _ (by intro hNS; first | exact False.elim hNS | ((try dsimp only at hNS); omega)) g11
      have g12 := hF _ _ _ (by intro hNS; first | exact False.elim hNS | ((try dsimp only at hNS); omega)) g12
      have g13 := hF _ _ _ (by intro hNS; first | exact False.elim hNS | ((try dsimp only at hNS); omega)) g13
      have g14 := rwAt.fr hF (by intro hNS; first | exact False.elim hNS | ((try dsimp only at hNS); omega)) g14
      have g15 := hF _ _ _ (by intro hNS; first | exact False.elim hNS | ((try dsimp only at hNS); omega)) g15
      refine lv_iload_n hx hb dMo_language_5 rfl (lv_at hl 1 rfl) ?_
      refine hw_calli (va_runS (As := [.int kk]) (rest := []) ⟨hx, hb, hml, hown, hts⟩ (m_isFieldB l D K X_1 H_2.size (kind := kk) (by assumption)) (va_cwS 1 hts (hwGood (hw_3 mm_442 mm_441 mm_365 (hwAll mm_440))) rfl rfl rfl (by decide +kernel) ⟨Nat.le_of_ble_eq_true rfl, Nat.le_of_ble_eq_true rfl⟩) (hw_preS hK hO hZ) rfl rfl hl.1 rfl (lv_room (Nat.le_of_ble_eq_true rfl)) dMo_language_6 ⟨(show 0 + 0 ≤ 0 by omega), (show 0 + 0 ≤ 0 by omega)⟩) hZ hA (fun r X_4 H_5 lc_6 hp hZ => ?_)
      obtain ⟨hr, hy⟩ := hp
      subst hy
      refine hw_topi hr ?_
      refine hw_bz_eqT (tgt := 21) hx hb dMo_language_9 (by decide) rfl ?_
      refine lv_iconst (v := (-1)) hx hb dMo_language_21 (by decide) ?_
      exact hret hZ (by rw [lanP_b (kN_bad hk)]; exact ⟨rfl, hFr, ⟨_, _, _, _, _, _, _, _, _, _, _, _, _, _, _, _, _, _, _, _, _, _, _, _, _, _, _, _, _, _, _, _, _, gx, g1, g2, g3, g4, g5, g6, g7, g8, g9, g10, g11, g12, g13, g14, g15, hft, hfg, hfp, hfl, hfd, hv1, hv2, hv3⟩⟩) dMo_language_22
    · refine lv_aload_n hx hb dMo_language_0 rfl (lv_at hl 0 rfl) ?_
      refine lv_iconst (v := nI 0) hx hb dMo_language_1 (by decide) ?_
      refine hw_put (ty := .int) (fs' := [.int (nI 0), .int (nI its.length), .ref r1, .int (nI sg.length), .ref r2, .ref r3, .ref r4, .ref r5, .int (nI st.length), .ref r6, .int (nI sd.length), .ref r7, .int (nI na), .ref r8, .ref r9, .ref r10, .int (nI nw), .int (nI hs.length), .ref r11, .ref r12, .ref r13, .ref r14, .int (nI nt), .ref r15]) hx hb hts (hwInn inMo) tyMo tyMo_ok nmMo hown hK hZ gx rfl 0 (by decide) (hts (.fieldLink RMo 58 RMo "thrown" "I") (hwMem mm_471)) (fun _ h => h) rfl (by decide +kernel) rfl rfl (Nat.le_of_ble_eq_true rfl) rfl dMo_language_2 (fun X_8 H_9 lc_10 hZ hF hNw => ?_)
      have hFr := hwF.tr hFr hF (fun _ h => h) (fun M h => by first | exact False.elim h | ((try dsimp only at h ⊢); omega))
      have gx := hNw
      have g1 := hF _ _ _ (by intro hNS; first | exact False.elim hNS | ((try dsimp only at hNS); omega)) g1
      have g2 := hF _ _ _ (by intro hNS; first | exact False.elim hNS | ((try dsimp only at hNS); omega)) g2
      have g3 := hF _ _ _ (by intro hNS; first | exact False.elim hNS | ((try dsimp only at hNS); omega)) g3
      have g4 := hF _ _ _ (by intro hNS; first | exact False.elim hNS | ((try dsimp only at hNS); omega)) g4
      have g5 := rwAt.fr hF (by intro hNS; first | exact False.elim hNS | ((try dsimp only at hNS); omega)) g5
      have g6 := hF _ _ _ (by intro hNS; first | exact False.elim hNS | ((try dsimp only at hNS); omega)) g6
      have g7 := rwAt.fr hF (by intro hNS; first | exact False.elim hNS | ((try dsimp only at hNS); omega)) g7
      have g8 := rwAt.fr hF (by intro hNS; first | exact False.elim hNS | ((try dsimp only at hNS); omega)) g8
      have g9 := rwAt.fr hF (by intro hNS; first | exact False.elim hNS | ((try dsimp only at hNS); omega)) g9
      have g10 := rwAt.fr hF (by intro hNS; first | exact False.elim hNS | ((try dsimp only at hNS); omega)) g10
      have g11 := hF _ _ _ (by intro hNS; first | exact False.elim hNS | ((try dsimp only at hNS); omega)) g11
      have g12 := hF _ _ _ (by intro hNS; first | exact False.elim hNS | ((try dsimp only at hNS); omega)) g12
      have g13 := hF _ _ _ (by intro hNS; first | exact False.elim hNS | ((try dsimp only at hNS); omega)) g13
      have g14 := rwAt.fr hF (by intro hNS; first | exact False.elim hNS | ((try dsimp only at hNS); omega)) g14
      have g15 := hF _ _ _ (by intro hNS; first | exact False.elim hNS | ((try dsimp only at hNS); omega)) g15
      refine lv_iload_n hx hb dMo_language_5 rfl (lv_at hl 1 rfl) ?_
      refine hw_calli (va_runS (As := [.int kk]) (rest := []) ⟨hx, hb, hml, hown, hts⟩ (m_isFieldB l D K X_8 H_9.size (kind := kk) (by assumption)) (va_cwS 1 hts (hwGood (hw_3 mm_442 mm_441 mm_365 (hwAll mm_440))) rfl rfl rfl (by decide +kernel) ⟨Nat.le_of_ble_eq_true rfl, Nat.le_of_ble_eq_true rfl⟩) (hw_preS hK hO hZ) rfl rfl hl.1 rfl (lv_room (Nat.le_of_ble_eq_true rfl)) dMo_language_6 ⟨(show 0 + 0 ≤ 0 by omega), (show 0 + 0 ≤ 0 by omega)⟩) hZ hA (fun r X_11 H_12 lc_13 hp hZ => ?_)
      obtain ⟨hr, hy⟩ := hp
      subst hy
      refine hw_topi hr ?_
      refine hw_bz_eqT (tgt := 21) hx hb dMo_language_9 (by decide) rfl ?_
      refine lv_iconst (v := (-1)) hx hb dMo_language_21 (by decide) ?_
      exact hret hZ (by rw [lanP_b (kN_bad hk)]; exact ⟨rfl, hFr, ⟨_, _, _, _, _, _, _, _, _, _, _, _, _, _, _, _, _, _, _, _, _, _, _, _, _, _, _, _, _, _, _, _, _, gx, g1, g2, g3, g4, g5, g6, g7, g8, g9, g10, g11, g12, g13, g14, g15, hft, hfg, hfp, hfl, hfd, hv1, hv2, hv3⟩⟩) dMo_language_22
    · refine lv_aload_n hx hb dMo_language_0 rfl (lv_at hl 0 rfl) ?_
      refine lv_iconst (v := nI 0) hx hb dMo_language_1 (by decide) ?_
      refine hw_put (ty := .int) (fs' := [.int (nI 0), .int (nI its.length), .ref r1, .int (nI sg.length), .ref r2, .ref r3, .ref r4, .ref r5, .int (nI st.length), .ref r6, .int (nI sd.length), .ref r7, .int (nI na), .ref r8, .ref r9, .ref r10, .int (nI nw), .int (nI hs.length), .ref r11, .ref r12, .ref r13, .ref r14, .int (nI nt), .ref r15]) hx hb hts (hwInn inMo) tyMo tyMo_ok nmMo hown hK hZ gx rfl 0 (by decide) (hts (.fieldLink RMo 58 RMo "thrown" "I") (hwMem mm_471)) (fun _ h => h) rfl (by decide +kernel) rfl rfl (Nat.le_of_ble_eq_true rfl) rfl dMo_language_2 (fun X_15 H_16 lc_17 hZ hF hNw => ?_)
      have hFr := hwF.tr hFr hF (fun _ h => h) (fun M h => by first | exact False.elim h | ((try dsimp only at h ⊢); omega))
      have gx := hNw
      have g1 := hF _ _ _ (by intro hNS; first | exact False.elim hNS | ((try dsimp only at hNS); omega)) g1
      have g2 := hF _ _ _ (by intro hNS; first | exact False.elim hNS | ((try dsimp only at hNS); omega)) g2
      have g3 := hF _ _ _ (by intro hNS; first | exact False.elim hNS | ((try dsimp only at hNS); omega)) g3
      have g4 := hF _ _ _ (by intro hNS; first | exact False.elim hNS | ((try dsimp only at hNS); omega)) g4
      have g5 := rwAt.fr hF (by intro hNS; first | exact False.elim hNS | ((try dsimp only at hNS); omega)) g5
      have g6 := hF _ _ _ (by intro hNS; first | exact False.elim hNS | ((try dsimp only at hNS); omega)) g6
      have g7 := rwAt.fr hF (by intro hNS; first | exact False.elim hNS | ((try dsimp only at hNS); omega)) g7
      have g8 := rwAt.fr hF (by intro hNS; first | exact False.elim hNS | ((try dsimp only at hNS); omega)) g8
      have g9 := rwAt.fr hF (by intro hNS; first | exact False.elim hNS | ((try dsimp only at hNS); omega)) g9
      have g10 := rwAt.fr hF (by intro hNS; first | exact False.elim hNS | ((try dsimp only at hNS); omega)) g10
      have g11 := hF _ _ _ (by intro hNS; first | exact False.elim hNS | ((try dsimp only at hNS); omega)) g11
      have g12 := hF _ _ _ (by intro hNS; first | exact False.elim hNS | ((try dsimp only at hNS); omega)) g12
      have g13 := hF _ _ _ (by intro hNS; first | exact False.elim hNS | ((try dsimp only at hNS); omega)) g13
      have g14 := rwAt.fr hF (by intro hNS; first | exact False.elim hNS | ((try dsimp only at hNS); omega)) g14
      have g15 := hF _ _ _ (by intro hNS; first | exact False.elim hNS | ((try dsimp only at hNS); omega)) g15
      refine lv_iload_n hx hb dMo_language_5 rfl (lv_at hl 1 rfl) ?_
      refine hw_calli (va_runS (As := [.int kk]) (rest := []) ⟨hx, hb, hml, hown, hts⟩ (m_isFieldB l D K X_15 H_16.size (kind := kk) (by assumption)) (va_cwS 1 hts (hwGood (hw_3 mm_442 mm_441 mm_365 (hwAll mm_440))) rfl rfl rfl (by decide +kernel) ⟨Nat.le_of_ble_eq_true rfl, Nat.le_of_ble_eq_true rfl⟩) (hw_preS hK hO hZ) rfl rfl hl.1 rfl (lv_room (Nat.le_of_ble_eq_true rfl)) dMo_language_6 ⟨(show 0 + 0 ≤ 0 by omega), (show 0 + 0 ≤ 0 by omega)⟩) hZ hA (fun r X_18 H_19 lc_20 hp hZ => ?_)
      obtain ⟨hr, hy⟩ := hp
      subst hy
      refine hw_topi hr ?_
      refine hw_bz_eqT (tgt := 21) hx hb dMo_language_9 (by decide) rfl ?_
      refine lv_iconst (v := (-1)) hx hb dMo_language_21 (by decide) ?_
      exact hret hZ (by rw [lanP_b (kN_bad hk)]; exact ⟨rfl, hFr, ⟨_, _, _, _, _, _, _, _, _, _, _, _, _, _, _, _, _, _, _, _, _, _, _, _, _, _, _, _, _, _, _, _, _, gx, g1, g2, g3, g4, g5, g6, g7, g8, g9, g10, g11, g12, g13, g14, g15, hft, hfg, hfp, hfl, hfd, hv1, hv2, hv3⟩⟩) dMo_language_22
  · rcases l3_cases ll with hl0 | hl0 | ⟨x, hx3, rfl⟩
    · refine lv_aload_n hx hb dMo_language_0 rfl (lv_at hl 0 rfl) ?_
      refine lv_iconst (v := nI 0) hx hb dMo_language_1 (by decide) ?_
      refine hw_put (ty := .int) (fs' := [.int (nI 0), .int (nI its.length), .ref r1, .int (nI sg.length), .ref r2, .ref r3, .ref r4, .ref r5, .int (nI st.length), .ref r6, .int (nI sd.length), .ref r7, .int (nI na), .ref r8, .ref r9, .ref r10, .int (nI nw), .int (nI hs.length), .ref r11, .ref r12, .ref r13, .ref r14, .int (nI nt), .ref r15]) hx hb hts (hwInn inMo) tyMo tyMo_ok nmMo hown hK hZ gx rfl 0 (by decide) (hts (.fieldLink RMo 58 RMo "thrown" "I") (hwMem mm_471)) (fun _ h => h) rfl (by decide +kernel) rfl rfl (Nat.le_of_ble_eq_true rfl) rfl dMo_language_2 (fun X_22 H_23 lc_24 hZ hF hNw => ?_)
      have hFr := hwF.tr hFr hF (fun _ h => h) (fun M h => by first | exact False.elim h | ((try dsimp only at h ⊢); omega))
      have gx := hNw
      have g1 := hF _ _ _ (by intro hNS; first | exact False.elim hNS | ((try dsimp only at hNS); omega)) g1
      have g2 := hF _ _ _ (by intro hNS; first | exact False.elim hNS | ((try dsimp only at hNS); omega)) g2
      have g3 := hF _ _ _ (by intro hNS; first | exact False.elim hNS | ((try dsimp only at hNS); omega)) g3
      have g4 := hF _ _ _ (by intro hNS; first | exact False.elim hNS | ((try dsimp only at hNS); omega)) g4
      have g5 := rwAt.fr hF (by intro hNS; first | exact False.elim hNS | ((try dsimp only at hNS); omega)) g5
      have g6 := hF _ _ _ (by intro hNS; first | exact False.elim hNS | ((try dsimp only at hNS); omega)) g6
      have g7 := rwAt.fr hF (by intro hNS; first | exact False.elim hNS | ((try dsimp only at hNS); omega)) g7
      have g8 := rwAt.fr hF (by intro hNS; first | exact False.elim hNS | ((try dsimp only at hNS); omega)) g8
      have g9 := rwAt.fr hF (by intro hNS; first | exact False.elim hNS | ((try dsimp only at hNS); omega)) g9
      have g10 := rwAt.fr hF (by intro hNS; first | exact False.elim hNS | ((try dsimp only at hNS); omega)) g10
      have g11 := hF _ _ _ (by intro hNS; first | exact False.elim hNS | ((try dsimp only at hNS); omega)) g11
      have g12 := hF _ _ _ (by intro hNS; first | exact False.elim hNS | ((try dsimp only at hNS); omega)) g12
      have g13 := hF _ _ _ (by intro hNS; first | exact False.elim hNS | ((try dsimp only at hNS); omega)) g13
      have g14 := rwAt.fr hF (by intro hNS; first | exact False.elim hNS | ((try dsimp only at hNS); omega)) g14
      have g15 := hF _ _ _ (by intro hNS; first | exact False.elim hNS | ((try dsimp only at hNS); omega)) g15
      refine lv_iload_n hx hb dMo_language_5 rfl (lv_at hl 1 rfl) ?_
      refine hw_calli (va_runS (As := [.int (nI j)]) (rest := []) ⟨hx, hb, hml, hown, hts⟩ (m_isField l D K X_22 H_23.size (j := j) (by omega)) (va_cwS 1 hts (hwGood (hw_3 mm_442 mm_441 mm_365 (hwAll mm_440))) rfl rfl rfl (by decide +kernel) ⟨Nat.le_of_ble_eq_true rfl, Nat.le_of_ble_eq_true rfl⟩) (hw_preS hK hO hZ) rfl rfl hl.1 rfl (lv_room (Nat.le_of_ble_eq_true rfl)) dMo_language_6 ⟨(show 0 + 0 ≤ 0 by omega), (show 0 + 0 ≤ 0 by omega)⟩) hZ hA (fun r X_25 H_26 lc_27 hp hZ => ?_)
      obtain ⟨hr, hy⟩ := hp
      subst hy
      refine hw_topi hr ?_
      refine hw_bz_eqF (tgt := 21) hx hb dMo_language_9 (by decide) rfl ?_
      refine lv_iload_n hx hb dMo_language_12 rfl (lv_at hl 2 rfl) ?_
      refine lv_if_lt (tgt := 21) hx hb dMo_language_13 (by decide) (fun cq_29 => ?_) (fun cq_29 => absurd hl0 cq_29)
      refine lv_iconst (v := (-1)) hx hb dMo_language_21 (by decide) ?_
      exact hret hZ (by rw [lanP_l (kN_nI hj) (Or.inl hl0)]; exact ⟨rfl, hFr, ⟨_, _, _, _, _, _, _, _, _, _, _, _, _, _, _, _, _, _, _, _, _, _, _, _, _, _, _, _, _, _, _, _, _, gx, g1, g2, g3, g4, g5, g6, g7, g8, g9, g10, g11, g12, g13, g14, g15, hft, hfg, hfp, hfl, hfd, hv1, hv2, hv3⟩⟩) dMo_language_22
    · refine lv_aload_n hx hb dMo_language_0 rfl (lv_at hl 0 rfl) ?_
      refine lv_iconst (v := nI 0) hx hb dMo_language_1 (by decide) ?_
      refine hw_put (ty := .int) (fs' := [.int (nI 0), .int (nI its.length), .ref r1, .int (nI sg.length), .ref r2, .ref r3, .ref r4, .ref r5, .int (nI st.length), .ref r6, .int (nI sd.length), .ref r7, .int (nI na), .ref r8, .ref r9, .ref r10, .int (nI nw), .int (nI hs.length), .ref r11, .ref r12, .ref r13, .ref r14, .int (nI nt), .ref r15]) hx hb hts (hwInn inMo) tyMo tyMo_ok nmMo hown hK hZ gx rfl 0 (by decide) (hts (.fieldLink RMo 58 RMo "thrown" "I") (hwMem mm_471)) (fun _ h => h) rfl (by decide +kernel) rfl rfl (Nat.le_of_ble_eq_true rfl) rfl dMo_language_2 (fun X_30 H_31 lc_32 hZ hF hNw => ?_)
      have hFr := hwF.tr hFr hF (fun _ h => h) (fun M h => by first | exact False.elim h | ((try dsimp only at h ⊢); omega))
      have gx := hNw
      have g1 := hF _ _ _ (by intro hNS; first | exact False.elim hNS | ((try dsimp only at hNS); omega)) g1
      have g2 := hF _ _ _ (by intro hNS; first | exact False.elim hNS | ((try dsimp only at hNS); omega)) g2
      have g3 := hF _ _ _ (by intro hNS; first | exact False.elim hNS | ((try dsimp only at hNS); omega)) g3
      have g4 := hF _ _ _ (by intro hNS; first | exact False.elim hNS | ((try dsimp only at hNS); omega)) g4
      have g5 := rwAt.fr hF (by intro hNS; first | exact False.elim hNS | ((try dsimp only at hNS); omega)) g5
      have g6 := hF _ _ _ (by intro hNS; first | exact False.elim hNS | ((try dsimp only at hNS); omega)) g6
      have g7 := rwAt.fr hF (by intro hNS; first | exact False.elim hNS | ((try dsimp only at hNS); omega)) g7
      have g8 := rwAt.fr hF (by intro hNS; first | exact False.elim hNS | ((try dsimp only at hNS); omega)) g8
      have g9 := rwAt.fr hF (by intro hNS; first | exact False.elim hNS | ((try dsimp only at hNS); omega)) g9
      have g10 := rwAt.fr hF (by intro hNS; first | exact False.elim hNS | ((try dsimp only at hNS); omega)) g10
      have g11 := hF _ _ _ (by intro hNS; first | exact False.elim hNS | ((try dsimp only at hNS); omega)) g11
      have g12 := hF _ _ _ (by intro hNS; first | exact False.elim hNS | ((try dsimp only at hNS); omega)) g12
      have g13 := hF _ _ _ (by intro hNS; first | exact False.elim hNS | ((try dsimp only at hNS); omega)) g13
      have g14 := rwAt.fr hF (by intro hNS; first | exact False.elim hNS | ((try dsimp only at hNS); omega)) g14
      have g15 := hF _ _ _ (by intro hNS; first | exact False.elim hNS | ((try dsimp only at hNS); omega)) g15
      refine lv_iload_n hx hb dMo_language_5 rfl (lv_at hl 1 rfl) ?_
      refine hw_calli (va_runS (As := [.int (nI j)]) (rest := []) ⟨hx, hb, hml, hown, hts⟩ (m_isField l D K X_30 H_31.size (j := j) (by omega)) (va_cwS 1 hts (hwGood (hw_3 mm_442 mm_441 mm_365 (hwAll mm_440))) rfl rfl rfl (by decide +kernel) ⟨Nat.le_of_ble_eq_true rfl, Nat.le_of_ble_eq_true rfl⟩) (hw_preS hK hO hZ) rfl rfl hl.1 rfl (lv_room (Nat.le_of_ble_eq_true rfl)) dMo_language_6 ⟨(show 0 + 0 ≤ 0 by omega), (show 0 + 0 ≤ 0 by omega)⟩) hZ hA (fun r X_33 H_34 lc_35 hp hZ => ?_)
      obtain ⟨hr, hy⟩ := hp
      subst hy
      refine hw_topi hr ?_
      refine hw_bz_eqF (tgt := 21) hx hb dMo_language_9 (by decide) rfl ?_
      refine lv_iload_n hx hb dMo_language_12 rfl (lv_at hl 2 rfl) ?_
      refine lv_if_lt (tgt := 21) hx hb dMo_language_13 (by decide) (fun cq_37 => absurd cq_37 (hw_nn4 (n := 3) (by decide) hl0)) (fun cq_37 => ?_)
      refine lv_iload_n hx hb dMo_language_16 rfl (lv_at hl 2 rfl) ?_
      refine lv_iconst (v := nI 2) hx hb dMo_language_17 (by decide) ?_
      refine lv_icmp_le (tgt := 23) hx hb dMo_language_18 (by decide) (fun cq_38 => absurd cq_38 (hw_nle (hw_gt2 hl0))) (fun cq_38 => ?_)
      refine lv_iconst (v := (-1)) hx hb dMo_language_21 (by decide) ?_
      exact hret hZ (by rw [lanP_l (kN_nI hj) (Or.inr hl0)]; exact ⟨rfl, hFr, ⟨_, _, _, _, _, _, _, _, _, _, _, _, _, _, _, _, _, _, _, _, _, _, _, _, _, _, _, _, _, _, _, _, _, gx, g1, g2, g3, g4, g5, g6, g7, g8, g9, g10, g11, g12, g13, g14, g15, hft, hfg, hfp, hfl, hfd, hv1, hv2, hv3⟩⟩) dMo_language_22
    · refine lv_aload_n hx hb dMo_language_0 rfl (lv_at hl 0 rfl) ?_
      refine lv_iconst (v := nI 0) hx hb dMo_language_1 (by decide) ?_
      refine hw_put (ty := .int) (fs' := [.int (nI 0), .int (nI its.length), .ref r1, .int (nI sg.length), .ref r2, .ref r3, .ref r4, .ref r5, .int (nI st.length), .ref r6, .int (nI sd.length), .ref r7, .int (nI na), .ref r8, .ref r9, .ref r10, .int (nI nw), .int (nI hs.length), .ref r11, .ref r12, .ref r13, .ref r14, .int (nI nt), .ref r15]) hx hb hts (hwInn inMo) tyMo tyMo_ok nmMo hown hK hZ gx rfl 0 (by decide) (hts (.fieldLink RMo 58 RMo "thrown" "I") (hwMem mm_471)) (fun _ h => h) rfl (by decide +kernel) rfl rfl (Nat.le_of_ble_eq_true rfl) rfl dMo_language_2 (fun X_39 H_40 lc_41 hZ hF hNw => ?_)
      have hFr := hwF.tr hFr hF (fun _ h => h) (fun M h => by first | exact False.elim h | ((try dsimp only at h ⊢); omega))
      have gx := hNw
      have g1 := hF _ _ _ (by intro hNS; first | exact False.elim hNS | ((try dsimp only at hNS); omega)) g1
      have g2 := hF _ _ _ (by intro hNS; first | exact False.elim hNS | ((try dsimp only at hNS); omega)) g2
      have g3 := hF _ _ _ (by intro hNS; first | exact False.elim hNS | ((try dsimp only at hNS); omega)) g3
      have g4 := hF _ _ _ (by intro hNS; first | exact False.elim hNS | ((try dsimp only at hNS); omega)) g4
      have g5 := rwAt.fr hF (by intro hNS; first | exact False.elim hNS | ((try dsimp only at hNS); omega)) g5
      have g6 := hF _ _ _ (by intro hNS; first | exact False.elim hNS | ((try dsimp only at hNS); omega)) g6
      have g7 := rwAt.fr hF (by intro hNS; first | exact False.elim hNS | ((try dsimp only at hNS); omega)) g7
      have g8 := rwAt.fr hF (by intro hNS; first | exact False.elim hNS | ((try dsimp only at hNS); omega)) g8
      have g9 := rwAt.fr hF (by intro hNS; first | exact False.elim hNS | ((try dsimp only at hNS); omega)) g9
      have g10 := rwAt.fr hF (by intro hNS; first | exact False.elim hNS | ((try dsimp only at hNS); omega)) g10
      have g11 := hF _ _ _ (by intro hNS; first | exact False.elim hNS | ((try dsimp only at hNS); omega)) g11
      have g12 := hF _ _ _ (by intro hNS; first | exact False.elim hNS | ((try dsimp only at hNS); omega)) g12
      have g13 := hF _ _ _ (by intro hNS; first | exact False.elim hNS | ((try dsimp only at hNS); omega)) g13
      have g14 := rwAt.fr hF (by intro hNS; first | exact False.elim hNS | ((try dsimp only at hNS); omega)) g14
      have g15 := hF _ _ _ (by intro hNS; first | exact False.elim hNS | ((try dsimp only at hNS); omega)) g15
      refine lv_iload_n hx hb dMo_language_5 rfl (lv_at hl 1 rfl) ?_
      refine hw_calli (va_runS (As := [.int (nI j)]) (rest := []) ⟨hx, hb, hml, hown, hts⟩ (m_isField l D K X_39 H_40.size (j := j) (by omega)) (va_cwS 1 hts (hwGood (hw_3 mm_442 mm_441 mm_365 (hwAll mm_440))) rfl rfl rfl (by decide +kernel) ⟨Nat.le_of_ble_eq_true rfl, Nat.le_of_ble_eq_true rfl⟩) (hw_preS hK hO hZ) rfl rfl hl.1 rfl (lv_room (Nat.le_of_ble_eq_true rfl)) dMo_language_6 ⟨(show 0 + 0 ≤ 0 by omega), (show 0 + 0 ≤ 0 by omega)⟩) hZ hA (fun r X_42 H_43 lc_44 hp hZ => ?_)
      obtain ⟨hr, hy⟩ := hp
      subst hy
      refine hw_topi hr ?_
      refine hw_bz_eqF (tgt := 21) hx hb dMo_language_9 (by decide) rfl ?_
      refine lv_iload_n hx hb dMo_language_12 rfl (lv_at hl 2 rfl) ?_
      refine hw_if_lt (a := x) (tgt := 21) hx hb dMo_language_13 (by decide) (by omega) (fun cq_46 => by exfalso; omega) (fun cq_46 => ?_)
      refine lv_iload_n hx hb dMo_language_16 rfl (lv_at hl 2 rfl) ?_
      refine lv_iconst (v := nI 2) hx hb dMo_language_17 (by decide) ?_
      refine hw_ic_le (a := x) (b := 2) (tgt := 23) hx hb dMo_language_18 (by decide) (by omega) (by omega) (fun cq_47 => ?_) (fun cq_47 => by exfalso; omega)
      refine lv_aload_n hx hb dMo_language_23 rfl (lv_at hl 0 rfl) ?_
      refine hw_get hx hb hts (hwInn inMo) hown hK hZ gx rfl 6 (by decide) (hts (.fieldLink RMo 21 RMo "languages" "[I") (hwMem mm_373)) (fun _ h => h) rfl dMo_language_24 ?_
      refine lv_iload_n hx hb dMo_language_27 rfl (lv_at hl 1 rfl) ?_
      refine hw_iald hx hb hK hZ 0 g4 rfl (j := j) (by omega) (by omega) dMo_language_28 ?_
      refine hw_topi (y := nI (lg j)) (hfl j hj) ?_
      refine lv_istore_n (lv' := [(3, .int (nI (lg j))), (0, .ref a), (1, .int (nI j)), (2, .int (nI x))]) hx hb dMo_language_29 rfl hl (by decide) rfl (fun ls hl => ?_)
      refine lv_aload_n hx hb dMo_language_30 rfl (lv_at hl 1 rfl) ?_
      refine hw_get hx hb hts (hwInn inMo) hown hK hZ gx rfl 6 (by decide) (hts (.fieldLink RMo 21 RMo "languages" "[I") (hwMem mm_373)) (fun _ h => h) rfl dMo_language_31 ?_
      refine lv_iload_n hx hb dMo_language_34 rfl (lv_at hl 2 rfl) ?_
      refine lv_iload_n hx hb dMo_language_35 rfl (lv_at hl 3 rfl) ?_
      refine hw_iast hx hb hK hZ 0 g4 rfl (j := j) (by omega) (by omega) dMo_language_36 (fun X_48 H_49 lc_50 hZ hF hNw => ?_)
      have hFr := hwF.tr hFr hF (fun _ h => h) (fun M h => by first | exact False.elim h | ((try dsimp only at h ⊢); omega))
      have gx := hF _ _ _ (by intro hNS; first | exact False.elim hNS | ((try dsimp only at hNS); omega)) gx
      have g1 := hF _ _ _ (by intro hNS; first | exact False.elim hNS | ((try dsimp only at hNS); omega)) g1
      have g2 := hF _ _ _ (by intro hNS; first | exact False.elim hNS | ((try dsimp only at hNS); omega)) g2
      have g3 := hF _ _ _ (by intro hNS; first | exact False.elim hNS | ((try dsimp only at hNS); omega)) g3
      have g4 := hNw
      have g5 := rwAt.fr hF (by intro hNS; first | exact False.elim hNS | ((try dsimp only at hNS); omega)) g5
      have g6 := hF _ _ _ (by intro hNS; first | exact False.elim hNS | ((try dsimp only at hNS); omega)) g6
      have g7 := rwAt.fr hF (by intro hNS; first | exact False.elim hNS | ((try dsimp only at hNS); omega)) g7
      have g8 := rwAt.fr hF (by intro hNS; first | exact False.elim hNS | ((try dsimp only at hNS); omega)) g8
      have g9 := rwAt.fr hF (by intro hNS; first | exact False.elim hNS | ((try dsimp only at hNS); omega)) g9
      have g10 := rwAt.fr hF (by intro hNS; first | exact False.elim hNS | ((try dsimp only at hNS); omega)) g10
      have g11 := hF _ _ _ (by intro hNS; first | exact False.elim hNS | ((try dsimp only at hNS); omega)) g11
      have g12 := hF _ _ _ (by intro hNS; first | exact False.elim hNS | ((try dsimp only at hNS); omega)) g12
      have g13 := hF _ _ _ (by intro hNS; first | exact False.elim hNS | ((try dsimp only at hNS); omega)) g13
      have g14 := rwAt.fr hF (by intro hNS; first | exact False.elim hNS | ((try dsimp only at hNS); omega)) g14
      have g15 := hF _ _ _ (by intro hNS; first | exact False.elim hNS | ((try dsimp only at hNS); omega)) g15
      refine lv_iload_n hx hb dMo_language_37 rfl (lv_at hl 0 rfl) ?_
      exact hret hZ (by rw [lanP_g (kN_nI hj) hx3]; exact ⟨rfl, hFr, ⟨_, _, _, _, _, _, _, _, _, _, _, _, _, _, _, _, _, _, _, _, _, _, _, _, _, _, _, _, _, _, _, _, _, gx, g1, g2, g3, g4, g5, g6, g7, g8, g9, g10, g11, g12, g13, g14, g15, hft, hfg, hfp, (lan_fl hfl), hfd, hv1, hv2, hv3⟩⟩) dMo_language_38
