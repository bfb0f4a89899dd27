/-! A WORLD BY MEMBERSHIP: X = (cells, labels). A fact 'hwH X a L e': the cell at a is e, and bears the label L. Cells with different labels are apart: what is written under one label leaves the facts of all others (hwF). -/
abbrev hwW : Type := va_W × (Nat → Nat)
def hwH (X : hwW) (a L : Nat) (e : va_E) : Prop := (∃ k : Nat, X.1[k]? = some (a, e)) ∧ X.2 a = L
def hwF (X Y : hwW) (S : Nat → Prop) : Prop := ∀ (b M : Nat) (e : va_E), ¬ S M → hwH X b M e → hwH Y b M e
def hwZ (D : va_G) (cl : List vw_C) (A : Nat → Prop) (H0 : Heap) (X : hwW) (H : Heap) (locs : List Loc) : Prop := va_P D cl X.1 H ∧ va_D A X.1 ∧ va_S A H0 H locs
theorem hwF.rf {X : hwW} {S : Nat → Prop} : hwF X X S := fun _ _ _ _ h => h
theorem hwF.tr {X Y Z : hwW} {S T U : Nat → Prop} (h1 : hwF X Y S) (h2 : hwF Y Z T) (hS : ∀ M, S M → U M) (hT : ∀ M, T M → U M) : hwF X Z U := fun b M e hM h => h2 b M e (fun q => hM (hT M q)) (h1 b M e (fun q => hM (hS M q)) h)
theorem hwF.wk {X Y : hwW} {S U : Nat → Prop} (h1 : hwF X Y S) (hS : ∀ M, S M → U M) : hwF X Y U := fun b M e hM h => h1 b M e (fun q => hM (hS M q)) h
theorem hw_set_self {ws : va_W} {q0 : Nat} {x y : Nat × va_E} (h : ws[q0]? = some x) : (ws.set q0 y)[q0]? = some y := by
  have hlt : q0 < ws.length := (List.getElem?_eq_some_iff.mp h).1
  simp [List.getElem?_set, hlt]
theorem hwF.set {X : hwW} {q0 a L : Nat} {e0 e : va_E} (h : X.1[q0]? = some (a, e0)) (hL : X.2 a = L) : hwF X (X.1.set q0 (a, e), X.2) (fun M => M = L) := by
  intro b M e1 hM hb
  obtain ⟨⟨k, hk⟩, hm⟩ := hb
  refine ⟨⟨k, ?_⟩, hm⟩
  have hne : q0 ≠ k := by
    intro q
    subst q
    rw [h] at hk
    cases hk
    exact hM (hm.symm.trans hL)
  show (X.1.set q0 (a, e))[k]? = some (b, e1)
  rw [List.getElem?_set_ne hne]
  exact hk
theorem hwF.push {A : Nat → Prop} {X : hwW} {q L : Nat} {e : va_E} (hD : va_D A (X.1 ++ [(q, e)])) : hwF X (X.1 ++ [(q, e)], va_up X.2 q L) (fun _ => False) := by
  intro b M e1 hM hb
  obtain ⟨⟨k, hk⟩, hm⟩ := hb
  have hlt : k < X.1.length := (List.getElem?_eq_some_iff.mp hk).1
  have h1 : (X.1 ++ [(q, e)])[k]? = some (b, e1) := by rw [List.getElem?_append_left hlt]; exact hk
  have h2 : (X.1 ++ [(q, e)])[X.1.length]? = some (q, e) := by simp
  refine ⟨⟨k, h1⟩, ?_⟩
  show va_up X.2 q L b = M
  rw [va_up_ne]
  · exact hm
  · intro hbq
    have := hD.1 k X.1.length _ _ h1 h2 hbq
    omega
theorem hwH.push {X : hwW} {q L : Nat} {e : va_E} : hwH (X.1 ++ [(q, e)], va_up X.2 q L) q L e := ⟨⟨X.1.length, by simp⟩, va_up_self _ _ _⟩
/-- two facts of one address say the same -/
theorem hwH.one {D : va_G} {cl : List vw_C} {A : Nat → Prop} {H0 H : Heap} {X : hwW} {locs : List Loc} (hZ : hwZ D cl A H0 X H locs) {a L M : Nat} {e f : va_E} (h1 : hwH X a L e) (h2 : hwH X a M f) : e = f ∧ L = M := by
  obtain ⟨⟨k, hk⟩, hL⟩ := h1
  obtain ⟨⟨j, hj⟩, hM⟩ := h2
  have := hZ.2.1.1 k j _ _ hk hj rfl
  subst this
  rw [hk] at hj
  cases hj
  exact ⟨rfl, hL.symm.trans hM⟩
theorem hwZ.up {D : va_G} {cl : List vw_C} {A : Nat → Prop} {H0 H : Heap} {X : hwW} {locs : List Loc} (hZ : hwZ D cl A H0 X H locs) (hA : ∀ q, H0.size ≤ q → A q) : ∀ q, va_A X.1 H.size q → A q := by
  intro q h
  rcases h with ⟨k, e, h⟩ | h
  · exact hZ.2.1.2 k _ h
  · exact hA q (Nat.le_trans hZ.2.2.1 h)
def hwO (tys : List (ClassId × FieldType)) (U : State) : Prop := (∀ (k : Nat) (q : ClassId) (C : String), tys[k]? = some (q, .object C) → va_AO C U) ∧ ∀ w ∈ hwN, va_Nw w U
theorem hwO.same {tys : List (ClassId × FieldType)} {u U : State} (h : u.vm = U.vm) (hO : hwO tys u) : hwO tys U := ⟨fun k q C e => va_AO.moved (h ▸ Vm.Alike.refl u.vm) (hO.1 k q C e), fun w hw => va_Nw.same (hwN_tab w hw) h (hO.2 w hw)⟩
theorem hwO.warm {tys : List (ClassId × FieldType)} {s U : State} (hW : s.WarmedH U.vm) (hO : hwO tys s) : hwO tys U := ⟨fun k q C e => va_AO.moved hW.alike (hO.1 k q C e), fun w hw => hwN_warm hW w hw (hO.2 w hw)⟩
def hwPc (D : va_G) (cl : List vw_C) (tys : List (ClassId × FieldType)) (av : List Value) (X : hwW) (sz : Nat) : Array Value → State → Prop := va_Pc av (fun U => U.heap.size = sz ∧ va_P D cl X.1 U.heap ∧ va_K D cl tys U ∧ va_D (fun _ => True) X.1 ∧ hwO tys U)
def hwB (D : va_G) (cl : List vw_C) (X : hwW) (sz : Nat) (Y : hwW) (t : State) : Prop := va_P D cl Y.1 t.heap ∧ va_D (va_A X.1 sz) Y.1
abbrev hwQi (D : va_G) (cl : List vw_C) (X : hwW) (sz : Nat) (post : Int32 → hwW → Prop) : Array Value → State → Outcome → State → Prop := va_Qi post (hwB D cl X sz) (va_A X.1 sz)
abbrev hwQl (D : va_G) (cl : List vw_C) (X : hwW) (sz : Nat) (post : Int64 → hwW → Prop) : Array Value → State → Outcome → State → Prop := va_Ql post (hwB D cl X sz) (va_A X.1 sz)
abbrev hwQv (D : va_G) (cl : List vw_C) (X : hwW) (sz : Nat) (post : hwW → Prop) : Array Value → State → Outcome → State → Prop := va_Qv post (hwB D cl X sz) (va_A X.1 sz)
abbrev hwQq (D : va_G) (cl : List vw_C) (X : hwW) (sz : Nat) (post : Option Nat → hwW → Prop) : Array Value → State → Outcome → State → Prop := va_Qq post (hwB D cl X sz) (va_A X.1 sz)
theorem hw_blind {D : va_G} {cl : List vw_C} {tys : List (ClassId × FieldType)} {av : List Value} {X : hwW} {sz : Nat} : FrameBlind (hwPc D cl tys av X sz) := fun a U g mk q => by
  obtain ⟨q0, q1, qP, qK, qD, qO⟩ := q
  exact ⟨q0, q1, qP, va_K.moved (u := U) (U := U.calling g mk a) (Vm.Alike.refl U.vm) qK, qD, hwO.same (u := U) (U := U.calling g mk a) rfl qO⟩
theorem hw_preS {D : va_G} {cl : List vw_C} {tys : List (ClassId × FieldType)} {av : List Value} {X : hwW} {s : State} {H H0 : Heap} {A : Nat → Prop} {locs : List Loc} (hK : va_K D cl tys s) (hO : hwO tys s) (hZ : hwZ D cl A H0 X H locs) : PreS s H (hwPc D cl tys av X H.size) av :=
  ⟨hw_blind, fun U hU hW => ⟨rfl, by rw [hU], by rw [hU]; exact hZ.1, va_K.moved hW.alike hK, hZ.2.1.weaken (fun _ _ _ _ => trivial), hwO.warm hW hO⟩⟩
theorem hw_preV {D : va_G} {cl : List vw_C} {tys : List (ClassId × FieldType)} {As : List Value} {X : hwW} {s : State} {H H0 : Heap} {A : Nat → Prop} {locs : List Loc} {a ci : Nat} {q : vw_C} (hK : va_K D cl tys s) (hO : hwO tys s) (hZ : hwZ D cl A H0 X H locs) (he : ∃ (L : Nat) (fs : List Value), hwH X a L (.inr (ci, fs))) (hc : cl[ci]? = some q) : PreV s H q.1 a (hwPc D cl tys (.ref a :: As) X H.size) As := by
  obtain ⟨L, fs, ⟨k, hk⟩, -⟩ := he
  exact ⟨hw_blind, va_recv hK hZ.1 hc hk, fun U hU hW => ⟨rfl, by rw [hU], by rw [hU]; exact hZ.1, va_K.moved hW.alike hK, hZ.2.1.weaken (fun _ _ _ _ => trivial), hwO.warm hW hO⟩⟩
theorem hwMet {l : Launch} {D : va_G} {cl : List vw_C} {tys : List (ClassId × FieldType)} {y : MethodName} {ws ws' : List Cond} {rm : Room} {Qc : Array Value → State → Outcome → State → Prop} {mc ms sz : Nat} {cc : ByteArray} {maxL : Nat} {ret : Option FieldType} {av : List Value} {X : hwW} (hy : plainName y.cls = true) (hw : ws = Cond.code y cc maxL ret :: ws') (hlen : (lg_sl av).length ≤ maxL)
    (body : ∀ (p : Program) (e : Env) (s : State) (m : MethodId) (below : List Frame) (meth : Method) (c : Code) (ls : Array Slot), p.tables.exec = Jvm.exec → c.code = cc → meth.sig.returnType = ret → c.maxLocals = maxL → s.vm.findClass y.cls = some m.cls → (∀ w ∈ ws, w.before av.toArray s = true) → meth.locks = false → meth.name = y.name → s.heap.size = sz → va_K D cl tys s → hwO tys s → hwZ D cl (va_A X.1 s.heap.size) s.heap X s.heap [] → lv_has ls maxL (lv_args 0 av) →
      W p l e rm s m av.toArray below meth c s.heap [] 0 0 (MQ below Qc av.toArray s mc ms (va_A X.1 sz)) (F0 m 0 ls [])) : Met l y ws rm (hwPc D cl tys av X sz) Qc mc ms (va_A X.1 sz) := by
  refine Met.ofW (cc := cc) (maxL := maxL) (ret := ret) hy hw ?_
  intro p e s m args below meth c s₁ B hml hv
  obtain ⟨rfl, hsz, hP, hK, hD0, hO⟩ := hv
  have hl := lv_entry av (n := maxL) hlen
  rw [lg_entry_eq]
  exact body p e s m below meth c _ B.exec B.bytes B.returns hml (findClass_of_methodNamed B.named) (atoms_spec (ws := ws) B.pre) B.notSynchronized (name_of_methodNamed B.named B.method).1 hsz hK hO ⟨hP, hD0.self, va_S.rf⟩ hl
section HW1
variable {p : Program} {l : Launch} {e : Env} {R : Room} {s : State} {m : MethodId} {args : Array Value} {below : List Frame} {meth : Method} {c : Code} {H : Heap} {locs : List Loc} {cells slots : Nat} {Q : State → Prop}
variable {cc : ByteArray} {pc : Nat} {ls : Array Slot} {rest : List Value} {D : va_G} {cl : List vw_C} {A : Nat → Prop} {a L : Nat} {tys : List (ClassId × FieldType)} {X : hwW} {H0 : Heap}
theorem hw_topi {x y : Int32} (h : x = y) (k : W p l e R s m args below meth c H locs cells slots Q (F0 m pc ls (.int y :: rest))) : W p l e R s m args below meth c H locs cells slots Q (F0 m pc ls (.int x :: rest)) := h ▸ k
theorem hw_topl {x y : Int64} (h : x = y) (k : W p l e R s m args below meth c H locs cells slots Q (F0 m pc ls (.long y :: rest))) : W p l e R s m args below meth c H locs cells slots Q (F0 m pc ls (.long x :: rest)) := h ▸ k
theorem hw_top {x y : Value} (h : x = y) (k : W p l e R s m args below meth c H locs cells slots Q (F0 m pc ls (y :: rest))) : W p l e R s m args below meth c H locs cells slots Q (F0 m pc ls (x :: rest)) := h ▸ k
theorem hw_get (hx : p.tables.exec = Jvm.exec) (hb : c.code = cc) {own ref C : String} {T : u_T} {N ci index : Nat} {Ts : List Cond} (hts : ∀ w ∈ Ts, w.before args s = true) (hin : ∀ w ∈ u_ws C T N, w ∈ Ts) (hown : s.vm.findClass own = some m.cls) (hK : va_K D cl tys s) (hZ : hwZ D cl A H0 X H locs) {fs : List Value} (he : hwH X a L (.inr (ci, fs))) (hc : cl[ci]? = some (C, T, N)) (k : Nat) (hk : k < N) (hlink : (Cond.fieldLink own index ref (T k).2.1 (T k).2.2.1).before args s = true) (hsame : ∀ x, s.fieldFound? (T k).1 (T k).2.1 (T k).2.2.1 = some x → s.fieldFound? ref (T k).2.1 (T k).2.2.1 = some x) {v : Value} (hv : fs[k]? = some v) (hdg : decode cc pc = .ok (.getfield index, 3))
    (kk : W p l e R s m args below meth c H locs cells slots Q (F0 m (pc + 3) ls (v :: rest))) : W p l e R s m args below meth c H locs cells slots Q (F0 m pc ls (.ref a :: rest)) := by
  obtain ⟨⟨q0, hq⟩, -⟩ := he
  exact va_get hx hb hts hin hown hK hZ.1 q0 hq hc k hk hlink hsame hv hdg kk
theorem hw_getN (hx : p.tables.exec = Jvm.exec) (hb : c.code = cc) {own ref C host : String} {T : u_T} {N ci index : Nat} {Ts : List Cond} (hts : ∀ w ∈ Ts, w.before args s = true) (hin : ∀ w ∈ u_ws C T N, w ∈ Ts) (hown : s.vm.findClass own = some m.cls) (hK : va_K D cl tys s) (hZ : hwZ D cl A H0 X H locs) {fs : List Value} (he : hwH X a L (.inr (ci, fs))) (hc : cl[ci]? = some (C, T, N)) (k : Nat) (hk : k < N) (hlink : va_Nw (Cond.fieldLinkNest own index ref (T k).2.1 (T k).2.2.1 host) s) (hsame : ∀ x, s.fieldFound? (T k).1 (T k).2.1 (T k).2.2.1 = some x → s.fieldFound? ref (T k).2.1 (T k).2.2.1 = some x) {v : Value} (hv : fs[k]? = some v) (hdg : decode cc pc = .ok (.getfield index, 3))
    (kk : W p l e R s m args below meth c H locs cells slots Q (F0 m (pc + 3) ls (v :: rest))) : W p l e R s m args below meth c H locs cells slots Q (F0 m pc ls (.ref a :: rest)) := by
  obtain ⟨⟨q0, hq⟩, -⟩ := he
  exact va_getN hx hb hts hin hown hK hZ.1 q0 hq hc k hk (va_Nw.use rfl hlink) hsame hv hdg kk
theorem hw_put (hx : p.tables.exec = Jvm.exec) (hb : c.code = cc) {own ref C : String} {T : u_T} {N ci index : Nat} {Ts : List Cond} (hts : ∀ w ∈ Ts, w.before args s = true) (hin : ∀ w ∈ u_ws C T N, w ∈ Ts) (ty0 : Nat → FieldType) (hty : ∀ k, k < N → parseFieldDescriptor (T k).2.2.1 = some (ty0 k)) (hnm : ∀ a, a < N → ∀ b, b < N → a ≠ b → (T a).2.1 ≠ (T b).2.1) (hown : s.vm.findClass own = some m.cls) (hK : va_K D cl tys s) (hZ : hwZ D cl A H0 X H locs) {fs : List Value} (he : hwH X a L (.inr (ci, fs))) (hc : cl[ci]? = some (C, T, N)) (k : Nat) (hk : k < N) (hlink : (Cond.fieldLink own index ref (T k).2.1 (T k).2.2.1).before args s = true) (hsame : ∀ x, s.fieldFound? (T k).1 (T k).2.1 (T k).2.2.1 = some x → s.fieldFound? ref (T k).2.1 (T k).2.2.1 = some x) (hfin : (T k).2.2.2 = false) {ty : FieldType} {v : Value} (hd : parseFieldDescriptor (T k).2.2.1 = some ty) (hn : narrow ty v = v) (hfit : fits ty v = true) (hl : k < fs.length) {fs' : List Value} (hfs : fs.set k v = fs') (hdg : decode cc pc = .ok (.putfield index, 3))
    (kk : ∀ (Y : hwW) (H1 : Heap) (locs1 : List Loc), hwZ D cl A H0 Y H1 locs1 → hwF X Y (fun M => M = L) → hwH Y a L (.inr (ci, fs')) → W p l e R s m args below meth c H1 locs1 cells slots Q (F0 m (pc + 3) ls rest)) : W p l e R s m args below meth c H locs cells slots Q (F0 m pc ls (v :: .ref a :: rest)) := by
  obtain ⟨⟨q0, hq⟩, hL⟩ := he
  subst hfs
  refine va_put hx hb hts hin ty0 hty hnm hown hK hZ.1 hZ.2.1 hZ.2.2 q0 hq hc k hk hlink hsame hfin hd hn hfit hl hdg (fun H1 locs1 hP hD hS => ?_)
  exact kk (X.1.set q0 _, X.2) H1 locs1 ⟨hP, hD, hS⟩ (hwF.set hq hL) ⟨⟨q0, hw_set_self hq⟩, hL⟩
theorem hw_putN (hx : p.tables.exec = Jvm.exec) (hb : c.code = cc) {own ref C host : String} {T : u_T} {N ci index : Nat} {Ts : List Cond} (hts : ∀ w ∈ Ts, w.before args s = true) (hin : ∀ w ∈ u_ws C T N, w ∈ Ts) (ty0 : Nat → FieldType) (hty : ∀ k, k < N → parseFieldDescriptor (T k).2.2.1 = some (ty0 k)) (hnm : ∀ a, a < N → ∀ b, b < N → a ≠ b → (T a).2.1 ≠ (T b).2.1) (hown : s.vm.findClass own = some m.cls) (hK : va_K D cl tys s) (hZ : hwZ D cl A H0 X H locs) {fs : List Value} (he : hwH X a L (.inr (ci, fs))) (hc : cl[ci]? = some (C, T, N)) (k : Nat) (hk : k < N) (hlink : va_Nw (Cond.fieldLinkNest own index ref (T k).2.1 (T k).2.2.1 host) s) (hsame : ∀ x, s.fieldFound? (T k).1 (T k).2.1 (T k).2.2.1 = some x → s.fieldFound? ref (T k).2.1 (T k).2.2.1 = some x) (hfin : (T k).2.2.2 = false) {ty : FieldType} {v : Value} (hd : parseFieldDescriptor (T k).2.2.1 = some ty) (hn : narrow ty v = v) (hfit : fits ty v = true) (hl : k < fs.length) {fs' : List Value} (hfs : fs.set k v = fs') (hdg : decode cc pc = .ok (.putfield index, 3))
    (kk : ∀ (Y : hwW) (H1 : Heap) (locs1 : List Loc), hwZ D cl A H0 Y H1 locs1 → hwF X Y (fun M => M = L) → hwH Y a L (.inr (ci, fs')) → W p l e R s m args below meth c H1 locs1 cells slots Q (F0 m (pc + 3) ls rest)) : W p l e R s m args below meth c H locs cells slots Q (F0 m pc ls (v :: .ref a :: rest)) := by
  obtain ⟨⟨q0, hq⟩, hL⟩ := he
  subst hfs
  refine va_putN hx hb hts hin ty0 hty hnm hown hK hZ.1 hZ.2.1 hZ.2.2 q0 hq hc k hk (va_Nw.use rfl hlink) hsame hfin hd hn hfit hl hdg (fun H1 locs1 hP hD hS => ?_)
  exact kk (X.1.set q0 _, X.2) H1 locs1 ⟨hP, hD, hS⟩ (hwF.set hq hL) ⟨⟨q0, hw_set_self hq⟩, hL⟩
theorem hw_putF (hx : p.tables.exec = Jvm.exec) (hb : c.code = cc) {own ref C : String} {T : u_T} {N ci index : Nat} {Ts : List Cond} (hts : ∀ w ∈ Ts, w.before args s = true) (hin : ∀ w ∈ u_ws C T N, w ∈ Ts) (ty0 : Nat → FieldType) (hty : ∀ k, k < N → parseFieldDescriptor (T k).2.2.1 = some (ty0 k)) (hnm : ∀ a, a < N → ∀ b, b < N → a ≠ b → (T a).2.1 ≠ (T b).2.1) (hown : s.vm.findClass own = some m.cls) (hK : va_K D cl tys s) (hZ : hwZ D cl A H0 X H locs) {fs : List Value} (he : hwH X a L (.inr (ci, fs))) (hc : cl[ci]? = some (C, T, N)) (k : Nat) (hk : k < N) (hlink : (Cond.fieldLink own index ref (T k).2.1 (T k).2.2.1).before args s = true) (hsame : ∀ x, s.fieldFound? (T k).1 (T k).2.1 (T k).2.2.1 = some x → s.fieldFound? ref (T k).2.1 (T k).2.2.1 = some x) (hfin : (T k).2.2.2 = true) (hin2 : meth.name = "<init>") (hdecl : (T k).1 = own) {ty : FieldType} {v : Value} (hd : parseFieldDescriptor (T k).2.2.1 = some ty) (hn : narrow ty v = v) (hfit : fits ty v = true) (hl : k < fs.length) {fs' : List Value} (hfs : fs.set k v = fs') (hdg : decode cc pc = .ok (.putfield index, 3))
    (kk : ∀ (Y : hwW) (H1 : Heap) (locs1 : List Loc), hwZ D cl A H0 Y H1 locs1 → hwF X Y (fun M => M = L) → hwH Y a L (.inr (ci, fs')) → W p l e R s m args below meth c H1 locs1 cells slots Q (F0 m (pc + 3) ls rest)) : W p l e R s m args below meth c H locs cells slots Q (F0 m pc ls (v :: .ref a :: rest)) := by
  obtain ⟨⟨q0, hq⟩, hL⟩ := he
  subst hfs
  refine va_putF hx hb hts hin ty0 hty hnm hown hK hZ.1 hZ.2.1 hZ.2.2 q0 hq hc k hk hlink hsame hfin hin2 hdecl hd hn hfit hl hdg (fun H1 locs1 hP hD hS => ?_)
  exact kk (X.1.set q0 _, X.2) H1 locs1 ⟨hP, hD, hS⟩ (hwF.set hq hL) ⟨⟨q0, hw_set_self hq⟩, hL⟩
theorem hw_iald (hx : p.tables.exec = Jvm.exec) (hb : c.code = cc) (hK : va_K D cl tys s) (hZ : hwZ D cl A H0 X H locs) (t0 : Nat) {cA : ClassId} {n j : Nat} {f : Nat → Int32} (he : hwH X a L (.inl (cA, n, .inl f))) (ht : tys[t0]? = some (cA, .int)) (hj : j < n) (hn : n < 2 ^ 31) (hdg : decode cc pc = .ok (.iaload, 1))
    (kk : W p l e R s m args below meth c H locs cells slots Q (F0 m (pc + 1) ls (.int (f j) :: rest))) : W p l e R s m args below meth c H locs cells slots Q (F0 m pc ls (.int (nI j) :: .ref a :: rest)) := by
  obtain ⟨⟨q0, hq⟩, -⟩ := he
  refine va_iald hx hb hK hZ.1 q0 t0 hq ht (vp_in_nI hj hn) hdg ?_
  rw [nI_clamp (Nat.lt_trans hj hn)]
  exact kk
theorem hw_lald (hx : p.tables.exec = Jvm.exec) (hb : c.code = cc) (hK : va_K D cl tys s) (hZ : hwZ D cl A H0 X H locs) (t0 : Nat) {cA : ClassId} {n j : Nat} {f : Nat → Int64} (he : hwH X a L (.inl (cA, n, .inr (.inl f)))) (ht : tys[t0]? = some (cA, .long)) (hj : j < n) (hn : n < 2 ^ 31) (hdg : decode cc pc = .ok (.laload, 1))
    (kk : W p l e R s m args below meth c H locs cells slots Q (F0 m (pc + 1) ls (.long (f j) :: rest))) : W p l e R s m args below meth c H locs cells slots Q (F0 m pc ls (.int (nI j) :: .ref a :: rest)) := by
  obtain ⟨⟨q0, hq⟩, -⟩ := he
  refine va_lald hx hb hK hZ.1 q0 t0 hq ht (vp_in_nI hj hn) hdg ?_
  rw [nI_clamp (Nat.lt_trans hj hn)]
  exact kk
theorem hw_zald (hx : p.tables.exec = Jvm.exec) (hb : c.code = cc) (hK : va_K D cl tys s) (hZ : hwZ D cl A H0 X H locs) (t0 : Nat) {cA : ClassId} {n j : Nat} {f : Nat → Int32} (he : hwH X a L (.inl (cA, n, .inl f))) (ht : tys[t0]? = some (cA, .boolean)) (hj : j < n) (hn : n < 2 ^ 31) (hdg : decode cc pc = .ok (.baload, 1))
    (kk : W p l e R s m args below meth c H locs cells slots Q (F0 m (pc + 1) ls (.int (f j) :: rest))) : W p l e R s m args below meth c H locs cells slots Q (F0 m pc ls (.int (nI j) :: .ref a :: rest)) := by
  obtain ⟨⟨q0, hq⟩, -⟩ := he
  refine va_zald hx hb hK hZ.1 q0 t0 hq ht (vp_in_nI hj hn) hdg ?_
  rw [nI_clamp (Nat.lt_trans hj hn)]
  exact kk
theorem hw_cald (hx : p.tables.exec = Jvm.exec) (hb : c.code = cc) (hK : va_K D cl tys s) (hZ : hwZ D cl A H0 X H locs) (t0 : Nat) {cA : ClassId} {n j : Nat} {f : Nat → Int32} (he : hwH X a L (.inl (cA, n, .inl f))) (ht : tys[t0]? = some (cA, .char)) (hj : j < n) (hn : n < 2 ^ 31) (hdg : decode cc pc = .ok (.caload, 1))
    (kk : W p l e R s m args below meth c H locs cells slots Q (F0 m (pc + 1) ls (.int (f j) :: rest))) : W p l e R s m args below meth c H locs cells slots Q (F0 m pc ls (.int (nI j) :: .ref a :: rest)) := by
  obtain ⟨⟨q0, hq⟩, -⟩ := he
  refine va_cald hx hb hK hZ.1 q0 t0 hq ht (vp_in_nI hj hn) hdg ?_
  rw [nI_clamp (Nat.lt_trans hj hn)]
  exact kk
theorem hw_bald (hx : p.tables.exec = Jvm.exec) (hb : c.code = cc) (hK : va_K D cl tys s) (hZ : hwZ D cl A H0 X H locs) (t0 : Nat) {cA : ClassId} {n j : Nat} {f : Nat → Int32} (he : hwH X a L (.inl (cA, n, .inl f))) (ht : tys[t0]? = some (cA, .byte)) (hj : j < n) (hn : n < 2 ^ 31) (hdg : decode cc pc = .ok (.baload, 1))
    (kk : W p l e R s m args below meth c H locs cells slots Q (F0 m (pc + 1) ls (.int (f j) :: rest))) : W p l e R s m args below meth c H locs cells slots Q (F0 m pc ls (.int (nI j) :: .ref a :: rest)) := by
  obtain ⟨⟨q0, hq⟩, -⟩ := he
  refine va_bald hx hb hK hZ.1 q0 t0 hq ht (vp_in_nI hj hn) hdg ?_
  rw [nI_clamp (Nat.lt_trans hj hn)]
  exact kk
theorem hw_aldq (hx : p.tables.exec = Jvm.exec) (hb : c.code = cc) (hK : va_K D cl tys s) (hZ : hwZ D cl A H0 X H locs) (t0 : Nat) {cA : ClassId} {C : String} {n j : Nat} {f : Nat → Option Nat} (he : hwH X a L (.inl (cA, n, .inr (.inr (.inr (.inr f)))))) (ht : tys[t0]? = some (cA, .object C)) (hj : j < n) (hn : n < 2 ^ 31) (hdg : decode cc pc = .ok (.aaload, 1)) {r : Option Nat} (hr : f j = r)
    (kk : W p l e R s m args below meth c H locs cells slots Q (F0 m (pc + 1) ls (va_rf r :: rest))) : W p l e R s m args below meth c H locs cells slots Q (F0 m pc ls (.int (nI j) :: .ref a :: rest)) := by
  obtain ⟨⟨q0, hq⟩, -⟩ := he
  subst hr
  refine va_aldq hx hb hK hZ.1 q0 t0 hq ht (vp_in_nI hj hn) hdg ?_
  rw [nI_clamp (Nat.lt_trans hj hn)]
  exact kk
theorem hw_iast (hx : p.tables.exec = Jvm.exec) (hb : c.code = cc) (hK : va_K D cl tys s) (hZ : hwZ D cl A H0 X H locs) (t0 : Nat) {cA : ClassId} {n j : Nat} {f : Nat → Int32} (he : hwH X a L (.inl (cA, n, .inl f))) (ht : tys[t0]? = some (cA, .int)) {x : Int32} (hj : j < n) (hn : n < 2 ^ 31) (hdg : decode cc pc = .ok (.iastore, 1))
    (kk : ∀ (Y : hwW) (H1 : Heap) (locs1 : List Loc), hwZ D cl A H0 Y H1 locs1 → hwF X Y (fun M => M = L) → hwH Y a L (.inl (cA, n, .inl (upd f j x))) → W p l e R s m args below meth c H1 locs1 cells slots Q (F0 m (pc + 1) ls rest)) : W p l e R s m args below meth c H locs cells slots Q (F0 m pc ls (.int x :: .int (nI j) :: .ref a :: rest)) := by
  obtain ⟨⟨q0, hq⟩, hL⟩ := he
  refine va_iast hx hb hK hZ.1 hZ.2.1 hZ.2.2 q0 t0 hq ht (vp_in_nI hj hn) hdg (fun H1 locs1 hP hD hS => ?_)
  rw [nI_clamp (Nat.lt_trans hj hn)] at hP hD
  exact kk (X.1.set q0 _, X.2) H1 locs1 ⟨hP, hD, hS⟩ (hwF.set hq hL) ⟨⟨q0, hw_set_self hq⟩, hL⟩
theorem hw_last (hx : p.tables.exec = Jvm.exec) (hb : c.code = cc) (hK : va_K D cl tys s) (hZ : hwZ D cl A H0 X H locs) (t0 : Nat) {cA : ClassId} {n j : Nat} {f : Nat → Int64} (he : hwH X a L (.inl (cA, n, .inr (.inl f)))) (ht : tys[t0]? = some (cA, .long)) {x : Int64} (hj : j < n) (hn : n < 2 ^ 31) (hdg : decode cc pc = .ok (.lastore, 1))
    (kk : ∀ (Y : hwW) (H1 : Heap) (locs1 : List Loc), hwZ D cl A H0 Y H1 locs1 → hwF X Y (fun M => M = L) → hwH Y a L (.inl (cA, n, .inr (.inl (vp_updL f j x)))) → W p l e R s m args below meth c H1 locs1 cells slots Q (F0 m (pc + 1) ls rest)) : W p l e R s m args below meth c H locs cells slots Q (F0 m pc ls (.long x :: .int (nI j) :: .ref a :: rest)) := by
  obtain ⟨⟨q0, hq⟩, hL⟩ := he
  refine va_last hx hb hK hZ.1 hZ.2.1 hZ.2.2 q0 t0 hq ht (vp_in_nI hj hn) hdg (fun H1 locs1 hP hD hS => ?_)
  rw [nI_clamp (Nat.lt_trans hj hn)] at hP hD
  exact kk (X.1.set q0 _, X.2) H1 locs1 ⟨hP, hD, hS⟩ (hwF.set hq hL) ⟨⟨q0, hw_set_self hq⟩, hL⟩
theorem hw_zast (hx : p.tables.exec = Jvm.exec) (hb : c.code = cc) (hK : va_K D cl tys s) (hZ : hwZ D cl A H0 X H locs) (t0 : Nat) {cA : ClassId} {n j : Nat} {f : Nat → Int32} (he : hwH X a L (.inl (cA, n, .inl f))) (ht : tys[t0]? = some (cA, .boolean)) {x : Int32} (hj : j < n) (hn : n < 2 ^ 31) (hdg : decode cc pc = .ok (.bastore, 1))
    (kk : ∀ (Y : hwW) (H1 : Heap) (locs1 : List Loc), hwZ D cl A H0 Y H1 locs1 → hwF X Y (fun M => M = L) → hwH Y a L (.inl (cA, n, .inl (upd f j (vp_nar .boolean x)))) → W p l e R s m args below meth c H1 locs1 cells slots Q (F0 m (pc + 1) ls rest)) : W p l e R s m args below meth c H locs cells slots Q (F0 m pc ls (.int x :: .int (nI j) :: .ref a :: rest)) := by
  obtain ⟨⟨q0, hq⟩, hL⟩ := he
  refine va_zast hx hb hK hZ.1 hZ.2.1 hZ.2.2 q0 t0 hq ht (vp_in_nI hj hn) hdg (fun H1 locs1 hP hD hS => ?_)
  rw [nI_clamp (Nat.lt_trans hj hn)] at hP hD
  exact kk (X.1.set q0 _, X.2) H1 locs1 ⟨hP, hD, hS⟩ (hwF.set hq hL) ⟨⟨q0, hw_set_self hq⟩, hL⟩
theorem hw_cast (hx : p.tables.exec = Jvm.exec) (hb : c.code = cc) (hK : va_K D cl tys s) (hZ : hwZ D cl A H0 X H locs) (t0 : Nat) {cA : ClassId} {n j : Nat} {f : Nat → Int32} (he : hwH X a L (.inl (cA, n, .inl f))) (ht : tys[t0]? = some (cA, .char)) {x : Int32} (hj : j < n) (hn : n < 2 ^ 31) (hdg : decode cc pc = .ok (.castore, 1))
    (kk : ∀ (Y : hwW) (H1 : Heap) (locs1 : List Loc), hwZ D cl A H0 Y H1 locs1 → hwF X Y (fun M => M = L) → hwH Y a L (.inl (cA, n, .inl (upd f j (vp_nar .char x)))) → W p l e R s m args below meth c H1 locs1 cells slots Q (F0 m (pc + 1) ls rest)) : W p l e R s m args below meth c H locs cells slots Q (F0 m pc ls (.int x :: .int (nI j) :: .ref a :: rest)) := by
  obtain ⟨⟨q0, hq⟩, hL⟩ := he
  refine va_cast hx hb hK hZ.1 hZ.2.1 hZ.2.2 q0 t0 hq ht (vp_in_nI hj hn) hdg (fun H1 locs1 hP hD hS => ?_)
  rw [nI_clamp (Nat.lt_trans hj hn)] at hP hD
  exact kk (X.1.set q0 _, X.2) H1 locs1 ⟨hP, hD, hS⟩ (hwF.set hq hL) ⟨⟨q0, hw_set_self hq⟩, hL⟩
theorem hw_bast (hx : p.tables.exec = Jvm.exec) (hb : c.code = cc) (hK : va_K D cl tys s) (hZ : hwZ D cl A H0 X H locs) (t0 : Nat) {cA : ClassId} {n j : Nat} {f : Nat → Int32} (he : hwH X a L (.inl (cA, n, .inl f))) (ht : tys[t0]? = some (cA, .byte)) {x : Int32} (hj : j < n) (hn : n < 2 ^ 31) (hdg : decode cc pc = .ok (.bastore, 1))
    (kk : ∀ (Y : hwW) (H1 : Heap) (locs1 : List Loc), hwZ D cl A H0 Y H1 locs1 → hwF X Y (fun M => M = L) → hwH Y a L (.inl (cA, n, .inl (upd f j (vp_nar .byte x)))) → W p l e R s m args below meth c H1 locs1 cells slots Q (F0 m (pc + 1) ls rest)) : W p l e R s m args below meth c H locs cells slots Q (F0 m pc ls (.int x :: .int (nI j) :: .ref a :: rest)) := by
  obtain ⟨⟨q0, hq⟩, hL⟩ := he
  refine va_bast hx hb hK hZ.1 hZ.2.1 hZ.2.2 q0 t0 hq ht (vp_in_nI hj hn) hdg (fun H1 locs1 hP hD hS => ?_)
  rw [nI_clamp (Nat.lt_trans hj hn)] at hP hD
  exact kk (X.1.set q0 _, X.2) H1 locs1 ⟨hP, hD, hS⟩ (hwF.set hq hL) ⟨⟨q0, hw_set_self hq⟩, hL⟩
theorem hw_astq (hx : p.tables.exec = Jvm.exec) (hb : c.code = cc) (hK : va_K D cl tys s) (hZ : hwZ D cl A H0 X H locs) (t0 ci : Nat) {cA : ClassId} {r : vw_C} {n j v Lv : Nat} {vs : List Value} {f : Nat → Option Nat} (he : hwH X a L (.inl (cA, n, .inr (.inr (.inr (.inr f)))))) (ht : tys[t0]? = some (cA, .object r.1)) (hv : hwH X v Lv (.inr (ci, vs))) (hc : cl[ci]? = some r) (hj : j < n) (hn : n < 2 ^ 31) (hdg : decode cc pc = .ok (.aastore, 1))
    (kk : ∀ (Y : hwW) (H1 : Heap) (locs1 : List Loc), hwZ D cl A H0 Y H1 locs1 → hwF X Y (fun M => M = L) → hwH Y a L (.inl (cA, n, .inr (.inr (.inr (.inr (va_up f j (some v))))))) → W p l e R s m args below meth c H1 locs1 cells slots Q (F0 m (pc + 1) ls rest)) : W p l e R s m args below meth c H locs cells slots Q (F0 m pc ls (.ref v :: .int (nI j) :: .ref a :: rest)) := by
  obtain ⟨⟨q0, hq⟩, hL⟩ := he
  obtain ⟨⟨q1, hq1⟩, -⟩ := hv
  refine va_astq hx hb hK hZ.1 hZ.2.1 hZ.2.2 q0 t0 q1 ci hq ht hq1 hc (vp_in_nI hj hn) hdg (fun H1 locs1 hP hD hS => ?_)
  rw [nI_clamp (Nat.lt_trans hj hn)] at hP hD
  exact kk (X.1.set q0 _, X.2) H1 locs1 ⟨hP, hD, hS⟩ (hwF.set hq hL) ⟨⟨q0, hw_set_self hq⟩, hL⟩
theorem hw_alen (hx : p.tables.exec = Jvm.exec) (hb : c.code = cc) (hK : va_K D cl tys s) (hZ : hwZ D cl A H0 X H locs) (t0 : Nat) {cA : ClassId} {x : vp_A} (he : hwH X a L (.inl (cA, x))) {ty : FieldType} (ht : tys[t0]? = some (cA, ty)) (hdg : decode cc pc = .ok (.arraylength, 1))
    (kk : W p l e R s m args below meth c H locs cells slots Q (F0 m (pc + 1) ls (.int (nI x.1) :: rest))) : W p l e R s m args below meth c H locs cells slots Q (F0 m pc ls (.ref a :: rest)) := by
  obtain ⟨⟨q0, hq⟩, -⟩ := he
  exact va_alen hx hb hK hZ.1 q0 t0 hq ht rfl hdg kk
theorem hw_new {own C : String} {T : u_T} {N ci index : Nat} {Ts : List Cond} (hx : p.tables.exec = Jvm.exec) (hb : c.code = cc) (hts : ∀ w ∈ Ts, w.before args s = true) (hin : ∀ w ∈ u_ws C T N, w ∈ Ts) (ty : Nat → FieldType) (hty : ∀ k, k < N → parseFieldDescriptor (T k).2.2.1 = some (ty k)) (hown : s.vm.findClass own = some m.cls) (hcl : (Cond.classLink own index C).before args s = true) (hinst : (Cond.instantiable C N).before args s = true) (hini : (Cond.initialized C).before args s = true) (hK : va_K D cl tys s) (hZ : hwZ D cl A H0 X H locs) (hA : ∀ q, H0.size ≤ q → A q) (hc : cl[ci]? = some (C, T, N)) {fs : List Value} (hfs : ∀ j, j < N → defaultValue (ty j) = vp_V fs j) (hcells : cells + 1 ≤ R.cells) (hslots : slots + N ≤ R.slots) (hdg : decode cc pc = .ok (.new index, 3)) (L : Nat)
    (kk : ∀ (q : Nat) (Y : hwW) (H1 : Heap), hwZ D cl A H0 Y H1 locs → hwF X Y (fun _ => False) → hwH Y q L (.inr (ci, fs)) → W p l e R s m args below meth c H1 locs (cells + 1) (slots + N) Q (F0 m (pc + 3) ls (.ref q :: rest))) : W p l e R s m args below meth c H locs cells slots Q (F0 m pc ls rest) := by
  refine va_new hx hb hts hin ty hty hown hcl hinst hini hK hZ.1 hZ.2.1 hZ.2.2 hA hc hfs hcells hslots hdg (fun q H1 hP hD hS => ?_)
  exact kk q (X.1 ++ [(q, .inr (ci, fs))], va_up X.2 q L) H1 ⟨hP, hD, hS⟩ (hwF.push hD) hwH.push
theorem hw_newa (hx : p.tables.exec = Jvm.exec) (hb : c.code = cc) {atype : ArrayType} (harr : (Cond.arrayClass (newarray.typeOf atype)).before args s = true) {ty : FieldType} (hty : newarray.typeOf atype = ty) (hK : va_K D cl tys s) (hZ : hwZ D cl A H0 X H locs) (hA : ∀ q, H0.size ≤ q → A q) (t0 : Nat) {c0 : ClassId} (ht : tys[t0]? = some (c0, ty)) (hpr : ∀ U c1, va_RA U c1 ty = (U.vm.findClass ("[" ++ ty.toString) = some c1))
    {N : Nat} {a0 : vp_A} (ha : ∀ cA : ClassId, vp_cell cA a0 = arrV cA N (fun _ => defaultValue ty)) (hN : N < 2 ^ 31) (hbytes : N * componentBytes ty ≤ 536870912) (hcells : cells + 1 ≤ R.cells) (hslots : slots + N ≤ R.slots) (hdg : decode cc pc = .ok (.newarray atype, 2)) (L : Nat)
    (kk : ∀ (q : Nat) (Y : hwW) (H1 : Heap), hwZ D cl A H0 Y H1 locs → hwF X Y (fun _ => False) → hwH Y q L (.inl (c0, a0)) → W p l e R s m args below meth c H1 locs (cells + 1) (slots + N) Q (F0 m (pc + 2) ls (.ref q :: rest))) : W p l e R s m args below meth c H locs cells slots Q (F0 m pc ls (.int (nI N) :: rest)) := by
  refine va_newa hx hb harr hty hK hZ.1 hZ.2.1 hZ.2.2 hA ha (nI_pos hN) (nI_clamp hN) hbytes hcells hslots hdg (fun q cA H1 hK1 hP hD hS => ?_)
  have h1 := (hK1.2 tys.length (cA, ty) (by simp)).2
  have h2 := (hK.2 t0 _ ht).2
  rw [hpr] at h1 h2
  have h3 : cA = c0 := Option.some.inj (h1.symm.trans h2)
  subst h3
  exact kk q (X.1 ++ [(q, .inl (cA, a0))], va_up X.2 q L) H1 ⟨hP, hD, hS⟩ (hwF.push hD) hwH.push
theorem hw_newq (hx : p.tables.exec = Jvm.exec) (hb : c.code = cc) {own C : String} {index : Nat} (hown : s.vm.findClass own = some m.cls) (hclink : (Cond.classLink own index C).before args s = true) (hO : hwO tys s) (hK : va_K D cl tys s) (hZ : hwZ D cl A H0 X H locs) (hA : ∀ q, H0.size ≤ q → A q) (t0 : Nat) {c0 : ClassId} (ht : tys[t0]? = some (c0, .object C))
    {N : Nat} (hN : N < 2 ^ 31) (hbytes : N * 4 ≤ 536870912) (hcells : cells + 1 ≤ R.cells) (hslots : slots + N ≤ R.slots) (hdg : decode cc pc = .ok (.anewarray index, 3)) (L : Nat)
    (kk : ∀ (q : Nat) (Y : hwW) (H1 : Heap), hwZ D cl A H0 Y H1 locs → hwF X Y (fun _ => False) → hwH Y q L (.inl (c0, N, .inr (.inr (.inr (.inr (fun _ => none)))))) → W p l e R s m args below meth c H1 locs (cells + 1) (slots + N) Q (F0 m (pc + 3) ls (.ref q :: rest))) : W p l e R s m args below meth c H locs cells slots Q (F0 m pc ls (.int (nI N) :: rest)) := by
  refine va_newq hx hb hown hclink (hO.1 t0 _ _ ht) hK hZ.1 hZ.2.1 hZ.2.2 hA (nI_pos hN) (nI_clamp hN) hbytes hcells hslots hdg (fun q cA H1 hK1 hP hD hS => ?_)
  obtain ⟨_, _, -, -, -, h1⟩ := (hK1.2 tys.length (cA, .object C) (by simp)).2
  obtain ⟨_, _, -, -, -, h2⟩ := (hK.2 t0 _ ht).2
  have h3 : cA = c0 := Option.some.inj (h1.symm.trans h2)
  subst h3
  exact kk q (X.1 ++ [(q, .inl (cA, N, .inr (.inr (.inr (.inr (fun _ => none))))))], va_up X.2 q L) H1 ⟨hP, hD, hS⟩ (hwF.push hD) hwH.push
theorem hw_calli {mc ms : Nat} {st0 : List Value} {av : Array Value} {post : Int32 → hwW → Prop} (hr : va_Run p l e R s m args below meth c H locs cells slots mc ms (F0 m pc ls st0) rest (hwQi D cl X H.size post av) (va_A X.1 H.size)) (hZ : hwZ D cl A H0 X H locs) (hA : ∀ q, H0.size ≤ q → A q)
    (kk : ∀ (r : Int32) (Y : hwW) (H1 : Heap) (locs1 : List Loc), post r Y → hwZ D cl A H0 Y H1 locs1 → W p l e R s m args below meth c H1 locs1 (cells + mc) (slots + ms) Q (F0 m (pc + 3) ls (.int r :: rest))) : W p l e R s m args below meth c H locs cells slots Q (F0 m pc ls st0) := by
  have hF := hZ.up hA
  refine va_calli hr hZ.2.2 (fun q _ h => hF q h) hF (fun r u t H1 locs1 ht hvm hp hB hz hk hS => ?_)
  subst ht
  exact kk r u _ locs1 hp ⟨hB.1, hB.2.weaken (fun _ _ _ h => hF _ h), hS⟩
theorem hw_calll {mc ms : Nat} {st0 : List Value} {av : Array Value} {post : Int64 → hwW → Prop} (hr : va_Run p l e R s m args below meth c H locs cells slots mc ms (F0 m pc ls st0) rest (hwQl D cl X H.size post av) (va_A X.1 H.size)) (hZ : hwZ D cl A H0 X H locs) (hA : ∀ q, H0.size ≤ q → A q)
    (kk : ∀ (r : Int64) (Y : hwW) (H1 : Heap) (locs1 : List Loc), post r Y → hwZ D cl A H0 Y H1 locs1 → W p l e R s m args below meth c H1 locs1 (cells + mc) (slots + ms) Q (F0 m (pc + 3) ls (.long r :: rest))) : W p l e R s m args below meth c H locs cells slots Q (F0 m pc ls st0) := by
  have hF := hZ.up hA
  refine va_calll hr hZ.2.2 (fun q _ h => hF q h) hF (fun r u t H1 locs1 ht hvm hp hB hz hk hS => ?_)
  subst ht
  exact kk r u _ locs1 hp ⟨hB.1, hB.2.weaken (fun _ _ _ h => hF _ h), hS⟩
theorem hw_callv {mc ms : Nat} {st0 : List Value} {av : Array Value} {post : hwW → Prop} (hr : va_Run p l e R s m args below meth c H locs cells slots mc ms (F0 m pc ls st0) rest (hwQv D cl X H.size post av) (va_A X.1 H.size)) (hZ : hwZ D cl A H0 X H locs) (hA : ∀ q, H0.size ≤ q → A q)
    (kk : ∀ (Y : hwW) (H1 : Heap) (locs1 : List Loc), post Y → hwZ D cl A H0 Y H1 locs1 → W p l e R s m args below meth c H1 locs1 (cells + mc) (slots + ms) Q (F0 m (pc + 3) ls rest)) : W p l e R s m args below meth c H locs cells slots Q (F0 m pc ls st0) := by
  have hF := hZ.up hA
  refine va_callv hr hZ.2.2 (fun q _ h => hF q h) hF (fun u t H1 locs1 ht hvm hp hB hz hk hS => ?_)
  subst ht
  exact kk u _ locs1 hp ⟨hB.1, hB.2.weaken (fun _ _ _ h => hF _ h), hS⟩
theorem hw_callq {mc ms : Nat} {st0 : List Value} {av : Array Value} {post : Option Nat → hwW → Prop} (hr : va_Run p l e R s m args below meth c H locs cells slots mc ms (F0 m pc ls st0) rest (hwQq D cl X H.size post av) (va_A X.1 H.size)) (hZ : hwZ D cl A H0 X H locs) (hA : ∀ q, H0.size ≤ q → A q)
    (kk : ∀ (r : Option Nat) (Y : hwW) (H1 : Heap) (locs1 : List Loc), post r Y → hwZ D cl A H0 Y H1 locs1 → W p l e R s m args below meth c H1 locs1 (cells + mc) (slots + ms) Q (F0 m (pc + 3) ls (va_rf r :: rest))) : W p l e R s m args below meth c H locs cells slots Q (F0 m pc ls st0) := by
  have hF := hZ.up hA
  refine va_callq hr hZ.2.2 (fun q _ h => hF q h) hF (fun r u t H1 locs1 ht hvm hp hB hz hk hS => ?_)
  subst ht
  exact kk r u _ locs1 hp ⟨hB.1, hB.2.weaken (fun _ _ _ h => hF _ h), hS⟩
theorem hw_iret (hx : p.tables.exec = Jvm.exec) (hb : c.code = cc) (hr : meth.sig.returnType = some .int) (hlocks : meth.locks = false) {X0 : hwW} {post : Int32 → hwW → Prop} {v : Int32} (hZ : hwZ D cl (va_A X0.1 s.heap.size) s.heap X H locs) (hp : post v X) (hdg : decode cc pc = .ok (.ireturn, 1)) : W p l e R s m args below meth c H locs cells slots (MQ below (hwQi D cl X0 s.heap.size post) args s cells slots (va_A X0.1 s.heap.size)) (F0 m pc ls [.int v]) :=
  W.iret hx hb hr (fun t ht hW => ⟨⟨v, X, rfl, hp, by rw [ht]; exact hZ.1, hZ.2.1⟩, hZ.2.2.F ht⟩) hZ.2.2.2.2 hdg hlocks
theorem hw_zret (hx : p.tables.exec = Jvm.exec) (hb : c.code = cc) (hr : meth.sig.returnType = some .boolean) (hlocks : meth.locks = false) {X0 : hwW} {post : Int32 → hwW → Prop} {v : Int32} (hv : narrow .boolean (.int v) = .int v) (hZ : hwZ D cl (va_A X0.1 s.heap.size) s.heap X H locs) (hp : post v X) (hdg : decode cc pc = .ok (.ireturn, 1)) : W p l e R s m args below meth c H locs cells slots (MQ below (hwQi D cl X0 s.heap.size post) args s cells slots (va_A X0.1 s.heap.size)) (F0 m pc ls [.int v]) :=
  W.zret hx hb hr hv (fun t ht hW => ⟨⟨v, X, rfl, hp, by rw [ht]; exact hZ.1, hZ.2.1⟩, hZ.2.2.F ht⟩) hZ.2.2.2.2 hdg hlocks
theorem hw_lret (hx : p.tables.exec = Jvm.exec) (hb : c.code = cc) (hr : meth.sig.returnType = some .long) (hlocks : meth.locks = false) {X0 : hwW} {post : Int64 → hwW → Prop} {v : Int64} (hZ : hwZ D cl (va_A X0.1 s.heap.size) s.heap X H locs) (hp : post v X) (hdg : decode cc pc = .ok (.lreturn, 1)) : W p l e R s m args below meth c H locs cells slots (MQ below (hwQl D cl X0 s.heap.size post) args s cells slots (va_A X0.1 s.heap.size)) (F0 m pc ls [.long v]) :=
  W.lret hx hb hr (fun t ht hW => ⟨⟨v, X, rfl, hp, by rw [ht]; exact hZ.1, hZ.2.1⟩, hZ.2.2.F ht⟩) hZ.2.2.2.2 hdg hlocks
theorem hw_vret (hx : p.tables.exec = Jvm.exec) (hb : c.code = cc) (hr : meth.sig.returnType = none) (hlocks : meth.locks = false) {X0 : hwW} {post : hwW → Prop} (hZ : hwZ D cl (va_A X0.1 s.heap.size) s.heap X H locs) (hp : post X) (hdg : decode cc pc = .ok (.return_, 1)) : W p l e R s m args below meth c H locs cells slots (MQ below (hwQv D cl X0 s.heap.size post) args s cells slots (va_A X0.1 s.heap.size)) (F0 m pc ls []) :=
  W.vret hx hb hr (fun t ht hW => ⟨⟨X, rfl, hp, by rw [ht]; exact hZ.1, hZ.2.1⟩, hZ.2.2.F ht⟩) hZ.2.2.2.2 hdg hlocks
theorem hw_qret (hx : p.tables.exec = Jvm.exec) (hb : c.code = cc) {rt : FieldType} (hr : meth.sig.returnType = some rt) (hrt : (∃ n, rt = .object n) ∨ ∃ t, rt = .array t) (hlocks : meth.locks = false) {X0 : hwW} {post : Option Nat → hwW → Prop} {v : Option Nat} {vv : Value} (hvv : va_rf v = vv) (hZ : hwZ D cl (va_A X0.1 s.heap.size) s.heap X H locs) (hp : post v X) (hdg : decode cc pc = .ok (.areturn, 1)) : W p l e R s m args below meth c H locs cells slots (MQ below (hwQq D cl X0 s.heap.size post) args s cells slots (va_A X0.1 s.heap.size)) (F0 m pc ls [vv]) := by
  subst hvv
  exact W.aret hx hb hr hrt (va_rf_or v) (fun t ht hW => ⟨⟨v, X, rfl, hp, by rw [ht]; exact hZ.1, hZ.2.1⟩, hZ.2.2.F ht⟩) hZ.2.2.2.2 hdg hlocks
end HW1
