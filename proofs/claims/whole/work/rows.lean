section
-- ===== PART A: goes FIRST, ahead of the names: the tables' words, and 'selects' of the private methods out of them =====
/-- a private method of a class that the tables say can be made, by its rows of tables_1 -/
def lw_okq (q : MethodName × Nat) : Prop := (q.1.cls ≠ "java/lang/invoke/MethodHandle" ∧ q.1.cls ≠ "java/lang/invoke/VarHandle") ∧ Cond.instantiable q.1.cls q.2 ∈ tables_1 ∧ Cond.privateMethod q.1 ∈ tables_1 ∧ Cond.instanceMethod q.1 ∈ tables_1
theorem lw_p0 : lw_okq (⟨"WordIndex2", "textOf", "(II)LWordIndex2$Text;"⟩, 12) := ⟨⟨by decide +kernel, by decide +kernel⟩, List.mem_of_getElem? (i := 18) (by decide +kernel), List.mem_of_getElem? (i := 156) (by decide +kernel), List.mem_of_getElem? (i := 157) (by decide +kernel)⟩
theorem lw_p1 : lw_okq (⟨"WordIndex2", "itemThere", "(I)LWordIndex2$Item;"⟩, 12) := ⟨⟨by decide +kernel, by decide +kernel⟩, List.mem_of_getElem? (i := 18) (by decide +kernel), List.mem_of_getElem? (i := 160) (by decide +kernel), List.mem_of_getElem? (i := 161) (by decide +kernel)⟩
theorem lw_p2 : lw_okq (⟨"WordIndex2$Text", "beginWord", "()V"⟩, 3) := ⟨⟨by decide +kernel, by decide +kernel⟩, List.mem_of_getElem? (i := 28) (by decide +kernel), List.mem_of_getElem? (i := 175) (by decide +kernel), List.mem_of_getElem? (i := 176) (by decide +kernel)⟩
theorem lw_p3 : lw_okq (⟨"WordIndex2", "startSearch", "(I)V"⟩, 12) := ⟨⟨by decide +kernel, by decide +kernel⟩, List.mem_of_getElem? (i := 18) (by decide +kernel), List.mem_of_getElem? (i := 213) (by decide +kernel), List.mem_of_getElem? (i := 214) (by decide +kernel)⟩
theorem lw_p4 : lw_okq (⟨"WordIndex2$WordSet", "placeOf", "(J)I"⟩, 2) := ⟨⟨by decide +kernel, by decide +kernel⟩, List.mem_of_getElem? (i := 46) (by decide +kernel), List.mem_of_getElem? (i := 245) (by decide +kernel), List.mem_of_getElem? (i := 246) (by decide +kernel)⟩
theorem lw_p5 : lw_okq (⟨"WordIndex2", "clearQuestion", "()V"⟩, 12) := ⟨⟨by decide +kernel, by decide +kernel⟩, List.mem_of_getElem? (i := 18) (by decide +kernel), List.mem_of_getElem? (i := 266) (by decide +kernel), List.mem_of_getElem? (i := 267) (by decide +kernel)⟩
theorem lw_p6 : lw_okq (⟨"WordIndex2", "gather", "(ILWordIndex2$Search;)I"⟩, 12) := ⟨⟨by decide +kernel, by decide +kernel⟩, List.mem_of_getElem? (i := 18) (by decide +kernel), List.mem_of_getElem? (i := 295) (by decide +kernel), List.mem_of_getElem? (i := 296) (by decide +kernel)⟩
theorem lw_p7 : lw_okq (⟨"WordIndex2", "readField", "(II)Z"⟩, 12) := ⟨⟨by decide +kernel, by decide +kernel⟩, List.mem_of_getElem? (i := 18) (by decide +kernel), List.mem_of_getElem? (i := 299) (by decide +kernel), List.mem_of_getElem? (i := 300) (by decide +kernel)⟩
theorem lw_p8 : lw_okq (⟨"WordIndex2$NearSearch", "secondIsBeside", "(LWordIndex2$Terms;I)Z"⟩, 3) := ⟨⟨by decide +kernel, by decide +kernel⟩, List.mem_of_getElem? (i := 325) (by decide +kernel), List.mem_of_getElem? (i := 323) (by decide +kernel), List.mem_of_getElem? (i := 324) (by decide +kernel)⟩
theorem lw_p9 : lw_okq (⟨"WordIndex2$PhraseSearch", "standsAt", "(LWordIndex2$Terms;I)Z"⟩, 1) := ⟨⟨by decide +kernel, by decide +kernel⟩, List.mem_of_getElem? (i := 337) (by decide +kernel), List.mem_of_getElem? (i := 335) (by decide +kernel), List.mem_of_getElem? (i := 336) (by decide +kernel)⟩
theorem lw_p10 : lw_okq (⟨"WordIndex2$Hits", "isGreater", "(III)Z"⟩, 4) := ⟨⟨by decide +kernel, by decide +kernel⟩, List.mem_of_getElem? (i := 62) (by decide +kernel), List.mem_of_getElem? (i := 381) (by decide +kernel), List.mem_of_getElem? (i := 382) (by decide +kernel)⟩
theorem lw_p11 : lw_okq (⟨"WordIndex2$Hits", "isHit", "(I)Z"⟩, 4) := ⟨⟨by decide +kernel, by decide +kernel⟩, List.mem_of_getElem? (i := 62) (by decide +kernel), List.mem_of_getElem? (i := 389) (by decide +kernel), List.mem_of_getElem? (i := 390) (by decide +kernel)⟩
theorem lw_p12 : lw_okq (⟨"WordIndex2", "listTerms", "(I)V"⟩, 12) := ⟨⟨by decide +kernel, by decide +kernel⟩, List.mem_of_getElem? (i := 18) (by decide +kernel), List.mem_of_getElem? (i := 476) (by decide +kernel), List.mem_of_getElem? (i := 477) (by decide +kernel)⟩
theorem lw_p13 : lw_okq (⟨"WordIndex2", "listFieldTerms", "()V"⟩, 12) := ⟨⟨by decide +kernel, by decide +kernel⟩, List.mem_of_getElem? (i := 18) (by decide +kernel), List.mem_of_getElem? (i := 484) (by decide +kernel), List.mem_of_getElem? (i := 485) (by decide +kernel)⟩
theorem lw_p14 : lw_okq (⟨"WordIndex2Model", "question", "(IIIZ)I"⟩, 24) := ⟨⟨by decide +kernel, by decide +kernel⟩, List.mem_of_getElem? (i := 521) (by decide +kernel), List.mem_of_getElem? (i := 625) (by decide +kernel), List.mem_of_getElem? (i := 626) (by decide +kernel)⟩
theorem lw_p15 : lw_okq (⟨"WordIndex2Model", "take", "()V"⟩, 24) := ⟨⟨by decide +kernel, by decide +kernel⟩, List.mem_of_getElem? (i := 521) (by decide +kernel), List.mem_of_getElem? (i := 629) (by decide +kernel), List.mem_of_getElem? (i := 630) (by decide +kernel)⟩
def lw_privs_1 : List (MethodName × Nat) := [(⟨"WordIndex2", "textOf", "(II)LWordIndex2$Text;"⟩, 12), (⟨"WordIndex2", "itemThere", "(I)LWordIndex2$Item;"⟩, 12), (⟨"WordIndex2$Text", "beginWord", "()V"⟩, 3), (⟨"WordIndex2", "startSearch", "(I)V"⟩, 12), (⟨"WordIndex2$WordSet", "placeOf", "(J)I"⟩, 2), (⟨"WordIndex2", "clearQuestion", "()V"⟩, 12), (⟨"WordIndex2", "gather", "(ILWordIndex2$Search;)I"⟩, 12), (⟨"WordIndex2", "readField", "(II)Z"⟩, 12), (⟨"WordIndex2$NearSearch", "secondIsBeside", "(LWordIndex2$Terms;I)Z"⟩, 3), (⟨"WordIndex2$PhraseSearch", "standsAt", "(LWordIndex2$Terms;I)Z"⟩, 1), (⟨"WordIndex2$Hits", "isGreater", "(III)Z"⟩, 4), (⟨"WordIndex2$Hits", "isHit", "(I)Z"⟩, 4), (⟨"WordIndex2", "listTerms", "(I)V"⟩, 12), (⟨"WordIndex2", "listFieldTerms", "()V"⟩, 12), (⟨"WordIndex2Model", "question", "(IIIZ)I"⟩, 24), (⟨"WordIndex2Model", "take", "()V"⟩, 24)]
theorem lw_r1 : ∀ q ∈ lw_privs_1, lw_okq q := List.forall_mem_cons.mpr ⟨lw_p0, List.forall_mem_cons.mpr ⟨lw_p1, List.forall_mem_cons.mpr ⟨lw_p2, List.forall_mem_cons.mpr ⟨lw_p3, List.forall_mem_cons.mpr ⟨lw_p4, List.forall_mem_cons.mpr ⟨lw_p5, List.forall_mem_cons.mpr ⟨lw_p6, List.forall_mem_cons.mpr ⟨lw_p7, List.forall_mem_cons.mpr ⟨lw_p8, List.forall_mem_cons.mpr ⟨lw_p9, List.forall_mem_cons.mpr ⟨lw_p10, List.forall_mem_cons.mpr ⟨lw_p11, List.forall_mem_cons.mpr ⟨lw_p12, List.forall_mem_cons.mpr ⟨lw_p13, List.forall_mem_cons.mpr ⟨lw_p14, List.forall_mem_cons.mpr ⟨lw_p15, fun _ h => absurd h List.not_mem_nil⟩⟩⟩⟩⟩⟩⟩⟩⟩⟩⟩⟩⟩⟩⟩⟩
theorem lw_p16 : lw_okq (⟨"WordIndex2Model", "stemOf", "(JI)J"⟩, 24) := ⟨⟨by decide +kernel, by decide +kernel⟩, List.mem_of_getElem? (i := 521) (by decide +kernel), List.mem_of_getElem? (i := 643) (by decide +kernel), List.mem_of_getElem? (i := 644) (by decide +kernel)⟩
theorem lw_p17 : lw_okq (⟨"WordIndex2Model", "isStop", "(J)Z"⟩, 24) := ⟨⟨by decide +kernel, by decide +kernel⟩, List.mem_of_getElem? (i := 521) (by decide +kernel), List.mem_of_getElem? (i := 647) (by decide +kernel), List.mem_of_getElem? (i := 648) (by decide +kernel)⟩
theorem lw_p18 : lw_okq (⟨"WordIndex2Model", "hasAny", "()Z"⟩, 24) := ⟨⟨by decide +kernel, by decide +kernel⟩, List.mem_of_getElem? (i := 521) (by decide +kernel), List.mem_of_getElem? (i := 655) (by decide +kernel), List.mem_of_getElem? (i := 656) (by decide +kernel)⟩
theorem lw_p19 : lw_okq (⟨"WordIndex2Model", "gather", "(II)V"⟩, 24) := ⟨⟨by decide +kernel, by decide +kernel⟩, List.mem_of_getElem? (i := 521) (by decide +kernel), List.mem_of_getElem? (i := 659) (by decide +kernel), List.mem_of_getElem? (i := 660) (by decide +kernel)⟩
theorem lw_p20 : lw_okq (⟨"WordIndex2Model", "meetsAll", "()Z"⟩, 24) := ⟨⟨by decide +kernel, by decide +kernel⟩, List.mem_of_getElem? (i := 521) (by decide +kernel), List.mem_of_getElem? (i := 663) (by decide +kernel), List.mem_of_getElem? (i := 664) (by decide +kernel)⟩
theorem lw_p21 : lw_okq (⟨"WordIndex2Model", "hasTerm", "(J)Z"⟩, 24) := ⟨⟨by decide +kernel, by decide +kernel⟩, List.mem_of_getElem? (i := 521) (by decide +kernel), List.mem_of_getElem? (i := 667) (by decide +kernel), List.mem_of_getElem? (i := 668) (by decide +kernel)⟩
theorem lw_p22 : lw_okq (⟨"WordIndex2Model", "hasPhrase", "()Z"⟩, 24) := ⟨⟨by decide +kernel, by decide +kernel⟩, List.mem_of_getElem? (i := 521) (by decide +kernel), List.mem_of_getElem? (i := 671) (by decide +kernel), List.mem_of_getElem? (i := 672) (by decide +kernel)⟩
theorem lw_p23 : lw_okq (⟨"WordIndex2Model", "hasNear", "(I)Z"⟩, 24) := ⟨⟨by decide +kernel, by decide +kernel⟩, List.mem_of_getElem? (i := 521) (by decide +kernel), List.mem_of_getElem? (i := 675) (by decide +kernel), List.mem_of_getElem? (i := 676) (by decide +kernel)⟩
theorem lw_p24 : lw_okq (⟨"WordIndex2Model", "wildCount", "(Z)I"⟩, 24) := ⟨⟨by decide +kernel, by decide +kernel⟩, List.mem_of_getElem? (i := 521) (by decide +kernel), List.mem_of_getElem? (i := 679) (by decide +kernel), List.mem_of_getElem? (i := 680) (by decide +kernel)⟩
theorem lw_p25 : lw_okq (⟨"WordIndex2Model", "count", "(I)I"⟩, 24) := ⟨⟨by decide +kernel, by decide +kernel⟩, List.mem_of_getElem? (i := 521) (by decide +kernel), List.mem_of_getElem? (i := 686) (by decide +kernel), List.mem_of_getElem? (i := 687) (by decide +kernel)⟩
theorem lw_p26 : lw_okq (⟨"WordIndex2Model", "isAsked", "(JI)Z"⟩, 24) := ⟨⟨by decide +kernel, by decide +kernel⟩, List.mem_of_getElem? (i := 521) (by decide +kernel), List.mem_of_getElem? (i := 690) (by decide +kernel), List.mem_of_getElem? (i := 691) (by decide +kernel)⟩
theorem lw_p27 : lw_okq (⟨"WordIndex2Model", "found", "(II)V"⟩, 24) := ⟨⟨by decide +kernel, by decide +kernel⟩, List.mem_of_getElem? (i := 521) (by decide +kernel), List.mem_of_getElem? (i := 694) (by decide +kernel), List.mem_of_getElem? (i := 695) (by decide +kernel)⟩
theorem lw_p28 : lw_okq (⟨"WordIndex2Model", "list", "(I)V"⟩, 24) := ⟨⟨by decide +kernel, by decide +kernel⟩, List.mem_of_getElem? (i := 521) (by decide +kernel), List.mem_of_getElem? (i := 723) (by decide +kernel), List.mem_of_getElem? (i := 724) (by decide +kernel)⟩
theorem lw_p29 : lw_okq (⟨"WordIndex2Model", "put", "(J)V"⟩, 24) := ⟨⟨by decide +kernel, by decide +kernel⟩, List.mem_of_getElem? (i := 521) (by decide +kernel), List.mem_of_getElem? (i := 727) (by decide +kernel), List.mem_of_getElem? (i := 728) (by decide +kernel)⟩
theorem lw_p30 : lw_okq (⟨"WordIndex2Model", "distance", "(JJ)I"⟩, 24) := ⟨⟨by decide +kernel, by decide +kernel⟩, List.mem_of_getElem? (i := 521) (by decide +kernel), List.mem_of_getElem? (i := 738) (by decide +kernel), List.mem_of_getElem? (i := 739) (by decide +kernel)⟩
theorem lw_p31 : lw_okq (⟨"WordIndex2Model", "least", "(II)I"⟩, 24) := ⟨⟨by decide +kernel, by decide +kernel⟩, List.mem_of_getElem? (i := 521) (by decide +kernel), List.mem_of_getElem? (i := 745) (by decide +kernel), List.mem_of_getElem? (i := 746) (by decide +kernel)⟩
def lw_privs_2 : List (MethodName × Nat) := [(⟨"WordIndex2Model", "stemOf", "(JI)J"⟩, 24), (⟨"WordIndex2Model", "isStop", "(J)Z"⟩, 24), (⟨"WordIndex2Model", "hasAny", "()Z"⟩, 24), (⟨"WordIndex2Model", "gather", "(II)V"⟩, 24), (⟨"WordIndex2Model", "meetsAll", "()Z"⟩, 24), (⟨"WordIndex2Model", "hasTerm", "(J)Z"⟩, 24), (⟨"WordIndex2Model", "hasPhrase", "()Z"⟩, 24), (⟨"WordIndex2Model", "hasNear", "(I)Z"⟩, 24), (⟨"WordIndex2Model", "wildCount", "(Z)I"⟩, 24), (⟨"WordIndex2Model", "count", "(I)I"⟩, 24), (⟨"WordIndex2Model", "isAsked", "(JI)Z"⟩, 24), (⟨"WordIndex2Model", "found", "(II)V"⟩, 24), (⟨"WordIndex2Model", "list", "(I)V"⟩, 24), (⟨"WordIndex2Model", "put", "(J)V"⟩, 24), (⟨"WordIndex2Model", "distance", "(JJ)I"⟩, 24), (⟨"WordIndex2Model", "least", "(II)I"⟩, 24)]
theorem lw_r2 : ∀ q ∈ lw_privs_2, lw_okq q := List.forall_mem_cons.mpr ⟨lw_p16, List.forall_mem_cons.mpr ⟨lw_p17, List.forall_mem_cons.mpr ⟨lw_p18, List.forall_mem_cons.mpr ⟨lw_p19, List.forall_mem_cons.mpr ⟨lw_p20, List.forall_mem_cons.mpr ⟨lw_p21, List.forall_mem_cons.mpr ⟨lw_p22, List.forall_mem_cons.mpr ⟨lw_p23, List.forall_mem_cons.mpr ⟨lw_p24, List.forall_mem_cons.mpr ⟨lw_p25, List.forall_mem_cons.mpr ⟨lw_p26, List.forall_mem_cons.mpr ⟨lw_p27, List.forall_mem_cons.mpr ⟨lw_p28, List.forall_mem_cons.mpr ⟨lw_p29, List.forall_mem_cons.mpr ⟨lw_p30, List.forall_mem_cons.mpr ⟨lw_p31, fun _ h => absurd h List.not_mem_nil⟩⟩⟩⟩⟩⟩⟩⟩⟩⟩⟩⟩⟩⟩⟩⟩
def lw_privs : List (MethodName × Nat) := lw_privs_1 ++ (lw_privs_2)
def lw_tbl : List Cond := k2_sels lw_privs ++ tables_1
theorem lw_privs_ok : ∀ q ∈ lw_privs, lw_okq q := by
  show ∀ q ∈ lw_privs_1 ++ (lw_privs_2), lw_okq q
  exact List.forall_mem_append.mpr ⟨lw_r1, lw_r2⟩
end
section
def RHits : String := "WordIndex2$Hits"
def THits : u_T := fun k => match k with
  | 0 => ("WordIndex2$Hits", "numbers", "[I", true)
  | 1 => ("WordIndex2$Hits", "counts", "[I", true)
  | 2 => ("WordIndex2$Hits", "sizes", "[I", true)
  | _ => ("WordIndex2$Hits", "count", "I", false)
def tyHits : Nat → FieldType := fun k => match k with
  | 0 => .array .int
  | 1 => .array .int
  | 2 => .array .int
  | _ => .int
abbrev wsHits0 : List Cond := u_ws RHits THits 4
theorem nmHits : ∀ a, a < 4 → ∀ b, b < 4 → a ≠ b → (THits a).2.1 ≠ (THits b).2.1 := by decide +kernel
theorem tyHits_ok : ∀ k, k < 4 → parseFieldDescriptor (THits k).2.2.1 = some (tyHits k) := by decide +kernel
def RItem : String := "WordIndex2$Item"
def TItem : u_T := fun k => match k with
  | 0 => ("WordIndex2$Item", "texts", "[LWordIndex2$Text;", true)
  | _ => ("WordIndex2$Item", "there", "Z", false)
def tyItem : Nat → FieldType := fun k => match k with
  | 0 => .array (.object "WordIndex2$Text")
  | _ => .boolean
abbrev wsItem0 : List Cond := u_ws RItem TItem 2
theorem nmItem : ∀ a, a < 2 → ∀ b, b < 2 → a ≠ b → (TItem a).2.1 ≠ (TItem b).2.1 := by decide +kernel
theorem tyItem_ok : ∀ k, k < 2 → parseFieldDescriptor (TItem k).2.2.1 = some (tyItem k) := by decide +kernel
def RTerms : String := "WordIndex2$Terms"
def TTerms : u_T := fun k => match k with
  | 0 => ("WordIndex2$Terms", "terms", "[J", true)
  | _ => ("WordIndex2$Terms", "count", "I", false)
def tyTerms : Nat → FieldType := fun k => match k with
  | 0 => .array .long
  | _ => .int
abbrev wsTerms0 : List Cond := u_ws RTerms TTerms 2
theorem nmTerms : ∀ a, a < 2 → ∀ b, b < 2 → a ≠ b → (TTerms a).2.1 ≠ (TTerms b).2.1 := by decide +kernel
theorem tyTerms_ok : ∀ k, k < 2 → parseFieldDescriptor (TTerms k).2.2.1 = some (tyTerms k) := by decide +kernel
def RText : String := "WordIndex2$Text"
def TText : u_T := fun k => match k with
  | 0 => ("WordIndex2$Text", "words", "[J", false)
  | 1 => ("WordIndex2$Text", "count", "I", false)
  | _ => ("WordIndex2$Text", "openLetters", "I", false)
def tyText : Nat → FieldType := fun k => match k with
  | 0 => .array .long
  | 1 => .int
  | _ => .int
abbrev wsText0 : List Cond := u_ws RText TText 3
theorem nmText : ∀ a, a < 3 → ∀ b, b < 3 → a ≠ b → (TText a).2.1 ≠ (TText b).2.1 := by decide +kernel
theorem tyText_ok : ∀ k, k < 3 → parseFieldDescriptor (TText k).2.2.1 = some (tyText k) := by decide +kernel
def RWordSet : String := "WordIndex2$WordSet"
def TWordSet : u_T := fun k => match k with
  | 0 => ("WordIndex2$WordSet", "words", "[J", true)
  | _ => ("WordIndex2$WordSet", "count", "I", false)
def tyWordSet : Nat → FieldType := fun k => match k with
  | 0 => .array .long
  | _ => .int
abbrev wsWordSet0 : List Cond := u_ws RWordSet TWordSet 2
theorem nmWordSet : ∀ a, a < 2 → ∀ b, b < 2 → a ≠ b → (TWordSet a).2.1 ≠ (TWordSet b).2.1 := by decide +kernel
theorem tyWordSet_ok : ∀ k, k < 2 → parseFieldDescriptor (TWordSet k).2.2.1 = some (tyWordSet k) := by decide +kernel
def RIx : String := "WordIndex2"
def TIx : u_T := fun k => match k with
  | 0 => ("WordIndex2", "items", "[LWordIndex2$Item;", true)
  | 1 => ("WordIndex2", "itemCount", "I", false)
  | 2 => ("WordIndex2", "fieldSigns", "I", false)
  | 3 => ("WordIndex2", "languages", "[I", true)
  | 4 => ("WordIndex2", "question", "LWordIndex2$Text;", true)
  | 5 => ("WordIndex2", "questionSigns", "I", false)
  | 6 => ("WordIndex2", "stops", "LWordIndex2$WordSet;", true)
  | 7 => ("WordIndex2", "hits", "LWordIndex2$Hits;", true)
  | 8 => ("WordIndex2", "asked", "LWordIndex2$Terms;", true)
  | 9 => ("WordIndex2", "fieldTerms", "LWordIndex2$Terms;", true)
  | 10 => ("WordIndex2", "listed", "LWordIndex2$WordSet;", true)
  | _ => ("WordIndex2", "costs", "[I", true)
def tyIx : Nat → FieldType := fun k => match k with
  | 0 => .array (.object "WordIndex2$Item")
  | 1 => .int
  | 2 => .int
  | 3 => .array .int
  | 4 => .object "WordIndex2$Text"
  | 5 => .int
  | 6 => .object "WordIndex2$WordSet"
  | 7 => .object "WordIndex2$Hits"
  | 8 => .object "WordIndex2$Terms"
  | 9 => .object "WordIndex2$Terms"
  | 10 => .object "WordIndex2$WordSet"
  | _ => .array .int
abbrev wsIx0 : List Cond := u_ws RIx TIx 12
theorem nmIx : ∀ a, a < 12 → ∀ b, b < 12 → a ≠ b → (TIx a).2.1 ≠ (TIx b).2.1 := by decide +kernel
theorem tyIx_ok : ∀ k, k < 12 → parseFieldDescriptor (TIx k).2.2.1 = some (tyIx k) := by decide +kernel
def RAllSearch : String := "WordIndex2$AllSearch"
def TAllSearch : u_T := fun k => match k with
  | _ => ("WordIndex2$AllSearch", "asked", "LWordIndex2$Terms;", true)
def tyAllSearch : Nat → FieldType := fun k => match k with
  | _ => .object "WordIndex2$Terms"
abbrev wsAllSearch0 : List Cond := u_ws RAllSearch TAllSearch 1
theorem nmAllSearch : ∀ a, a < 1 → ∀ b, b < 1 → a ≠ b → (TAllSearch a).2.1 ≠ (TAllSearch b).2.1 := by decide +kernel
theorem tyAllSearch_ok : ∀ k, k < 1 → parseFieldDescriptor (TAllSearch k).2.2.1 = some (tyAllSearch k) := by decide +kernel
def RPhraseSearch : String := "WordIndex2$PhraseSearch"
def TPhraseSearch : u_T := fun k => match k with
  | _ => ("WordIndex2$PhraseSearch", "asked", "LWordIndex2$Terms;", true)
def tyPhraseSearch : Nat → FieldType := fun k => match k with
  | _ => .object "WordIndex2$Terms"
abbrev wsPhraseSearch0 : List Cond := u_ws RPhraseSearch TPhraseSearch 1
theorem nmPhraseSearch : ∀ a, a < 1 → ∀ b, b < 1 → a ≠ b → (TPhraseSearch a).2.1 ≠ (TPhraseSearch b).2.1 := by decide +kernel
theorem tyPhraseSearch_ok : ∀ k, k < 1 → parseFieldDescriptor (TPhraseSearch k).2.2.1 = some (tyPhraseSearch k) := by decide +kernel
def RNearSearch : String := "WordIndex2$NearSearch"
def TNearSearch : u_T := fun k => match k with
  | 0 => ("WordIndex2$NearSearch", "first", "J", true)
  | 1 => ("WordIndex2$NearSearch", "second", "J", true)
  | _ => ("WordIndex2$NearSearch", "distance", "I", true)
def tyNearSearch : Nat → FieldType := fun k => match k with
  | 0 => .long
  | 1 => .long
  | _ => .int
abbrev wsNearSearch0 : List Cond := u_ws RNearSearch TNearSearch 3
theorem nmNearSearch : ∀ a, a < 3 → ∀ b, b < 3 → a ≠ b → (TNearSearch a).2.1 ≠ (TNearSearch b).2.1 := by decide +kernel
theorem tyNearSearch_ok : ∀ k, k < 3 → parseFieldDescriptor (TNearSearch k).2.2.1 = some (tyNearSearch k) := by decide +kernel
def RWildSearch : String := "WordIndex2$WildSearch"
def TWildSearch : u_T := fun k => match k with
  | 0 => ("WordIndex2$WildSearch", "word", "J", true)
  | _ => ("WordIndex2$WildSearch", "end", "Z", true)
def tyWildSearch : Nat → FieldType := fun k => match k with
  | 0 => .long
  | _ => .boolean
abbrev wsWildSearch0 : List Cond := u_ws RWildSearch TWildSearch 2
theorem nmWildSearch : ∀ a, a < 2 → ∀ b, b < 2 → a ≠ b → (TWildSearch a).2.1 ≠ (TWildSearch b).2.1 := by decide +kernel
theorem tyWildSearch_ok : ∀ k, k < 2 → parseFieldDescriptor (TWildSearch k).2.2.1 = some (tyWildSearch k) := by decide +kernel
def RMo : String := "WordIndex2Model"
def TMo : u_T := fun k => match k with
  | 0 => ("WordIndex2Model", "thrown", "I", false)
  | 1 => ("WordIndex2Model", "records", "I", false)
  | 2 => ("WordIndex2Model", "there", "[Z", true)
  | 3 => ("WordIndex2Model", "signs", "I", false)
  | 4 => ("WordIndex2Model", "sign", "[B", true)
  | 5 => ("WordIndex2Model", "place", "[I", true)
  | 6 => ("WordIndex2Model", "languages", "[I", true)
  | 7 => ("WordIndex2Model", "stops", "[J", true)
  | 8 => ("WordIndex2Model", "stopCount", "I", false)
  | 9 => ("WordIndex2Model", "said", "[B", true)
  | 10 => ("WordIndex2Model", "size", "I", false)
  | 11 => ("WordIndex2Model", "asked", "[J", true)
  | 12 => ("WordIndex2Model", "askedCount", "I", false)
  | 13 => ("WordIndex2Model", "row", "[J", true)
  | 14 => ("WordIndex2Model", "rowTerm", "[J", true)
  | 15 => ("WordIndex2Model", "askedTerm", "[J", true)
  | 16 => ("WordIndex2Model", "rowCount", "I", false)
  | 17 => ("WordIndex2Model", "hits", "I", false)
  | 18 => ("WordIndex2Model", "hitRecord", "[I", true)
  | 19 => ("WordIndex2Model", "hitCount", "[I", true)
  | 20 => ("WordIndex2Model", "hitWords", "[I", true)
  | 21 => ("WordIndex2Model", "terms", "[J", true)
  | 22 => ("WordIndex2Model", "termCount", "I", false)
  | _ => ("WordIndex2Model", "table", "[I", true)
def tyMo : Nat → FieldType := fun k => match k with
  | 0 => .int
  | 1 => .int
  | 2 => .array .boolean
  | 3 => .int
  | 4 => .array .byte
  | 5 => .array .int
  | 6 => .array .int
  | 7 => .array .long
  | 8 => .int
  | 9 => .array .byte
  | 10 => .int
  | 11 => .array .long
  | 12 => .int
  | 13 => .array .long
  | 14 => .array .long
  | 15 => .array .long
  | 16 => .int
  | 17 => .int
  | 18 => .array .int
  | 19 => .array .int
  | 20 => .array .int
  | 21 => .array .long
  | 22 => .int
  | _ => .array .int
abbrev wsMo0 : List Cond := u_ws RMo TMo 24
theorem nmMo : ∀ a, a < 24 → ∀ b, b < 24 → a ≠ b → (TMo a).2.1 ≠ (TMo b).2.1 := by decide +kernel
theorem tyMo_ok : ∀ k, k < 24 → parseFieldDescriptor (TMo k).2.2.1 = some (tyMo k) := by decide +kernel
def RSearch : String := "WordIndex2$Search"
def RWord : String := "WordIndex2$Word"
def RArrays : String := "java/util/Arrays"
abbrev cIx_init : ByteArray := prog_1_method_1_code
def yIx_init : MethodName := ⟨RIx, "<init>", "()V"⟩
abbrev cText_init : ByteArray := prog_9_method_1_code
def yText_init : MethodName := ⟨RText, "<init>", "()V"⟩
abbrev cWordSet_init : ByteArray := prog_12_method_1_code
def yWordSet_init : MethodName := ⟨RWordSet, "<init>", "(I)V"⟩
abbrev cHits_init : ByteArray := prog_3_method_1_code
def yHits_init : MethodName := ⟨RHits, "<init>", "()V"⟩
abbrev cTerms_init : ByteArray := prog_8_method_1_code
def yTerms_init : MethodName := ⟨RTerms, "<init>", "(I)V"⟩
abbrev cIx_record : ByteArray := prog_1_method_2_code
def yIx_record : MethodName := ⟨RIx, "record", "()I"⟩
abbrev cItem_init : ByteArray := prog_4_method_1_code
def yItem_init : MethodName := ⟨RItem, "<init>", "()V"⟩
abbrev cIx_field : ByteArray := prog_1_method_3_code
def yIx_field : MethodName := ⟨RIx, "field", "(III)V"⟩
abbrev cIx_textOf : ByteArray := prog_1_method_18_code
def yIx_textOf : MethodName := ⟨RIx, "textOf", "(II)LWordIndex2$Text;"⟩
abbrev cIx_itemThere : ByteArray := prog_1_method_17_code
def yIx_itemThere : MethodName := ⟨RIx, "itemThere", "(I)LWordIndex2$Item;"⟩
abbrev cItem_textAt : ByteArray := prog_4_method_2_code
def yItem_textAt : MethodName := ⟨RItem, "textAt", "(I)LWordIndex2$Text;"⟩
abbrev cText_take : ByteArray := prog_9_method_5_code
def yText_take : MethodName := ⟨RText, "take", "(I)V"⟩
abbrev cWord_letterOf : ByteArray := prog_11_method_2_code
def yWord_letterOf : MethodName := ⟨RWord, "letterOf", "(I)I"⟩
abbrev cText_beginWord : ByteArray := prog_9_method_6_code
def yText_beginWord : MethodName := ⟨RText, "beginWord", "()V"⟩
abbrev cArrays_copyOf : ByteArray := prog_18_method_124_code
def yArrays_copyOf : MethodName := ⟨RArrays, "copyOf", "([JI)[J"⟩
abbrev cWord_with : ByteArray := prog_11_method_3_code
def yWord_with : MethodName := ⟨RWord, "with", "(JII)J"⟩
abbrev cWord_shift : ByteArray := prog_11_method_12_code
def yWord_shift : MethodName := ⟨RWord, "shift", "(I)I"⟩
abbrev cIx_remove : ByteArray := prog_1_method_4_code
def yIx_remove : MethodName := ⟨RIx, "remove", "(I)I"⟩
abbrev cIx_sign : ByteArray := prog_1_method_5_code
def yIx_sign : MethodName := ⟨RIx, "sign", "(I)V"⟩
abbrev cIx_ask : ByteArray := prog_1_method_6_code
def yIx_ask : MethodName := ⟨RIx, "ask", "(I)I"⟩
abbrev cIx_startSearch : ByteArray := prog_1_method_20_code
def yIx_startSearch : MethodName := ⟨RIx, "startSearch", "(I)V"⟩
abbrev cHits_clear : ByteArray := prog_3_method_6_code
def yHits_clear : MethodName := ⟨RHits, "clear", "()V"⟩
abbrev cTerms_clear : ByteArray := prog_8_method_4_code
def yTerms_clear : MethodName := ⟨RTerms, "clear", "()V"⟩
abbrev cIx_isKind : ByteArray := prog_1_method_16_code
def yIx_isKind : MethodName := ⟨RIx, "isKind", "(I)Z"⟩
abbrev cTerms_read : ByteArray := prog_8_method_5_code
def yTerms_read : MethodName := ⟨RTerms, "read", "(LWordIndex2$Text;ILWordIndex2$WordSet;)V"⟩
abbrev cText_size : ByteArray := prog_9_method_2_code
def yText_size : MethodName := ⟨RText, "size", "()I"⟩
abbrev cText_wordAt : ByteArray := prog_9_method_3_code
def yText_wordAt : MethodName := ⟨RText, "wordAt", "(I)J"⟩
abbrev cWordSet_has : ByteArray := prog_12_method_5_code
def yWordSet_has : MethodName := ⟨RWordSet, "has", "(J)Z"⟩
abbrev cWordSet_placeOf : ByteArray := prog_12_method_7_code
def yWordSet_placeOf : MethodName := ⟨RWordSet, "placeOf", "(J)I"⟩
abbrev cWordSet_at : ByteArray := prog_12_method_3_code
def yWordSet_at : MethodName := ⟨RWordSet, "at", "(I)J"⟩
abbrev cWord_stem : ByteArray := prog_11_method_7_code
def yWord_stem : MethodName := ⟨RWord, "stem", "(JI)J"⟩
abbrev cWord_length : ByteArray := prog_11_method_6_code
def yWord_length : MethodName := ⟨RWord, "length", "(J)I"⟩
abbrev cWord_letterAt : ByteArray := prog_11_method_4_code
def yWord_letterAt : MethodName := ⟨RWord, "letterAt", "(JI)I"⟩
abbrev cWord_firstLetters : ByteArray := prog_11_method_13_code
def yWord_firstLetters : MethodName := ⟨RWord, "firstLetters", "(JI)J"⟩
abbrev cIx_clearQuestion : ByteArray := prog_1_method_19_code
def yIx_clearQuestion : MethodName := ⟨RIx, "clearQuestion", "()V"⟩
abbrev cText_clear : ByteArray := prog_9_method_4_code
def yText_clear : MethodName := ⟨RText, "clear", "()V"⟩
abbrev cTerms_hasAny : ByteArray := prog_8_method_7_code
def yTerms_hasAny : MethodName := ⟨RTerms, "hasAny", "()Z"⟩
abbrev cTerms_at : ByteArray := prog_8_method_3_code
def yTerms_at : MethodName := ⟨RTerms, "at", "(I)J"⟩
abbrev cAllSearch_init : ByteArray := prog_2_method_1_code
def yAllSearch_init : MethodName := ⟨RAllSearch, "<init>", "(LWordIndex2$Terms;)V"⟩
abbrev cSearch_init : ByteArray := prog_7_method_1_code
def ySearch_init : MethodName := ⟨RSearch, "<init>", "()V"⟩
abbrev cIx_gather : ByteArray := prog_1_method_21_code
def yIx_gather : MethodName := ⟨RIx, "gather", "(ILWordIndex2$Search;)I"⟩
abbrev cIx_readField : ByteArray := prog_1_method_22_code
def yIx_readField : MethodName := ⟨RIx, "readField", "(II)Z"⟩
abbrev cAllSearch_meets : ByteArray := prog_2_method_2_code
def yAllSearch_meets : MethodName := ⟨RAllSearch, "meets", "(LWordIndex2$Terms;)Z"⟩
abbrev cTerms_size : ByteArray := prog_8_method_2_code
def yTerms_size : MethodName := ⟨RTerms, "size", "()I"⟩
abbrev cTerms_has : ByteArray := prog_8_method_6_code
def yTerms_has : MethodName := ⟨RTerms, "has", "(J)Z"⟩
abbrev cNearSearch_meets : ByteArray := prog_5_method_2_code
def yNearSearch_meets : MethodName := ⟨RNearSearch, "meets", "(LWordIndex2$Terms;)Z"⟩
abbrev cNearSearch_secondIsBeside : ByteArray := prog_5_method_4_code
def yNearSearch_secondIsBeside : MethodName := ⟨RNearSearch, "secondIsBeside", "(LWordIndex2$Terms;I)Z"⟩
abbrev cPhraseSearch_meets : ByteArray := prog_6_method_2_code
def yPhraseSearch_meets : MethodName := ⟨RPhraseSearch, "meets", "(LWordIndex2$Terms;)Z"⟩
abbrev cPhraseSearch_standsAt : ByteArray := prog_6_method_4_code
def yPhraseSearch_standsAt : MethodName := ⟨RPhraseSearch, "standsAt", "(LWordIndex2$Terms;I)Z"⟩
abbrev cWildSearch_meets : ByteArray := prog_10_method_2_code
def yWildSearch_meets : MethodName := ⟨RWildSearch, "meets", "(LWordIndex2$Terms;)Z"⟩
abbrev cSearch_countIn : ByteArray := prog_7_method_4_code
def ySearch_countIn : MethodName := ⟨RSearch, "countIn", "(LWordIndex2$Terms;)I"⟩
abbrev cAllSearch_wants : ByteArray := prog_2_method_3_code
def yAllSearch_wants : MethodName := ⟨RAllSearch, "wants", "(J)Z"⟩
abbrev cNearSearch_wants : ByteArray := prog_5_method_3_code
def yNearSearch_wants : MethodName := ⟨RNearSearch, "wants", "(J)Z"⟩
abbrev cPhraseSearch_wants : ByteArray := prog_6_method_3_code
def yPhraseSearch_wants : MethodName := ⟨RPhraseSearch, "wants", "(J)Z"⟩
abbrev cWildSearch_wants : ByteArray := prog_10_method_3_code
def yWildSearch_wants : MethodName := ⟨RWildSearch, "wants", "(J)Z"⟩
abbrev cWord_endsWith : ByteArray := prog_11_method_9_code
def yWord_endsWith : MethodName := ⟨RWord, "endsWith", "(JJ)Z"⟩
abbrev cWord_beginsWith : ByteArray := prog_11_method_8_code
def yWord_beginsWith : MethodName := ⟨RWord, "beginsWith", "(JJ)Z"⟩
abbrev cHits_add : ByteArray := prog_3_method_7_code
def yHits_add : MethodName := ⟨RHits, "add", "(III)V"⟩
abbrev cHits_isGreater : ByteArray := prog_3_method_8_code
def yHits_isGreater : MethodName := ⟨RHits, "isGreater", "(III)Z"⟩
abbrev cHits_sizeAt : ByteArray := prog_3_method_5_code
def yHits_sizeAt : MethodName := ⟨RHits, "sizeAt", "(I)I"⟩
abbrev cHits_isHit : ByteArray := prog_3_method_9_code
def yHits_isHit : MethodName := ⟨RHits, "isHit", "(I)Z"⟩
abbrev cHits_countAt : ByteArray := prog_3_method_4_code
def yHits_countAt : MethodName := ⟨RHits, "countAt", "(I)I"⟩
abbrev cHits_size : ByteArray := prog_3_method_2_code
def yHits_size : MethodName := ⟨RHits, "size", "()I"⟩
abbrev cIx_phrase : ByteArray := prog_1_method_7_code
def yIx_phrase : MethodName := ⟨RIx, "phrase", "(I)I"⟩
abbrev cPhraseSearch_init : ByteArray := prog_6_method_1_code
def yPhraseSearch_init : MethodName := ⟨RPhraseSearch, "<init>", "(LWordIndex2$Terms;)V"⟩
abbrev cIx_near : ByteArray := prog_1_method_8_code
def yIx_near : MethodName := ⟨RIx, "near", "(II)I"⟩
abbrev cNearSearch_init : ByteArray := prog_5_method_1_code
def yNearSearch_init : MethodName := ⟨RNearSearch, "<init>", "(JJI)V"⟩
abbrev cIx_wild : ByteArray := prog_1_method_9_code
def yIx_wild : MethodName := ⟨RIx, "wild", "(IZ)I"⟩
abbrev cWildSearch_init : ByteArray := prog_10_method_1_code
def yWildSearch_init : MethodName := ⟨RWildSearch, "<init>", "(JZ)V"⟩
abbrev cIx_hit : ByteArray := prog_1_method_10_code
def yIx_hit : MethodName := ⟨RIx, "hit", "(II)I"⟩
abbrev cHits_numberAt : ByteArray := prog_3_method_3_code
def yHits_numberAt : MethodName := ⟨RHits, "numberAt", "(I)I"⟩
abbrev cIx_rank : ByteArray := prog_1_method_11_code
def yIx_rank : MethodName := ⟨RIx, "rank", "(II)J"⟩
abbrev cIx_commonDivisor : ByteArray := prog_1_method_25_code
def yIx_commonDivisor : MethodName := ⟨RIx, "commonDivisor", "(II)I"⟩
abbrev cIx_term : ByteArray := prog_1_method_12_code
def yIx_term : MethodName := ⟨RIx, "term", "(III)I"⟩
abbrev cIx_listTerms : ByteArray := prog_1_method_23_code
def yIx_listTerms : MethodName := ⟨RIx, "listTerms", "(I)V"⟩
abbrev cWordSet_clear : ByteArray := prog_12_method_4_code
def yWordSet_clear : MethodName := ⟨RWordSet, "clear", "()V"⟩
abbrev cIx_listFieldTerms : ByteArray := prog_1_method_24_code
def yIx_listFieldTerms : MethodName := ⟨RIx, "listFieldTerms", "()V"⟩
abbrev cWordSet_add : ByteArray := prog_12_method_6_code
def yWordSet_add : MethodName := ⟨RWordSet, "add", "(J)V"⟩
abbrev cWord_signAt : ByteArray := prog_11_method_5_code
def yWord_signAt : MethodName := ⟨RWord, "signAt", "(JI)I"⟩
abbrev cIx_nearest : ByteArray := prog_1_method_13_code
def yIx_nearest : MethodName := ⟨RIx, "nearest", "(I)I"⟩
abbrev cWordSet_size : ByteArray := prog_12_method_2_code
def yWordSet_size : MethodName := ⟨RWordSet, "size", "()I"⟩
abbrev cWord_distance : ByteArray := prog_11_method_10_code
def yWord_distance : MethodName := ⟨RWord, "distance", "(JJ[I)I"⟩
abbrev cWord_nextCosts : ByteArray := prog_11_method_11_code
def yWord_nextCosts : MethodName := ⟨RWord, "nextCosts", "(IJI[I)V"⟩
abbrev cIx_stop : ByteArray := prog_1_method_14_code
def yIx_stop : MethodName := ⟨RIx, "stop", "()I"⟩
abbrev cIx_language : ByteArray := prog_1_method_15_code
def yIx_language : MethodName := ⟨RIx, "language", "(II)I"⟩
abbrev cMo_init : ByteArray := prog_14_method_1_code
def yMo_init : MethodName := ⟨RMo, "<init>", "()V"⟩
abbrev cMo_record : ByteArray := prog_14_method_3_code
def yMo_record : MethodName := ⟨RMo, "record", "()I"⟩
abbrev cMo_field : ByteArray := prog_14_method_5_code
def yMo_field : MethodName := ⟨RMo, "field", "(III)V"⟩
abbrev cMo_isField : ByteArray := prog_14_method_4_code
def yMo_isField : MethodName := ⟨RMo, "isField", "(I)Z"⟩
abbrev cMo_remove : ByteArray := prog_14_method_6_code
def yMo_remove : MethodName := ⟨RMo, "remove", "(I)I"⟩
abbrev cMo_sign : ByteArray := prog_14_method_7_code
def yMo_sign : MethodName := ⟨RMo, "sign", "(I)V"⟩
abbrev cMo_ask : ByteArray := prog_14_method_27_code
def yMo_ask : MethodName := ⟨RMo, "ask", "(I)I"⟩
abbrev cMo_question : ByteArray := prog_14_method_26_code
def yMo_question : MethodName := ⟨RMo, "question", "(IIIZ)I"⟩
abbrev cMo_take : ByteArray := prog_14_method_12_code
def yMo_take : MethodName := ⟨RMo, "take", "()V"⟩
abbrev cMo_letter : ByteArray := prog_14_method_8_code
def yMo_letter : MethodName := ⟨RMo, "letter", "(I)I"⟩
abbrev cMo_lay : ByteArray := prog_14_method_11_code
def yMo_lay : MethodName := ⟨RMo, "lay", "([JIZI)I"⟩
abbrev cMo_length : ByteArray := prog_14_method_9_code
def yMo_length : MethodName := ⟨RMo, "length", "(J)I"⟩
abbrev cMo_stemOf : ByteArray := prog_14_method_15_code
def yMo_stemOf : MethodName := ⟨RMo, "stemOf", "(JI)J"⟩
abbrev cMo_isStop : ByteArray := prog_14_method_14_code
def yMo_isStop : MethodName := ⟨RMo, "isStop", "(J)Z"⟩
abbrev cMo_last : ByteArray := prog_14_method_10_code
def yMo_last : MethodName := ⟨RMo, "last", "(J)I"⟩
abbrev cMo_hasAny : ByteArray := prog_14_method_25_code
def yMo_hasAny : MethodName := ⟨RMo, "hasAny", "()Z"⟩
abbrev cMo_gather : ByteArray := prog_14_method_13_code
def yMo_gather : MethodName := ⟨RMo, "gather", "(II)V"⟩
abbrev cMo_meetsAll : ByteArray := prog_14_method_20_code
def yMo_meetsAll : MethodName := ⟨RMo, "meetsAll", "()Z"⟩
abbrev cMo_hasTerm : ByteArray := prog_14_method_19_code
def yMo_hasTerm : MethodName := ⟨RMo, "hasTerm", "(J)Z"⟩
abbrev cMo_hasPhrase : ByteArray := prog_14_method_21_code
def yMo_hasPhrase : MethodName := ⟨RMo, "hasPhrase", "()Z"⟩
abbrev cMo_hasNear : ByteArray := prog_14_method_22_code
def yMo_hasNear : MethodName := ⟨RMo, "hasNear", "(I)Z"⟩
abbrev cMo_wildCount : ByteArray := prog_14_method_24_code
def yMo_wildCount : MethodName := ⟨RMo, "wildCount", "(Z)I"⟩
abbrev cMo_goesWith : ByteArray := prog_14_method_23_code
def yMo_goesWith : MethodName := ⟨RMo, "goesWith", "(JJZ)Z"⟩
abbrev cMo_count : ByteArray := prog_14_method_18_code
def yMo_count : MethodName := ⟨RMo, "count", "(I)I"⟩
abbrev cMo_isAsked : ByteArray := prog_14_method_17_code
def yMo_isAsked : MethodName := ⟨RMo, "isAsked", "(JI)Z"⟩
abbrev cMo_found : ByteArray := prog_14_method_16_code
def yMo_found : MethodName := ⟨RMo, "found", "(II)V"⟩
abbrev cMo_phrase : ByteArray := prog_14_method_28_code
def yMo_phrase : MethodName := ⟨RMo, "phrase", "(I)I"⟩
abbrev cMo_near : ByteArray := prog_14_method_29_code
def yMo_near : MethodName := ⟨RMo, "near", "(II)I"⟩
abbrev cMo_wild : ByteArray := prog_14_method_30_code
def yMo_wild : MethodName := ⟨RMo, "wild", "(IZ)I"⟩
abbrev cMo_hit : ByteArray := prog_14_method_31_code
def yMo_hit : MethodName := ⟨RMo, "hit", "(II)I"⟩
abbrev cMo_rank : ByteArray := prog_14_method_32_code
def yMo_rank : MethodName := ⟨RMo, "rank", "(II)J"⟩
abbrev cMo_term : ByteArray := prog_14_method_36_code
def yMo_term : MethodName := ⟨RMo, "term", "(III)I"⟩
abbrev cMo_list : ByteArray := prog_14_method_34_code
def yMo_list : MethodName := ⟨RMo, "list", "(I)V"⟩
abbrev cMo_put : ByteArray := prog_14_method_35_code
def yMo_put : MethodName := ⟨RMo, "put", "(J)V"⟩
abbrev cMo_aligned : ByteArray := prog_14_method_33_code
def yMo_aligned : MethodName := ⟨RMo, "aligned", "(J)J"⟩
abbrev cMo_nearest : ByteArray := prog_14_method_40_code
def yMo_nearest : MethodName := ⟨RMo, "nearest", "(I)I"⟩
abbrev cMo_distance : ByteArray := prog_14_method_39_code
def yMo_distance : MethodName := ⟨RMo, "distance", "(JJ)I"⟩
abbrev cMo_at : ByteArray := prog_14_method_37_code
def yMo_at : MethodName := ⟨RMo, "at", "(JII)I"⟩
abbrev cMo_least : ByteArray := prog_14_method_38_code
def yMo_least : MethodName := ⟨RMo, "least", "(II)I"⟩
abbrev cMo_stop : ByteArray := prog_14_method_41_code
def yMo_stop : MethodName := ⟨RMo, "stop", "()I"⟩
abbrev cMo_language : ByteArray := prog_14_method_42_code
def yMo_language : MethodName := ⟨RMo, "language", "(II)I"⟩
abbrev vwCl : List vw_C := [(RHits, THits, 4), (RItem, TItem, 2), (RTerms, TTerms, 2), (RText, TText, 3), (RWordSet, TWordSet, 2), (RIx, TIx, 12), (RAllSearch, TAllSearch, 1), (RPhraseSearch, TPhraseSearch, 1), (RNearSearch, TNearSearch, 3), (RWildSearch, TWildSearch, 2), (RMo, TMo, 24)]
abbrev hwT (K : Nat → ClassId) : List (ClassId × FieldType) := [(K 0, .int), (K 1, .long), (K 2, .boolean), (K 3, .byte), (K 4, .object RItem), (K 5, .object RText)]
/-! the words: one list for all methods -/
def hwG : List Cond := lw_tbl.filter goodWord
theorem hwG_all {w : Cond} (h : w ∈ hwG) : goodWord w = true := (List.mem_filter.mp h).2
theorem hwIx {w : Cond} (i : Nat) (h : lw_tbl[i]? = some w) (hg : goodWord w = true) : w ∈ hwG := List.mem_filter.mpr ⟨List.mem_of_getElem? h, hg⟩
theorem hwSub {ws : List Cond} (h : ∀ w ∈ ws, w ∈ lw_tbl) (hg : ws.all goodWord = true) : ∀ w ∈ ws, w ∈ hwG := fun w hw => List.mem_filter.mpr ⟨h w hw, List.all_eq_true.mp hg w hw⟩
theorem hwGood {c0 : Cond} {ws : List Cond} (h : ∀ w ∈ ws, w ∈ hwG) : GoodIn (c0 :: hwG) ws := fun w hw => ⟨List.mem_cons_of_mem _ (h w hw), good_of_word (hwG_all (h w hw))⟩
theorem hwAll {c1 : Cond} (h : c1 ∈ hwG) : ∀ w ∈ c1 :: hwG, w ∈ hwG := fun w hw => (List.mem_cons.mp hw).elim (fun e => e ▸ h) (fun h => h)
theorem hwMem {c0 w : Cond} (h : w ∈ hwG) : w ∈ c0 :: hwG := List.mem_cons_of_mem _ h
theorem hwInn {c0 : Cond} {ws : List Cond} (h : ∀ w ∈ ws, w ∈ hwG) : ∀ w ∈ ws, w ∈ c0 :: hwG := fun w hw => List.mem_cons_of_mem _ (h w hw)
theorem hw_4 {own C : String} {idx : Nat} {y : MethodName} {ws : List Cond} (h1 : Cond.methodLink own idx y ∈ hwG) (h2 : Cond.instanceMethod y ∈ hwG) (h3 : Cond.selects C y y ∈ hwG) (h4 : Cond.initialized C ∈ hwG) (h : ∀ w ∈ ws, w ∈ hwG) : ∀ w ∈ wsV own idx C y ws, w ∈ hwG := by
  intro w hw
  unfold wsV at hw
  rcases List.mem_append.mp hw with q | q
  · simp only [List.mem_cons, List.not_mem_nil, or_false] at q
    rcases q with rfl | rfl | rfl | rfl <;> assumption
  · exact h w q
theorem hw_3 {own : String} {idx : Nat} {y : MethodName} {ws : List Cond} (h1 : Cond.methodLink own idx y ∈ hwG) (h2 : Cond.static y ∈ hwG) (h4 : Cond.initialized y.cls ∈ hwG) (h : ∀ w ∈ ws, w ∈ hwG) : ∀ w ∈ va_wsS own idx y ws, w ∈ hwG := by
  intro w hw
  unfold va_wsS at hw
  rcases List.mem_append.mp hw with q | q
  · simp only [List.mem_cons, List.not_mem_nil, or_false] at q
    rcases q with rfl | rfl | rfl <;> assumption
  · exact h w q
theorem hw_nw {w : Cond} {A : Array Value} {U : State} (hw : w.onTables = true) (h : w.before A U = true) : va_Nw w U := va_tabs hw rfl h
theorem inHits : ∀ w ∈ wsHits0, w ∈ hwG := hwSub (by decide +kernel) (by decide +kernel)
theorem inItem : ∀ w ∈ wsItem0, w ∈ hwG := hwSub (by decide +kernel) (by decide +kernel)
theorem inTerms : ∀ w ∈ wsTerms0, w ∈ hwG := hwSub (by decide +kernel) (by decide +kernel)
theorem inText : ∀ w ∈ wsText0, w ∈ hwG := hwSub (by decide +kernel) (by decide +kernel)
theorem inWordSet : ∀ w ∈ wsWordSet0, w ∈ hwG := hwSub (by decide +kernel) (by decide +kernel)
theorem inIx : ∀ w ∈ wsIx0, w ∈ hwG := hwSub (by decide +kernel) (by decide +kernel)
theorem inAllSearch : ∀ w ∈ wsAllSearch0, w ∈ hwG := hwSub (by decide +kernel) (by decide +kernel)
theorem inPhraseSearch : ∀ w ∈ wsPhraseSearch0, w ∈ hwG := hwSub (by decide +kernel) (by decide +kernel)
theorem inNearSearch : ∀ w ∈ wsNearSearch0, w ∈ hwG := hwSub (by decide +kernel) (by decide +kernel)
theorem inWildSearch : ∀ w ∈ wsWildSearch0, w ∈ hwG := hwSub (by decide +kernel) (by decide +kernel)
theorem inMo : ∀ w ∈ wsMo0, w ∈ hwG := hwSub (by decide +kernel) (by decide +kernel)
end
section
/-! A WORLD BY MEMBERSHIP: X = (cells, labels). A fact 'hwH X a L e': the cell at a is e, and bears the label L. Cells with different labels are apart: what is written under one label leaves the facts of all others (hwF). -/
abbrev hwW : Type := va_W × (Nat → Nat)
def hwH (X : hwW) (a L : Nat) (e : va_E) : Prop := (∃ k : Nat, X.1[k]? = some (a, e)) ∧ X.2 a = L
def hwF (X Y : hwW) (S : Nat → Prop) : Prop := ∀ (b M : Nat) (e : va_E), ¬ S M → hwH X b M e → hwH Y b M e
def hwZ (D : va_G) (cl : List vw_C) (A : Nat → Prop) (H0 : Heap) (X : hwW) (H : Heap) (locs : List Loc) : Prop := va_P D cl X.1 H ∧ va_D A X.1 ∧ va_S A H0 H locs
theorem hwF.rf {X : hwW} {S : Nat → Prop} : hwF X X S := fun _ _ _ _ h => h
theorem hwF.tr {X Y Z : hwW} {S T U : Nat → Prop} (h1 : hwF X Y S) (h2 : hwF Y Z T) (hS : ∀ M, S M → U M) (hT : ∀ M, T M → U M) : hwF X Z U := fun b M e hM h => h2 b M e (fun q => hM (hT M q)) (h1 b M e (fun q => hM (hS M q)) h)
theorem hwF.wk {X Y : hwW} {S U : Nat → Prop} (h1 : hwF X Y S) (hS : ∀ M, S M → U M) : hwF X Y U := fun b M e hM h => h1 b M e (fun q => hM (hS M q)) h
theorem hw_set_self {ws : va_W} {q0 : Nat} {x y : Nat × va_E} (h : ws[q0]? = some x) : (ws.set q0 y)[q0]? = some y := by
  have hlt : q0 < ws.length := (List.getElem?_eq_some_iff.mp h).1
  simp [List.getElem?_set, hlt]
theorem hwF.set {X : hwW} {q0 a L : Nat} {e0 e : va_E} (h : X.1[q0]? = some (a, e0)) (hL : X.2 a = L) : hwF X (X.1.set q0 (a, e), X.2) (fun M => M = L) := by
  intro b M e1 hM hb
  obtain ⟨⟨k, hk⟩, hm⟩ := hb
  refine ⟨⟨k, ?_⟩, hm⟩
  have hne : q0 ≠ k := by
    intro q
    subst q
    rw [h] at hk
    cases hk
    exact hM (hm.symm.trans hL)
  show (X.1.set q0 (a, e))[k]? = some (b, e1)
  rw [List.getElem?_set_ne hne]
  exact hk
theorem hwF.push {A : Nat → Prop} {X : hwW} {q L : Nat} {e : va_E} (hD : va_D A (X.1 ++ [(q, e)])) : hwF X (X.1 ++ [(q, e)], va_up X.2 q L) (fun _ => False) := by
  intro b M e1 hM hb
  obtain ⟨⟨k, hk⟩, hm⟩ := hb
  have hlt : k < X.1.length := (List.getElem?_eq_some_iff.mp hk).1
  have h1 : (X.1 ++ [(q, e)])[k]? = some (b, e1) := by rw [List.getElem?_append_left hlt]; exact hk
  have h2 : (X.1 ++ [(q, e)])[X.1.length]? = some (q, e) := by simp
  refine ⟨⟨k, h1⟩, ?_⟩
  show va_up X.2 q L b = M
  rw [va_up_ne]
  · exact hm
  · intro hbq
    have := hD.1 k X.1.length _ _ h1 h2 hbq
    omega
theorem hwH.push {X : hwW} {q L : Nat} {e : va_E} : hwH (X.1 ++ [(q, e)], va_up X.2 q L) q L e := ⟨⟨X.1.length, by simp⟩, va_up_self _ _ _⟩
/-- two facts of one address say the same -/
theorem hwH.one {D : va_G} {cl : List vw_C} {A : Nat → Prop} {H0 H : Heap} {X : hwW} {locs : List Loc} (hZ : hwZ D cl A H0 X H locs) {a L M : Nat} {e f : va_E} (h1 : hwH X a L e) (h2 : hwH X a M f) : e = f ∧ L = M := by
  obtain ⟨⟨k, hk⟩, hL⟩ := h1
  obtain ⟨⟨j, hj⟩, hM⟩ := h2
  have := hZ.2.1.1 k j _ _ hk hj rfl
  subst this
  rw [hk] at hj
  cases hj
  exact ⟨rfl, hL.symm.trans hM⟩
theorem hwZ.up {D : va_G} {cl : List vw_C} {A : Nat → Prop} {H0 H : Heap} {X : hwW} {locs : List Loc} (hZ : hwZ D cl A H0 X H locs) (hA : ∀ q, H0.size ≤ q → A q) : ∀ q, va_A X.1 H.size q → A q := by
  intro q h
  rcases h with ⟨k, e, h⟩ | h
  · exact hZ.2.1.2 k _ h
  · exact hA q (Nat.le_trans hZ.2.2.1 h)
def hwO (tys : List (ClassId × FieldType)) (U : State) : Prop := ∀ (k : Nat) (q : ClassId) (C : String), tys[k]? = some (q, .object C) → va_AO C U
theorem hwO.moved {tys : List (ClassId × FieldType)} {u U : State} (h : u.vm.Alike U.vm) (hO : hwO tys u) : hwO tys U := fun k q C e => va_AO.moved h (hO k q C e)
def hwPc (D : va_G) (cl : List vw_C) (tys : List (ClassId × FieldType)) (av : List Value) (X : hwW) (sz : Nat) : Array Value → State → Prop := va_Pc av (fun U => U.heap.size = sz ∧ va_P D cl X.1 U.heap ∧ va_K D cl tys U ∧ va_D (fun _ => True) X.1 ∧ hwO tys U)
def hwB (D : va_G) (cl : List vw_C) (X : hwW) (sz : Nat) (Y : hwW) (t : State) : Prop := va_P D cl Y.1 t.heap ∧ va_D (va_A X.1 sz) Y.1
abbrev hwQi (D : va_G) (cl : List vw_C) (X : hwW) (sz : Nat) (post : Int32 → hwW → Prop) : Array Value → State → Outcome → State → Prop := va_Qi post (hwB D cl X sz) (va_A X.1 sz)
abbrev hwQl (D : va_G) (cl : List vw_C) (X : hwW) (sz : Nat) (post : Int64 → hwW → Prop) : Array Value → State → Outcome → State → Prop := va_Ql post (hwB D cl X sz) (va_A X.1 sz)
abbrev hwQv (D : va_G) (cl : List vw_C) (X : hwW) (sz : Nat) (post : hwW → Prop) : Array Value → State → Outcome → State → Prop := va_Qv post (hwB D cl X sz) (va_A X.1 sz)
abbrev hwQq (D : va_G) (cl : List vw_C) (X : hwW) (sz : Nat) (post : Option Nat → hwW → Prop) : Array Value → State → Outcome → State → Prop := va_Qq post (hwB D cl X sz) (va_A X.1 sz)
theorem hw_blind {D : va_G} {cl : List vw_C} {tys : List (ClassId × FieldType)} {av : List Value} {X : hwW} {sz : Nat} : FrameBlind (hwPc D cl tys av X sz) := fun a U g mk q => by
  obtain ⟨q0, q1, qP, qK, qD, qO⟩ := q
  exact ⟨q0, q1, qP, va_K.moved (u := U) (U := U.calling g mk a) (Vm.Alike.refl U.vm) qK, qD, hwO.moved (u := U) (U := U.calling g mk a) (Vm.Alike.refl U.vm) qO⟩
theorem hw_preS {D : va_G} {cl : List vw_C} {tys : List (ClassId × FieldType)} {av : List Value} {X : hwW} {s : State} {H H0 : Heap} {A : Nat → Prop} {locs : List Loc} (hK : va_K D cl tys s) (hO : hwO tys s) (hZ : hwZ D cl A H0 X H locs) : PreS s H (hwPc D cl tys av X H.size) av :=
  ⟨hw_blind, fun U hU hW => ⟨rfl, by rw [hU], by rw [hU]; exact hZ.1, va_K.moved hW.alike hK, hZ.2.1.weaken (fun _ _ _ _ => trivial), hwO.moved hW.alike hO⟩⟩
theorem hw_preV {D : va_G} {cl : List vw_C} {tys : List (ClassId × FieldType)} {As : List Value} {X : hwW} {s : State} {H H0 : Heap} {A : Nat → Prop} {locs : List Loc} {a ci : Nat} {q : vw_C} (hK : va_K D cl tys s) (hO : hwO tys s) (hZ : hwZ D cl A H0 X H locs) (he : ∃ (L : Nat) (fs : List Value), hwH X a L (.inr (ci, fs))) (hc : cl[ci]? = some q) : PreV s H q.1 a (hwPc D cl tys (.ref a :: As) X H.size) As := by
  obtain ⟨L, fs, ⟨k, hk⟩, -⟩ := he
  exact ⟨hw_blind, va_recv hK hZ.1 hc hk, fun U hU hW => ⟨rfl, by rw [hU], by rw [hU]; exact hZ.1, va_K.moved hW.alike hK, hZ.2.1.weaken (fun _ _ _ _ => trivial), hwO.moved hW.alike hO⟩⟩
theorem hwMet {l : Launch} {D : va_G} {cl : List vw_C} {tys : List (ClassId × FieldType)} {y : MethodName} {ws ws' : List Cond} {rm : Room} {Qc : Array Value → State → Outcome → State → Prop} {mc ms sz : Nat} {cc : ByteArray} {maxL : Nat} {ret : Option FieldType} {av : List Value} {X : hwW} (hy : plainName y.cls = true) (hw : ws = Cond.code y cc maxL ret :: ws') (hlen : (lg_sl av).length ≤ maxL)
    (body : ∀ (p : Program) (e : Env) (s : State) (m : MethodId) (below : List Frame) (meth : Method) (c : Code) (ls : Array Slot), p.tables.exec = Jvm.exec → c.code = cc → meth.sig.returnType = ret → c.maxLocals = maxL → s.vm.findClass y.cls = some m.cls → (∀ w ∈ ws, w.before av.toArray s = true) → meth.locks = false → meth.name = y.name → s.heap.size = sz → va_K D cl tys s → hwO tys s → hwZ D cl (va_A X.1 s.heap.size) s.heap X s.heap [] → lv_has ls maxL (lv_args 0 av) →
      W p l e rm s m av.toArray below meth c s.heap [] 0 0 (MQ below Qc av.toArray s mc ms (va_A X.1 sz)) (F0 m 0 ls [])) : Met l y ws rm (hwPc D cl tys av X sz) Qc mc ms (va_A X.1 sz) := by
  refine Met.ofW (cc := cc) (maxL := maxL) (ret := ret) hy hw ?_
  intro p e s m args below meth c s₁ B hml hv
  obtain ⟨rfl, hsz, hP, hK, hD0, hO⟩ := hv
  have hl := lv_entry av (n := maxL) hlen
  rw [lg_entry_eq]
  exact body p e s m below meth c _ B.exec B.bytes B.returns hml (findClass_of_methodNamed B.named) (atoms_spec (ws := ws) B.pre) B.notSynchronized (name_of_methodNamed B.named B.method).1 hsz hK hO ⟨hP, hD0.self, va_S.rf⟩ hl
section HW1
variable {p : Program} {l : Launch} {e : Env} {R : Room} {s : State} {m : MethodId} {args : Array Value} {below : List Frame} {meth : Method} {c : Code} {H : Heap} {locs : List Loc} {cells slots : Nat} {Q : State → Prop}
variable {cc : ByteArray} {pc : Nat} {ls : Array Slot} {rest : List Value} {D : va_G} {cl : List vw_C} {A : Nat → Prop} {a L : Nat} {tys : List (ClassId × FieldType)} {X : hwW} {H0 : Heap}
theorem hw_topi {x y : Int32} (h : x = y) (k : W p l e R s m args below meth c H locs cells slots Q (F0 m pc ls (.int y :: rest))) : W p l e R s m args below meth c H locs cells slots Q (F0 m pc ls (.int x :: rest)) := h ▸ k
theorem hw_topl {x y : Int64} (h : x = y) (k : W p l e R s m args below meth c H locs cells slots Q (F0 m pc ls (.long y :: rest))) : W p l e R s m args below meth c H locs cells slots Q (F0 m pc ls (.long x :: rest)) := h ▸ k
theorem hw_top {x y : Value} (h : x = y) (k : W p l e R s m args below meth c H locs cells slots Q (F0 m pc ls (y :: rest))) : W p l e R s m args below meth c H locs cells slots Q (F0 m pc ls (x :: rest)) := h ▸ k
theorem hw_get (hx : p.tables.exec = Jvm.exec) (hb : c.code = cc) {own ref C : String} {T : u_T} {N ci index : Nat} {Ts : List Cond} (hts : ∀ w ∈ Ts, w.before args s = true) (hin : ∀ w ∈ u_ws C T N, w ∈ Ts) (hown : s.vm.findClass own = some m.cls) (hK : va_K D cl tys s) (hZ : hwZ D cl A H0 X H locs) {fs : List Value} (he : hwH X a L (.inr (ci, fs))) (hc : cl[ci]? = some (C, T, N)) (k : Nat) (hk : k < N) (hlink : (Cond.fieldLink own index ref (T k).2.1 (T k).2.2.1).before args s = true) (hsame : ∀ x, s.fieldFound? (T k).1 (T k).2.1 (T k).2.2.1 = some x → s.fieldFound? ref (T k).2.1 (T k).2.2.1 = some x) {v : Value} (hv : fs[k]? = some v) (hdg : decode cc pc = .ok (.getfield index, 3))
    (kk : W p l e R s m args below meth c H locs cells slots Q (F0 m (pc + 3) ls (v :: rest))) : W p l e R s m args below meth c H locs cells slots Q (F0 m pc ls (.ref a :: rest)) := by
  obtain ⟨⟨q0, hq⟩, -⟩ := he
  exact va_get hx hb hts hin hown hK hZ.1 q0 hq hc k hk hlink hsame hv hdg kk
theorem hw_getN (hx : p.tables.exec = Jvm.exec) (hb : c.code = cc) {own ref C host : String} {T : u_T} {N ci index : Nat} {Ts : List Cond} (hts : ∀ w ∈ Ts, w.before args s = true) (hin : ∀ w ∈ u_ws C T N, w ∈ Ts) (hown : s.vm.findClass own = some m.cls) (hK : va_K D cl tys s) (hZ : hwZ D cl A H0 X H locs) {fs : List Value} (he : hwH X a L (.inr (ci, fs))) (hc : cl[ci]? = some (C, T, N)) (k : Nat) (hk : k < N) (hlink : (Cond.fieldLinkNest own index ref (T k).2.1 (T k).2.2.1 host).before args s = true) (hsame : ∀ x, s.fieldFound? (T k).1 (T k).2.1 (T k).2.2.1 = some x → s.fieldFound? ref (T k).2.1 (T k).2.2.1 = some x) {v : Value} (hv : fs[k]? = some v) (hdg : decode cc pc = .ok (.getfield index, 3))
    (kk : W p l e R s m args below meth c H locs cells slots Q (F0 m (pc + 3) ls (v :: rest))) : W p l e R s m args below meth c H locs cells slots Q (F0 m pc ls (.ref a :: rest)) := by
  obtain ⟨⟨q0, hq⟩, -⟩ := he
  exact va_getN hx hb hts hin hown hK hZ.1 q0 hq hc k hk hlink hsame hv hdg kk
theorem hw_put (hx : p.tables.exec = Jvm.exec) (hb : c.code = cc) {own ref C : String} {T : u_T} {N ci index : Nat} {Ts : List Cond} (hts : ∀ w ∈ Ts, w.before args s = true) (hin : ∀ w ∈ u_ws C T N, w ∈ Ts) (ty0 : Nat → FieldType) (hty : ∀ k, k < N → parseFieldDescriptor (T k).2.2.1 = some (ty0 k)) (hnm : ∀ a, a < N → ∀ b, b < N → a ≠ b → (T a).2.1 ≠ (T b).2.1) (hown : s.vm.findClass own = some m.cls) (hK : va_K D cl tys s) (hZ : hwZ D cl A H0 X H locs) {fs : List Value} (he : hwH X a L (.inr (ci, fs))) (hc : cl[ci]? = some (C, T, N)) (k : Nat) (hk : k < N) (hlink : (Cond.fieldLink own index ref (T k).2.1 (T k).2.2.1).before args s = true) (hsame : ∀ x, s.fieldFound? (T k).1 (T k).2.1 (T k).2.2.1 = some x → s.fieldFound? ref (T k).2.1 (T k).2.2.1 = some x) (hfin : (T k).2.2.2 = false) {ty : FieldType} {v : Value} (hd : parseFieldDescriptor (T k).2.2.1 = some ty) (hn : narrow ty v = v) (hfit : fits ty v = true) (hl : k < fs.length) {fs' : List Value} (hfs : fs.set k v = fs') (hdg : decode cc pc = .ok (.putfield index, 3))
    (kk : ∀ (Y : hwW) (H1 : Heap) (locs1 : List Loc), hwZ D cl A H0 Y H1 locs1 → hwF X Y (fun M => M = L) → hwH Y a L (.inr (ci, fs')) → W p l e R s m args below meth c H1 locs1 cells slots Q (F0 m (pc + 3) ls rest)) : W p l e R s m args below meth c H locs cells slots Q (F0 m pc ls (v :: .ref a :: rest)) := by
  obtain ⟨⟨q0, hq⟩, hL⟩ := he
  subst hfs
  refine va_put hx hb hts hin ty0 hty hnm hown hK hZ.1 hZ.2.1 hZ.2.2 q0 hq hc k hk hlink hsame hfin hd hn hfit hl hdg (fun H1 locs1 hP hD hS => ?_)
  exact kk (X.1.set q0 _, X.2) H1 locs1 ⟨hP, hD, hS⟩ (hwF.set hq hL) ⟨⟨q0, hw_set_self hq⟩, hL⟩
theorem hw_putN (hx : p.tables.exec = Jvm.exec) (hb : c.code = cc) {own ref C host : String} {T : u_T} {N ci index : Nat} {Ts : List Cond} (hts : ∀ w ∈ Ts, w.before args s = true) (hin : ∀ w ∈ u_ws C T N, w ∈ Ts) (ty0 : Nat → FieldType) (hty : ∀ k, k < N → parseFieldDescriptor (T k).2.2.1 = some (ty0 k)) (hnm : ∀ a, a < N → ∀ b, b < N → a ≠ b → (T a).2.1 ≠ (T b).2.1) (hown : s.vm.findClass own = some m.cls) (hK : va_K D cl tys s) (hZ : hwZ D cl A H0 X H locs) {fs : List Value} (he : hwH X a L (.inr (ci, fs))) (hc : cl[ci]? = some (C, T, N)) (k : Nat) (hk : k < N) (hlink : (Cond.fieldLinkNest own index ref (T k).2.1 (T k).2.2.1 host).before args s = true) (hsame : ∀ x, s.fieldFound? (T k).1 (T k).2.1 (T k).2.2.1 = some x → s.fieldFound? ref (T k).2.1 (T k).2.2.1 = some x) (hfin : (T k).2.2.2 = false) {ty : FieldType} {v : Value} (hd : parseFieldDescriptor (T k).2.2.1 = some ty) (hn : narrow ty v = v) (hfit : fits ty v = true) (hl : k < fs.length) {fs' : List Value} (hfs : fs.set k v = fs') (hdg : decode cc pc = .ok (.putfield index, 3))
    (kk : ∀ (Y : hwW) (H1 : Heap) (locs1 : List Loc), hwZ D cl A H0 Y H1 locs1 → hwF X Y (fun M => M = L) → hwH Y a L (.inr (ci, fs')) → W p l e R s m args below meth c H1 locs1 cells slots Q (F0 m (pc + 3) ls rest)) : W p l e R s m args below meth c H locs cells slots Q (F0 m pc ls (v :: .ref a :: rest)) := by
  obtain ⟨⟨q0, hq⟩, hL⟩ := he
  subst hfs
  refine va_putN hx hb hts hin ty0 hty hnm hown hK hZ.1 hZ.2.1 hZ.2.2 q0 hq hc k hk hlink hsame hfin hd hn hfit hl hdg (fun H1 locs1 hP hD hS => ?_)
  exact kk (X.1.set q0 _, X.2) H1 locs1 ⟨hP, hD, hS⟩ (hwF.set hq hL) ⟨⟨q0, hw_set_self hq⟩, hL⟩
theorem hw_putF (hx : p.tables.exec = Jvm.exec) (hb : c.code = cc) {own ref C : String} {T : u_T} {N ci index : Nat} {Ts : List Cond} (hts : ∀ w ∈ Ts, w.before args s = true) (hin : ∀ w ∈ u_ws C T N, w ∈ Ts) (ty0 : Nat → FieldType) (hty : ∀ k, k < N → parseFieldDescriptor (T k).2.2.1 = some (ty0 k)) (hnm : ∀ a, a < N → ∀ b, b < N → a ≠ b → (T a).2.1 ≠ (T b).2.1) (hown : s.vm.findClass own = some m.cls) (hK : va_K D cl tys s) (hZ : hwZ D cl A H0 X H locs) {fs : List Value} (he : hwH X a L (.inr (ci, fs))) (hc : cl[ci]? = some (C, T, N)) (k : Nat) (hk : k < N) (hlink : (Cond.fieldLink own index ref (T k).2.1 (T k).2.2.1).before args s = true) (hsame : ∀ x, s.fieldFound? (T k).1 (T k).2.1 (T k).2.2.1 = some x → s.fieldFound? ref (T k).2.1 (T k).2.2.1 = some x) (hfin : (T k).2.2.2 = true) (hin2 : meth.name = "<init>") (hdecl : (T k).1 = own) {ty : FieldType} {v : Value} (hd : parseFieldDescriptor (T k).2.2.1 = some ty) (hn : narrow ty v = v) (hfit : fits ty v = true) (hl : k < fs.length) {fs' : List Value} (hfs : fs.set k v = fs') (hdg : decode cc pc = .ok (.putfield index, 3))
    (kk : ∀ (Y : hwW) (H1 : Heap) (locs1 : List Loc), hwZ D cl A H0 Y H1 locs1 → hwF X Y (fun M => M = L) → hwH Y a L (.inr (ci, fs')) → W p l e R s m args below meth c H1 locs1 cells slots Q (F0 m (pc + 3) ls rest)) : W p l e R s m args below meth c H locs cells slots Q (F0 m pc ls (v :: .ref a :: rest)) := by
  obtain ⟨⟨q0, hq⟩, hL⟩ := he
  subst hfs
  refine va_putF hx hb hts hin ty0 hty hnm hown hK hZ.1 hZ.2.1 hZ.2.2 q0 hq hc k hk hlink hsame hfin hin2 hdecl hd hn hfit hl hdg (fun H1 locs1 hP hD hS => ?_)
  exact kk (X.1.set q0 _, X.2) H1 locs1 ⟨hP, hD, hS⟩ (hwF.set hq hL) ⟨⟨q0, hw_set_self hq⟩, hL⟩
theorem hw_iald (hx : p.tables.exec = Jvm.exec) (hb : c.code = cc) (hK : va_K D cl tys s) (hZ : hwZ D cl A H0 X H locs) (t0 : Nat) {cA : ClassId} {n j : Nat} {f : Nat → Int32} (he : hwH X a L (.inl (cA, n, .inl f))) (ht : tys[t0]? = some (cA, .int)) (hj : j < n) (hn : n < 2 ^ 31) (hdg : decode cc pc = .ok (.iaload, 1))
    (kk : W p l e R s m args below meth c H locs cells slots Q (F0 m (pc + 1) ls (.int (f j) :: rest))) : W p l e R s m args below meth c H locs cells slots Q (F0 m pc ls (.int (nI j) :: .ref a :: rest)) := by
  obtain ⟨⟨q0, hq⟩, -⟩ := he
  refine va_iald hx hb hK hZ.1 q0 t0 hq ht (vp_in_nI hj hn) hdg ?_
  rw [nI_clamp (Nat.lt_trans hj hn)]
  exact kk
theorem hw_lald (hx : p.tables.exec = Jvm.exec) (hb : c.code = cc) (hK : va_K D cl tys s) (hZ : hwZ D cl A H0 X H locs) (t0 : Nat) {cA : ClassId} {n j : Nat} {f : Nat → Int64} (he : hwH X a L (.inl (cA, n, .inr (.inl f)))) (ht : tys[t0]? = some (cA, .long)) (hj : j < n) (hn : n < 2 ^ 31) (hdg : decode cc pc = .ok (.laload, 1))
    (kk : W p l e R s m args below meth c H locs cells slots Q (F0 m (pc + 1) ls (.long (f j) :: rest))) : W p l e R s m args below meth c H locs cells slots Q (F0 m pc ls (.int (nI j) :: .ref a :: rest)) := by
  obtain ⟨⟨q0, hq⟩, -⟩ := he
  refine va_lald hx hb hK hZ.1 q0 t0 hq ht (vp_in_nI hj hn) hdg ?_
  rw [nI_clamp (Nat.lt_trans hj hn)]
  exact kk
theorem hw_zald (hx : p.tables.exec = Jvm.exec) (hb : c.code = cc) (hK : va_K D cl tys s) (hZ : hwZ D cl A H0 X H locs) (t0 : Nat) {cA : ClassId} {n j : Nat} {f : Nat → Int32} (he : hwH X a L (.inl (cA, n, .inl f))) (ht : tys[t0]? = some (cA, .boolean)) (hj : j < n) (hn : n < 2 ^ 31) (hdg : decode cc pc = .ok (.baload, 1))
    (kk : W p l e R s m args below meth c H locs cells slots Q (F0 m (pc + 1) ls (.int (f j) :: rest))) : W p l e R s m args below meth c H locs cells slots Q (F0 m pc ls (.int (nI j) :: .ref a :: rest)) := by
  obtain ⟨⟨q0, hq⟩, -⟩ := he
  refine va_zald hx hb hK hZ.1 q0 t0 hq ht (vp_in_nI hj hn) hdg ?_
  rw [nI_clamp (Nat.lt_trans hj hn)]
  exact kk
theorem hw_cald (hx : p.tables.exec = Jvm.exec) (hb : c.code = cc) (hK : va_K D cl tys s) (hZ : hwZ D cl A H0 X H locs) (t0 : Nat) {cA : ClassId} {n j : Nat} {f : Nat → Int32} (he : hwH X a L (.inl (cA, n, .inl f))) (ht : tys[t0]? = some (cA, .char)) (hj : j < n) (hn : n < 2 ^ 31) (hdg : decode cc pc = .ok (.caload, 1))
    (kk : W p l e R s m args below meth c H locs cells slots Q (F0 m (pc + 1) ls (.int (f j) :: rest))) : W p l e R s m args below meth c H locs cells slots Q (F0 m pc ls (.int (nI j) :: .ref a :: rest)) := by
  obtain ⟨⟨q0, hq⟩, -⟩ := he
  refine va_cald hx hb hK hZ.1 q0 t0 hq ht (vp_in_nI hj hn) hdg ?_
  rw [nI_clamp (Nat.lt_trans hj hn)]
  exact kk
theorem hw_bald (hx : p.tables.exec = Jvm.exec) (hb : c.code = cc) (hK : va_K D cl tys s) (hZ : hwZ D cl A H0 X H locs) (t0 : Nat) {cA : ClassId} {n j : Nat} {f : Nat → Int32} (he : hwH X a L (.inl (cA, n, .inl f))) (ht : tys[t0]? = some (cA, .byte)) (hj : j < n) (hn : n < 2 ^ 31) (hdg : decode cc pc = .ok (.baload, 1))
    (kk : W p l e R s m args below meth c H locs cells slots Q (F0 m (pc + 1) ls (.int (f j) :: rest))) : W p l e R s m args below meth c H locs cells slots Q (F0 m pc ls (.int (nI j) :: .ref a :: rest)) := by
  obtain ⟨⟨q0, hq⟩, -⟩ := he
  refine va_bald hx hb hK hZ.1 q0 t0 hq ht (vp_in_nI hj hn) hdg ?_
  rw [nI_clamp (Nat.lt_trans hj hn)]
  exact kk
theorem hw_aldq (hx : p.tables.exec = Jvm.exec) (hb : c.code = cc) (hK : va_K D cl tys s) (hZ : hwZ D cl A H0 X H locs) (t0 : Nat) {cA : ClassId} {C : String} {n j : Nat} {f : Nat → Option Nat} (he : hwH X a L (.inl (cA, n, .inr (.inr (.inr (.inr f)))))) (ht : tys[t0]? = some (cA, .object C)) (hj : j < n) (hn : n < 2 ^ 31) (hdg : decode cc pc = .ok (.aaload, 1)) {r : Option Nat} (hr : f j = r)
    (kk : W p l e R s m args below meth c H locs cells slots Q (F0 m (pc + 1) ls (va_rf r :: rest))) : W p l e R s m args below meth c H locs cells slots Q (F0 m pc ls (.int (nI j) :: .ref a :: rest)) := by
  obtain ⟨⟨q0, hq⟩, -⟩ := he
  subst hr
  refine va_aldq hx hb hK hZ.1 q0 t0 hq ht (vp_in_nI hj hn) hdg ?_
  rw [nI_clamp (Nat.lt_trans hj hn)]
  exact kk
theorem hw_iast (hx : p.tables.exec = Jvm.exec) (hb : c.code = cc) (hK : va_K D cl tys s) (hZ : hwZ D cl A H0 X H locs) (t0 : Nat) {cA : ClassId} {n j : Nat} {f : Nat → Int32} (he : hwH X a L (.inl (cA, n, .inl f))) (ht : tys[t0]? = some (cA, .int)) {x : Int32} (hj : j < n) (hn : n < 2 ^ 31) (hdg : decode cc pc = .ok (.iastore, 1))
    (kk : ∀ (Y : hwW) (H1 : Heap) (locs1 : List Loc), hwZ D cl A H0 Y H1 locs1 → hwF X Y (fun M => M = L) → hwH Y a L (.inl (cA, n, .inl (upd f j x))) → W p l e R s m args below meth c H1 locs1 cells slots Q (F0 m (pc + 1) ls rest)) : W p l e R s m args below meth c H locs cells slots Q (F0 m pc ls (.int x :: .int (nI j) :: .ref a :: rest)) := by
  obtain ⟨⟨q0, hq⟩, hL⟩ := he
  refine va_iast hx hb hK hZ.1 hZ.2.1 hZ.2.2 q0 t0 hq ht (vp_in_nI hj hn) hdg (fun H1 locs1 hP hD hS => ?_)
  rw [nI_clamp (Nat.lt_trans hj hn)] at hP hD
  exact kk (X.1.set q0 _, X.2) H1 locs1 ⟨hP, hD, hS⟩ (hwF.set hq hL) ⟨⟨q0, hw_set_self hq⟩, hL⟩
theorem hw_last (hx : p.tables.exec = Jvm.exec) (hb : c.code = cc) (hK : va_K D cl tys s) (hZ : hwZ D cl A H0 X H locs) (t0 : Nat) {cA : ClassId} {n j : Nat} {f : Nat → Int64} (he : hwH X a L (.inl (cA, n, .inr (.inl f)))) (ht : tys[t0]? = some (cA, .long)) {x : Int64} (hj : j < n) (hn : n < 2 ^ 31) (hdg : decode cc pc = .ok (.lastore, 1))
    (kk : ∀ (Y : hwW) (H1 : Heap) (locs1 : List Loc), hwZ D cl A H0 Y H1 locs1 → hwF X Y (fun M => M = L) → hwH Y a L (.inl (cA, n, .inr (.inl (vp_updL f j x)))) → W p l e R s m args below meth c H1 locs1 cells slots Q (F0 m (pc + 1) ls rest)) : W p l e R s m args below meth c H locs cells slots Q (F0 m pc ls (.long x :: .int (nI j) :: .ref a :: rest)) := by
  obtain ⟨⟨q0, hq⟩, hL⟩ := he
  refine va_last hx hb hK hZ.1 hZ.2.1 hZ.2.2 q0 t0 hq ht (vp_in_nI hj hn) hdg (fun H1 locs1 hP hD hS => ?_)
  rw [nI_clamp (Nat.lt_trans hj hn)] at hP hD
  exact kk (X.1.set q0 _, X.2) H1 locs1 ⟨hP, hD, hS⟩ (hwF.set hq hL) ⟨⟨q0, hw_set_self hq⟩, hL⟩
theorem hw_zast (hx : p.tables.exec = Jvm.exec) (hb : c.code = cc) (hK : va_K D cl tys s) (hZ : hwZ D cl A H0 X H locs) (t0 : Nat) {cA : ClassId} {n j : Nat} {f : Nat → Int32} (he : hwH X a L (.inl (cA, n, .inl f))) (ht : tys[t0]? = some (cA, .boolean)) {x : Int32} (hj : j < n) (hn : n < 2 ^ 31) (hdg : decode cc pc = .ok (.bastore, 1))
    (kk : ∀ (Y : hwW) (H1 : Heap) (locs1 : List Loc), hwZ D cl A H0 Y H1 locs1 → hwF X Y (fun M => M = L) → hwH Y a L (.inl (cA, n, .inl (upd f j (vp_nar .boolean x)))) → W p l e R s m args below meth c H1 locs1 cells slots Q (F0 m (pc + 1) ls rest)) : W p l e R s m args below meth c H locs cells slots Q (F0 m pc ls (.int x :: .int (nI j) :: .ref a :: rest)) := by
  obtain ⟨⟨q0, hq⟩, hL⟩ := he
  refine va_zast hx hb hK hZ.1 hZ.2.1 hZ.2.2 q0 t0 hq ht (vp_in_nI hj hn) hdg (fun H1 locs1 hP hD hS => ?_)
  rw [nI_clamp (Nat.lt_trans hj hn)] at hP hD
  exact kk (X.1.set q0 _, X.2) H1 locs1 ⟨hP, hD, hS⟩ (hwF.set hq hL) ⟨⟨q0, hw_set_self hq⟩, hL⟩
theorem hw_cast (hx : p.tables.exec = Jvm.exec) (hb : c.code = cc) (hK : va_K D cl tys s) (hZ : hwZ D cl A H0 X H locs) (t0 : Nat) {cA : ClassId} {n j : Nat} {f : Nat → Int32} (he : hwH X a L (.inl (cA, n, .inl f))) (ht : tys[t0]? = some (cA, .char)) {x : Int32} (hj : j < n) (hn : n < 2 ^ 31) (hdg : decode cc pc = .ok (.castore, 1))
    (kk : ∀ (Y : hwW) (H1 : Heap) (locs1 : List Loc), hwZ D cl A H0 Y H1 locs1 → hwF X Y (fun M => M = L) → hwH Y a L (.inl (cA, n, .inl (upd f j (vp_nar .char x)))) → W p l e R s m args below meth c H1 locs1 cells slots Q (F0 m (pc + 1) ls rest)) : W p l e R s m args below meth c H locs cells slots Q (F0 m pc ls (.int x :: .int (nI j) :: .ref a :: rest)) := by
  obtain ⟨⟨q0, hq⟩, hL⟩ := he
  refine va_cast hx hb hK hZ.1 hZ.2.1 hZ.2.2 q0 t0 hq ht (vp_in_nI hj hn) hdg (fun H1 locs1 hP hD hS => ?_)
  rw [nI_clamp (Nat.lt_trans hj hn)] at hP hD
  exact kk (X.1.set q0 _, X.2) H1 locs1 ⟨hP, hD, hS⟩ (hwF.set hq hL) ⟨⟨q0, hw_set_self hq⟩, hL⟩
theorem hw_bast (hx : p.tables.exec = Jvm.exec) (hb : c.code = cc) (hK : va_K D cl tys s) (hZ : hwZ D cl A H0 X H locs) (t0 : Nat) {cA : ClassId} {n j : Nat} {f : Nat → Int32} (he : hwH X a L (.inl (cA, n, .inl f))) (ht : tys[t0]? = some (cA, .byte)) {x : Int32} (hj : j < n) (hn : n < 2 ^ 31) (hdg : decode cc pc = .ok (.bastore, 1))
    (kk : ∀ (Y : hwW) (H1 : Heap) (locs1 : List Loc), hwZ D cl A H0 Y H1 locs1 → hwF X Y (fun M => M = L) → hwH Y a L (.inl (cA, n, .inl (upd f j (vp_nar .byte x)))) → W p l e R s m args below meth c H1 locs1 cells slots Q (F0 m (pc + 1) ls rest)) : W p l e R s m args below meth c H locs cells slots Q (F0 m pc ls (.int x :: .int (nI j) :: .ref a :: rest)) := by
  obtain ⟨⟨q0, hq⟩, hL⟩ := he
  refine va_bast hx hb hK hZ.1 hZ.2.1 hZ.2.2 q0 t0 hq ht (vp_in_nI hj hn) hdg (fun H1 locs1 hP hD hS => ?_)
  rw [nI_clamp (Nat.lt_trans hj hn)] at hP hD
  exact kk (X.1.set q0 _, X.2) H1 locs1 ⟨hP, hD, hS⟩ (hwF.set hq hL) ⟨⟨q0, hw_set_self hq⟩, hL⟩
theorem hw_astq (hx : p.tables.exec = Jvm.exec) (hb : c.code = cc) (hK : va_K D cl tys s) (hZ : hwZ D cl A H0 X H locs) (t0 ci : Nat) {cA : ClassId} {r : vw_C} {n j v Lv : Nat} {vs : List Value} {f : Nat → Option Nat} (he : hwH X a L (.inl (cA, n, .inr (.inr (.inr (.inr f)))))) (ht : tys[t0]? = some (cA, .object r.1)) (hv : hwH X v Lv (.inr (ci, vs))) (hc : cl[ci]? = some r) (hj : j < n) (hn : n < 2 ^ 31) (hdg : decode cc pc = .ok (.aastore, 1))
    (kk : ∀ (Y : hwW) (H1 : Heap) (locs1 : List Loc), hwZ D cl A H0 Y H1 locs1 → hwF X Y (fun M => M = L) → hwH Y a L (.inl (cA, n, .inr (.inr (.inr (.inr (va_up f j (some v))))))) → W p l e R s m args below meth c H1 locs1 cells slots Q (F0 m (pc + 1) ls rest)) : W p l e R s m args below meth c H locs cells slots Q (F0 m pc ls (.ref v :: .int (nI j) :: .ref a :: rest)) := by
  obtain ⟨⟨q0, hq⟩, hL⟩ := he
  obtain ⟨⟨q1, hq1⟩, -⟩ := hv
  refine va_astq hx hb hK hZ.1 hZ.2.1 hZ.2.2 q0 t0 q1 ci hq ht hq1 hc (vp_in_nI hj hn) hdg (fun H1 locs1 hP hD hS => ?_)
  rw [nI_clamp (Nat.lt_trans hj hn)] at hP hD
  exact kk (X.1.set q0 _, X.2) H1 locs1 ⟨hP, hD, hS⟩ (hwF.set hq hL) ⟨⟨q0, hw_set_self hq⟩, hL⟩
theorem hw_alen (hx : p.tables.exec = Jvm.exec) (hb : c.code = cc) (hK : va_K D cl tys s) (hZ : hwZ D cl A H0 X H locs) (t0 : Nat) {cA : ClassId} {x : vp_A} (he : hwH X a L (.inl (cA, x))) {ty : FieldType} (ht : tys[t0]? = some (cA, ty)) (hdg : decode cc pc = .ok (.arraylength, 1))
    (kk : W p l e R s m args below meth c H locs cells slots Q (F0 m (pc + 1) ls (.int (nI x.1) :: rest))) : W p l e R s m args below meth c H locs cells slots Q (F0 m pc ls (.ref a :: rest)) := by
  obtain ⟨⟨q0, hq⟩, -⟩ := he
  exact va_alen hx hb hK hZ.1 q0 t0 hq ht rfl hdg kk
theorem hw_new {own C : String} {T : u_T} {N ci index : Nat} {Ts : List Cond} (hx : p.tables.exec = Jvm.exec) (hb : c.code = cc) (hts : ∀ w ∈ Ts, w.before args s = true) (hin : ∀ w ∈ u_ws C T N, w ∈ Ts) (ty : Nat → FieldType) (hty : ∀ k, k < N → parseFieldDescriptor (T k).2.2.1 = some (ty k)) (hown : s.vm.findClass own = some m.cls) (hcl : (Cond.classLink own index C).before args s = true) (hinst : (Cond.instantiable C N).before args s = true) (hini : (Cond.initialized C).before args s = true) (hK : va_K D cl tys s) (hZ : hwZ D cl A H0 X H locs) (hA : ∀ q, H0.size ≤ q → A q) (hc : cl[ci]? = some (C, T, N)) {fs : List Value} (hfs : ∀ j, j < N → defaultValue (ty j) = vp_V fs j) (hcells : cells + 1 ≤ R.cells) (hslots : slots + N ≤ R.slots) (hdg : decode cc pc = .ok (.new index, 3)) (L : Nat)
    (kk : ∀ (q : Nat) (Y : hwW) (H1 : Heap), hwZ D cl A H0 Y H1 locs → hwF X Y (fun _ => False) → hwH Y q L (.inr (ci, fs)) → W p l e R s m args below meth c H1 locs (cells + 1) (slots + N) Q (F0 m (pc + 3) ls (.ref q :: rest))) : W p l e R s m args below meth c H locs cells slots Q (F0 m pc ls rest) := by
  refine va_new hx hb hts hin ty hty hown hcl hinst hini hK hZ.1 hZ.2.1 hZ.2.2 hA hc hfs hcells hslots hdg (fun q H1 hP hD hS => ?_)
  exact kk q (X.1 ++ [(q, .inr (ci, fs))], va_up X.2 q L) H1 ⟨hP, hD, hS⟩ (hwF.push hD) hwH.push
theorem hw_newa (hx : p.tables.exec = Jvm.exec) (hb : c.code = cc) {atype : ArrayType} (harr : (Cond.arrayClass (newarray.typeOf atype)).before args s = true) {ty : FieldType} (hty : newarray.typeOf atype = ty) (hK : va_K D cl tys s) (hZ : hwZ D cl A H0 X H locs) (hA : ∀ q, H0.size ≤ q → A q) (t0 : Nat) {c0 : ClassId} (ht : tys[t0]? = some (c0, ty)) (hpr : ∀ U c1, va_RA U c1 ty = (U.vm.findClass ("[" ++ ty.toString) = some c1))
    {N : Nat} {a0 : vp_A} (ha : ∀ cA : ClassId, vp_cell cA a0 = arrV cA N (fun _ => defaultValue ty)) (hN : N < 2 ^ 31) (hbytes : N * componentBytes ty ≤ 536870912) (hcells : cells + 1 ≤ R.cells) (hslots : slots + N ≤ R.slots) (hdg : decode cc pc = .ok (.newarray atype, 2)) (L : Nat)
    (kk : ∀ (q : Nat) (Y : hwW) (H1 : Heap), hwZ D cl A H0 Y H1 locs → hwF X Y (fun _ => False) → hwH Y q L (.inl (c0, a0)) → W p l e R s m args below meth c H1 locs (cells + 1) (slots + N) Q (F0 m (pc + 2) ls (.ref q :: rest))) : W p l e R s m args below meth c H locs cells slots Q (F0 m pc ls (.int (nI N) :: rest)) := by
  refine va_newa hx hb harr hty hK hZ.1 hZ.2.1 hZ.2.2 hA ha (nI_pos hN) (nI_clamp hN) hbytes hcells hslots hdg (fun q cA H1 hK1 hP hD hS => ?_)
  have h1 := (hK1.2 tys.length (cA, ty) (by simp)).2
  have h2 := (hK.2 t0 _ ht).2
  rw [hpr] at h1 h2
  have h3 : cA = c0 := Option.some.inj (h1.symm.trans h2)
  subst h3
  exact kk q (X.1 ++ [(q, .inl (cA, a0))], va_up X.2 q L) H1 ⟨hP, hD, hS⟩ (hwF.push hD) hwH.push
theorem hw_newq (hx : p.tables.exec = Jvm.exec) (hb : c.code = cc) {own C : String} {index : Nat} (hown : s.vm.findClass own = some m.cls) (hclink : (Cond.classLink own index C).before args s = true) (hO : hwO tys s) (hK : va_K D cl tys s) (hZ : hwZ D cl A H0 X H locs) (hA : ∀ q, H0.size ≤ q → A q) (t0 : Nat) {c0 : ClassId} (ht : tys[t0]? = some (c0, .object C))
    {N : Nat} (hN : N < 2 ^ 31) (hbytes : N * 4 ≤ 536870912) (hcells : cells + 1 ≤ R.cells) (hslots : slots + N ≤ R.slots) (hdg : decode cc pc = .ok (.anewarray index, 3)) (L : Nat)
    (kk : ∀ (q : Nat) (Y : hwW) (H1 : Heap), hwZ D cl A H0 Y H1 locs → hwF X Y (fun _ => False) → hwH Y q L (.inl (c0, N, .inr (.inr (.inr (.inr (fun _ => none)))))) → W p l e R s m args below meth c H1 locs (cells + 1) (slots + N) Q (F0 m (pc + 3) ls (.ref q :: rest))) : W p l e R s m args below meth c H locs cells slots Q (F0 m pc ls (.int (nI N) :: rest)) := by
  refine va_newq hx hb hown hclink (hO t0 _ _ ht) hK hZ.1 hZ.2.1 hZ.2.2 hA (nI_pos hN) (nI_clamp hN) hbytes hcells hslots hdg (fun q cA H1 hK1 hP hD hS => ?_)
  obtain ⟨_, _, -, -, -, h1⟩ := (hK1.2 tys.length (cA, .object C) (by simp)).2
  obtain ⟨_, _, -, -, -, h2⟩ := (hK.2 t0 _ ht).2
  have h3 : cA = c0 := Option.some.inj (h1.symm.trans h2)
  subst h3
  exact kk q (X.1 ++ [(q, .inl (cA, N, .inr (.inr (.inr (.inr (fun _ => none))))))], va_up X.2 q L) H1 ⟨hP, hD, hS⟩ (hwF.push hD) hwH.push
theorem hw_calli {mc ms : Nat} {st0 : List Value} {av : Array Value} {post : Int32 → hwW → Prop} (hr : va_Run p l e R s m args below meth c H locs cells slots mc ms (F0 m pc ls st0) rest (hwQi D cl X H.size post av) (va_A X.1 H.size)) (hZ : hwZ D cl A H0 X H locs) (hA : ∀ q, H0.size ≤ q → A q)
    (kk : ∀ (r : Int32) (Y : hwW) (H1 : Heap) (locs1 : List Loc), post r Y → hwZ D cl A H0 Y H1 locs1 → W p l e R s m args below meth c H1 locs1 (cells + mc) (slots + ms) Q (F0 m (pc + 3) ls (.int r :: rest))) : W p l e R s m args below meth c H locs cells slots Q (F0 m pc ls st0) := by
  have hF := hZ.up hA
  refine va_calli hr hZ.2.2 (fun q _ h => hF q h) hF (fun r u t H1 locs1 ht hvm hp hB hz hk hS => ?_)
  subst ht
  exact kk r u _ locs1 hp ⟨hB.1, hB.2.weaken (fun _ _ _ h => hF _ h), hS⟩
theorem hw_calll {mc ms : Nat} {st0 : List Value} {av : Array Value} {post : Int64 → hwW → Prop} (hr : va_Run p l e R s m args below meth c H locs cells slots mc ms (F0 m pc ls st0) rest (hwQl D cl X H.size post av) (va_A X.1 H.size)) (hZ : hwZ D cl A H0 X H locs) (hA : ∀ q, H0.size ≤ q → A q)
    (kk : ∀ (r : Int64) (Y : hwW) (H1 : Heap) (locs1 : List Loc), post r Y → hwZ D cl A H0 Y H1 locs1 → W p l e R s m args below meth c H1 locs1 (cells + mc) (slots + ms) Q (F0 m (pc + 3) ls (.long r :: rest))) : W p l e R s m args below meth c H locs cells slots Q (F0 m pc ls st0) := by
  have hF := hZ.up hA
  refine va_calll hr hZ.2.2 (fun q _ h => hF q h) hF (fun r u t H1 locs1 ht hvm hp hB hz hk hS => ?_)
  subst ht
  exact kk r u _ locs1 hp ⟨hB.1, hB.2.weaken (fun _ _ _ h => hF _ h), hS⟩
theorem hw_callv {mc ms : Nat} {st0 : List Value} {av : Array Value} {post : hwW → Prop} (hr : va_Run p l e R s m args below meth c H locs cells slots mc ms (F0 m pc ls st0) rest (hwQv D cl X H.size post av) (va_A X.1 H.size)) (hZ : hwZ D cl A H0 X H locs) (hA : ∀ q, H0.size ≤ q → A q)
    (kk : ∀ (Y : hwW) (H1 : Heap) (locs1 : List Loc), post Y → hwZ D cl A H0 Y H1 locs1 → W p l e R s m args below meth c H1 locs1 (cells + mc) (slots + ms) Q (F0 m (pc + 3) ls rest)) : W p l e R s m args below meth c H locs cells slots Q (F0 m pc ls st0) := by
  have hF := hZ.up hA
  refine va_callv hr hZ.2.2 (fun q _ h => hF q h) hF (fun u t H1 locs1 ht hvm hp hB hz hk hS => ?_)
  subst ht
  exact kk u _ locs1 hp ⟨hB.1, hB.2.weaken (fun _ _ _ h => hF _ h), hS⟩
theorem hw_callq {mc ms : Nat} {st0 : List Value} {av : Array Value} {post : Option Nat → hwW → Prop} (hr : va_Run p l e R s m args below meth c H locs cells slots mc ms (F0 m pc ls st0) rest (hwQq D cl X H.size post av) (va_A X.1 H.size)) (hZ : hwZ D cl A H0 X H locs) (hA : ∀ q, H0.size ≤ q → A q)
    (kk : ∀ (r : Option Nat) (Y : hwW) (H1 : Heap) (locs1 : List Loc), post r Y → hwZ D cl A H0 Y H1 locs1 → W p l e R s m args below meth c H1 locs1 (cells + mc) (slots + ms) Q (F0 m (pc + 3) ls (va_rf r :: rest))) : W p l e R s m args below meth c H locs cells slots Q (F0 m pc ls st0) := by
  have hF := hZ.up hA
  refine va_callq hr hZ.2.2 (fun q _ h => hF q h) hF (fun r u t H1 locs1 ht hvm hp hB hz hk hS => ?_)
  subst ht
  exact kk r u _ locs1 hp ⟨hB.1, hB.2.weaken (fun _ _ _ h => hF _ h), hS⟩
theorem hw_iret (hx : p.tables.exec = Jvm.exec) (hb : c.code = cc) (hr : meth.sig.returnType = some .int) (hlocks : meth.locks = false) {X0 : hwW} {post : Int32 → hwW → Prop} {v : Int32} (hZ : hwZ D cl (va_A X0.1 s.heap.size) s.heap X H locs) (hp : post v X) (hdg : decode cc pc = .ok (.ireturn, 1)) : W p l e R s m args below meth c H locs cells slots (MQ below (hwQi D cl X0 s.heap.size post) args s cells slots (va_A X0.1 s.heap.size)) (F0 m pc ls [.int v]) :=
  W.iret hx hb hr (fun t ht hW => ⟨⟨v, X, rfl, hp, by rw [ht]; exact hZ.1, hZ.2.1⟩, hZ.2.2.F ht⟩) hZ.2.2.2.2 hdg hlocks
theorem hw_zret (hx : p.tables.exec = Jvm.exec) (hb : c.code = cc) (hr : meth.sig.returnType = some .boolean) (hlocks : meth.locks = false) {X0 : hwW} {post : Int32 → hwW → Prop} {v : Int32} (hv : narrow .boolean (.int v) = .int v) (hZ : hwZ D cl (va_A X0.1 s.heap.size) s.heap X H locs) (hp : post v X) (hdg : decode cc pc = .ok (.ireturn, 1)) : W p l e R s m args below meth c H locs cells slots (MQ below (hwQi D cl X0 s.heap.size post) args s cells slots (va_A X0.1 s.heap.size)) (F0 m pc ls [.int v]) :=
  W.zret hx hb hr hv (fun t ht hW => ⟨⟨v, X, rfl, hp, by rw [ht]; exact hZ.1, hZ.2.1⟩, hZ.2.2.F ht⟩) hZ.2.2.2.2 hdg hlocks
theorem hw_lret (hx : p.tables.exec = Jvm.exec) (hb : c.code = cc) (hr : meth.sig.returnType = some .long) (hlocks : meth.locks = false) {X0 : hwW} {post : Int64 → hwW → Prop} {v : Int64} (hZ : hwZ D cl (va_A X0.1 s.heap.size) s.heap X H locs) (hp : post v X) (hdg : decode cc pc = .ok (.lreturn, 1)) : W p l e R s m args below meth c H locs cells slots (MQ below (hwQl D cl X0 s.heap.size post) args s cells slots (va_A X0.1 s.heap.size)) (F0 m pc ls [.long v]) :=
  W.lret hx hb hr (fun t ht hW => ⟨⟨v, X, rfl, hp, by rw [ht]; exact hZ.1, hZ.2.1⟩, hZ.2.2.F ht⟩) hZ.2.2.2.2 hdg hlocks
theorem hw_vret (hx : p.tables.exec = Jvm.exec) (hb : c.code = cc) (hr : meth.sig.returnType = none) (hlocks : meth.locks = false) {X0 : hwW} {post : hwW → Prop} (hZ : hwZ D cl (va_A X0.1 s.heap.size) s.heap X H locs) (hp : post X) (hdg : decode cc pc = .ok (.return_, 1)) : W p l e R s m args below meth c H locs cells slots (MQ below (hwQv D cl X0 s.heap.size post) args s cells slots (va_A X0.1 s.heap.size)) (F0 m pc ls []) :=
  W.vret hx hb hr (fun t ht hW => ⟨⟨X, rfl, hp, by rw [ht]; exact hZ.1, hZ.2.1⟩, hZ.2.2.F ht⟩) hZ.2.2.2.2 hdg hlocks
theorem hw_qret (hx : p.tables.exec = Jvm.exec) (hb : c.code = cc) {rt : FieldType} (hr : meth.sig.returnType = some rt) (hrt : (∃ n, rt = .object n) ∨ ∃ t, rt = .array t) (hlocks : meth.locks = false) {X0 : hwW} {post : Option Nat → hwW → Prop} {v : Option Nat} {vv : Value} (hvv : va_rf v = vv) (hZ : hwZ D cl (va_A X0.1 s.heap.size) s.heap X H locs) (hp : post v X) (hdg : decode cc pc = .ok (.areturn, 1)) : W p l e R s m args below meth c H locs cells slots (MQ below (hwQq D cl X0 s.heap.size post) args s cells slots (va_A X0.1 s.heap.size)) (F0 m pc ls [vv]) := by
  subst hvv
  exact W.aret hx hb hr hrt (va_rf_or v) (fun t ht hW => ⟨⟨v, X, rfl, hp, by rw [ht]; exact hZ.1, hZ.2.1⟩, hZ.2.2.F ht⟩) hZ.2.2.2.2 hdg hlocks
end HW1
end
section
/-! GENERIC ROWS over part 02: prologues by kind of answer, compares over naturals, truth values, long compares, options. -/
def bI (b : Bool) : Int32 := if b then 1 else 0
theorem bI_t : bI true = nI 1 := rfl
theorem bI_f : bI false = nI 0 := rfl
theorem hw_nb (b : Bool) : narrow .boolean (.int (bI b)) = .int (bI b) := by cases b <;> rfl
theorem bI_z (b : Bool) : bI b = 0 ↔ b = false := by cases b <;> simp [bI]
theorem hw_dec {a k : Nat} {n : Int} (h : k ≤ a) (hn : Int32.ofInt n = - nI k) : nI a + Int32.ofInt n = nI (a - k) := by
  rw [hn, ← pk_sub h]; exact (Int32.sub_eq_add_neg _ _).symm
theorem hw_nmin {a b : Nat} (ha : a < 2 ^ 31) (hb : b < 2 ^ 31) : (if nI b < nI a then nI b else nI a) = nI (min a b) := by
  by_cases h : b < a
  · rw [if_pos (nI_lt h ha), Nat.min_eq_right (Nat.le_of_lt h)]
  · rw [if_neg (nI_nlt (Nat.le_of_not_lt h) hb), Nat.min_eq_left (Nat.le_of_not_lt h)]
theorem hw_nmax {a b : Nat} (ha : a < 2 ^ 31) (hb : b < 2 ^ 31) : (if nI a < nI b then nI b else nI a) = nI (max a b) := by
  by_cases h : a < b
  · rw [if_pos (nI_lt h hb), Nat.max_eq_right (Nat.le_of_lt h)]
  · rw [if_neg (nI_nlt (Nat.le_of_not_lt h) ha), Nat.max_eq_left (Nat.le_of_not_lt h)]

theorem hwMeti {l : Launch} {D : va_G} {cl : List vw_C} {tys : List (ClassId × FieldType)} {y : MethodName} {ws ws' : List Cond} {rm : Room} {mc ms sz : Nat} {cc : ByteArray} {maxL : Nat} {av : List Value} {X : hwW} {post : Int32 → hwW → Prop} (hy : plainName y.cls = true) (hw : ws = Cond.code y cc maxL (some .int) :: ws') (hlen : (lg_sl av).length ≤ maxL)
    (body : ∀ (p : Program) (e : Env) (s : State) (m : MethodId) (args : Array Value) (below : List Frame) (meth : Method) (c : Code) (ls : Array Slot) (A : Nat → Prop) (Q : State → Prop), p.tables.exec = Jvm.exec → c.code = cc → c.maxLocals = maxL → s.vm.findClass y.cls = some m.cls → (∀ w ∈ ws, w.before args s = true) → meth.name = y.name →
      (∀ {H : Heap} {locs : List Loc} {pc : Nat} {ls : Array Slot} {Y : hwW} {v : Int32}, hwZ D cl A s.heap Y H locs → post v Y → decode cc pc = .ok (.ireturn, 1) → W p l e rm s m args below meth c H locs mc ms Q (F0 m pc ls [.int v])) →
      va_K D cl tys s → hwO tys s → hwZ D cl A s.heap X s.heap [] → (∀ q, s.heap.size ≤ q → A q) → lv_has ls maxL (lv_args 0 av) → W p l e rm s m args below meth c s.heap [] 0 0 Q (F0 m 0 ls [])) : Met l y ws rm (hwPc D cl tys av X sz) (hwQi D cl X sz post) mc ms (va_A X.1 sz) := by
  refine hwMet hy hw hlen (fun p e s m below meth c ls hx hb hr hml hown hts hlocks hname hsz hK hO hZ hl => ?_)
  subst hsz
  exact body p e s m _ below meth c ls _ _ hx hb hml hown hts hname (fun  hZ hp hd => hw_iret hx hb hr hlocks hZ hp hd) hK hO hZ (fun q h => Or.inr h) hl
theorem hwMetz {l : Launch} {D : va_G} {cl : List vw_C} {tys : List (ClassId × FieldType)} {y : MethodName} {ws ws' : List Cond} {rm : Room} {mc ms sz : Nat} {cc : ByteArray} {maxL : Nat} {av : List Value} {X : hwW} {post : Int32 → hwW → Prop} (hy : plainName y.cls = true) (hw : ws = Cond.code y cc maxL (some .boolean) :: ws') (hlen : (lg_sl av).length ≤ maxL)
    (body : ∀ (p : Program) (e : Env) (s : State) (m : MethodId) (args : Array Value) (below : List Frame) (meth : Method) (c : Code) (ls : Array Slot) (A : Nat → Prop) (Q : State → Prop), p.tables.exec = Jvm.exec → c.code = cc → c.maxLocals = maxL → s.vm.findClass y.cls = some m.cls → (∀ w ∈ ws, w.before args s = true) → meth.name = y.name →
      (∀ {H : Heap} {locs : List Loc} {pc : Nat} {ls : Array Slot} {Y : hwW} {v : Int32}, narrow .boolean (.int v) = .int v → hwZ D cl A s.heap Y H locs → post v Y → decode cc pc = .ok (.ireturn, 1) → W p l e rm s m args below meth c H locs mc ms Q (F0 m pc ls [.int v])) →
      va_K D cl tys s → hwO tys s → hwZ D cl A s.heap X s.heap [] → (∀ q, s.heap.size ≤ q → A q) → lv_has ls maxL (lv_args 0 av) → W p l e rm s m args below meth c s.heap [] 0 0 Q (F0 m 0 ls [])) : Met l y ws rm (hwPc D cl tys av X sz) (hwQi D cl X sz post) mc ms (va_A X.1 sz) := by
  refine hwMet hy hw hlen (fun p e s m below meth c ls hx hb hr hml hown hts hlocks hname hsz hK hO hZ hl => ?_)
  subst hsz
  exact body p e s m _ below meth c ls _ _ hx hb hml hown hts hname (fun hv hZ hp hd => hw_zret hx hb hr hlocks hv hZ hp hd) hK hO hZ (fun q h => Or.inr h) hl
theorem hwMetl {l : Launch} {D : va_G} {cl : List vw_C} {tys : List (ClassId × FieldType)} {y : MethodName} {ws ws' : List Cond} {rm : Room} {mc ms sz : Nat} {cc : ByteArray} {maxL : Nat} {av : List Value} {X : hwW} {post : Int64 → hwW → Prop} (hy : plainName y.cls = true) (hw : ws = Cond.code y cc maxL (some .long) :: ws') (hlen : (lg_sl av).length ≤ maxL)
    (body : ∀ (p : Program) (e : Env) (s : State) (m : MethodId) (args : Array Value) (below : List Frame) (meth : Method) (c : Code) (ls : Array Slot) (A : Nat → Prop) (Q : State → Prop), p.tables.exec = Jvm.exec → c.code = cc → c.maxLocals = maxL → s.vm.findClass y.cls = some m.cls → (∀ w ∈ ws, w.before args s = true) → meth.name = y.name →
      (∀ {H : Heap} {locs : List Loc} {pc : Nat} {ls : Array Slot} {Y : hwW} {v : Int64}, hwZ D cl A s.heap Y H locs → post v Y → decode cc pc = .ok (.lreturn, 1) → W p l e rm s m args below meth c H locs mc ms Q (F0 m pc ls [.long v])) →
      va_K D cl tys s → hwO tys s → hwZ D cl A s.heap X s.heap [] → (∀ q, s.heap.size ≤ q → A q) → lv_has ls maxL (lv_args 0 av) → W p l e rm s m args below meth c s.heap [] 0 0 Q (F0 m 0 ls [])) : Met l y ws rm (hwPc D cl tys av X sz) (hwQl D cl X sz post) mc ms (va_A X.1 sz) := by
  refine hwMet hy hw hlen (fun p e s m below meth c ls hx hb hr hml hown hts hlocks hname hsz hK hO hZ hl => ?_)
  subst hsz
  exact body p e s m _ below meth c ls _ _ hx hb hml hown hts hname (fun  hZ hp hd => hw_lret hx hb hr hlocks hZ hp hd) hK hO hZ (fun q h => Or.inr h) hl
theorem hwMetv {l : Launch} {D : va_G} {cl : List vw_C} {tys : List (ClassId × FieldType)} {y : MethodName} {ws ws' : List Cond} {rm : Room} {mc ms sz : Nat} {cc : ByteArray} {maxL : Nat} {av : List Value} {X : hwW} {post : hwW → Prop} (hy : plainName y.cls = true) (hw : ws = Cond.code y cc maxL (none) :: ws') (hlen : (lg_sl av).length ≤ maxL)
    (body : ∀ (p : Program) (e : Env) (s : State) (m : MethodId) (args : Array Value) (below : List Frame) (meth : Method) (c : Code) (ls : Array Slot) (A : Nat → Prop) (Q : State → Prop), p.tables.exec = Jvm.exec → c.code = cc → c.maxLocals = maxL → s.vm.findClass y.cls = some m.cls → (∀ w ∈ ws, w.before args s = true) → meth.name = y.name →
      (∀ {H : Heap} {locs : List Loc} {pc : Nat} {ls : Array Slot} {Y : hwW} , hwZ D cl A s.heap Y H locs → post Y → decode cc pc = .ok (.return_, 1) → W p l e rm s m args below meth c H locs mc ms Q (F0 m pc ls [])) →
      va_K D cl tys s → hwO tys s → hwZ D cl A s.heap X s.heap [] → (∀ q, s.heap.size ≤ q → A q) → lv_has ls maxL (lv_args 0 av) → W p l e rm s m args below meth c s.heap [] 0 0 Q (F0 m 0 ls [])) : Met l y ws rm (hwPc D cl tys av X sz) (hwQv D cl X sz post) mc ms (va_A X.1 sz) := by
  refine hwMet hy hw hlen (fun p e s m below meth c ls hx hb hr hml hown hts hlocks hname hsz hK hO hZ hl => ?_)
  subst hsz
  exact body p e s m _ below meth c ls _ _ hx hb hml hown hts hname (fun  hZ hp hd => hw_vret hx hb hr hlocks hZ hp hd) hK hO hZ (fun q h => Or.inr h) hl
theorem hwMetq {l : Launch} {D : va_G} {cl : List vw_C} {tys : List (ClassId × FieldType)} {y : MethodName} {ws ws' : List Cond} {rm : Room} {mc ms sz : Nat} {cc : ByteArray} {maxL : Nat} {av : List Value} {X : hwW} {post : Option Nat → hwW → Prop} {rt : FieldType} (hrt : (∃ n, rt = .object n) ∨ ∃ t, rt = .array t) (hy : plainName y.cls = true) (hw : ws = Cond.code y cc maxL (some rt) :: ws') (hlen : (lg_sl av).length ≤ maxL)
    (body : ∀ (p : Program) (e : Env) (s : State) (m : MethodId) (args : Array Value) (below : List Frame) (meth : Method) (c : Code) (ls : Array Slot) (A : Nat → Prop) (Q : State → Prop), p.tables.exec = Jvm.exec → c.code = cc → c.maxLocals = maxL → s.vm.findClass y.cls = some m.cls → (∀ w ∈ ws, w.before args s = true) → meth.name = y.name →
      (∀ {H : Heap} {locs : List Loc} {pc : Nat} {ls : Array Slot} {Y : hwW} {v : Option Nat} {vv : Value}, va_rf v = vv → hwZ D cl A s.heap Y H locs → post v Y → decode cc pc = .ok (.areturn, 1) → W p l e rm s m args below meth c H locs mc ms Q (F0 m pc ls [vv])) →
      va_K D cl tys s → hwO tys s → hwZ D cl A s.heap X s.heap [] → (∀ q, s.heap.size ≤ q → A q) → lv_has ls maxL (lv_args 0 av) → W p l e rm s m args below meth c s.heap [] 0 0 Q (F0 m 0 ls [])) : Met l y ws rm (hwPc D cl tys av X sz) (hwQq D cl X sz post) mc ms (va_A X.1 sz) := by
  refine hwMet hy hw hlen (fun p e s m below meth c ls hx hb hr hml hown hts hlocks hname hsz hK hO hZ hl => ?_)
  subst hsz
  exact body p e s m _ below meth c ls _ _ hx hb hml hown hts hname (fun hv hZ hp hd => hw_qret hx hb hr hrt hlocks hv hZ hp hd) hK hO hZ (fun q h => Or.inr h) hl
section HW2
variable {p : Program} {l : Launch} {e : Env} {R : Room} {s : State} {m : MethodId} {args : Array Value} {below : List Frame} {meth : Method} {c : Code} {H : Heap} {locs : List Loc} {cells slots : Nat} {Q : State → Prop}
variable {cc : ByteArray} {pc : Nat} {ls : Array Slot} {rest : List Value} {D : va_G} {cl : List vw_C} {A : Nat → Prop} {a L : Nat} {tys : List (ClassId × FieldType)} {X : hwW} {H0 : Heap}
theorem hw_ic_eq (hx : p.tables.exec = Jvm.exec) (hb : c.code = cc) {a b : Nat} {off : Int} {tgt : Nat} (hdg : decode cc pc = .ok (.if_icmp .eq off, 3)) (ht : (pc : Int) + off = (tgt : Int)) (h1 : a < 2 ^ 31) (h2 : b < 2 ^ 31) (kt : a = b → W p l e R s m args below meth c H locs cells slots Q (F0 m tgt ls rest)) (kf : a ≠ b → W p l e R s m args below meth c H locs cells slots Q (F0 m (pc + 3) ls rest)) : W p l e R s m args below meth c H locs cells slots Q (F0 m pc ls (.int (nI b) :: .int (nI a) :: rest)) := lv_icmp_eq hx hb hdg ht (fun h => kt ((nI_eq h1 h2).mp h)) (fun h => kf (fun q => h ((nI_eq h1 h2).mpr q)))
theorem hw_if_eq (hx : p.tables.exec = Jvm.exec) (hb : c.code = cc) {a : Nat} {off : Int} {tgt : Nat} (hdg : decode cc pc = .ok (.ifCond .eq off, 3)) (ht : (pc : Int) + off = (tgt : Int)) (h1 : a < 2 ^ 31) (kt : a = 0 → W p l e R s m args below meth c H locs cells slots Q (F0 m tgt ls rest)) (kf : a ≠ 0 → W p l e R s m args below meth c H locs cells slots Q (F0 m (pc + 3) ls rest)) : W p l e R s m args below meth c H locs cells slots Q (F0 m pc ls (.int (nI a) :: rest)) := by
  refine lv_if_eq hx hb hdg ht (fun h => ?_) (fun h => ?_) <;> rw [← nI_0] at h
  · exact kt ((nI_eq h1 (by decide : 0 < 2 ^ 31)).mp h)
  · exact kf (fun q => h ((nI_eq h1 (by decide : 0 < 2 ^ 31)).mpr q))
theorem hw_ic_ne (hx : p.tables.exec = Jvm.exec) (hb : c.code = cc) {a b : Nat} {off : Int} {tgt : Nat} (hdg : decode cc pc = .ok (.if_icmp .ne off, 3)) (ht : (pc : Int) + off = (tgt : Int)) (h1 : a < 2 ^ 31) (h2 : b < 2 ^ 31) (kt : a ≠ b → W p l e R s m args below meth c H locs cells slots Q (F0 m tgt ls rest)) (kf : a = b → W p l e R s m args below meth c H locs cells slots Q (F0 m (pc + 3) ls rest)) : W p l e R s m args below meth c H locs cells slots Q (F0 m pc ls (.int (nI b) :: .int (nI a) :: rest)) := lv_icmp_ne hx hb hdg ht (fun h => kt (fun q => h ((nI_eq h1 h2).mpr q))) (fun h => kf ((nI_eq h1 h2).mp h))
theorem hw_if_ne (hx : p.tables.exec = Jvm.exec) (hb : c.code = cc) {a : Nat} {off : Int} {tgt : Nat} (hdg : decode cc pc = .ok (.ifCond .ne off, 3)) (ht : (pc : Int) + off = (tgt : Int)) (h1 : a < 2 ^ 31) (kt : a ≠ 0 → W p l e R s m args below meth c H locs cells slots Q (F0 m tgt ls rest)) (kf : a = 0 → W p l e R s m args below meth c H locs cells slots Q (F0 m (pc + 3) ls rest)) : W p l e R s m args below meth c H locs cells slots Q (F0 m pc ls (.int (nI a) :: rest)) := by
  refine lv_if_ne hx hb hdg ht (fun h => ?_) (fun h => ?_) <;> rw [← nI_0] at h
  · exact kt (fun q => h ((nI_eq h1 (by decide : 0 < 2 ^ 31)).mpr q))
  · exact kf ((nI_eq h1 (by decide : 0 < 2 ^ 31)).mp h)
theorem hw_ic_lt (hx : p.tables.exec = Jvm.exec) (hb : c.code = cc) {a b : Nat} {off : Int} {tgt : Nat} (hdg : decode cc pc = .ok (.if_icmp .lt off, 3)) (ht : (pc : Int) + off = (tgt : Int)) (h1 : a < 2 ^ 31) (h2 : b < 2 ^ 31) (kt : a < b → W p l e R s m args below meth c H locs cells slots Q (F0 m tgt ls rest)) (kf : b ≤ a → W p l e R s m args below meth c H locs cells slots Q (F0 m (pc + 3) ls rest)) : W p l e R s m args below meth c H locs cells slots Q (F0 m pc ls (.int (nI b) :: .int (nI a) :: rest)) := lv_icmp_lt hx hb hdg ht (fun h => kt ((nI_ltI h1 h2).mp h)) (fun h => kf (Nat.not_lt.mp (fun q => h ((nI_ltI h1 h2).mpr q))))
theorem hw_if_lt (hx : p.tables.exec = Jvm.exec) (hb : c.code = cc) {a : Nat} {off : Int} {tgt : Nat} (hdg : decode cc pc = .ok (.ifCond .lt off, 3)) (ht : (pc : Int) + off = (tgt : Int)) (h1 : a < 2 ^ 31) (kt : a < 0 → W p l e R s m args below meth c H locs cells slots Q (F0 m tgt ls rest)) (kf : 0 ≤ a → W p l e R s m args below meth c H locs cells slots Q (F0 m (pc + 3) ls rest)) : W p l e R s m args below meth c H locs cells slots Q (F0 m pc ls (.int (nI a) :: rest)) := by
  refine lv_if_lt hx hb hdg ht (fun h => ?_) (fun h => ?_) <;> rw [← nI_0] at h
  · exact kt ((nI_ltI h1 (by decide : 0 < 2 ^ 31)).mp h)
  · exact kf (Nat.not_lt.mp (fun q => h ((nI_ltI h1 (by decide : 0 < 2 ^ 31)).mpr q)))
theorem hw_ic_ge (hx : p.tables.exec = Jvm.exec) (hb : c.code = cc) {a b : Nat} {off : Int} {tgt : Nat} (hdg : decode cc pc = .ok (.if_icmp .ge off, 3)) (ht : (pc : Int) + off = (tgt : Int)) (h1 : a < 2 ^ 31) (h2 : b < 2 ^ 31) (kt : b ≤ a → W p l e R s m args below meth c H locs cells slots Q (F0 m tgt ls rest)) (kf : a < b → W p l e R s m args below meth c H locs cells slots Q (F0 m (pc + 3) ls rest)) : W p l e R s m args below meth c H locs cells slots Q (F0 m pc ls (.int (nI b) :: .int (nI a) :: rest)) := lv_icmp_ge hx hb hdg ht (fun h => kt ((nI_leI h2 h1).mp h)) (fun h => kf (Nat.not_le.mp (fun q => h ((nI_leI h2 h1).mpr q))))
theorem hw_if_ge (hx : p.tables.exec = Jvm.exec) (hb : c.code = cc) {a : Nat} {off : Int} {tgt : Nat} (hdg : decode cc pc = .ok (.ifCond .ge off, 3)) (ht : (pc : Int) + off = (tgt : Int)) (h1 : a < 2 ^ 31) (kt : 0 ≤ a → W p l e R s m args below meth c H locs cells slots Q (F0 m tgt ls rest)) (kf : a < 0 → W p l e R s m args below meth c H locs cells slots Q (F0 m (pc + 3) ls rest)) : W p l e R s m args below meth c H locs cells slots Q (F0 m pc ls (.int (nI a) :: rest)) := by
  refine lv_if_ge hx hb hdg ht (fun h => ?_) (fun h => ?_) <;> rw [← nI_0] at h
  · exact kt ((nI_leI (by decide : 0 < 2 ^ 31) h1).mp h)
  · exact kf (Nat.not_le.mp (fun q => h ((nI_leI (by decide : 0 < 2 ^ 31) h1).mpr q)))
theorem hw_ic_gt (hx : p.tables.exec = Jvm.exec) (hb : c.code = cc) {a b : Nat} {off : Int} {tgt : Nat} (hdg : decode cc pc = .ok (.if_icmp .gt off, 3)) (ht : (pc : Int) + off = (tgt : Int)) (h1 : a < 2 ^ 31) (h2 : b < 2 ^ 31) (kt : b < a → W p l e R s m args below meth c H locs cells slots Q (F0 m tgt ls rest)) (kf : a ≤ b → W p l e R s m args below meth c H locs cells slots Q (F0 m (pc + 3) ls rest)) : W p l e R s m args below meth c H locs cells slots Q (F0 m pc ls (.int (nI b) :: .int (nI a) :: rest)) := lv_icmp_gt hx hb hdg ht (fun h => kt ((nI_ltI h2 h1).mp h)) (fun h => kf (Nat.not_lt.mp (fun q => h ((nI_ltI h2 h1).mpr q))))
theorem hw_if_gt (hx : p.tables.exec = Jvm.exec) (hb : c.code = cc) {a : Nat} {off : Int} {tgt : Nat} (hdg : decode cc pc = .ok (.ifCond .gt off, 3)) (ht : (pc : Int) + off = (tgt : Int)) (h1 : a < 2 ^ 31) (kt : 0 < a → W p l e R s m args below meth c H locs cells slots Q (F0 m tgt ls rest)) (kf : a ≤ 0 → W p l e R s m args below meth c H locs cells slots Q (F0 m (pc + 3) ls rest)) : W p l e R s m args below meth c H locs cells slots Q (F0 m pc ls (.int (nI a) :: rest)) := by
  refine lv_if_gt hx hb hdg ht (fun h => ?_) (fun h => ?_) <;> rw [← nI_0] at h
  · exact kt ((nI_ltI (by decide : 0 < 2 ^ 31) h1).mp h)
  · exact kf (Nat.not_lt.mp (fun q => h ((nI_ltI (by decide : 0 < 2 ^ 31) h1).mpr q)))
theorem hw_ic_le (hx : p.tables.exec = Jvm.exec) (hb : c.code = cc) {a b : Nat} {off : Int} {tgt : Nat} (hdg : decode cc pc = .ok (.if_icmp .le off, 3)) (ht : (pc : Int) + off = (tgt : Int)) (h1 : a < 2 ^ 31) (h2 : b < 2 ^ 31) (kt : a ≤ b → W p l e R s m args below meth c H locs cells slots Q (F0 m tgt ls rest)) (kf : b < a → W p l e R s m args below meth c H locs cells slots Q (F0 m (pc + 3) ls rest)) : W p l e R s m args below meth c H locs cells slots Q (F0 m pc ls (.int (nI b) :: .int (nI a) :: rest)) := lv_icmp_le hx hb hdg ht (fun h => kt ((nI_leI h1 h2).mp h)) (fun h => kf (Nat.not_le.mp (fun q => h ((nI_leI h1 h2).mpr q))))
theorem hw_if_le (hx : p.tables.exec = Jvm.exec) (hb : c.code = cc) {a : Nat} {off : Int} {tgt : Nat} (hdg : decode cc pc = .ok (.ifCond .le off, 3)) (ht : (pc : Int) + off = (tgt : Int)) (h1 : a < 2 ^ 31) (kt : a ≤ 0 → W p l e R s m args below meth c H locs cells slots Q (F0 m tgt ls rest)) (kf : 0 < a → W p l e R s m args below meth c H locs cells slots Q (F0 m (pc + 3) ls rest)) : W p l e R s m args below meth c H locs cells slots Q (F0 m pc ls (.int (nI a) :: rest)) := by
  refine lv_if_le hx hb hdg ht (fun h => ?_) (fun h => ?_) <;> rw [← nI_0] at h
  · exact kt ((nI_leI h1 (by decide : 0 < 2 ^ 31)).mp h)
  · exact kf (Nat.not_le.mp (fun q => h ((nI_leI h1 (by decide : 0 < 2 ^ 31)).mpr q)))
theorem hw_bz_eq (hx : p.tables.exec = Jvm.exec) (hb : c.code = cc) {b : Bool} {off : Int} {tgt : Nat} (hdg : decode cc pc = .ok (.ifCond .eq off, 3)) (ht : (pc : Int) + off = (tgt : Int)) (kt : b = false → W p l e R s m args below meth c H locs cells slots Q (F0 m tgt ls rest)) (kf : b = true → W p l e R s m args below meth c H locs cells slots Q (F0 m (pc + 3) ls rest)) : W p l e R s m args below meth c H locs cells slots Q (F0 m pc ls (.int (bI b) :: rest)) := lv_if_eq hx hb hdg ht (fun h => kt ((bI_z b).mp h)) (fun h => kf (by cases b <;> simp_all [bI]))
theorem hw_bz_eqT (hx : p.tables.exec = Jvm.exec) (hb : c.code = cc) {b : Bool} {off : Int} {tgt : Nat} (hdg : decode cc pc = .ok (.ifCond .eq off, 3)) (ht : (pc : Int) + off = (tgt : Int)) (h : b = false) (kt : W p l e R s m args below meth c H locs cells slots Q (F0 m tgt ls rest)) : W p l e R s m args below meth c H locs cells slots Q (F0 m pc ls (.int (bI b) :: rest)) := hw_bz_eq hx hb hdg ht (fun _ => kt) (fun q => by rw [h] at q; cases q)
theorem hw_bz_eqF (hx : p.tables.exec = Jvm.exec) (hb : c.code = cc) {b : Bool} {off : Int} {tgt : Nat} (hdg : decode cc pc = .ok (.ifCond .eq off, 3)) (_ht : (pc : Int) + off = (tgt : Int)) (h : b = true) (kf : W p l e R s m args below meth c H locs cells slots Q (F0 m (pc + 3) ls rest)) : W p l e R s m args below meth c H locs cells slots Q (F0 m pc ls (.int (bI b) :: rest)) := hw_bz_eq hx hb hdg _ht (fun q => by rw [h] at q; cases q) (fun _ => kf)
theorem hw_bz_ne (hx : p.tables.exec = Jvm.exec) (hb : c.code = cc) {b : Bool} {off : Int} {tgt : Nat} (hdg : decode cc pc = .ok (.ifCond .ne off, 3)) (ht : (pc : Int) + off = (tgt : Int)) (kt : b = true → W p l e R s m args below meth c H locs cells slots Q (F0 m tgt ls rest)) (kf : b = false → W p l e R s m args below meth c H locs cells slots Q (F0 m (pc + 3) ls rest)) : W p l e R s m args below meth c H locs cells slots Q (F0 m pc ls (.int (bI b) :: rest)) := lv_if_ne hx hb hdg ht (fun h => kt (by cases b <;> simp_all [bI])) (fun h => kf ((bI_z b).mp h))
theorem hw_bz_neT (hx : p.tables.exec = Jvm.exec) (hb : c.code = cc) {b : Bool} {off : Int} {tgt : Nat} (hdg : decode cc pc = .ok (.ifCond .ne off, 3)) (ht : (pc : Int) + off = (tgt : Int)) (h : b = true) (kt : W p l e R s m args below meth c H locs cells slots Q (F0 m tgt ls rest)) : W p l e R s m args below meth c H locs cells slots Q (F0 m pc ls (.int (bI b) :: rest)) := hw_bz_ne hx hb hdg ht (fun _ => kt) (fun q => by rw [h] at q; cases q)
theorem hw_bz_neF (hx : p.tables.exec = Jvm.exec) (hb : c.code = cc) {b : Bool} {off : Int} {tgt : Nat} (hdg : decode cc pc = .ok (.ifCond .ne off, 3)) (_ht : (pc : Int) + off = (tgt : Int)) (h : b = false) (kf : W p l e R s m args below meth c H locs cells slots Q (F0 m (pc + 3) ls rest)) : W p l e R s m args below meth c H locs cells slots Q (F0 m pc ls (.int (bI b) :: rest)) := hw_bz_ne hx hb hdg _ht (fun q => by rw [h] at q; cases q) (fun _ => kf)
theorem hw_lr_eq (hx : p.tables.exec = Jvm.exec) (hb : c.code = cc) {x y : Int64} {off : Int} {tgt : Nat} (hd1 : decode cc pc = .ok (.lcmp, 1)) (hd2 : decode cc (pc + 1) = .ok (.ifCond .eq off, 3)) (ht : ((pc + 1 : Nat) : Int) + off = (tgt : Int)) (kt : x = y → W p l e R s m args below meth c H locs cells slots Q (F0 m tgt ls rest)) (kf : ¬ x = y → W p l e R s m args below meth c H locs cells slots Q (F0 m (pc + 4) ls rest)) : W p l e R s m args below meth c H locs cells slots Q (F0 m pc ls (.long y :: .long x :: rest)) := W.lcmp hx hb hd1 (lv_if_eq hx hb hd2 ht (fun h => kt ((lg_cmp_eq x y).mp h)) (fun h => kf (fun q => h ((lg_cmp_eq x y).mpr q))))
theorem hw_lr_ne (hx : p.tables.exec = Jvm.exec) (hb : c.code = cc) {x y : Int64} {off : Int} {tgt : Nat} (hd1 : decode cc pc = .ok (.lcmp, 1)) (hd2 : decode cc (pc + 1) = .ok (.ifCond .ne off, 3)) (ht : ((pc + 1 : Nat) : Int) + off = (tgt : Int)) (kt : ¬ x = y → W p l e R s m args below meth c H locs cells slots Q (F0 m tgt ls rest)) (kf : x = y → W p l e R s m args below meth c H locs cells slots Q (F0 m (pc + 4) ls rest)) : W p l e R s m args below meth c H locs cells slots Q (F0 m pc ls (.long y :: .long x :: rest)) := W.lcmp hx hb hd1 (lv_if_ne hx hb hd2 ht (fun h => kt (fun q => h ((lg_cmp_eq x y).mpr q))) (fun h => kf ((lg_cmp_eq x y).mp h)))
theorem hw_lr_lt (hx : p.tables.exec = Jvm.exec) (hb : c.code = cc) {x y : Int64} {off : Int} {tgt : Nat} (hd1 : decode cc pc = .ok (.lcmp, 1)) (hd2 : decode cc (pc + 1) = .ok (.ifCond .lt off, 3)) (ht : ((pc + 1 : Nat) : Int) + off = (tgt : Int)) (kt : x < y → W p l e R s m args below meth c H locs cells slots Q (F0 m tgt ls rest)) (kf : ¬ x < y → W p l e R s m args below meth c H locs cells slots Q (F0 m (pc + 4) ls rest)) : W p l e R s m args below meth c H locs cells slots Q (F0 m pc ls (.long y :: .long x :: rest)) := W.lcmp hx hb hd1 (lv_if_lt hx hb hd2 ht (fun h => kt ((lg_cmp_lt x y).mp h)) (fun h => kf (fun q => h ((lg_cmp_lt x y).mpr q))))
theorem hw_lr_ge (hx : p.tables.exec = Jvm.exec) (hb : c.code = cc) {x y : Int64} {off : Int} {tgt : Nat} (hd1 : decode cc pc = .ok (.lcmp, 1)) (hd2 : decode cc (pc + 1) = .ok (.ifCond .ge off, 3)) (ht : ((pc + 1 : Nat) : Int) + off = (tgt : Int)) (kt : y ≤ x → W p l e R s m args below meth c H locs cells slots Q (F0 m tgt ls rest)) (kf : ¬ y ≤ x → W p l e R s m args below meth c H locs cells slots Q (F0 m (pc + 4) ls rest)) : W p l e R s m args below meth c H locs cells slots Q (F0 m pc ls (.long y :: .long x :: rest)) := W.lcmp hx hb hd1 (lv_if_ge hx hb hd2 ht (fun h => kt ((lg_cmp_ge x y).mp h)) (fun h => kf (fun q => h ((lg_cmp_ge x y).mpr q))))
theorem hw_lr_gt (hx : p.tables.exec = Jvm.exec) (hb : c.code = cc) {x y : Int64} {off : Int} {tgt : Nat} (hd1 : decode cc pc = .ok (.lcmp, 1)) (hd2 : decode cc (pc + 1) = .ok (.ifCond .gt off, 3)) (ht : ((pc + 1 : Nat) : Int) + off = (tgt : Int)) (kt : y < x → W p l e R s m args below meth c H locs cells slots Q (F0 m tgt ls rest)) (kf : ¬ y < x → W p l e R s m args below meth c H locs cells slots Q (F0 m (pc + 4) ls rest)) : W p l e R s m args below meth c H locs cells slots Q (F0 m pc ls (.long y :: .long x :: rest)) := W.lcmp hx hb hd1 (lv_if_gt hx hb hd2 ht (fun h => kt ((lg_cmp_gt x y).mp h)) (fun h => kf (fun q => h ((lg_cmp_gt x y).mpr q))))
theorem hw_lr_le (hx : p.tables.exec = Jvm.exec) (hb : c.code = cc) {x y : Int64} {off : Int} {tgt : Nat} (hd1 : decode cc pc = .ok (.lcmp, 1)) (hd2 : decode cc (pc + 1) = .ok (.ifCond .le off, 3)) (ht : ((pc + 1 : Nat) : Int) + off = (tgt : Int)) (kt : x ≤ y → W p l e R s m args below meth c H locs cells slots Q (F0 m tgt ls rest)) (kf : ¬ x ≤ y → W p l e R s m args below meth c H locs cells slots Q (F0 m (pc + 4) ls rest)) : W p l e R s m args below meth c H locs cells slots Q (F0 m pc ls (.long y :: .long x :: rest)) := W.lcmp hx hb hd1 (lv_if_le hx hb hd2 ht (fun h => kt ((lg_cmp_le x y).mp h)) (fun h => kf (fun q => h ((lg_cmp_le x y).mpr q))))
theorem hw_lc_eq (hx : p.tables.exec = Jvm.exec) (hb : c.code = cc) {a b : Nat} {off : Int} {tgt : Nat} (hd1 : decode cc pc = .ok (.lcmp, 1)) (hd2 : decode cc (pc + 1) = .ok (.ifCond .eq off, 3)) (ht : ((pc + 1 : Nat) : Int) + off = (tgt : Int)) (h1 : a < 2 ^ 63) (h2 : b < 2 ^ 63) (kt : a = b → W p l e R s m args below meth c H locs cells slots Q (F0 m tgt ls rest)) (kf : a ≠ b → W p l e R s m args below meth c H locs cells slots Q (F0 m (pc + 4) ls rest)) : W p l e R s m args below meth c H locs cells slots Q (F0 m pc ls (.long (lN b) :: .long (lN a) :: rest)) := hw_lr_eq hx hb hd1 hd2 ht (fun h => kt ((pk_lEQ h1 h2).mp h)) (fun h => kf (fun q => h ((pk_lEQ h1 h2).mpr q)))
theorem hw_lc_ne (hx : p.tables.exec = Jvm.exec) (hb : c.code = cc) {a b : Nat} {off : Int} {tgt : Nat} (hd1 : decode cc pc = .ok (.lcmp, 1)) (hd2 : decode cc (pc + 1) = .ok (.ifCond .ne off, 3)) (ht : ((pc + 1 : Nat) : Int) + off = (tgt : Int)) (h1 : a < 2 ^ 63) (h2 : b < 2 ^ 63) (kt : a ≠ b → W p l e R s m args below meth c H locs cells slots Q (F0 m tgt ls rest)) (kf : a = b → W p l e R s m args below meth c H locs cells slots Q (F0 m (pc + 4) ls rest)) : W p l e R s m args below meth c H locs cells slots Q (F0 m pc ls (.long (lN b) :: .long (lN a) :: rest)) := hw_lr_ne hx hb hd1 hd2 ht (fun h => kt (fun q => h ((pk_lEQ h1 h2).mpr q))) (fun h => kf ((pk_lEQ h1 h2).mp h))
theorem hw_lc_lt (hx : p.tables.exec = Jvm.exec) (hb : c.code = cc) {a b : Nat} {off : Int} {tgt : Nat} (hd1 : decode cc pc = .ok (.lcmp, 1)) (hd2 : decode cc (pc + 1) = .ok (.ifCond .lt off, 3)) (ht : ((pc + 1 : Nat) : Int) + off = (tgt : Int)) (h1 : a < 2 ^ 63) (h2 : b < 2 ^ 63) (kt : a < b → W p l e R s m args below meth c H locs cells slots Q (F0 m tgt ls rest)) (kf : b ≤ a → W p l e R s m args below meth c H locs cells slots Q (F0 m (pc + 4) ls rest)) : W p l e R s m args below meth c H locs cells slots Q (F0 m pc ls (.long (lN b) :: .long (lN a) :: rest)) := hw_lr_lt hx hb hd1 hd2 ht (fun h => kt ((pk_lLT h1 h2).mp h)) (fun h => kf (Nat.not_lt.mp (fun q => h ((pk_lLT h1 h2).mpr q))))
theorem hw_lc_ge (hx : p.tables.exec = Jvm.exec) (hb : c.code = cc) {a b : Nat} {off : Int} {tgt : Nat} (hd1 : decode cc pc = .ok (.lcmp, 1)) (hd2 : decode cc (pc + 1) = .ok (.ifCond .ge off, 3)) (ht : ((pc + 1 : Nat) : Int) + off = (tgt : Int)) (h1 : a < 2 ^ 63) (h2 : b < 2 ^ 63) (kt : b ≤ a → W p l e R s m args below meth c H locs cells slots Q (F0 m tgt ls rest)) (kf : a < b → W p l e R s m args below meth c H locs cells slots Q (F0 m (pc + 4) ls rest)) : W p l e R s m args below meth c H locs cells slots Q (F0 m pc ls (.long (lN b) :: .long (lN a) :: rest)) := hw_lr_ge hx hb hd1 hd2 ht (fun h => kt ((pk_lLE h2 h1).mp h)) (fun h => kf (Nat.not_le.mp (fun q => h ((pk_lLE h2 h1).mpr q))))
theorem hw_lc_gt (hx : p.tables.exec = Jvm.exec) (hb : c.code = cc) {a b : Nat} {off : Int} {tgt : Nat} (hd1 : decode cc pc = .ok (.lcmp, 1)) (hd2 : decode cc (pc + 1) = .ok (.ifCond .gt off, 3)) (ht : ((pc + 1 : Nat) : Int) + off = (tgt : Int)) (h1 : a < 2 ^ 63) (h2 : b < 2 ^ 63) (kt : b < a → W p l e R s m args below meth c H locs cells slots Q (F0 m tgt ls rest)) (kf : a ≤ b → W p l e R s m args below meth c H locs cells slots Q (F0 m (pc + 4) ls rest)) : W p l e R s m args below meth c H locs cells slots Q (F0 m pc ls (.long (lN b) :: .long (lN a) :: rest)) := hw_lr_gt hx hb hd1 hd2 ht (fun h => kt ((pk_lLT h2 h1).mp h)) (fun h => kf (Nat.not_lt.mp (fun q => h ((pk_lLT h2 h1).mpr q))))
theorem hw_lc_le (hx : p.tables.exec = Jvm.exec) (hb : c.code = cc) {a b : Nat} {off : Int} {tgt : Nat} (hd1 : decode cc pc = .ok (.lcmp, 1)) (hd2 : decode cc (pc + 1) = .ok (.ifCond .le off, 3)) (ht : ((pc + 1 : Nat) : Int) + off = (tgt : Int)) (h1 : a < 2 ^ 63) (h2 : b < 2 ^ 63) (kt : a ≤ b → W p l e R s m args below meth c H locs cells slots Q (F0 m tgt ls rest)) (kf : b < a → W p l e R s m args below meth c H locs cells slots Q (F0 m (pc + 4) ls rest)) : W p l e R s m args below meth c H locs cells slots Q (F0 m pc ls (.long (lN b) :: .long (lN a) :: rest)) := hw_lr_le hx hb hd1 hd2 ht (fun h => kt ((pk_lLE h1 h2).mp h)) (fun h => kf (Nat.not_le.mp (fun q => h ((pk_lLE h1 h2).mpr q))))
theorem hw_aload_nO (hx : p.tables.exec = Jvm.exec) (hb : c.code = cc) {k : Fin 4} {i : Nat} {r : Option Nat} (hdg : decode cc pc = .ok (.aload_n k, 1)) (hi : (k : Nat) = i) (hl : ls[i]? = some (.val (va_rf r))) (kk : W p l e R s m args below meth c H locs cells slots Q (F0 m (pc + 1) ls (va_rf r :: rest))) : W p l e R s m args below meth c H locs cells slots Q (F0 m pc ls rest) := by
  cases r with
  | none => exact lv_aload_nN hx hb hdg hi hl kk
  | some y => exact lv_aload_n hx hb hdg hi hl kk
theorem hw_aloadO (hx : p.tables.exec = Jvm.exec) (hb : c.code = cc) {i : Nat} {r : Option Nat} (hdg : decode cc pc = .ok (.aload i, 2)) (hl : ls[i]? = some (.val (va_rf r))) (kk : W p l e R s m args below meth c H locs cells slots Q (F0 m (pc + 2) ls (va_rf r :: rest))) : W p l e R s m args below meth c H locs cells slots Q (F0 m pc ls rest) := by
  cases r with
  | none => exact lv_aloadN hx hb hdg hl kk
  | some y => exact lv_aload hx hb hdg hl kk
theorem hw_copyl (hx : p.tables.exec = Jvm.exec) (hb : c.code = cc) (hml : c.maxLocals = ls.size) {own : String} {index : Nat} (hown : s.vm.findClass own = some m.cls) (hlink : (Cond.methodLink own index arraycopyName).before args s = true) (hnat : (Cond.native arraycopyName).before args s = true) (hstat : (Cond.static arraycopyName).before args s = true) (hini : (Cond.initialized "java/lang/System").before args s = true)
    (hK : va_K D cl tys s) (hZ : hwZ D cl A H0 X H locs) (t0 t1 : Nat) {a0 L0 : Nat} {c0 c1 : ClassId} {n0 n1 sp dp n : Nat} {f g : Nat → Int64} (ha0 : hwH X a0 L0 (.inl (c0, n0, .inr (.inl f)))) (ha1 : hwH X a L (.inl (c1, n1, .inr (.inl g)))) (ht0 : tys[t0]? = some (c0, .long)) (ht1 : tys[t1]? = some (c1, .long)) (h4 : sp + n ≤ n0) (h5 : dp + n ≤ n1) (hn0 : n0 < 2 ^ 31) (hn1 : n1 < 2 ^ 31)
    (hframes : 1 ≤ R.frames) (hlocals : (rest.map fun v => v.category).sum + (nativeFrameWords "java/lang/System" "arraycopy" 5 + 11) ≤ R.locals) (hdg : decode cc pc = .ok (.invokestatic index, 3))
    (kk : ∀ (Y : hwW) (H1 : Heap) (locs1 : List Loc), hwZ D cl A H0 Y H1 locs1 → hwF X Y (fun M => M = L) → hwH Y a L (.inl (c1, n1, .inr (.inl (va_cpy f g sp dp n)))) → W p l e R s m args below meth c H1 locs1 cells slots Q (F0 m (pc + 3) ls rest)) : W p l e R s m args below meth c H locs cells slots Q (F0 m pc ls (.int (nI n) :: .int (nI dp) :: .ref a :: .int (nI sp) :: .ref a0 :: rest)) := by
  obtain ⟨⟨q0, hq0⟩, -⟩ := ha0
  obtain ⟨⟨q1, hq1⟩, hL⟩ := ha1
  have e1 : (nI sp).toNatClampNeg = sp := nI_clamp (by omega)
  have e2 : (nI dp).toNatClampNeg = dp := nI_clamp (by omega)
  have e3 : (nI n).toNatClampNeg = n := nI_clamp (by omega)
  refine va_copyl hx hb hml hown hlink hnat hstat hini hK hZ.1 hZ.2.1 hZ.2.2 q0 q1 t0 t1 hq0 hq1 ht0 ht1 rfl (nI_pos (by omega)) (nI_pos (by omega)) (nI_pos (by omega)) (by rw [e1, e3]; exact h4) (by rw [e2, e3]; exact h5) (fun _ _ => rfl) hframes hlocals hdg (fun H1 locs1 hP hD hS => ?_)
  rw [e1, e2, e3] at hP hD
  exact kk (X.1.set q1 _, X.2) H1 locs1 ⟨hP, hD, hS⟩ (hwF.set hq1 hL) ⟨⟨q1, hw_set_self hq1⟩, hL⟩
end HW2
end
section
/-! ===== nI under and, xor, >>>, one bit, 65535 ===== -/
theorem nx_and (a b : Nat) : nI a &&& nI b = nI (a &&& b) := by
  apply Int32.toBitVec_inj.1
  show BitVec.ofNat 32 a &&& BitVec.ofNat 32 b = BitVec.ofNat 32 (a &&& b)
  apply BitVec.eq_of_getLsbD_eq
  intro i hi
  simp [hi]
theorem nx_xor (a b : Nat) : nI a ^^^ nI b = nI (a ^^^ b) := by
  apply Int32.toBitVec_inj.1
  show BitVec.ofNat 32 a ^^^ BitVec.ofNat 32 b = BitVec.ofNat 32 (a ^^^ b)
  apply BitVec.eq_of_getLsbD_eq
  intro i hi
  simp [hi]
theorem nx_cnt : ∀ j : Fin 32, (UInt32.ofNat j.val &&& Int32.toUInt32 31).toNat % 32 = j.val := by decide +kernel
theorem nx_ush {k j : Nat} (hk : k < 65536) (hj : j < 32) : ((nI k).toUInt32 >>> ((nI j).toUInt32 &&& Int32.toUInt32 31)).toInt32 = nI (k >>> j) := by
  have hs : k >>> j ≤ k := by
    rw [Nat.shiftRight_eq_div_pow]
    exact Nat.div_le_self _ _
  have e2 : UInt32.ofNat k >>> (UInt32.ofNat j &&& Int32.toUInt32 31) = UInt32.ofNat (k >>> j) := by
    apply UInt32.toNat_inj.1
    have h1 : (UInt32.ofNat k).toNat = k := Nat.mod_eq_of_lt (by omega)
    have h2 : (UInt32.ofNat (k >>> j)).toNat = k >>> j := Nat.mod_eq_of_lt (by omega)
    rw [UInt32.toNat_shiftRight, nx_cnt ⟨j, hj⟩, h1, h2]
  show (UInt32.ofNat k >>> (UInt32.ofNat j &&& Int32.toUInt32 31)).toInt32 = _
  rw [e2]
  rfl
theorem nx_bit {k j : Nat} (hk : k < 65536) (hj : j < 16) : (((nI k).toUInt32 >>> ((nI j).toUInt32 &&& Int32.toUInt32 31)).toInt32 &&& 1) = 0 ↔ k.testBit j = false := by
  rw [nx_ush hk (by omega)]
  show nI (k >>> j) &&& nI 1 = 0 ↔ _
  rw [nx_and, Nat.and_one_is_mod, ← nI_0, nI_eq (by omega) (by omega), Nat.testBit_eq_decide_div_mod_eq, Nat.shiftRight_eq_div_pow, decide_eq_false_iff_not]
  generalize k / 2 ^ j = z
  omega
theorem nx_mod (k : Nat) : nI k &&& 65535 = nI (k % 65536) := by
  show nI k &&& nI 65535 = _
  rw [nx_and, show (65535 : Nat) = 2 ^ 16 - 1 from rfl, Nat.and_two_pow_sub_one_eq_mod]
theorem nx_m16 {k : Nat} (h : k < 65536) : nI k &&& 65535 = nI k := by rw [nx_mod, Nat.mod_eq_of_lt h]
theorem nx_mask (x : Int32) : ∃ k, k < 65536 ∧ x &&& 65535 = nI k := by
  have e : x = nI x.toBitVec.toNat := by
    apply Int32.toBitVec_inj.1
    show x.toBitVec = BitVec.ofNat 32 x.toBitVec.toNat
    simp
  refine ⟨x.toBitVec.toNat % 65536, Nat.mod_lt _ (by omega), ?_⟩
  rw [← nx_mod, ← e]
/-! ===== lN n to 2^64: shifts, and, or, masks, one bit ===== -/
theorem wb_tb (n : Nat) : (lN n).toBitVec = BitVec.ofNat 64 n := rfl
theorem wb_inj {a b : Int64} (h : a.toBitVec = b.toBitVec) : a = b := Int64.toBitVec_inj.mp h
theorem wb_tn {n : Nat} (h : n < 2 ^ 64) : (lN n).toBitVec.toNat = n := by rw [wb_tb, BitVec.toNat_ofNat, Nat.mod_eq_of_lt h]
theorem wb_of (x : Int64) : ∃ n, n < 2 ^ 64 ∧ x = lN n := ⟨x.toBitVec.toNat, x.toBitVec.isLt, wb_inj (by rw [wb_tb]; simp)⟩
theorem wb_of32 (x : Int32) : ∃ n, n < 2 ^ 32 ∧ x = nI n := ⟨x.toBitVec.toNat, x.toBitVec.isLt, Int32.toBitVec_inj.mp (by show _ = BitVec.ofNat 32 _; simp)⟩
theorem wb_c : ∀ k, k < 64 → ((nI k).toInt64 &&& 63) = lN k := by decide +kernel
theorem wb_cu : ∀ k, k < 64 → ((nI k).toInt64.toUInt64 &&& Int64.toUInt64 63) = UInt64.ofNat k := by decide +kernel
theorem wb_sm : ∀ k, k < 64 → (BitVec.ofNat 64 k).smod 64 = BitVec.ofNat 64 k := by decide +kernel
theorem wb_pw {a b : Nat} (h : a ≤ b) : 2 ^ b = 2 ^ a * 2 ^ (b - a) := by rw [← Nat.pow_add]; congr 1; omega
theorem wb_lt2 {a b : Nat} (h : a < b) : 2 ^ a < 2 ^ b := Nat.pow_lt_pow_right (by decide) h
theorem wb_mod (n : Nat) : lN n = lN (n % 2 ^ 64) := wb_inj (by rw [wb_tb, wb_tb]; apply BitVec.eq_of_toNat_eq; rw [BitVec.toNat_ofNat, BitVec.toNat_ofNat, Nat.mod_mod])
theorem wb_shr {n k : Nat} (hn : n < 2 ^ 64) (hk : k < 64) : ((lN n).toUInt64 >>> ((nI k).toInt64.toUInt64 &&& Int64.toUInt64 63)).toInt64 = lN (n / 2 ^ k) := by
  rw [wb_cu k hk]
  apply wb_inj
  apply BitVec.eq_of_toNat_eq
  show ((lN n).toUInt64 >>> UInt64.ofNat k).toNat = (BitVec.ofNat 64 _).toNat
  have h1 : (UInt64.ofNat k).toNat = k := by
    show (BitVec.ofNat 64 k).toNat = k
    rw [BitVec.toNat_ofNat, Nat.mod_eq_of_lt (by omega)]
  have h2 : (lN n).toUInt64.toNat = n := wb_tn hn
  rw [UInt64.toNat_shiftRight, h1, h2, Nat.mod_eq_of_lt hk, Nat.shiftRight_eq_div_pow, BitVec.toNat_ofNat, Nat.mod_eq_of_lt (Nat.lt_of_le_of_lt (Nat.div_le_self _ _) hn)]
theorem wb_shl (n : Nat) {k : Nat} (hk : k < 64) : lN n <<< ((nI k).toInt64 &&& 63) = lN (n * 2 ^ k) := by
  rw [wb_c k hk]
  apply wb_inj
  rw [Int64.toBitVec_shiftLeft, wb_tb, wb_tb, wb_tb, wb_sm k hk]
  apply BitVec.eq_of_toNat_eq
  rw [BitVec.shiftLeft_eq', BitVec.toNat_shiftLeft, BitVec.toNat_ofNat, BitVec.toNat_ofNat, BitVec.toNat_ofNat, Nat.mod_eq_of_lt (show k < 2 ^ 64 by omega), Nat.shiftLeft_eq, Nat.mul_mod, Nat.mod_mod, ← Nat.mul_mod]
theorem wb_and {a b : Nat} (ha : a < 2 ^ 64) (hb : b < 2 ^ 64) : lN a &&& lN b = lN (a &&& b) := by
  apply wb_inj
  rw [Int64.toBitVec_and, wb_tb, wb_tb, wb_tb]
  apply BitVec.eq_of_toNat_eq
  rw [BitVec.toNat_and, BitVec.toNat_ofNat, BitVec.toNat_ofNat, BitVec.toNat_ofNat, Nat.mod_eq_of_lt ha, Nat.mod_eq_of_lt hb, Nat.mod_eq_of_lt (Nat.and_lt_two_pow _ hb)]
theorem wb_or {a b : Nat} (ha : a < 2 ^ 64) (hb : b < 2 ^ 64) : lN a ||| lN b = lN (a ||| b) := by
  apply wb_inj
  rw [Int64.toBitVec_or, wb_tb, wb_tb, wb_tb]
  apply BitVec.eq_of_toNat_eq
  rw [BitVec.toNat_or, BitVec.toNat_ofNat, BitVec.toNat_ofNat, BitVec.toNat_ofNat, Nat.mod_eq_of_lt ha, Nat.mod_eq_of_lt hb, Nat.mod_eq_of_lt (Nat.or_lt_two_pow ha hb)]
theorem wb_mask {n k : Nat} (hn : n < 2 ^ 64) (hk : k < 64) : lN n &&& lN (2 ^ k - 1) = lN (n % 2 ^ k) := by
  rw [wb_and hn (by have := wb_lt2 hk; omega), Nat.and_two_pow_sub_one_eq_mod]
theorem wb_a1 {n : Nat} (hn : n < 2 ^ 64) : lN n &&& 1 = lN (n % 2) := wb_mask (k := 1) hn (by decide)
theorem wb_bit {n k : Nat} (hn : n < 2 ^ 64) (hk : k < 64) : ((lN n).toUInt64 >>> ((nI k).toInt64.toUInt64 &&& Int64.toUInt64 63)).toInt64 &&& 1 = lN (n / 2 ^ k % 2) := by
  rw [wb_shr hn hk, wb_a1 (Nat.lt_of_le_of_lt (Nat.div_le_self _ _) hn)]
theorem wb_xor {q k : Nat} (hk : k < 63) (h : 2 ^ k ≤ q) (h2 : q < 2 ^ (k + 1)) : lN q ^^^ lN (2 ^ k) = lN (q - 2 ^ k) := by
  obtain ⟨r, rfl⟩ : ∃ r, q = 2 ^ k + r := ⟨q - 2 ^ k, by omega⟩
  have hr : r < 2 ^ k := by rw [Nat.pow_succ] at h2; omega
  have hx : (2 ^ k + r) ^^^ 2 ^ k = r := by
    apply Nat.eq_of_testBit_eq
    intro i
    rw [Nat.testBit_xor, Nat.testBit_two_pow]
    rcases Nat.lt_trichotomy i k with h | h | h
    · rw [Nat.testBit_two_pow_add_gt h]
      simp [show ¬ k = i by omega]
    · subst h
      rw [Nat.testBit_two_pow_add_eq]
      simp
    · have a1 : 2 ^ (k + 1) ≤ 2 ^ i := Nat.pow_le_pow_right (by decide) h
      rw [Nat.testBit_lt_two_pow (show 2 ^ k + r < 2 ^ i by omega), Nat.testBit_lt_two_pow (show r < 2 ^ i by omega)]
      simp [show ¬ k = i by omega]
  have b1 := wb_lt2 (show k + 1 < 64 by omega)
  have b2 := wb_lt2 (show k < 64 by omega)
  apply wb_inj
  rw [Int64.toBitVec_xor, wb_tb, wb_tb, wb_tb]
  apply BitVec.eq_of_toNat_eq
  rw [BitVec.toNat_xor, BitVec.toNat_ofNat, BitVec.toNat_ofNat, BitVec.toNat_ofNat, Nat.mod_eq_of_lt (by omega : 2 ^ k + r < 2 ^ 64), Nat.mod_eq_of_lt b2, hx, Nat.add_sub_cancel_left, Nat.mod_eq_of_lt (by omega)]
end
section
/-! WORDS: lists of letters 1 .. 26, at most twelve; [] is 'no word'. eW w: the number that the class holds, the first letter highest, five bits a letter. -/
def eA : List Nat → Nat → Nat
  | [], _ => 0
  | _ :: _, 0 => 0
  | x :: xs, n + 1 => x * 32 ^ n + eA xs n
def okL (w : List Nat) : Prop := ∀ x ∈ w, 1 ≤ x ∧ x ≤ 26
def okW (w : List Nat) : Prop := w.length ≤ 12 ∧ okL w
def eW (w : List Nat) : Nat := eA w 12
theorem eA_nil (n : Nat) : eA [] n = 0 := by cases n <;> rfl
theorem eA_zero (xs : List Nat) : eA xs 0 = 0 := by cases xs <;> rfl
theorem eA_cons (x : Nat) (xs : List Nat) (n : Nat) : eA (x :: xs) (n + 1) = x * 32 ^ n + eA xs n := rfl
theorem okL.tl {x : Nat} {xs : List Nat} (h : okL (x :: xs)) : okL xs := fun y hy => h y (List.mem_cons_of_mem _ hy)
theorem okL.hd {x : Nat} {xs : List Nat} (h : okL (x :: xs)) : 1 ≤ x ∧ x ≤ 26 := h x List.mem_cons_self
theorem okL.take {w : List Nat} (h : okL w) (n : Nat) : okL (w.take n) := fun x hx => h x (List.mem_of_mem_take hx)
theorem okL.drop {w : List Nat} (h : okL w) (n : Nat) : okL (w.drop n) := fun x hx => h x (List.mem_of_mem_drop hx)
theorem okW.take {w : List Nat} (h : okW w) (n : Nat) : okW (w.take n) := ⟨by rw [List.length_take]; exact Nat.le_trans (Nat.min_le_right _ _) h.1, h.2.take n⟩
theorem okW.drop {w : List Nat} (h : okW w) (n : Nat) : okW (w.drop n) := ⟨by rw [List.length_drop]; exact Nat.le_trans (Nat.sub_le _ _) h.1, h.2.drop n⟩
theorem okW_nil : okW [] := ⟨Nat.zero_le _, fun _ h => absurd h List.not_mem_nil⟩
theorem eA_lt : ∀ (xs : List Nat) (n : Nat), okL xs → eA xs n < 32 ^ n
  | [], n, _ => by rw [eA_nil]; exact Nat.pow_pos (by decide)
  | x :: xs, 0, _ => by show 0 < 32 ^ 0; decide
  | x :: xs, n + 1, h => by
    have h1 := eA_lt xs n h.tl
    have h2 := h.hd
    rw [eA_cons, Nat.pow_succ]
    have h3 : (x + 1) * 32 ^ n ≤ 32 * 32 ^ n := Nat.mul_le_mul_right _ (by omega)
    rw [Nat.add_mul, Nat.one_mul] at h3
    rw [Nat.mul_comm (32 ^ n) 32]
    omega
theorem eW_lt {w : List Nat} (h : okW w) : eW w < 2 ^ 60 := by
  have := eA_lt w 12 h.2
  have e : (32 : Nat) ^ 12 = 2 ^ 60 := by decide
  rw [e] at this
  exact this
theorem eW_lt63 {w : List Nat} (h : okW w) : eW w < 2 ^ 63 := Nat.lt_trans (eW_lt h) (by decide)
theorem eW_lt64 {w : List Nat} (h : okW w) : eW w < 2 ^ 64 := Nat.lt_trans (eW_lt h) (by decide)
theorem eA_letter : ∀ (xs : List Nat) (n k : Nat), okL xs → k < n → eA xs n / 32 ^ (n - 1 - k) % 32 = xs.getD k 0
  | [], n, k, _, _ => by rw [eA_nil]; simp
  | x :: xs, 0, k, _, h => absurd h (Nat.not_lt_zero _)
  | x :: xs, n + 1, 0, h, _ => by
    have h1 := eA_lt xs n h.tl
    have h2 := h.hd
    have e : n + 1 - 1 - 0 = n := by omega
    rw [eA_cons, e, Nat.mul_comm, Nat.mul_add_div (Nat.pow_pos (by decide)), Nat.div_eq_of_lt h1, Nat.add_zero, Nat.mod_eq_of_lt (by omega)]
    rfl
  | x :: xs, n + 1, k + 1, h, hk => by
    have hk' : k < n := by omega
    have ih := eA_letter xs n k h.tl hk'
    have e : n + 1 - 1 - (k + 1) = n - 1 - k := by omega
    rw [eA_cons, e]
    obtain ⟨d, hd⟩ : ∃ d, n = (n - 1 - k) + (d + 1) := ⟨k, by omega⟩
    have e2 : x * 32 ^ n = 32 ^ (n - 1 - k) * (x * 32 ^ d * 32) := by
      rw [show (32 : Nat) ^ n = 32 ^ ((n - 1 - k) + (d + 1)) by rw [← hd], Nat.pow_add, Nat.pow_succ]
      simp only [Nat.mul_assoc, Nat.mul_comm, Nat.mul_left_comm]
    rw [e2, Nat.mul_add_div (Nat.pow_pos (by decide)), Nat.mul_add_mod', ih]
    rfl
theorem eW_letter {w : List Nat} (h : okW w) {k : Nat} (hk : k < 12) : eW w / 2 ^ (5 * (11 - k)) % 32 = w.getD k 0 := by
  have := eA_letter w 12 k h.2 hk
  rw [show (2 : Nat) ^ (5 * (11 - k)) = 32 ^ (12 - 1 - k) by rw [show 12 - 1 - k = 11 - k by omega, Nat.pow_mul]]
  exact this
theorem getD_ok {w : List Nat} (h : okL w) {k : Nat} (hk : k < w.length) : 1 ≤ w.getD k 0 ∧ w.getD k 0 ≤ 26 := by
  have e : w.getD k 0 = w[k] := by simp [List.getD, hk]
  rw [e]
  exact h _ (List.getElem_mem hk)
theorem getD_out {w : List Nat} {k : Nat} (hk : w.length ≤ k) : w.getD k 0 = 0 := by simp [List.getD, hk]
theorem getD_le {w : List Nat} (h : okL w) (k : Nat) : w.getD k 0 ≤ 26 := by
  by_cases hk : k < w.length
  · exact (getD_ok h hk).2
  · rw [getD_out (by omega)]; omega
theorem eA_lex : ∀ (xs ys : List Nat) (n : Nat), okL xs → okL ys → xs.length ≤ n → ys.length ≤ n → (eA xs n < eA ys n ↔ xs < ys)
  | [], [], n, _, _, _, _ => by simp
  | [], y :: ys, 0, _, _, _, h => absurd h (by simp)
  | [], y :: ys, n + 1, _, hy, _, _ => by
    rw [eA_nil, eA_cons]
    have h2 := hy.hd
    have h3 : 0 < 32 ^ n := Nat.pow_pos (by decide)
    have h4 : 1 * 32 ^ n ≤ y * 32 ^ n := Nat.mul_le_mul_right _ h2.1
    constructor
    · intro _; exact List.nil_lt_cons _ _
    · intro _; omega
  | x :: xs, [], n, _, _, _, _ => by
    rw [eA_nil]
    constructor
    · intro h; exact absurd h (Nat.not_lt_zero _)
    · intro h; exact absurd h (List.not_lt_nil _)
  | x :: xs, y :: ys, 0, _, _, h, _ => absurd h (by simp)
  | x :: xs, y :: ys, n + 1, hx, hy, h1, h2 => by
    have ih := eA_lex xs ys n hx.tl hy.tl (by simpa using h1) (by simpa using h2)
    rw [eA_cons, eA_cons, List.cons_lt_cons_iff]
    have a1 := eA_lt xs n hx.tl
    have a2 := eA_lt ys n hy.tl
    rcases Nat.lt_trichotomy x y with h | h | h
    · have h3 : (x + 1) * 32 ^ n ≤ y * 32 ^ n := Nat.mul_le_mul_right _ h
      rw [Nat.add_mul, Nat.one_mul] at h3
      constructor
      · intro _; exact Or.inl h
      · intro _; omega
    · subst h
      rw [Nat.add_lt_add_iff_left, ih]
      constructor
      · intro q; exact Or.inr ⟨rfl, q⟩
      · intro q
        rcases q with q | q
        · exact absurd q (Nat.lt_irrefl _)
        · exact q.2
    · have h3 : (y + 1) * 32 ^ n ≤ x * 32 ^ n := Nat.mul_le_mul_right _ h
      rw [Nat.add_mul, Nat.one_mul] at h3
      constructor
      · intro q; omega
      · intro q
        rcases q with q | q
        · omega
        · omega
theorem eW_lex {w v : List Nat} (hw : okW w) (hv : okW v) : eW w < eW v ↔ w < v := eA_lex w v 12 hw.2 hv.2 hw.1 hv.1
theorem eA_inj : ∀ (xs ys : List Nat) (n : Nat), okL xs → okL ys → xs.length ≤ n → ys.length ≤ n → eA xs n = eA ys n → xs = ys
  | [], [], _, _, _, _, _, _ => rfl
  | [], y :: ys, 0, _, _, _, h, _ => absurd h (by simp)
  | [], y :: ys, n + 1, _, hy, _, _, e => by
    rw [eA_nil, eA_cons] at e
    have h2 := hy.hd
    have h3 : 0 < 32 ^ n := Nat.pow_pos (by decide)
    have h4 : 1 * 32 ^ n ≤ y * 32 ^ n := Nat.mul_le_mul_right _ h2.1
    omega
  | x :: xs, [], 0, _, _, h, _, _ => absurd h (by simp)
  | x :: xs, [], n + 1, hx, _, _, _, e => by
    rw [eA_nil, eA_cons] at e
    have h2 := hx.hd
    have h3 : 0 < 32 ^ n := Nat.pow_pos (by decide)
    have h4 : 1 * 32 ^ n ≤ x * 32 ^ n := Nat.mul_le_mul_right _ h2.1
    omega
  | x :: xs, y :: ys, 0, _, _, h, _, _ => absurd h (by simp)
  | x :: xs, y :: ys, n + 1, hx, hy, h1, h2, e => by
    rw [eA_cons, eA_cons] at e
    have a1 := eA_lt xs n hx.tl
    have a2 := eA_lt ys n hy.tl
    rcases Nat.lt_trichotomy x y with h | h | h
    · have h3 : (x + 1) * 32 ^ n ≤ y * 32 ^ n := Nat.mul_le_mul_right _ h
      rw [Nat.add_mul, Nat.one_mul] at h3
      omega
    · subst h
      have e2 : eA xs n = eA ys n := by omega
      rw [eA_inj xs ys n hx.tl hy.tl (by simpa using h1) (by simpa using h2) e2]
    · have h3 : (y + 1) * 32 ^ n ≤ x * 32 ^ n := Nat.mul_le_mul_right _ h
      rw [Nat.add_mul, Nat.one_mul] at h3
      omega
theorem eW_inj {w v : List Nat} (hw : okW w) (hv : okW v) : eW w = eW v ↔ w = v := ⟨eA_inj w v 12 hw.2 hv.2 hw.1 hv.1, fun h => by rw [h]⟩
theorem eW_zero {w : List Nat} (hw : okW w) : eW w = 0 ↔ w = [] := by
  have := eW_inj hw okW_nil
  rw [show eW [] = 0 from rfl] at this
  exact this
theorem eA_take : ∀ (xs : List Nat) (n j : Nat), okL xs → j ≤ n → eA xs n / 32 ^ j * 32 ^ j = eA (xs.take (n - j)) n
  | [], n, j, _, _ => by simp [eA_nil]
  | x :: xs, 0, j, _, h => by
    rw [eA_zero, eA_zero]; simp
  | x :: xs, n + 1, j, h, hj => by
    by_cases e : j = n + 1
    · subst e
      have h1 := eA_lt (x :: xs) (n + 1) h
      rw [Nat.div_eq_of_lt h1, Nat.sub_self, List.take_zero, eA_nil, Nat.zero_mul]
    · have hj' : j ≤ n := by omega
      have ih := eA_take xs n j h.tl hj'
      obtain ⟨d, hd⟩ : ∃ d, n = j + d := ⟨n - j, by omega⟩
      have e2 : x * 32 ^ n = 32 ^ j * (x * 32 ^ d) := by
        rw [hd, Nat.pow_add]
        simp only [Nat.mul_assoc, Nat.mul_comm, Nat.mul_left_comm]
      rw [show n + 1 - j = (n - j) + 1 by omega, List.take_succ_cons, eA_cons, eA_cons, ← ih, e2, Nat.mul_add_div (Nat.pow_pos (by decide)), Nat.add_mul]
      congr 1
      exact Nat.mul_comm _ _
theorem eW_take {w : List Nat} (h : okW w) {n : Nat} (hn : n ≤ 12) : eW w / 2 ^ (5 * (12 - n)) * 2 ^ (5 * (12 - n)) = eW (w.take n) := by
  have := eA_take w 12 (12 - n) h.2 (by omega)
  rw [show 12 - (12 - n) = n by omega] at this
  rw [Nat.pow_mul]
  exact this
theorem eA_up : ∀ (xs : List Nat) (n : Nat), xs.length ≤ n → eA xs (n + 1) = eA xs n * 32
  | [], n, _ => by rw [eA_nil, eA_nil]
  | x :: xs, 0, h => absurd h (by simp)
  | x :: xs, n + 1, h => by
    rw [eA_cons, eA_cons, eA_up xs n (by simpa using h), Nat.add_mul, Nat.pow_succ, Nat.mul_assoc]
theorem eA_drop1 (xs : List Nat) (n : Nat) (hx : okL xs) (h : xs.length ≤ n) : eA xs n * 32 % 32 ^ n = eA (xs.drop 1) n := by
  cases xs with
  | nil => simp [eA_nil]
  | cons x ys =>
    cases n with
    | zero => exact absurd h (by simp)
    | succ n =>
      have h1 : ys.length ≤ n := by simpa using h
      have h2 := eA_lt ys n hx.tl
      show (x * 32 ^ n + eA ys n) * 32 % 32 ^ (n + 1) = eA ys (n + 1)
      rw [eA_up ys n h1, Nat.add_mul, Nat.mul_assoc, ← Nat.pow_succ, Nat.mul_comm x, Nat.mul_add_mod, Nat.mod_eq_of_lt]
      rw [Nat.pow_succ]
      exact Nat.mul_lt_mul_of_pos_right h2 (by decide)
theorem eA_drop (xs : List Nat) (n : Nat) (hx : okL xs) (h : xs.length ≤ n) : ∀ b, eA xs n * 32 ^ b % 32 ^ n = eA (xs.drop b) n
  | 0 => by rw [Nat.pow_zero, Nat.mul_one, List.drop_zero, Nat.mod_eq_of_lt (eA_lt xs n hx)]
  | b + 1 => by
    have ih := eA_drop xs n hx h b
    have h1 := eA_drop1 (xs.drop b) n (hx.drop b) (by rw [List.length_drop]; omega)
    rw [List.drop_drop] at h1
    rw [← h1, ← ih, Nat.pow_succ, ← Nat.mul_assoc, Nat.mod_mul_mod]
theorem eW_drop {w : List Nat} (h : okW w) (b : Nat) : eW w * 2 ^ (5 * b) % 2 ^ 60 = eW (w.drop b) := by
  have := eA_drop w 12 h.2 h.1 b
  rw [show (32 : Nat) ^ 12 = 2 ^ 60 by decide, show (32 : Nat) ^ b = 2 ^ (5 * b) by rw [Nat.pow_mul]] at this
  exact this
theorem eA_app : ∀ (xs : List Nat) (x n : Nat), xs.length < n → eA (xs ++ [x]) n = eA xs n + x * 32 ^ (n - 1 - xs.length)
  | [], x, 0, h => absurd h (Nat.not_lt_zero _)
  | [], x, n + 1, _ => by
    show x * 32 ^ n + eA [] n = 0 + x * 32 ^ (n + 1 - 1 - 0)
    rw [eA_nil, Nat.add_zero, Nat.zero_add]; rfl
  | y :: ys, x, 0, h => absurd h (Nat.not_lt_zero _)
  | y :: ys, x, n + 1, h => by
    have ih := eA_app ys x n (by simpa using h)
    rw [List.cons_append, eA_cons, eA_cons, ih, Nat.add_assoc, List.length_cons, show n + 1 - 1 - (ys.length + 1) = n - 1 - ys.length by omega]
theorem eA_mult : ∀ (xs : List Nat) (n : Nat), xs.length ≤ n → ∃ d, eA xs n = d * 32 ^ (n - xs.length)
  | [], n, _ => ⟨0, by rw [eA_nil, Nat.zero_mul]⟩
  | x :: xs, 0, h => absurd h (by simp)
  | x :: xs, n + 1, h => by
    have h1 : xs.length ≤ n := by simpa using h
    obtain ⟨d, hd⟩ := eA_mult xs n h1
    refine ⟨x * 32 ^ xs.length + d, ?_⟩
    rw [eA_cons, hd, List.length_cons, show n + 1 - (xs.length + 1) = n - xs.length by omega, Nat.add_mul, Nat.mul_assoc, ← Nat.pow_add, show xs.length + (n - xs.length) = n by omega]
/-- a letter more: bits that were free -/
theorem eW_with {w : List Nat} (h : okW w) {x : Nat} (hx : x ≤ 26) (hl : w.length < 12) : eW w ||| x * 2 ^ (5 * (11 - w.length)) = eW (w ++ [x]) := by
  have e1 : eW (w ++ [x]) = eW w + x * 2 ^ (5 * (11 - w.length)) := by
    have := eA_app w x 12 hl
    rw [show (12 - 1 - w.length) = 11 - w.length by omega] at this
    rw [Nat.pow_mul]
    exact this
  obtain ⟨d, hd⟩ := eA_mult w 12 (by omega)
  have e2 : eW w = 2 ^ (5 * (12 - w.length)) * d := by
    rw [Nat.pow_mul, Nat.mul_comm]
    exact hd
  have hlt : x * 2 ^ (5 * (11 - w.length)) < 2 ^ (5 * (12 - w.length)) := by
    rw [show 5 * (12 - w.length) = 5 + 5 * (11 - w.length) by omega, Nat.pow_add]
    exact Nat.mul_lt_mul_of_pos_right (by omega) (Nat.pow_pos (by decide))
  rw [e1, e2, Nat.two_pow_add_eq_or_of_lt hlt]
end
section
/-! PURE: what the class's static methods say of words -/
def lo8 (x : Int32) : Nat := x.toBitVec.toNat % 256
theorem lo8_lt (x : Int32) : lo8 x < 256 := Nat.mod_lt _ (by decide)
theorem hw_lo8 (x : Int32) : x &&& nI 255 = nI (lo8 x) := pk_and x 8 (by decide)
theorem hw_and31 (n : Nat) : nI n &&& nI 31 = nI (n % 32) := by
  rw [nx_and]
  exact congrArg nI (Nat.and_two_pow_sub_one_eq_mod n 5)
def ltr (c : Nat) : Nat := if 65 ≤ c ∧ c ≤ 90 then c - 64 else if 97 ≤ c ∧ c ≤ 122 then c - 96 else 0
theorem ltr_le (c : Nat) : ltr c ≤ 26 := by unfold ltr; (repeat' split) <;> omega
def sgn (x : Nat) : Nat := if x = 0 then 0 else x + 96
theorem getD_nz {w : List Nat} (_ : okL w) {i : Nat} (h : w.getD i 0 ≠ 0) : i < w.length := by
  rcases Nat.lt_or_ge i w.length with q | q
  · exact q
  · exact absurd (getD_out q) h
theorem getD_z {w : List Nat} (hw : okL w) {i : Nat} (h : w.getD i 0 = 0) : w.length ≤ i := by
  rcases Nat.lt_or_ge i w.length with q | q
  · have := getD_ok hw q; omega
  · exact q
theorem hw_first {w : List Nat} (hw : okW w) {n : Nat} (h0 : 0 < n) (hn : n < 12) : eW w / 2 ^ (5 * (11 - (n - 1))) * 2 ^ (5 * (11 - (n - 1))) = eW (w.take n) := by
  have := eW_take hw (n := n) (by omega)
  rw [show 11 - (n - 1) = 12 - n by omega]
  exact this
/-- the STEM of a word: letters 19 = s, 14 = n, 5 = e -/
def stemL (g : Nat) (w : List Nat) : List Nat :=
  if g = 1 then (if w.getD (w.length - 1) 0 = 19 ∧ 3 < w.length then w.take (w.length - 1) else w)
  else if g = 2 then (if (w.getD (w.length - 1) 0 = 14 ∧ w.getD (w.length - 2) 0 = 5) ∧ 4 < w.length then w.take (w.length - 2)
    else if w.getD (w.length - 1) 0 = 5 ∧ 3 < w.length then w.take (w.length - 1) else w)
  else w
def begL (w b : List Nat) : Bool := decide (w.take b.length = b)
def endL (w b : List Nat) : Bool := decide (b.length ≤ w.length ∧ w.drop (w.length - b.length) = b)
theorem okW_stem {w : List Nat} (h : okW w) (g : Nat) : okW (stemL g w) := by
  unfold stemL
  (repeat' split) <;> first | exact h | exact h.take _
theorem hw_lmask (n k : Nat) {m : Nat} (hm : m = 2 ^ k - 1) (hk : k < 64) : lN n &&& lN m = lN (n % 2 ^ k) := by
  subst hm
  rw [wb_mod n, wb_mask (Nat.mod_lt _ (by decide)) hk]
  congr 1
  exact Nat.mod_mod_of_dvd n (Nat.pow_dvd_pow 2 (by omega))
/-- a row of costs, one letter further -/
def nxt (x : Nat) (t : List Nat) (c : Nat → Nat) : Nat → Nat
  | 0 => c 0 + 1
  | j + 1 => min (if x = t.getD j 0 then c j else c j + 1) (min (c (j + 1)) (nxt x t c j) + 1)
def rows (t : List Nat) : List Nat → (Nat → Nat) → (Nat → Nat)
  | [], c => c
  | x :: xs, c => rows t xs (nxt x t c)
def distL (f t : List Nat) : Nat := rows t f (fun j => j) t.length
theorem nxt_le {x : Nat} {t : List Nat} {c : Nat → Nat} {B W : Nat} (h : ∀ j, j ≤ W → c j ≤ B) : ∀ j, j ≤ W → nxt x t c j ≤ B + 1
  | 0, hj => by have := h 0 hj; show c 0 + 1 ≤ B + 1; omega
  | j + 1, hj => by
    have := h j (by omega)
    show min (if x = t.getD j 0 then c j else c j + 1) _ ≤ B + 1
    split <;> omega
theorem rows_snoc (t : List Nat) : ∀ (xs : List Nat) (x : Nat) (c : Nat → Nat), rows t (xs ++ [x]) c = nxt x t (rows t xs c)
  | [], _, _ => rfl
  | y :: ys, x, c => rows_snoc t ys x (nxt y t c)
theorem rows_le {t : List Nat} {W : Nat} : ∀ (xs : List Nat) (c : Nat → Nat) (B : Nat), (∀ j, j ≤ W → c j ≤ B) → ∀ j, j ≤ W → rows t xs c j ≤ B + xs.length
  | [], c, B, h => h
  | x :: xs, c, B, h => fun j hj => by
    have := rows_le (t := t) xs (nxt x t c) (B + 1) (nxt_le h) j hj
    show rows t xs (nxt x t c) j ≤ B + (xs.length + 1)
    omega
theorem nxt_pos {x : Nat} {t : List Nat} {c : Nat → Nat} {j : Nat} (h : 1 ≤ j) : nxt x t c j = min (if x = t.getD (j - 1) 0 then c (j - 1) else c (j - 1) + 1) (min (c j) (nxt x t c (j - 1)) + 1) := by
  obtain ⟨k, rfl⟩ : ∃ k, j = k + 1 := ⟨j - 1, by omega⟩
  rfl
theorem rows_take {t f : List Nat} {c : Nat → Nat} {i : Nat} (h : i < f.length) : rows t (f.take (i + 1)) c = nxt (f.getD i 0) t (rows t (f.take i) c) := by
  rw [← rows_snoc]
  congr 1
  rw [List.take_succ]
  simp [List.getD, h]
theorem rows_id_le (t f : List Nat) (i k : Nat) (hi : i ≤ 12) (hk : k ≤ 12) : rows t (f.take i) (fun j => j) k ≤ 24 := by
  have := rows_le (t := t) (W := 12) (f.take i) (fun j => j) 12 (fun j hj => hj) k hk
  rw [List.length_take] at this
  omega
theorem hw_one {x : Nat} (h : x ≠ 0) (h2 : x ≤ 26) : okL [x] := fun y hy => by rw [List.mem_singleton.mp hy]; omega
theorem hw_app {w : List Nat} {x : Nat} (hw : okW w) (h : x ≠ 0) (h2 : x ≤ 26) (hl : w.length < 12) : okW (w ++ [x]) := ⟨by simp; omega, fun y hy => (List.mem_append.mp hy).elim (hw.2 y) (hw_one h h2 y)⟩
theorem hw_halve {lo hi lo' hi' st : Nat} (h : hi - lo ≤ 3000 / 2 ^ st) (h2 : 2 * (hi' - lo') ≤ hi - lo) : hi' - lo' ≤ 3000 / 2 ^ (st + 1) := by
  rw [Nat.pow_succ, ← Nat.div_div_eq_div_mul]
  omega
theorem getD_eq {ts : List (List Nat)} {j : Nat} (h : j < ts.length) : ts.getD j [] = ts[j] := by simp [List.getD, h]
theorem sorted_get {ts : List (List Nat)} (hs : ts.Pairwise (· < ·)) {i j : Nat} (h : i < j) (hj : j < ts.length) : ts.getD i [] < ts.getD j [] := by
  rw [getD_eq (Nat.lt_trans h hj), getD_eq hj]
  exact List.pairwise_iff_getElem.mp hs i j (Nat.lt_trans h hj) hj h
theorem lex_trans {a b c : List Nat} (h : a < b) (h2 : b < c) : a < c := List.lt_trans h h2
theorem lex_irrefl (a : List Nat) : ¬ a < a := List.lt_irrefl a
theorem sorted_upto {ts : List (List Nat)} (hs : ts.Pairwise (· < ·)) {w : List Nat} {mid j : Nat} (h : ts.getD mid [] < w) (hm : mid < ts.length) (hj : j ≤ mid) : ts.getD j [] < w := by
  rcases Nat.lt_or_eq_of_le hj with q | q
  · exact lex_trans (sorted_get hs q hm) h
  · rw [q]; exact h
theorem sorted_from {ts : List (List Nat)} (hs : ts.Pairwise (· < ·)) {w : List Nat} {mid j : Nat} (hj : mid ≤ j) (hl : j < ts.length) (h : ts.getD j [] < w) : ts.getD mid [] < w := by
  rcases Nat.lt_or_eq_of_le hj with q | q
  · exact lex_trans (sorted_get hs q hl) h
  · rw [q]; exact h
theorem mem_of_getD {ts : List (List Nat)} {p : Nat} {w : List Nat} (h : p < ts.length) (e : ts.getD p [] = w) : w ∈ ts := by
  rw [← e, getD_eq h]
  exact List.getElem_mem h
theorem getD_of_mem {ts : List (List Nat)} {w : List Nat} (h : w ∈ ts) : ∃ p, p < ts.length ∧ ts.getD p [] = w := by
  obtain ⟨p, hp, e⟩ := List.getElem_of_mem h
  exact ⟨p, hp, by rw [getD_eq hp, e]⟩
theorem not_mem_place {ts : List (List Nat)} (hs : ts.Pairwise (· < ·)) {w : List Nat} {p : Nat} (h1 : ∀ j, j < p → ts.getD j [] < w) (h2 : ∀ j, p ≤ j → j < ts.length → ¬ ts.getD j [] < w) (h3 : p < ts.length → ts.getD p [] = w → False) : w ∉ ts := by
  intro hm
  obtain ⟨j, hj, e⟩ := getD_of_mem hm
  rcases Nat.lt_trichotomy j p with q | q | q
  · have := h1 j q
    rw [e] at this
    exact lex_irrefl _ this
  · subst q
    exact h3 hj e
  · have := sorted_get hs q hj
    rw [e] at this
    exact h2 p (Nat.le_refl _) (Nat.lt_trans q hj) this
theorem not_mem_all {ts : List (List Nat)} {w : List Nat} (h : ∀ p, p < ts.length → ts.getD p [] ≠ w) : w ∉ ts := fun hm => by
  obtain ⟨p, hp, e⟩ := getD_of_mem hm
  exact h p hp e
theorem any_true {ts : List (List Nat)} {w : List Nat} (h : w ∈ ts) (hw : w ≠ []) : ts.any (fun t => decide (t ≠ [])) = true := List.any_eq_true.mpr ⟨w, h, decide_eq_true hw⟩
theorem any_false {ts : List (List Nat)} (h : ∀ p, p < ts.length → ts.getD p [] = []) : ts.any (fun t => decide (t ≠ [])) = false := by
  rw [List.any_eq_false]
  intro w hw
  obtain ⟨p, hp, e⟩ := getD_of_mem hw
  rw [h p hp] at e
  simp [← e]
theorem nn_getD {ts : List (List Nat)} {p : Nat} {w : List Nat} (h : 1 ≤ w.length) (e : ts.getD p [] = w) : p < ts.length := by
  rcases Nat.lt_or_ge p ts.length with q | q
  · exact q
  · have : ts.getD p [] = [] := by simp [List.getD, q]
    rw [this] at e
    rw [← e] at h
    exact absurd h (by simp)
theorem ne_getD {ts : List (List Nat)} (h : ∀ w ∈ ts, 1 ≤ w.length) {p : Nat} (hp : p < ts.length) : 1 ≤ (ts.getD p []).length := by
  rw [getD_eq hp]
  exact h _ (List.getElem_mem hp)
theorem getD_map {φ : List Nat → List Nat} {ts : List (List Nat)} {p : Nat} (hp : p < ts.length) : (ts.map φ).getD p [] = φ (ts.getD p []) := by simp [List.getD, hp]
/-- a word comes into an ordered row -/
def ins (w : List Nat) : List (List Nat) → List (List Nat)
  | [] => [w]
  | x :: xs => if x < w then x :: ins w xs else w :: x :: xs
def insS (N : Nat) (ts : List (List Nat)) (w : List Nat) : List (List Nat) := if N ≤ ts.length ∨ w ∈ ts then ts else ins w ts
theorem insS_full {N : Nat} {ts : List (List Nat)} {w : List Nat} (h : N ≤ ts.length) : insS N ts w = ts := by simp [insS, h]
theorem insS_mem {N : Nat} {ts : List (List Nat)} {w : List Nat} (h : w ∈ ts) : insS N ts w = ts := by simp [insS, h]
theorem insS_new {N : Nat} {ts : List (List Nat)} {w : List Nat} (h : ts.length < N) (h2 : w ∉ ts) : insS N ts w = ins w ts := by
  have : ¬ N ≤ ts.length := by omega
  simp [insS, this, h2]
theorem ins_place {w : List Nat} : ∀ {ts : List (List Nat)} {p : Nat}, (∀ j, j < p → ts.getD j [] < w) → (∀ j, p ≤ j → j < ts.length → ¬ ts.getD j [] < w) → p ≤ ts.length → ins w ts = ts.take p ++ w :: ts.drop p
  | [], 0, _, _, _ => rfl
  | [], p + 1, _, _, h => absurd h (by simp)
  | x :: xs, 0, _, h2, _ => by
    have : ¬ x < w := h2 0 (Nat.le_refl _) (by simp)
    simp [ins, this]
  | x :: xs, p + 1, h1, h2, h => by
    have hx : x < w := h1 0 (by omega)
    have ih := ins_place (w := w) (ts := xs) (p := p) (fun j hj => h1 (j + 1) (by omega)) (fun j hj hl => h2 (j + 1) (by omega) (by simp; omega)) (by simpa using h)
    simp [ins, hx, ih]
theorem ins_len {ts : List (List Nat)} {w : List Nat} {p : Nat} (h : p ≤ ts.length) : (ts.take p ++ w :: ts.drop p).length = ts.length + 1 := by
  simp [List.length_take, List.length_drop]; omega
theorem hw_mul63 {a b : Nat} (h1 : a ≤ 1000) (h2 : b ≤ 1000) : a * b < 2 ^ 63 := Nat.lt_of_le_of_lt (Nat.mul_le_mul h1 h2) (by decide)
theorem all_true {ta tb : List (List Nat)} (h : ∀ p, p < ta.length → ta.getD p [] = [] ∨ ta.getD p [] ∈ tb) : ta.all (fun t => decide (t = [] ∨ t ∈ tb)) = true := by
  rw [List.all_eq_true]
  intro w hw
  obtain ⟨p, hp, e⟩ := getD_of_mem hw
  rw [← e]
  exact decide_eq_true (h p hp)
theorem all_false {ta tb : List (List Nat)} {p : Nat} (hp : p < ta.length) (h : ¬ (ta.getD p [] = [] ∨ ta.getD p [] ∈ tb)) : ta.all (fun t => decide (t = [] ∨ t ∈ tb)) = false := by
  rw [List.all_eq_false]
  exact ⟨ta.getD p [], mem_of_getD hp rfl, by simpa using h⟩
theorem take_succ_getD {tb : List (List Nat)} {i : Nat} (h : i < tb.length) : tb.take (i + 1) = tb.take i ++ [tb.getD i []] := by
  rw [List.take_succ]
  simp [List.getD, h]
theorem cnt_stepT {tb : List (List Nat)} {P : List Nat → Bool} {i n : Nat} (h : i < tb.length) (hc : n = (tb.take i).countP P) (hp : P (tb.getD i []) = true) : n + 1 = (tb.take (i + 1)).countP P := by
  rw [take_succ_getD h, List.countP_append, ← hc]
  simp only [List.countP_cons, List.countP_nil, hp]
  simp
theorem cnt_stepF {tb : List (List Nat)} {P : List Nat → Bool} {i n : Nat} (h : i < tb.length) (hc : n = (tb.take i).countP P) (hp : P (tb.getD i []) = false) : n = (tb.take (i + 1)).countP P := by
  rw [take_succ_getD h, List.countP_append, ← hc]
  simp only [List.countP_cons, List.countP_nil, hp]
  simp
end
