section
-- ===== PART A: goes FIRST, ahead of the names: the tables' words, and 'selects' of the private methods out of them =====
/-- a private method of a class that the tables say can be made, by its rows of tables_1 -/
def lw_okq (q : MethodName × Nat) : Prop := (q.1.cls ≠ "java/lang/invoke/MethodHandle" ∧ q.1.cls ≠ "java/lang/invoke/VarHandle") ∧ Cond.instantiable q.1.cls q.2 ∈ tables_1 ∧ Cond.privateMethod q.1 ∈ tables_1 ∧ Cond.instanceMethod q.1 ∈ tables_1
theorem lw_p0 : lw_okq (⟨"WordIndex2", "textOf", "(II)LWordIndex2$Text;"⟩, 12) := ⟨⟨by decide +kernel, by decide +kernel⟩, List.mem_of_getElem? (i := 18) (by decide +kernel), List.mem_of_getElem? (i := 156) (by decide +kernel), List.mem_of_getElem? (i := 157) (by decide +kernel)⟩
theorem lw_p1 : lw_okq (⟨"WordIndex2", "itemThere", "(I)LWordIndex2$Item;"⟩, 12) := ⟨⟨by decide +kernel, by decide +kernel⟩, List.mem_of_getElem? (i := 18) (by decide +kernel), List.mem_of_getElem? (i := 160) (by decide +kernel), List.mem_of_getElem? (i := 161) (by decide +kernel)⟩
theorem lw_p2 : lw_okq (⟨"WordIndex2$Text", "beginWord", "()V"⟩, 3) := ⟨⟨by decide +kernel, by decide +kernel⟩, List.mem_of_getElem? (i := 28) (by decide +kernel), List.mem_of_getElem? (i := 175) (by decide +kernel), List.mem_of_getElem? (i := 176) (by decide +kernel)⟩
theorem lw_p3 : lw_okq (⟨"WordIndex2", "startSearch", "(I)V"⟩, 12) := ⟨⟨by decide +kernel, by decide +kernel⟩, List.mem_of_getElem? (i := 18) (by decide +kernel), List.mem_of_getElem? (i := 213) (by decide +kernel), List.mem_of_getElem? (i := 214) (by decide +kernel)⟩
theorem lw_p4 : lw_okq (⟨"WordIndex2$WordSet", "placeOf", "(J)I"⟩, 2) := ⟨⟨by decide +kernel, by decide +kernel⟩, List.mem_of_getElem? (i := 46) (by decide +kernel), List.mem_of_getElem? (i := 245) (by decide +kernel), List.mem_of_getElem? (i := 246) (by decide +kernel)⟩
theorem lw_p5 : lw_okq (⟨"WordIndex2", "clearQuestion", "()V"⟩, 12) := ⟨⟨by decide +kernel, by decide +kernel⟩, List.mem_of_getElem? (i := 18) (by decide +kernel), List.mem_of_getElem? (i := 266) (by decide +kernel), List.mem_of_getElem? (i := 267) (by decide +kernel)⟩
theorem lw_p6 : lw_okq (⟨"WordIndex2", "gather", "(ILWordIndex2$Search;)I"⟩, 12) := ⟨⟨by decide +kernel, by decide +kernel⟩, List.mem_of_getElem? (i := 18) (by decide +kernel), List.mem_of_getElem? (i := 295) (by decide +kernel), List.mem_of_getElem? (i := 296) (by decide +kernel)⟩
theorem lw_p7 : lw_okq (⟨"WordIndex2", "readField", "(II)Z"⟩, 12) := ⟨⟨by decide +kernel, by decide +kernel⟩, List.mem_of_getElem? (i := 18) (by decide +kernel), List.mem_of_getElem? (i := 299) (by decide +kernel), List.mem_of_getElem? (i := 300) (by decide +kernel)⟩
theorem lw_p8 : lw_okq (⟨"WordIndex2$NearSearch", "secondIsBeside", "(LWordIndex2$Terms;I)Z"⟩, 3) := ⟨⟨by decide +kernel, by decide +kernel⟩, List.mem_of_getElem? (i := 325) (by decide +kernel), List.mem_of_getElem? (i := 323) (by decide +kernel), List.mem_of_getElem? (i := 324) (by decide +kernel)⟩
theorem lw_p9 : lw_okq (⟨"WordIndex2$PhraseSearch", "standsAt", "(LWordIndex2$Terms;I)Z"⟩, 1) := ⟨⟨by decide +kernel, by decide +kernel⟩, List.mem_of_getElem? (i := 337) (by decide +kernel), List.mem_of_getElem? (i := 335) (by decide +kernel), List.mem_of_getElem? (i := 336) (by decide +kernel)⟩
theorem lw_p10 : lw_okq (⟨"WordIndex2$Hits", "isGreater", "(III)Z"⟩, 4) := ⟨⟨by decide +kernel, by decide +kernel⟩, List.mem_of_getElem? (i := 62) (by decide +kernel), List.mem_of_getElem? (i := 381) (by decide +kernel), List.mem_of_getElem? (i := 382) (by decide +kernel)⟩
theorem lw_p11 : lw_okq (⟨"WordIndex2$Hits", "isHit", "(I)Z"⟩, 4) := ⟨⟨by decide +kernel, by decide +kernel⟩, List.mem_of_getElem? (i := 62) (by decide +kernel), List.mem_of_getElem? (i := 389) (by decide +kernel), List.mem_of_getElem? (i := 390) (by decide +kernel)⟩
theorem lw_p12 : lw_okq (⟨"WordIndex2", "listTerms", "(I)V"⟩, 12) := ⟨⟨by decide +kernel, by decide +kernel⟩, List.mem_of_getElem? (i := 18) (by decide +kernel), List.mem_of_getElem? (i := 476) (by decide +kernel), List.mem_of_getElem? (i := 477) (by decide +kernel)⟩
theorem lw_p13 : lw_okq (⟨"WordIndex2", "listFieldTerms", "()V"⟩, 12) := ⟨⟨by decide +kernel, by decide +kernel⟩, List.mem_of_getElem? (i := 18) (by decide +kernel), List.mem_of_getElem? (i := 484) (by decide +kernel), List.mem_of_getElem? (i := 485) (by decide +kernel)⟩
theorem lw_p14 : lw_okq (⟨"WordIndex2Model", "question", "(IIIZ)I"⟩, 24) := ⟨⟨by decide +kernel, by decide +kernel⟩, List.mem_of_getElem? (i := 521) (by decide +kernel), List.mem_of_getElem? (i := 625) (by decide +kernel), List.mem_of_getElem? (i := 626) (by decide +kernel)⟩
theorem lw_p15 : lw_okq (⟨"WordIndex2Model", "take", "()V"⟩, 24) := ⟨⟨by decide +kernel, by decide +kernel⟩, List.mem_of_getElem? (i := 521) (by decide +kernel), List.mem_of_getElem? (i := 629) (by decide +kernel), List.mem_of_getElem? (i := 630) (by decide +kernel)⟩
def lw_privs_1 : List (MethodName × Nat) := [(⟨"WordIndex2", "textOf", "(II)LWordIndex2$Text;"⟩, 12), (⟨"WordIndex2", "itemThere", "(I)LWordIndex2$Item;"⟩, 12), (⟨"WordIndex2$Text", "beginWord", "()V"⟩, 3), (⟨"WordIndex2", "startSearch", "(I)V"⟩, 12), (⟨"WordIndex2$WordSet", "placeOf", "(J)I"⟩, 2), (⟨"WordIndex2", "clearQuestion", "()V"⟩, 12), (⟨"WordIndex2", "gather", "(ILWordIndex2$Search;)I"⟩, 12), (⟨"WordIndex2", "readField", "(II)Z"⟩, 12), (⟨"WordIndex2$NearSearch", "secondIsBeside", "(LWordIndex2$Terms;I)Z"⟩, 3), (⟨"WordIndex2$PhraseSearch", "standsAt", "(LWordIndex2$Terms;I)Z"⟩, 1), (⟨"WordIndex2$Hits", "isGreater", "(III)Z"⟩, 4), (⟨"WordIndex2$Hits", "isHit", "(I)Z"⟩, 4), (⟨"WordIndex2", "listTerms", "(I)V"⟩, 12), (⟨"WordIndex2", "listFieldTerms", "()V"⟩, 12), (⟨"WordIndex2Model", "question", "(IIIZ)I"⟩, 24), (⟨"WordIndex2Model", "take", "()V"⟩, 24)]
theorem lw_r1 : ∀ q ∈ lw_privs_1, lw_okq q := List.forall_mem_cons.mpr ⟨lw_p0, List.forall_mem_cons.mpr ⟨lw_p1, List.forall_mem_cons.mpr ⟨lw_p2, List.forall_mem_cons.mpr ⟨lw_p3, List.forall_mem_cons.mpr ⟨lw_p4, List.forall_mem_cons.mpr ⟨lw_p5, List.forall_mem_cons.mpr ⟨lw_p6, List.forall_mem_cons.mpr ⟨lw_p7, List.forall_mem_cons.mpr ⟨lw_p8, List.forall_mem_cons.mpr ⟨lw_p9, List.forall_mem_cons.mpr ⟨lw_p10, List.forall_mem_cons.mpr ⟨lw_p11, List.forall_mem_cons.mpr ⟨lw_p12, List.forall_mem_cons.mpr ⟨lw_p13, List.forall_mem_cons.mpr ⟨lw_p14, List.forall_mem_cons.mpr ⟨lw_p15, fun _ h => absurd h List.not_mem_nil⟩⟩⟩⟩⟩⟩⟩⟩⟩⟩⟩⟩⟩⟩⟩⟩
theorem lw_p16 : lw_okq (⟨"WordIndex2Model", "stemOf", "(JI)J"⟩, 24) := ⟨⟨by decide +kernel, by decide +kernel⟩, List.mem_of_getElem? (i := 521) (by decide +kernel), List.mem_of_getElem? (i := 643) (by decide +kernel), List.mem_of_getElem? (i := 644) (by decide +kernel)⟩
theorem lw_p17 : lw_okq (⟨"WordIndex2Model", "isStop", "(J)Z"⟩, 24) := ⟨⟨by decide +kernel, by decide +kernel⟩, List.mem_of_getElem? (i := 521) (by decide +kernel), List.mem_of_getElem? (i := 647) (by decide +kernel), List.mem_of_getElem? (i := 648) (by decide +kernel)⟩
theorem lw_p18 : lw_okq (⟨"WordIndex2Model", "hasAny", "()Z"⟩, 24) := ⟨⟨by decide +kernel, by decide +kernel⟩, List.mem_of_getElem? (i := 521) (by decide +kernel), List.mem_of_getElem? (i := 655) (by decide +kernel), List.mem_of_getElem? (i := 656) (by decide +kernel)⟩
theorem lw_p19 : lw_okq (⟨"WordIndex2Model", "gather", "(II)V"⟩, 24) := ⟨⟨by decide +kernel, by decide +kernel⟩, List.mem_of_getElem? (i := 521) (by decide +kernel), List.mem_of_getElem? (i := 659) (by decide +kernel), List.mem_of_getElem? (i := 660) (by decide +kernel)⟩
theorem lw_p20 : lw_okq (⟨"WordIndex2Model", "meetsAll", "()Z"⟩, 24) := ⟨⟨by decide +kernel, by decide +kernel⟩, List.mem_of_getElem? (i := 521) (by decide +kernel), List.mem_of_getElem? (i := 663) (by decide +kernel), List.mem_of_getElem? (i := 664) (by decide +kernel)⟩
theorem lw_p21 : lw_okq (⟨"WordIndex2Model", "hasTerm", "(J)Z"⟩, 24) := ⟨⟨by decide +kernel, by decide +kernel⟩, List.mem_of_getElem? (i := 521) (by decide +kernel), List.mem_of_getElem? (i := 667) (by decide +kernel), List.mem_of_getElem? (i := 668) (by decide +kernel)⟩
theorem lw_p22 : lw_okq (⟨"WordIndex2Model", "hasPhrase", "()Z"⟩, 24) := ⟨⟨by decide +kernel, by decide +kernel⟩, List.mem_of_getElem? (i := 521) (by decide +kernel), List.mem_of_getElem? (i := 671) (by decide +kernel), List.mem_of_getElem? (i := 672) (by decide +kernel)⟩
theorem lw_p23 : lw_okq (⟨"WordIndex2Model", "hasNear", "(I)Z"⟩, 24) := ⟨⟨by decide +kernel, by decide +kernel⟩, List.mem_of_getElem? (i := 521) (by decide +kernel), List.mem_of_getElem? (i := 675) (by decide +kernel), List.mem_of_getElem? (i := 676) (by decide +kernel)⟩
theorem lw_p24 : lw_okq (⟨"WordIndex2Model", "wildCount", "(Z)I"⟩, 24) := ⟨⟨by decide +kernel, by decide +kernel⟩, List.mem_of_getElem? (i := 521) (by decide +kernel), List.mem_of_getElem? (i := 679) (by decide +kernel), List.mem_of_getElem? (i := 680) (by decide +kernel)⟩
theorem lw_p25 : lw_okq (⟨"WordIndex2Model", "count", "(I)I"⟩, 24) := ⟨⟨by decide +kernel, by decide +kernel⟩, List.mem_of_getElem? (i := 521) (by decide +kernel), List.mem_of_getElem? (i := 686) (by decide +kernel), List.mem_of_getElem? (i := 687) (by decide +kernel)⟩
theorem lw_p26 : lw_okq (⟨"WordIndex2Model", "isAsked", "(JI)Z"⟩, 24) := ⟨⟨by decide +kernel, by decide +kernel⟩, List.mem_of_getElem? (i := 521) (by decide +kernel), List.mem_of_getElem? (i := 690) (by decide +kernel), List.mem_of_getElem? (i := 691) (by decide +kernel)⟩
theorem lw_p27 : lw_okq (⟨"WordIndex2Model", "found", "(II)V"⟩, 24) := ⟨⟨by decide +kernel, by decide +kernel⟩, List.mem_of_getElem? (i := 521) (by decide +kernel), List.mem_of_getElem? (i := 694) (by decide +kernel), List.mem_of_getElem? (i := 695) (by decide +kernel)⟩
theorem lw_p28 : lw_okq (⟨"WordIndex2Model", "list", "(I)V"⟩, 24) := ⟨⟨by decide +kernel, by decide +kernel⟩, List.mem_of_getElem? (i := 521) (by decide +kernel), List.mem_of_getElem? (i := 723) (by decide +kernel), List.mem_of_getElem? (i := 724) (by decide +kernel)⟩
theorem lw_p29 : lw_okq (⟨"WordIndex2Model", "put", "(J)V"⟩, 24) := ⟨⟨by decide +kernel, by decide +kernel⟩, List.mem_of_getElem? (i := 521) (by decide +kernel), List.mem_of_getElem? (i := 727) (by decide +kernel), List.mem_of_getElem? (i := 728) (by decide +kernel)⟩
theorem lw_p30 : lw_okq (⟨"WordIndex2Model", "distance", "(JJ)I"⟩, 24) := ⟨⟨by decide +kernel, by decide +kernel⟩, List.mem_of_getElem? (i := 521) (by decide +kernel), List.mem_of_getElem? (i := 738) (by decide +kernel), List.mem_of_getElem? (i := 739) (by decide +kernel)⟩
theorem lw_p31 : lw_okq (⟨"WordIndex2Model", "least", "(II)I"⟩, 24) := ⟨⟨by decide +kernel, by decide +kernel⟩, List.mem_of_getElem? (i := 521) (by decide +kernel), List.mem_of_getElem? (i := 745) (by decide +kernel), List.mem_of_getElem? (i := 746) (by decide +kernel)⟩
def lw_privs_2 : List (MethodName × Nat) := [(⟨"WordIndex2Model", "stemOf", "(JI)J"⟩, 24), (⟨"WordIndex2Model", "isStop", "(J)Z"⟩, 24), (⟨"WordIndex2Model", "hasAny", "()Z"⟩, 24), (⟨"WordIndex2Model", "gather", "(II)V"⟩, 24), (⟨"WordIndex2Model", "meetsAll", "()Z"⟩, 24), (⟨"WordIndex2Model", "hasTerm", "(J)Z"⟩, 24), (⟨"WordIndex2Model", "hasPhrase", "()Z"⟩, 24), (⟨"WordIndex2Model", "hasNear", "(I)Z"⟩, 24), (⟨"WordIndex2Model", "wildCount", "(Z)I"⟩, 24), (⟨"WordIndex2Model", "count", "(I)I"⟩, 24), (⟨"WordIndex2Model", "isAsked", "(JI)Z"⟩, 24), (⟨"WordIndex2Model", "found", "(II)V"⟩, 24), (⟨"WordIndex2Model", "list", "(I)V"⟩, 24), (⟨"WordIndex2Model", "put", "(J)V"⟩, 24), (⟨"WordIndex2Model", "distance", "(JJ)I"⟩, 24), (⟨"WordIndex2Model", "least", "(II)I"⟩, 24)]
theorem lw_r2 : ∀ q ∈ lw_privs_2, lw_okq q := List.forall_mem_cons.mpr ⟨lw_p16, List.forall_mem_cons.mpr ⟨lw_p17, List.forall_mem_cons.mpr ⟨lw_p18, List.forall_mem_cons.mpr ⟨lw_p19, List.forall_mem_cons.mpr ⟨lw_p20, List.forall_mem_cons.mpr ⟨lw_p21, List.forall_mem_cons.mpr ⟨lw_p22, List.forall_mem_cons.mpr ⟨lw_p23, List.forall_mem_cons.mpr ⟨lw_p24, List.forall_mem_cons.mpr ⟨lw_p25, List.forall_mem_cons.mpr ⟨lw_p26, List.forall_mem_cons.mpr ⟨lw_p27, List.forall_mem_cons.mpr ⟨lw_p28, List.forall_mem_cons.mpr ⟨lw_p29, List.forall_mem_cons.mpr ⟨lw_p30, List.forall_mem_cons.mpr ⟨lw_p31, fun _ h => absurd h List.not_mem_nil⟩⟩⟩⟩⟩⟩⟩⟩⟩⟩⟩⟩⟩⟩⟩⟩
def lw_privs : List (MethodName × Nat) := lw_privs_1 ++ (lw_privs_2)
def lw_tbl : List Cond := k2_sels lw_privs ++ tables_1
theorem lw_privs_ok : ∀ q ∈ lw_privs, lw_okq q := by
  show ∀ q ∈ lw_privs_1 ++ (lw_privs_2), lw_okq q
  exact List.forall_mem_append.mpr ⟨lw_r1, lw_r2⟩
end
section
def RHits : String := "WordIndex2$Hits"
def THits : u_T := fun k => match k with
  | 0 => ("WordIndex2$Hits", "numbers", "[I", true)
  | 1 => ("WordIndex2$Hits", "counts", "[I", true)
  | 2 => ("WordIndex2$Hits", "sizes", "[I", true)
  | _ => ("WordIndex2$Hits", "count", "I", false)
def tyHits : Nat → FieldType := fun k => match k with
  | 0 => .array .int
  | 1 => .array .int
  | 2 => .array .int
  | _ => .int
abbrev wsHits0 : List Cond := u_ws RHits THits 4
theorem nmHits : ∀ a, a < 4 → ∀ b, b < 4 → a ≠ b → (THits a).2.1 ≠ (THits b).2.1 := by decide +kernel
theorem tyHits_ok : ∀ k, k < 4 → parseFieldDescriptor (THits k).2.2.1 = some (tyHits k) := by decide +kernel
def RItem : String := "WordIndex2$Item"
def TItem : u_T := fun k => match k with
  | 0 => ("WordIndex2$Item", "texts", "[LWordIndex2$Text;", true)
  | _ => ("WordIndex2$Item", "there", "Z", false)
def tyItem : Nat → FieldType := fun k => match k with
  | 0 => .array (.object "WordIndex2$Text")
  | _ => .boolean
abbrev wsItem0 : List Cond := u_ws RItem TItem 2
theorem nmItem : ∀ a, a < 2 → ∀ b, b < 2 → a ≠ b → (TItem a).2.1 ≠ (TItem b).2.1 := by decide +kernel
theorem tyItem_ok : ∀ k, k < 2 → parseFieldDescriptor (TItem k).2.2.1 = some (tyItem k) := by decide +kernel
def RTerms : String := "WordIndex2$Terms"
def TTerms : u_T := fun k => match k with
  | 0 => ("WordIndex2$Terms", "terms", "[J", true)
  | _ => ("WordIndex2$Terms", "count", "I", false)
def tyTerms : Nat → FieldType := fun k => match k with
  | 0 => .array .long
  | _ => .int
abbrev wsTerms0 : List Cond := u_ws RTerms TTerms 2
theorem nmTerms : ∀ a, a < 2 → ∀ b, b < 2 → a ≠ b → (TTerms a).2.1 ≠ (TTerms b).2.1 := by decide +kernel
theorem tyTerms_ok : ∀ k, k < 2 → parseFieldDescriptor (TTerms k).2.2.1 = some (tyTerms k) := by decide +kernel
def RText : String := "WordIndex2$Text"
def TText : u_T := fun k => match k with
  | 0 => ("WordIndex2$Text", "words", "[J", false)
  | 1 => ("WordIndex2$Text", "count", "I", false)
  | _ => ("WordIndex2$Text", "openLetters", "I", false)
def tyText : Nat → FieldType := fun k => match k with
  | 0 => .array .long
  | 1 => .int
  | _ => .int
abbrev wsText0 : List Cond := u_ws RText TText 3
theorem nmText : ∀ a, a < 3 → ∀ b, b < 3 → a ≠ b → (TText a).2.1 ≠ (TText b).2.1 := by decide +kernel
theorem tyText_ok : ∀ k, k < 3 → parseFieldDescriptor (TText k).2.2.1 = some (tyText k) := by decide +kernel
def RWordSet : String := "WordIndex2$WordSet"
def TWordSet : u_T := fun k => match k with
  | 0 => ("WordIndex2$WordSet", "words", "[J", true)
  | _ => ("WordIndex2$WordSet", "count", "I", false)
def tyWordSet : Nat → FieldType := fun k => match k with
  | 0 => .array .long
  | _ => .int
abbrev wsWordSet0 : List Cond := u_ws RWordSet TWordSet 2
theorem nmWordSet : ∀ a, a < 2 → ∀ b, b < 2 → a ≠ b → (TWordSet a).2.1 ≠ (TWordSet b).2.1 := by decide +kernel
theorem tyWordSet_ok : ∀ k, k < 2 → parseFieldDescriptor (TWordSet k).2.2.1 = some (tyWordSet k) := by decide +kernel
def RIx : String := "WordIndex2"
def TIx : u_T := fun k => match k with
  | 0 => ("WordIndex2", "items", "[LWordIndex2$Item;", true)
  | 1 => ("WordIndex2", "itemCount", "I", false)
  | 2 => ("WordIndex2", "fieldSigns", "I", false)
  | 3 => ("WordIndex2", "languages", "[I", true)
  | 4 => ("WordIndex2", "question", "LWordIndex2$Text;", true)
  | 5 => ("WordIndex2", "questionSigns", "I", false)
  | 6 => ("WordIndex2", "stops", "LWordIndex2$WordSet;", true)
  | 7 => ("WordIndex2", "hits", "LWordIndex2$Hits;", true)
  | 8 => ("WordIndex2", "asked", "LWordIndex2$Terms;", true)
  | 9 => ("WordIndex2", "fieldTerms", "LWordIndex2$Terms;", true)
  | 10 => ("WordIndex2", "listed", "LWordIndex2$WordSet;", true)
  | _ => ("WordIndex2", "costs", "[I", true)
def tyIx : Nat → FieldType := fun k => match k with
  | 0 => .array (.object "WordIndex2$Item")
  | 1 => .int
  | 2 => .int
  | 3 => .array .int
  | 4 => .object "WordIndex2$Text"
  | 5 => .int
  | 6 => .object "WordIndex2$WordSet"
  | 7 => .object "WordIndex2$Hits"
  | 8 => .object "WordIndex2$Terms"
  | 9 => .object "WordIndex2$Terms"
  | 10 => .object "WordIndex2$WordSet"
  | _ => .array .int
abbrev wsIx0 : List Cond := u_ws RIx TIx 12
theorem nmIx : ∀ a, a < 12 → ∀ b, b < 12 → a ≠ b → (TIx a).2.1 ≠ (TIx b).2.1 := by decide +kernel
theorem tyIx_ok : ∀ k, k < 12 → parseFieldDescriptor (TIx k).2.2.1 = some (tyIx k) := by decide +kernel
def RAllSearch : String := "WordIndex2$AllSearch"
def TAllSearch : u_T := fun k => match k with
  | _ => ("WordIndex2$AllSearch", "asked", "LWordIndex2$Terms;", true)
def tyAllSearch : Nat → FieldType := fun k => match k with
  | _ => .object "WordIndex2$Terms"
abbrev wsAllSearch0 : List Cond := u_ws RAllSearch TAllSearch 1
theorem nmAllSearch : ∀ a, a < 1 → ∀ b, b < 1 → a ≠ b → (TAllSearch a).2.1 ≠ (TAllSearch b).2.1 := by decide +kernel
theorem tyAllSearch_ok : ∀ k, k < 1 → parseFieldDescriptor (TAllSearch k).2.2.1 = some (tyAllSearch k) := by decide +kernel
def RPhraseSearch : String := "WordIndex2$PhraseSearch"
def TPhraseSearch : u_T := fun k => match k with
  | _ => ("WordIndex2$PhraseSearch", "asked", "LWordIndex2$Terms;", true)
def tyPhraseSearch : Nat → FieldType := fun k => match k with
  | _ => .object "WordIndex2$Terms"
abbrev wsPhraseSearch0 : List Cond := u_ws RPhraseSearch TPhraseSearch 1
theorem nmPhraseSearch : ∀ a, a < 1 → ∀ b, b < 1 → a ≠ b → (TPhraseSearch a).2.1 ≠ (TPhraseSearch b).2.1 := by decide +kernel
theorem tyPhraseSearch_ok : ∀ k, k < 1 → parseFieldDescriptor (TPhraseSearch k).2.2.1 = some (tyPhraseSearch k) := by decide +kernel
def RNearSearch : String := "WordIndex2$NearSearch"
def TNearSearch : u_T := fun k => match k with
  | 0 => ("WordIndex2$NearSearch", "first", "J", true)
  | 1 => ("WordIndex2$NearSearch", "second", "J", true)
  | _ => ("WordIndex2$NearSearch", "distance", "I", true)
def tyNearSearch : Nat → FieldType := fun k => match k with
  | 0 => .long
  | 1 => .long
  | _ => .int
abbrev wsNearSearch0 : List Cond := u_ws RNearSearch TNearSearch 3
theorem nmNearSearch : ∀ a, a < 3 → ∀ b, b < 3 → a ≠ b → (TNearSearch a).2.1 ≠ (TNearSearch b).2.1 := by decide +kernel
theorem tyNearSearch_ok : ∀ k, k < 3 → parseFieldDescriptor (TNearSearch k).2.2.1 = some (tyNearSearch k) := by decide +kernel
def RWildSearch : String := "WordIndex2$WildSearch"
def TWildSearch : u_T := fun k => match k with
  | 0 => ("WordIndex2$WildSearch", "word", "J", true)
  | _ => ("WordIndex2$WildSearch", "end", "Z", true)
def tyWildSearch : Nat → FieldType := fun k => match k with
  | 0 => .long
  | _ => .boolean
abbrev wsWildSearch0 : List Cond := u_ws RWildSearch TWildSearch 2
theorem nmWildSearch : ∀ a, a < 2 → ∀ b, b < 2 → a ≠ b → (TWildSearch a).2.1 ≠ (TWildSearch b).2.1 := by decide +kernel
theorem tyWildSearch_ok : ∀ k, k < 2 → parseFieldDescriptor (TWildSearch k).2.2.1 = some (tyWildSearch k) := by decide +kernel
def RMo : String := "WordIndex2Model"
def TMo : u_T := fun k => match k with
  | 0 => ("WordIndex2Model", "thrown", "I", false)
  | 1 => ("WordIndex2Model", "records", "I", false)
  | 2 => ("WordIndex2Model", "there", "[Z", true)
  | 3 => ("WordIndex2Model", "signs", "I", false)
  | 4 => ("WordIndex2Model", "sign", "[B", true)
  | 5 => ("WordIndex2Model", "place", "[I", true)
  | 6 => ("WordIndex2Model", "languages", "[I", true)
  | 7 => ("WordIndex2Model", "stops", "[J", true)
  | 8 => ("WordIndex2Model", "stopCount", "I", false)
  | 9 => ("WordIndex2Model", "said", "[B", true)
  | 10 => ("WordIndex2Model", "size", "I", false)
  | 11 => ("WordIndex2Model", "asked", "[J", true)
  | 12 => ("WordIndex2Model", "askedCount", "I", false)
  | 13 => ("WordIndex2Model", "row", "[J", true)
  | 14 => ("WordIndex2Model", "rowTerm", "[J", true)
  | 15 => ("WordIndex2Model", "askedTerm", "[J", true)
  | 16 => ("WordIndex2Model", "rowCount", "I", false)
  | 17 => ("WordIndex2Model", "hits", "I", false)
  | 18 => ("WordIndex2Model", "hitRecord", "[I", true)
  | 19 => ("WordIndex2Model", "hitCount", "[I", true)
  | 20 => ("WordIndex2Model", "hitWords", "[I", true)
  | 21 => ("WordIndex2Model", "terms", "[J", true)
  | 22 => ("WordIndex2Model", "termCount", "I", false)
  | _ => ("WordIndex2Model", "table", "[I", true)
def tyMo : Nat → FieldType := fun k => match k with
  | 0 => .int
  | 1 => .int
  | 2 => .array .boolean
  | 3 => .int
  | 4 => .array .byte
  | 5 => .array .int
  | 6 => .array .int
  | 7 => .array .long
  | 8 => .int
  | 9 => .array .byte
  | 10 => .int
  | 11 => .array .long
  | 12 => .int
  | 13 => .array .long
  | 14 => .array .long
  | 15 => .array .long
  | 16 => .int
  | 17 => .int
  | 18 => .array .int
  | 19 => .array .int
  | 20 => .array .int
  | 21 => .array .long
  | 22 => .int
  | _ => .array .int
abbrev wsMo0 : List Cond := u_ws RMo TMo 24
theorem nmMo : ∀ a, a < 24 → ∀ b, b < 24 → a ≠ b → (TMo a).2.1 ≠ (TMo b).2.1 := by decide +kernel
theorem tyMo_ok : ∀ k, k < 24 → parseFieldDescriptor (TMo k).2.2.1 = some (tyMo k) := by decide +kernel
def RSearch : String := "WordIndex2$Search"
def RWord : String := "WordIndex2$Word"
def RArrays : String := "java/util/Arrays"
abbrev cIx_init : ByteArray := prog_1_method_1_code
def yIx_init : MethodName := ⟨RIx, "<init>", "()V"⟩
abbrev cText_init : ByteArray := prog_9_method_1_code
def yText_init : MethodName := ⟨RText, "<init>", "()V"⟩
abbrev cWordSet_init : ByteArray := prog_12_method_1_code
def yWordSet_init : MethodName := ⟨RWordSet, "<init>", "(I)V"⟩
abbrev cHits_init : ByteArray := prog_3_method_1_code
def yHits_init : MethodName := ⟨RHits, "<init>", "()V"⟩
abbrev cTerms_init : ByteArray := prog_8_method_1_code
def yTerms_init : MethodName := ⟨RTerms, "<init>", "(I)V"⟩
abbrev cIx_record : ByteArray := prog_1_method_2_code
def yIx_record : MethodName := ⟨RIx, "record", "()I"⟩
abbrev cItem_init : ByteArray := prog_4_method_1_code
def yItem_init : MethodName := ⟨RItem, "<init>", "()V"⟩
abbrev cIx_field : ByteArray := prog_1_method_3_code
def yIx_field : MethodName := ⟨RIx, "field", "(III)V"⟩
abbrev cIx_textOf : ByteArray := prog_1_method_18_code
def yIx_textOf : MethodName := ⟨RIx, "textOf", "(II)LWordIndex2$Text;"⟩
abbrev cIx_itemThere : ByteArray := prog_1_method_17_code
def yIx_itemThere : MethodName := ⟨RIx, "itemThere", "(I)LWordIndex2$Item;"⟩
abbrev cItem_textAt : ByteArray := prog_4_method_2_code
def yItem_textAt : MethodName := ⟨RItem, "textAt", "(I)LWordIndex2$Text;"⟩
abbrev cText_take : ByteArray := prog_9_method_5_code
def yText_take : MethodName := ⟨RText, "take", "(I)V"⟩
abbrev cWord_letterOf : ByteArray := prog_11_method_2_code
def yWord_letterOf : MethodName := ⟨RWord, "letterOf", "(I)I"⟩
abbrev cText_beginWord : ByteArray := prog_9_method_6_code
def yText_beginWord : MethodName := ⟨RText, "beginWord", "()V"⟩
abbrev cArrays_copyOf : ByteArray := prog_18_method_124_code
def yArrays_copyOf : MethodName := ⟨RArrays, "copyOf", "([JI)[J"⟩
abbrev cWord_with : ByteArray := prog_11_method_3_code
def yWord_with : MethodName := ⟨RWord, "with", "(JII)J"⟩
abbrev cWord_shift : ByteArray := prog_11_method_12_code
def yWord_shift : MethodName := ⟨RWord, "shift", "(I)I"⟩
abbrev cIx_remove : ByteArray := prog_1_method_4_code
def yIx_remove : MethodName := ⟨RIx, "remove", "(I)I"⟩
abbrev cIx_sign : ByteArray := prog_1_method_5_code
def yIx_sign : MethodName := ⟨RIx, "sign", "(I)V"⟩
abbrev cIx_ask : ByteArray := prog_1_method_6_code
def yIx_ask : MethodName := ⟨RIx, "ask", "(I)I"⟩
abbrev cIx_startSearch : ByteArray := prog_1_method_20_code
def yIx_startSearch : MethodName := ⟨RIx, "startSearch", "(I)V"⟩
abbrev cHits_clear : ByteArray := prog_3_method_6_code
def yHits_clear : MethodName := ⟨RHits, "clear", "()V"⟩
abbrev cTerms_clear : ByteArray := prog_8_method_4_code
def yTerms_clear : MethodName := ⟨RTerms, "clear", "()V"⟩
abbrev cIx_isKind : ByteArray := prog_1_method_16_code
def yIx_isKind : MethodName := ⟨RIx, "isKind", "(I)Z"⟩
abbrev cTerms_read : ByteArray := prog_8_method_5_code
def yTerms_read : MethodName := ⟨RTerms, "read", "(LWordIndex2$Text;ILWordIndex2$WordSet;)V"⟩
abbrev cText_size : ByteArray := prog_9_method_2_code
def yText_size : MethodName := ⟨RText, "size", "()I"⟩
abbrev cText_wordAt : ByteArray := prog_9_method_3_code
def yText_wordAt : MethodName := ⟨RText, "wordAt", "(I)J"⟩
abbrev cWordSet_has : ByteArray := prog_12_method_5_code
def yWordSet_has : MethodName := ⟨RWordSet, "has", "(J)Z"⟩
abbrev cWordSet_placeOf : ByteArray := prog_12_method_7_code
def yWordSet_placeOf : MethodName := ⟨RWordSet, "placeOf", "(J)I"⟩
abbrev cWordSet_at : ByteArray := prog_12_method_3_code
def yWordSet_at : MethodName := ⟨RWordSet, "at", "(I)J"⟩
abbrev cWord_stem : ByteArray := prog_11_method_7_code
def yWord_stem : MethodName := ⟨RWord, "stem", "(JI)J"⟩
abbrev cWord_length : ByteArray := prog_11_method_6_code
def yWord_length : MethodName := ⟨RWord, "length", "(J)I"⟩
abbrev cWord_letterAt : ByteArray := prog_11_method_4_code
def yWord_letterAt : MethodName := ⟨RWord, "letterAt", "(JI)I"⟩
abbrev cWord_firstLetters : ByteArray := prog_11_method_13_code
def yWord_firstLetters : MethodName := ⟨RWord, "firstLetters", "(JI)J"⟩
abbrev cIx_clearQuestion : ByteArray := prog_1_method_19_code
def yIx_clearQuestion : MethodName := ⟨RIx, "clearQuestion", "()V"⟩
abbrev cText_clear : ByteArray := prog_9_method_4_code
def yText_clear : MethodName := ⟨RText, "clear", "()V"⟩
abbrev cTerms_hasAny : ByteArray := prog_8_method_7_code
def yTerms_hasAny : MethodName := ⟨RTerms, "hasAny", "()Z"⟩
abbrev cTerms_at : ByteArray := prog_8_method_3_code
def yTerms_at : MethodName := ⟨RTerms, "at", "(I)J"⟩
abbrev cAllSearch_init : ByteArray := prog_2_method_1_code
def yAllSearch_init : MethodName := ⟨RAllSearch, "<init>", "(LWordIndex2$Terms;)V"⟩
abbrev cSearch_init : ByteArray := prog_7_method_1_code
def ySearch_init : MethodName := ⟨RSearch, "<init>", "()V"⟩
abbrev cIx_gather : ByteArray := prog_1_method_21_code
def yIx_gather : MethodName := ⟨RIx, "gather", "(ILWordIndex2$Search;)I"⟩
abbrev cIx_readField : ByteArray := prog_1_method_22_code
def yIx_readField : MethodName := ⟨RIx, "readField", "(II)Z"⟩
abbrev cAllSearch_meets : ByteArray := prog_2_method_2_code
def yAllSearch_meets : MethodName := ⟨RAllSearch, "meets", "(LWordIndex2$Terms;)Z"⟩
abbrev cTerms_size : ByteArray := prog_8_method_2_code
def yTerms_size : MethodName := ⟨RTerms, "size", "()I"⟩
abbrev cTerms_has : ByteArray := prog_8_method_6_code
def yTerms_has : MethodName := ⟨RTerms, "has", "(J)Z"⟩
abbrev cNearSearch_meets : ByteArray := prog_5_method_2_code
def yNearSearch_meets : MethodName := ⟨RNearSearch, "meets", "(LWordIndex2$Terms;)Z"⟩
abbrev cNearSearch_secondIsBeside : ByteArray := prog_5_method_4_code
def yNearSearch_secondIsBeside : MethodName := ⟨RNearSearch, "secondIsBeside", "(LWordIndex2$Terms;I)Z"⟩
abbrev cPhraseSearch_meets : ByteArray := prog_6_method_2_code
def yPhraseSearch_meets : MethodName := ⟨RPhraseSearch, "meets", "(LWordIndex2$Terms;)Z"⟩
abbrev cPhraseSearch_standsAt : ByteArray := prog_6_method_4_code
def yPhraseSearch_standsAt : MethodName := ⟨RPhraseSearch, "standsAt", "(LWordIndex2$Terms;I)Z"⟩
abbrev cWildSearch_meets : ByteArray := prog_10_method_2_code
def yWildSearch_meets : MethodName := ⟨RWildSearch, "meets", "(LWordIndex2$Terms;)Z"⟩
abbrev cSearch_countIn : ByteArray := prog_7_method_4_code
def ySearch_countIn : MethodName := ⟨RSearch, "countIn", "(LWordIndex2$Terms;)I"⟩
abbrev cAllSearch_wants : ByteArray := prog_2_method_3_code
def yAllSearch_wants : MethodName := ⟨RAllSearch, "wants", "(J)Z"⟩
abbrev cNearSearch_wants : ByteArray := prog_5_method_3_code
def yNearSearch_wants : MethodName := ⟨RNearSearch, "wants", "(J)Z"⟩
abbrev cPhraseSearch_wants : ByteArray := prog_6_method_3_code
def yPhraseSearch_wants : MethodName := ⟨RPhraseSearch, "wants", "(J)Z"⟩
abbrev cWildSearch_wants : ByteArray := prog_10_method_3_code
def yWildSearch_wants : MethodName := ⟨RWildSearch, "wants", "(J)Z"⟩
abbrev cWord_endsWith : ByteArray := prog_11_method_9_code
def yWord_endsWith : MethodName := ⟨RWord, "endsWith", "(JJ)Z"⟩
abbrev cWord_beginsWith : ByteArray := prog_11_method_8_code
def yWord_beginsWith : MethodName := ⟨RWord, "beginsWith", "(JJ)Z"⟩
abbrev cHits_add : ByteArray := prog_3_method_7_code
def yHits_add : MethodName := ⟨RHits, "add", "(III)V"⟩
abbrev cHits_isGreater : ByteArray := prog_3_method_8_code
def yHits_isGreater : MethodName := ⟨RHits, "isGreater", "(III)Z"⟩
abbrev cHits_sizeAt : ByteArray := prog_3_method_5_code
def yHits_sizeAt : MethodName := ⟨RHits, "sizeAt", "(I)I"⟩
abbrev cHits_isHit : ByteArray := prog_3_method_9_code
def yHits_isHit : MethodName := ⟨RHits, "isHit", "(I)Z"⟩
abbrev cHits_countAt : ByteArray := prog_3_method_4_code
def yHits_countAt : MethodName := ⟨RHits, "countAt", "(I)I"⟩
abbrev cHits_size : ByteArray := prog_3_method_2_code
def yHits_size : MethodName := ⟨RHits, "size", "()I"⟩
abbrev cIx_phrase : ByteArray := prog_1_method_7_code
def yIx_phrase : MethodName := ⟨RIx, "phrase", "(I)I"⟩
abbrev cPhraseSearch_init : ByteArray := prog_6_method_1_code
def yPhraseSearch_init : MethodName := ⟨RPhraseSearch, "<init>", "(LWordIndex2$Terms;)V"⟩
abbrev cIx_near : ByteArray := prog_1_method_8_code
def yIx_near : MethodName := ⟨RIx, "near", "(II)I"⟩
abbrev cNearSearch_init : ByteArray := prog_5_method_1_code
def yNearSearch_init : MethodName := ⟨RNearSearch, "<init>", "(JJI)V"⟩
abbrev cIx_wild : ByteArray := prog_1_method_9_code
def yIx_wild : MethodName := ⟨RIx, "wild", "(IZ)I"⟩
abbrev cWildSearch_init : ByteArray := prog_10_method_1_code
def yWildSearch_init : MethodName := ⟨RWildSearch, "<init>", "(JZ)V"⟩
abbrev cIx_hit : ByteArray := prog_1_method_10_code
def yIx_hit : MethodName := ⟨RIx, "hit", "(II)I"⟩
abbrev cHits_numberAt : ByteArray := prog_3_method_3_code
def yHits_numberAt : MethodName := ⟨RHits, "numberAt", "(I)I"⟩
abbrev cIx_rank : ByteArray := prog_1_method_11_code
def yIx_rank : MethodName := ⟨RIx, "rank", "(II)J"⟩
abbrev cIx_commonDivisor : ByteArray := prog_1_method_25_code
def yIx_commonDivisor : MethodName := ⟨RIx, "commonDivisor", "(II)I"⟩
abbrev cIx_term : ByteArray := prog_1_method_12_code
def yIx_term : MethodName := ⟨RIx, "term", "(III)I"⟩
abbrev cIx_listTerms : ByteArray := prog_1_method_23_code
def yIx_listTerms : MethodName := ⟨RIx, "listTerms", "(I)V"⟩
abbrev cWordSet_clear : ByteArray := prog_12_method_4_code
def yWordSet_clear : MethodName := ⟨RWordSet, "clear", "()V"⟩
abbrev cIx_listFieldTerms : ByteArray := prog_1_method_24_code
def yIx_listFieldTerms : MethodName := ⟨RIx, "listFieldTerms", "()V"⟩
abbrev cWordSet_add : ByteArray := prog_12_method_6_code
def yWordSet_add : MethodName := ⟨RWordSet, "add", "(J)V"⟩
abbrev cWord_signAt : ByteArray := prog_11_method_5_code
def yWord_signAt : MethodName := ⟨RWord, "signAt", "(JI)I"⟩
abbrev cIx_nearest : ByteArray := prog_1_method_13_code
def yIx_nearest : MethodName := ⟨RIx, "nearest", "(I)I"⟩
abbrev cWordSet_size : ByteArray := prog_12_method_2_code
def yWordSet_size : MethodName := ⟨RWordSet, "size", "()I"⟩
abbrev cWord_distance : ByteArray := prog_11_method_10_code
def yWord_distance : MethodName := ⟨RWord, "distance", "(JJ[I)I"⟩
abbrev cWord_nextCosts : ByteArray := prog_11_method_11_code
def yWord_nextCosts : MethodName := ⟨RWord, "nextCosts", "(IJI[I)V"⟩
abbrev cIx_stop : ByteArray := prog_1_method_14_code
def yIx_stop : MethodName := ⟨RIx, "stop", "()I"⟩
abbrev cIx_language : ByteArray := prog_1_method_15_code
def yIx_language : MethodName := ⟨RIx, "language", "(II)I"⟩
abbrev cMo_init : ByteArray := prog_14_method_1_code
def yMo_init : MethodName := ⟨RMo, "<init>", "()V"⟩
abbrev cMo_record : ByteArray := prog_14_method_3_code
def yMo_record : MethodName := ⟨RMo, "record", "()I"⟩
abbrev cMo_field : ByteArray := prog_14_method_5_code
def yMo_field : MethodName := ⟨RMo, "field", "(III)V"⟩
abbrev cMo_isField : ByteArray := prog_14_method_4_code
def yMo_isField : MethodName := ⟨RMo, "isField", "(I)Z"⟩
abbrev cMo_remove : ByteArray := prog_14_method_6_code
def yMo_remove : MethodName := ⟨RMo, "remove", "(I)I"⟩
abbrev cMo_sign : ByteArray := prog_14_method_7_code
def yMo_sign : MethodName := ⟨RMo, "sign", "(I)V"⟩
abbrev cMo_ask : ByteArray := prog_14_method_27_code
def yMo_ask : MethodName := ⟨RMo, "ask", "(I)I"⟩
abbrev cMo_question : ByteArray := prog_14_method_26_code
def yMo_question : MethodName := ⟨RMo, "question", "(IIIZ)I"⟩
abbrev cMo_take : ByteArray := prog_14_method_12_code
def yMo_take : MethodName := ⟨RMo, "take", "()V"⟩
abbrev cMo_letter : ByteArray := prog_14_method_8_code
def yMo_letter : MethodName := ⟨RMo, "letter", "(I)I"⟩
abbrev cMo_lay : ByteArray := prog_14_method_11_code
def yMo_lay : MethodName := ⟨RMo, "lay", "([JIZI)I"⟩
abbrev cMo_length : ByteArray := prog_14_method_9_code
def yMo_length : MethodName := ⟨RMo, "length", "(J)I"⟩
abbrev cMo_stemOf : ByteArray := prog_14_method_15_code
def yMo_stemOf : MethodName := ⟨RMo, "stemOf", "(JI)J"⟩
abbrev cMo_isStop : ByteArray := prog_14_method_14_code
def yMo_isStop : MethodName := ⟨RMo, "isStop", "(J)Z"⟩
abbrev cMo_last : ByteArray := prog_14_method_10_code
def yMo_last : MethodName := ⟨RMo, "last", "(J)I"⟩
abbrev cMo_hasAny : ByteArray := prog_14_method_25_code
def yMo_hasAny : MethodName := ⟨RMo, "hasAny", "()Z"⟩
abbrev cMo_gather : ByteArray := prog_14_method_13_code
def yMo_gather : MethodName := ⟨RMo, "gather", "(II)V"⟩
abbrev cMo_meetsAll : ByteArray := prog_14_method_20_code
def yMo_meetsAll : MethodName := ⟨RMo, "meetsAll", "()Z"⟩
abbrev cMo_hasTerm : ByteArray := prog_14_method_19_code
def yMo_hasTerm : MethodName := ⟨RMo, "hasTerm", "(J)Z"⟩
abbrev cMo_hasPhrase : ByteArray := prog_14_method_21_code
def yMo_hasPhrase : MethodName := ⟨RMo, "hasPhrase", "()Z"⟩
abbrev cMo_hasNear : ByteArray := prog_14_method_22_code
def yMo_hasNear : MethodName := ⟨RMo, "hasNear", "(I)Z"⟩
abbrev cMo_wildCount : ByteArray := prog_14_method_24_code
def yMo_wildCount : MethodName := ⟨RMo, "wildCount", "(Z)I"⟩
abbrev cMo_goesWith : ByteArray := prog_14_method_23_code
def yMo_goesWith : MethodName := ⟨RMo, "goesWith", "(JJZ)Z"⟩
abbrev cMo_count : ByteArray := prog_14_method_18_code
def yMo_count : MethodName := ⟨RMo, "count", "(I)I"⟩
abbrev cMo_isAsked : ByteArray := prog_14_method_17_code
def yMo_isAsked : MethodName := ⟨RMo, "isAsked", "(JI)Z"⟩
abbrev cMo_found : ByteArray := prog_14_method_16_code
def yMo_found : MethodName := ⟨RMo, "found", "(II)V"⟩
abbrev cMo_phrase : ByteArray := prog_14_method_28_code
def yMo_phrase : MethodName := ⟨RMo, "phrase", "(I)I"⟩
abbrev cMo_near : ByteArray := prog_14_method_29_code
def yMo_near : MethodName := ⟨RMo, "near", "(II)I"⟩
abbrev cMo_wild : ByteArray := prog_14_method_30_code
def yMo_wild : MethodName := ⟨RMo, "wild", "(IZ)I"⟩
abbrev cMo_hit : ByteArray := prog_14_method_31_code
def yMo_hit : MethodName := ⟨RMo, "hit", "(II)I"⟩
abbrev cMo_rank : ByteArray := prog_14_method_32_code
def yMo_rank : MethodName := ⟨RMo, "rank", "(II)J"⟩
abbrev cMo_term : ByteArray := prog_14_method_36_code
def yMo_term : MethodName := ⟨RMo, "term", "(III)I"⟩
abbrev cMo_list : ByteArray := prog_14_method_34_code
def yMo_list : MethodName := ⟨RMo, "list", "(I)V"⟩
abbrev cMo_put : ByteArray := prog_14_method_35_code
def yMo_put : MethodName := ⟨RMo, "put", "(J)V"⟩
abbrev cMo_aligned : ByteArray := prog_14_method_33_code
def yMo_aligned : MethodName := ⟨RMo, "aligned", "(J)J"⟩
abbrev cMo_nearest : ByteArray := prog_14_method_40_code
def yMo_nearest : MethodName := ⟨RMo, "nearest", "(I)I"⟩
abbrev cMo_distance : ByteArray := prog_14_method_39_code
def yMo_distance : MethodName := ⟨RMo, "distance", "(JJ)I"⟩
abbrev cMo_at : ByteArray := prog_14_method_37_code
def yMo_at : MethodName := ⟨RMo, "at", "(JII)I"⟩
abbrev cMo_least : ByteArray := prog_14_method_38_code
def yMo_least : MethodName := ⟨RMo, "least", "(II)I"⟩
abbrev cMo_stop : ByteArray := prog_14_method_41_code
def yMo_stop : MethodName := ⟨RMo, "stop", "()I"⟩
abbrev cMo_language : ByteArray := prog_14_method_42_code
def yMo_language : MethodName := ⟨RMo, "language", "(II)I"⟩
abbrev vwCl : List vw_C := [(RHits, THits, 4), (RItem, TItem, 2), (RTerms, TTerms, 2), (RText, TText, 3), (RWordSet, TWordSet, 2), (RIx, TIx, 12), (RAllSearch, TAllSearch, 1), (RPhraseSearch, TPhraseSearch, 1), (RNearSearch, TNearSearch, 3), (RWildSearch, TWildSearch, 2), (RMo, TMo, 24)]
abbrev hwT (K : Nat → ClassId) : List (ClassId × FieldType) := [(K 0, .int), (K 1, .long), (K 2, .boolean), (K 3, .byte), (K 4, .object RItem), (K 5, .object RText)]
def xSearch_meets : MethodName := ⟨RSearch, "meets", "(LWordIndex2$Terms;)Z"⟩
def xSearch_wants : MethodName := ⟨RSearch, "wants", "(J)Z"⟩
def xWild_countIn : MethodName := ⟨RWildSearch, "countIn", "(LWordIndex2$Terms;)I"⟩
def hwN : List Cond := [.methodLinkNest RIx 21 yText_init "WordIndex2", .methodLinkNest RIx 37 yHits_init "WordIndex2", .methodLinkNest RItem 21 yText_init "WordIndex2", .fieldLinkNest RIx 77 RItem "there" "Z" "WordIndex2", .methodLinkNest RAllSearch 1 ySearch_init "WordIndex2", .declares xSearch_meets, .declares ySearch_countIn, .declares xSearch_wants, .methodLinkNest RPhraseSearch 1 ySearch_init "WordIndex2", .methodLinkNest RNearSearch 1 ySearch_init "WordIndex2", .methodLinkNest RWildSearch 1 ySearch_init "WordIndex2"]
theorem hwN_all : hwN.all (fun w => w.onTables) = true := by decide +kernel
theorem hwN_tab (w : Cond) (h : w ∈ hwN) : w.onTables = true := List.all_eq_true.mp hwN_all w h
theorem hwN_warm {s U : State} (hW : s.WarmedH U.vm) (w : Cond) (h : w ∈ hwN) (hZ : va_Nw w s) : va_Nw w U := by
  unfold hwN at h
  simp only [List.mem_cons, List.not_mem_nil, or_false] at h
  rcases h with rfl | rfl | rfl | rfl | rfl | rfl | rfl | rfl | rfl | rfl | rfl <;> first | exact va_Nw.warmM hW hZ | exact va_Nw.warmF hW hZ | exact va_Nw.warmD hW hZ
/-! the words: one list for all methods -/
def hwG : List Cond := lw_tbl.filter goodWord
theorem hwG_all {w : Cond} (h : w ∈ hwG) : goodWord w = true := (List.mem_filter.mp h).2
theorem hwIx {w : Cond} (i : Nat) (h : lw_tbl[i]? = some w) (hg : goodWord w = true) : w ∈ hwG := List.mem_filter.mpr ⟨List.mem_of_getElem? h, hg⟩
theorem hwSub {ws : List Cond} (h : ∀ w ∈ ws, w ∈ lw_tbl) (hg : ws.all goodWord = true) : ∀ w ∈ ws, w ∈ hwG := fun w hw => List.mem_filter.mpr ⟨h w hw, List.all_eq_true.mp hg w hw⟩
theorem hwGood {c0 : Cond} {ws : List Cond} (h : ∀ w ∈ ws, w ∈ hwG) : GoodIn (c0 :: hwG) ws := fun w hw => ⟨List.mem_cons_of_mem _ (h w hw), good_of_word (hwG_all (h w hw))⟩
theorem hwAll {c1 : Cond} (h : c1 ∈ hwG) : ∀ w ∈ c1 :: hwG, w ∈ hwG := fun w hw => (List.mem_cons.mp hw).elim (fun e => e ▸ h) (fun h => h)
theorem hwMem {c0 w : Cond} (h : w ∈ hwG) : w ∈ c0 :: hwG := List.mem_cons_of_mem _ h
theorem hwInn {c0 : Cond} {ws : List Cond} (h : ∀ w ∈ ws, w ∈ hwG) : ∀ w ∈ ws, w ∈ c0 :: hwG := fun w hw => List.mem_cons_of_mem _ (h w hw)
theorem hw_4 {own C : String} {idx : Nat} {y : MethodName} {ws : List Cond} (h1 : Cond.methodLink own idx y ∈ hwG) (h2 : Cond.instanceMethod y ∈ hwG) (h3 : Cond.selects C y y ∈ hwG) (h4 : Cond.initialized C ∈ hwG) (h : ∀ w ∈ ws, w ∈ hwG) : ∀ w ∈ wsV own idx C y ws, w ∈ hwG := by
  intro w hw
  unfold wsV at hw
  rcases List.mem_append.mp hw with q | q
  · simp only [List.mem_cons, List.not_mem_nil, or_false] at q
    rcases q with rfl | rfl | rfl | rfl <;> assumption
  · exact h w q
theorem hw_3 {own : String} {idx : Nat} {y : MethodName} {ws : List Cond} (h1 : Cond.methodLink own idx y ∈ hwG) (h2 : Cond.static y ∈ hwG) (h4 : Cond.initialized y.cls ∈ hwG) (h : ∀ w ∈ ws, w ∈ hwG) : ∀ w ∈ va_wsS own idx y ws, w ∈ hwG := by
  intro w hw
  unfold va_wsS at hw
  rcases List.mem_append.mp hw with q | q
  · simp only [List.mem_cons, List.not_mem_nil, or_false] at q
    rcases q with rfl | rfl | rfl <;> assumption
  · exact h w q
theorem hw_nw {w : Cond} {A : Array Value} {U : State} (hw : w.onTables = true) (h : w.before A U = true) : va_Nw w U := va_tabs hw rfl h
theorem inHits : ∀ w ∈ wsHits0, w ∈ hwG := hwSub (by decide +kernel) (by decide +kernel)
theorem inItem : ∀ w ∈ wsItem0, w ∈ hwG := hwSub (by decide +kernel) (by decide +kernel)
theorem inTerms : ∀ w ∈ wsTerms0, w ∈ hwG := hwSub (by decide +kernel) (by decide +kernel)
theorem inText : ∀ w ∈ wsText0, w ∈ hwG := hwSub (by decide +kernel) (by decide +kernel)
theorem inWordSet : ∀ w ∈ wsWordSet0, w ∈ hwG := hwSub (by decide +kernel) (by decide +kernel)
theorem inIx : ∀ w ∈ wsIx0, w ∈ hwG := hwSub (by decide +kernel) (by decide +kernel)
theorem inAllSearch : ∀ w ∈ wsAllSearch0, w ∈ hwG := hwSub (by decide +kernel) (by decide +kernel)
theorem inPhraseSearch : ∀ w ∈ wsPhraseSearch0, w ∈ hwG := hwSub (by decide +kernel) (by decide +kernel)
theorem inNearSearch : ∀ w ∈ wsNearSearch0, w ∈ hwG := hwSub (by decide +kernel) (by decide +kernel)
theorem inWildSearch : ∀ w ∈ wsWildSearch0, w ∈ hwG := hwSub (by decide +kernel) (by decide +kernel)
theorem inMo : ∀ w ∈ wsMo0, w ∈ hwG := hwSub (by decide +kernel) (by decide +kernel)
end
section
/-! A WORLD BY MEMBERSHIP: X = (cells, labels). A fact 'hwH X a L e': the cell at a is e, and bears the label L. Cells with different labels are apart: what is written under one label leaves the facts of all others (hwF). -/
abbrev hwW : Type := va_W × (Nat → Nat)
def hwH (X : hwW) (a L : Nat) (e : va_E) : Prop := (∃ k : Nat, X.1[k]? = some (a, e)) ∧ X.2 a = L
def hwF (X Y : hwW) (S : Nat → Prop) : Prop := ∀ (b M : Nat) (e : va_E), ¬ S M → hwH X b M e → hwH Y b M e
def hwZ (D : va_G) (cl : List vw_C) (A : Nat → Prop) (H0 : Heap) (X : hwW) (H : Heap) (locs : List Loc) : Prop := va_P D cl X.1 H ∧ va_D A X.1 ∧ va_S A H0 H locs
theorem hwF.rf {X : hwW} {S : Nat → Prop} : hwF X X S := fun _ _ _ _ h => h
theorem hwF.tr {X Y Z : hwW} {S T U : Nat → Prop} (h1 : hwF X Y S) (h2 : hwF Y Z T) (hS : ∀ M, S M → U M) (hT : ∀ M, T M → U M) : hwF X Z U := fun b M e hM h => h2 b M e (fun q => hM (hT M q)) (h1 b M e (fun q => hM (hS M q)) h)
theorem hwF.wk {X Y : hwW} {S U : Nat → Prop} (h1 : hwF X Y S) (hS : ∀ M, S M → U M) : hwF X Y U := fun b M e hM h => h1 b M e (fun q => hM (hS M q)) h
theorem hw_set_self {ws : va_W} {q0 : Nat} {x y : Nat × va_E} (h : ws[q0]? = some x) : (ws.set q0 y)[q0]? = some y := by
  have hlt : q0 < ws.length := (List.getElem?_eq_some_iff.mp h).1
  simp [List.getElem?_set, hlt]
theorem hwF.set {X : hwW} {q0 a L : Nat} {e0 e : va_E} (h : X.1[q0]? = some (a, e0)) (hL : X.2 a = L) : hwF X (X.1.set q0 (a, e), X.2) (fun M => M = L) := by
  intro b M e1 hM hb
  obtain ⟨⟨k, hk⟩, hm⟩ := hb
  refine ⟨⟨k, ?_⟩, hm⟩
  have hne : q0 ≠ k := by
    intro q
    subst q
    rw [h] at hk
    cases hk
    exact hM (hm.symm.trans hL)
  show (X.1.set q0 (a, e))[k]? = some (b, e1)
  rw [List.getElem?_set_ne hne]
  exact hk
theorem hwF.push {A : Nat → Prop} {X : hwW} {q L : Nat} {e : va_E} (hD : va_D A (X.1 ++ [(q, e)])) : hwF X (X.1 ++ [(q, e)], va_up X.2 q L) (fun _ => False) := by
  intro b M e1 hM hb
  obtain ⟨⟨k, hk⟩, hm⟩ := hb
  have hlt : k < X.1.length := (List.getElem?_eq_some_iff.mp hk).1
  have h1 : (X.1 ++ [(q, e)])[k]? = some (b, e1) := by rw [List.getElem?_append_left hlt]; exact hk
  have h2 : (X.1 ++ [(q, e)])[X.1.length]? = some (q, e) := by simp
  refine ⟨⟨k, h1⟩, ?_⟩
  show va_up X.2 q L b = M
  rw [va_up_ne]
  · exact hm
  · intro hbq
    have := hD.1 k X.1.length _ _ h1 h2 hbq
    omega
theorem hwH.push {X : hwW} {q L : Nat} {e : va_E} : hwH (X.1 ++ [(q, e)], va_up X.2 q L) q L e := ⟨⟨X.1.length, by simp⟩, va_up_self _ _ _⟩
/-- two facts of one address say the same -/
theorem hwH.one {D : va_G} {cl : List vw_C} {A : Nat → Prop} {H0 H : Heap} {X : hwW} {locs : List Loc} (hZ : hwZ D cl A H0 X H locs) {a L M : Nat} {e f : va_E} (h1 : hwH X a L e) (h2 : hwH X a M f) : e = f ∧ L = M := by
  obtain ⟨⟨k, hk⟩, hL⟩ := h1
  obtain ⟨⟨j, hj⟩, hM⟩ := h2
  have := hZ.2.1.1 k j _ _ hk hj rfl
  subst this
  rw [hk] at hj
  cases hj
  exact ⟨rfl, hL.symm.trans hM⟩
theorem hwZ.up {D : va_G} {cl : List vw_C} {A : Nat → Prop} {H0 H : Heap} {X : hwW} {locs : List Loc} (hZ : hwZ D cl A H0 X H locs) (hA : ∀ q, H0.size ≤ q → A q) : ∀ q, va_A X.1 H.size q → A q := by
  intro q h
  rcases h with ⟨k, e, h⟩ | h
  · exact hZ.2.1.2 k _ h
  · exact hA q (Nat.le_trans hZ.2.2.1 h)
def hwO (tys : List (ClassId × FieldType)) (U : State) : Prop := (∀ (k : Nat) (q : ClassId) (C : String), tys[k]? = some (q, .object C) → va_AO C U) ∧ ∀ w ∈ hwN, va_Nw w U
theorem hwO.same {tys : List (ClassId × FieldType)} {u U : State} (h : u.vm = U.vm) (hO : hwO tys u) : hwO tys U := ⟨fun k q C e => va_AO.moved (h ▸ Vm.Alike.refl u.vm) (hO.1 k q C e), fun w hw => va_Nw.same (hwN_tab w hw) h (hO.2 w hw)⟩
theorem hwO.warm {tys : List (ClassId × FieldType)} {s U : State} (hW : s.WarmedH U.vm) (hO : hwO tys s) : hwO tys U := ⟨fun k q C e => va_AO.moved hW.alike (hO.1 k q C e), fun w hw => hwN_warm hW w hw (hO.2 w hw)⟩
def hwPc (D : va_G) (cl : List vw_C) (tys : List (ClassId × FieldType)) (av : List Value) (X : hwW) (sz : Nat) : Array Value → State → Prop := va_Pc av (fun U => U.heap.size = sz ∧ va_P D cl X.1 U.heap ∧ va_K D cl tys U ∧ va_D (fun _ => True) X.1 ∧ hwO tys U)
def hwB (D : va_G) (cl : List vw_C) (X : hwW) (sz : Nat) (Y : hwW) (t : State) : Prop := va_P D cl Y.1 t.heap ∧ va_D (va_A X.1 sz) Y.1
abbrev hwQi (D : va_G) (cl : List vw_C) (X : hwW) (sz : Nat) (post : Int32 → hwW → Prop) : Array Value → State → Outcome → State → Prop := va_Qi post (hwB D cl X sz) (va_A X.1 sz)
abbrev hwQl (D : va_G) (cl : List vw_C) (X : hwW) (sz : Nat) (post : Int64 → hwW → Prop) : Array Value → State → Outcome → State → Prop := va_Ql post (hwB D cl X sz) (va_A X.1 sz)
abbrev hwQv (D : va_G) (cl : List vw_C) (X : hwW) (sz : Nat) (post : hwW → Prop) : Array Value → State → Outcome → State → Prop := va_Qv post (hwB D cl X sz) (va_A X.1 sz)
abbrev hwQq (D : va_G) (cl : List vw_C) (X : hwW) (sz : Nat) (post : Option Nat → hwW → Prop) : Array Value → State → Outcome → State → Prop := va_Qq post (hwB D cl X sz) (va_A X.1 sz)
theorem hw_blind {D : va_G} {cl : List vw_C} {tys : List (ClassId × FieldType)} {av : List Value} {X : hwW} {sz : Nat} : FrameBlind (hwPc D cl tys av X sz) := fun a U g mk q => by
  obtain ⟨q0, q1, qP, qK, qD, qO⟩ := q
  exact ⟨q0, q1, qP, va_K.moved (u := U) (U := U.calling g mk a) (Vm.Alike.refl U.vm) qK, qD, hwO.same (u := U) (U := U.calling g mk a) rfl qO⟩
theorem hw_preS {D : va_G} {cl : List vw_C} {tys : List (ClassId × FieldType)} {av : List Value} {X : hwW} {s : State} {H H0 : Heap} {A : Nat → Prop} {locs : List Loc} (hK : va_K D cl tys s) (hO : hwO tys s) (hZ : hwZ D cl A H0 X H locs) : PreS s H (hwPc D cl tys av X H.size) av :=
  ⟨hw_blind, fun U hU hW => ⟨rfl, by rw [hU], by rw [hU]; exact hZ.1, va_K.moved hW.alike hK, hZ.2.1.weaken (fun _ _ _ _ => trivial), hwO.warm hW hO⟩⟩
theorem hw_preV {D : va_G} {cl : List vw_C} {tys : List (ClassId × FieldType)} {As : List Value} {X : hwW} {s : State} {H H0 : Heap} {A : Nat → Prop} {locs : List Loc} {a ci : Nat} {q : vw_C} (hK : va_K D cl tys s) (hO : hwO tys s) (hZ : hwZ D cl A H0 X H locs) (he : ∃ (L : Nat) (fs : List Value), hwH X a L (.inr (ci, fs))) (hc : cl[ci]? = some q) : PreV s H q.1 a (hwPc D cl tys (.ref a :: As) X H.size) As := by
  obtain ⟨L, fs, ⟨k, hk⟩, -⟩ := he
  exact ⟨hw_blind, va_recv hK hZ.1 hc hk, fun U hU hW => ⟨rfl, by rw [hU], by rw [hU]; exact hZ.1, va_K.moved hW.alike hK, hZ.2.1.weaken (fun _ _ _ _ => trivial), hwO.warm hW hO⟩⟩
theorem hwMet {l : Launch} {D : va_G} {cl : List vw_C} {tys : List (ClassId × FieldType)} {y : MethodName} {ws ws' : List Cond} {rm : Room} {Qc : Array Value → State → Outcome → State → Prop} {mc ms sz : Nat} {cc : ByteArray} {maxL : Nat} {ret : Option FieldType} {av : List Value} {X : hwW} (hy : plainName y.cls = true) (hw : ws = Cond.code y cc maxL ret :: ws') (hlen : (lg_sl av).length ≤ maxL)
    (body : ∀ (p : Program) (e : Env) (s : State) (m : MethodId) (below : List Frame) (meth : Method) (c : Code) (ls : Array Slot), p.tables.exec = Jvm.exec → c.code = cc → meth.sig.returnType = ret → c.maxLocals = maxL → s.vm.findClass y.cls = some m.cls → (∀ w ∈ ws, w.before av.toArray s = true) → meth.locks = false → meth.name = y.name → s.heap.size = sz → va_K D cl tys s → hwO tys s → hwZ D cl (va_A X.1 s.heap.size) s.heap X s.heap [] → lv_has ls maxL (lv_args 0 av) →
      W p l e rm s m av.toArray below meth c s.heap [] 0 0 (MQ below Qc av.toArray s mc ms (va_A X.1 sz)) (F0 m 0 ls [])) : Met l y ws rm (hwPc D cl tys av X sz) Qc mc ms (va_A X.1 sz) := by
  refine Met.ofW (cc := cc) (maxL := maxL) (ret := ret) hy hw ?_
  intro p e s m args below meth c s₁ B hml hv
  obtain ⟨rfl, hsz, hP, hK, hD0, hO⟩ := hv
  have hl := lv_entry av (n := maxL) hlen
  rw [lg_entry_eq]
  exact body p e s m below meth c _ B.exec B.bytes B.returns hml (findClass_of_methodNamed B.named) (atoms_spec (ws := ws) B.pre) B.notSynchronized (name_of_methodNamed B.named B.method).1 hsz hK hO ⟨hP, hD0.self, va_S.rf⟩ hl
section HW1
variable {p : Program} {l : Launch} {e : Env} {R : Room} {s : State} {m : MethodId} {args : Array Value} {below : List Frame} {meth : Method} {c : Code} {H : Heap} {locs : List Loc} {cells slots : Nat} {Q : State → Prop}
variable {cc : ByteArray} {pc : Nat} {ls : Array Slot} {rest : List Value} {D : va_G} {cl : List vw_C} {A : Nat → Prop} {a L : Nat} {tys : List (ClassId × FieldType)} {X : hwW} {H0 : Heap}
theorem hw_topi {x y : Int32} (h : x = y) (k : W p l e R s m args below meth c H locs cells slots Q (F0 m pc ls (.int y :: rest))) : W p l e R s m args below meth c H locs cells slots Q (F0 m pc ls (.int x :: rest)) := h ▸ k
theorem hw_topl {x y : Int64} (h : x = y) (k : W p l e R s m args below meth c H locs cells slots Q (F0 m pc ls (.long y :: rest))) : W p l e R s m args below meth c H locs cells slots Q (F0 m pc ls (.long x :: rest)) := h ▸ k
theorem hw_top {x y : Value} (h : x = y) (k : W p l e R s m args below meth c H locs cells slots Q (F0 m pc ls (y :: rest))) : W p l e R s m args below meth c H locs cells slots Q (F0 m pc ls (x :: rest)) := h ▸ k
theorem hw_get (hx : p.tables.exec = Jvm.exec) (hb : c.code = cc) {own ref C : String} {T : u_T} {N ci index : Nat} {Ts : List Cond} (hts : ∀ w ∈ Ts, w.before args s = true) (hin : ∀ w ∈ u_ws C T N, w ∈ Ts) (hown : s.vm.findClass own = some m.cls) (hK : va_K D cl tys s) (hZ : hwZ D cl A H0 X H locs) {fs : List Value} (he : hwH X a L (.inr (ci, fs))) (hc : cl[ci]? = some (C, T, N)) (k : Nat) (hk : k < N) (hlink : (Cond.fieldLink own index ref (T k).2.1 (T k).2.2.1).before args s = true) (hsame : ∀ x, s.fieldFound? (T k).1 (T k).2.1 (T k).2.2.1 = some x → s.fieldFound? ref (T k).2.1 (T k).2.2.1 = some x) {v : Value} (hv : fs[k]? = some v) (hdg : decode cc pc = .ok (.getfield index, 3))
    (kk : W p l e R s m args below meth c H locs cells slots Q (F0 m (pc + 3) ls (v :: rest))) : W p l e R s m args below meth c H locs cells slots Q (F0 m pc ls (.ref a :: rest)) := by
  obtain ⟨⟨q0, hq⟩, -⟩ := he
  exact va_get hx hb hts hin hown hK hZ.1 q0 hq hc k hk hlink hsame hv hdg kk
theorem hw_getN (hx : p.tables.exec = Jvm.exec) (hb : c.code = cc) {own ref C host : String} {T : u_T} {N ci index : Nat} {Ts : List Cond} (hts : ∀ w ∈ Ts, w.before args s = true) (hin : ∀ w ∈ u_ws C T N, w ∈ Ts) (hown : s.vm.findClass own = some m.cls) (hK : va_K D cl tys s) (hZ : hwZ D cl A H0 X H locs) {fs : List Value} (he : hwH X a L (.inr (ci, fs))) (hc : cl[ci]? = some (C, T, N)) (k : Nat) (hk : k < N) (hlink : va_Nw (Cond.fieldLinkNest own index ref (T k).2.1 (T k).2.2.1 host) s) (hsame : ∀ x, s.fieldFound? (T k).1 (T k).2.1 (T k).2.2.1 = some x → s.fieldFound? ref (T k).2.1 (T k).2.2.1 = some x) {v : Value} (hv : fs[k]? = some v) (hdg : decode cc pc = .ok (.getfield index, 3))
    (kk : W p l e R s m args below meth c H locs cells slots Q (F0 m (pc + 3) ls (v :: rest))) : W p l e R s m args below meth c H locs cells slots Q (F0 m pc ls (.ref a :: rest)) := by
  obtain ⟨⟨q0, hq⟩, -⟩ := he
  exact va_getN hx hb hts hin hown hK hZ.1 q0 hq hc k hk (va_Nw.use rfl hlink) hsame hv hdg kk
theorem hw_put (hx : p.tables.exec = Jvm.exec) (hb : c.code = cc) {own ref C : String} {T : u_T} {N ci index : Nat} {Ts : List Cond} (hts : ∀ w ∈ Ts, w.before args s = true) (hin : ∀ w ∈ u_ws C T N, w ∈ Ts) (ty0 : Nat → FieldType) (hty : ∀ k, k < N → parseFieldDescriptor (T k).2.2.1 = some (ty0 k)) (hnm : ∀ a, a < N → ∀ b, b < N → a ≠ b → (T a).2.1 ≠ (T b).2.1) (hown : s.vm.findClass own = some m.cls) (hK : va_K D cl tys s) (hZ : hwZ D cl A H0 X H locs) {fs : List Value} (he : hwH X a L (.inr (ci, fs))) (hc : cl[ci]? = some (C, T, N)) (k : Nat) (hk : k < N) (hlink : (Cond.fieldLink own index ref (T k).2.1 (T k).2.2.1).before args s = true) (hsame : ∀ x, s.fieldFound? (T k).1 (T k).2.1 (T k).2.2.1 = some x → s.fieldFound? ref (T k).2.1 (T k).2.2.1 = some x) (hfin : (T k).2.2.2 = false) {ty : FieldType} {v : Value} (hd : parseFieldDescriptor (T k).2.2.1 = some ty) (hn : narrow ty v = v) (hfit : fits ty v = true) (hl : k < fs.length) {fs' : List Value} (hfs : fs.set k v = fs') (hdg : decode cc pc = .ok (.putfield index, 3))
    (kk : ∀ (Y : hwW) (H1 : Heap) (locs1 : List Loc), hwZ D cl A H0 Y H1 locs1 → hwF X Y (fun M => M = L) → hwH Y a L (.inr (ci, fs')) → W p l e R s m args below meth c H1 locs1 cells slots Q (F0 m (pc + 3) ls rest)) : W p l e R s m args below meth c H locs cells slots Q (F0 m pc ls (v :: .ref a :: rest)) := by
  obtain ⟨⟨q0, hq⟩, hL⟩ := he
  subst hfs
  refine va_put hx hb hts hin ty0 hty hnm hown hK hZ.1 hZ.2.1 hZ.2.2 q0 hq hc k hk hlink hsame hfin hd hn hfit hl hdg (fun H1 locs1 hP hD hS => ?_)
  exact kk (X.1.set q0 _, X.2) H1 locs1 ⟨hP, hD, hS⟩ (hwF.set hq hL) ⟨⟨q0, hw_set_self hq⟩, hL⟩
theorem hw_putN (hx : p.tables.exec = Jvm.exec) (hb : c.code = cc) {own ref C host : String} {T : u_T} {N ci index : Nat} {Ts : List Cond} (hts : ∀ w ∈ Ts, w.before args s = true) (hin : ∀ w ∈ u_ws C T N, w ∈ Ts) (ty0 : Nat → FieldType) (hty : ∀ k, k < N → parseFieldDescriptor (T k).2.2.1 = some (ty0 k)) (hnm : ∀ a, a < N → ∀ b, b < N → a ≠ b → (T a).2.1 ≠ (T b).2.1) (hown : s.vm.findClass own = some m.cls) (hK : va_K D cl tys s) (hZ : hwZ D cl A H0 X H locs) {fs : List Value} (he : hwH X a L (.inr (ci, fs))) (hc : cl[ci]? = some (C, T, N)) (k : Nat) (hk : k < N) (hlink : va_Nw (Cond.fieldLinkNest own index ref (T k).2.1 (T k).2.2.1 host) s) (hsame : ∀ x, s.fieldFound? (T k).1 (T k).2.1 (T k).2.2.1 = some x → s.fieldFound? ref (T k).2.1 (T k).2.2.1 = some x) (hfin : (T k).2.2.2 = false) {ty : FieldType} {v : Value} (hd : parseFieldDescriptor (T k).2.2.1 = some ty) (hn : narrow ty v = v) (hfit : fits ty v = true) (hl : k < fs.length) {fs' : List Value} (hfs : fs.set k v = fs') (hdg : decode cc pc = .ok (.putfield index, 3))
    (kk : ∀ (Y : hwW) (H1 : Heap) (locs1 : List Loc), hwZ D cl A H0 Y H1 locs1 → hwF X Y (fun M => M = L) → hwH Y a L (.inr (ci, fs')) → W p l e R s m args below meth c H1 locs1 cells slots Q (F0 m (pc + 3) ls rest)) : W p l e R s m args below meth c H locs cells slots Q (F0 m pc ls (v :: .ref a :: rest)) := by
  obtain ⟨⟨q0, hq⟩, hL⟩ := he
  subst hfs
  refine va_putN hx hb hts hin ty0 hty hnm hown hK hZ.1 hZ.2.1 hZ.2.2 q0 hq hc k hk (va_Nw.use rfl hlink) hsame hfin hd hn hfit hl hdg (fun H1 locs1 hP hD hS => ?_)
  exact kk (X.1.set q0 _, X.2) H1 locs1 ⟨hP, hD, hS⟩ (hwF.set hq hL) ⟨⟨q0, hw_set_self hq⟩, hL⟩
theorem hw_putF (hx : p.tables.exec = Jvm.exec) (hb : c.code = cc) {own ref C : String} {T : u_T} {N ci index : Nat} {Ts : List Cond} (hts : ∀ w ∈ Ts, w.before args s = true) (hin : ∀ w ∈ u_ws C T N, w ∈ Ts) (ty0 : Nat → FieldType) (hty : ∀ k, k < N → parseFieldDescriptor (T k).2.2.1 = some (ty0 k)) (hnm : ∀ a, a < N → ∀ b, b < N → a ≠ b → (T a).2.1 ≠ (T b).2.1) (hown : s.vm.findClass own = some m.cls) (hK : va_K D cl tys s) (hZ : hwZ D cl A H0 X H locs) {fs : List Value} (he : hwH X a L (.inr (ci, fs))) (hc : cl[ci]? = some (C, T, N)) (k : Nat) (hk : k < N) (hlink : (Cond.fieldLink own index ref (T k).2.1 (T k).2.2.1).before args s = true) (hsame : ∀ x, s.fieldFound? (T k).1 (T k).2.1 (T k).2.2.1 = some x → s.fieldFound? ref (T k).2.1 (T k).2.2.1 = some x) (hfin : (T k).2.2.2 = true) (hin2 : meth.name = "<init>") (hdecl : (T k).1 = own) {ty : FieldType} {v : Value} (hd : parseFieldDescriptor (T k).2.2.1 = some ty) (hn : narrow ty v = v) (hfit : fits ty v = true) (hl : k < fs.length) {fs' : List Value} (hfs : fs.set k v = fs') (hdg : decode cc pc = .ok (.putfield index, 3))
    (kk : ∀ (Y : hwW) (H1 : Heap) (locs1 : List Loc), hwZ D cl A H0 Y H1 locs1 → hwF X Y (fun M => M = L) → hwH Y a L (.inr (ci, fs')) → W p l e R s m args below meth c H1 locs1 cells slots Q (F0 m (pc + 3) ls rest)) : W p l e R s m args below meth c H locs cells slots Q (F0 m pc ls (v :: .ref a :: rest)) := by
  obtain ⟨⟨q0, hq⟩, hL⟩ := he
  subst hfs
  refine va_putF hx hb hts hin ty0 hty hnm hown hK hZ.1 hZ.2.1 hZ.2.2 q0 hq hc k hk hlink hsame hfin hin2 hdecl hd hn hfit hl hdg (fun H1 locs1 hP hD hS => ?_)
  exact kk (X.1.set q0 _, X.2) H1 locs1 ⟨hP, hD, hS⟩ (hwF.set hq hL) ⟨⟨q0, hw_set_self hq⟩, hL⟩
theorem hw_iald (hx : p.tables.exec = Jvm.exec) (hb : c.code = cc) (hK : va_K D cl tys s) (hZ : hwZ D cl A H0 X H locs) (t0 : Nat) {cA : ClassId} {n j : Nat} {f : Nat → Int32} (he : hwH X a L (.inl (cA, n, .inl f))) (ht : tys[t0]? = some (cA, .int)) (hj : j < n) (hn : n < 2 ^ 31) (hdg : decode cc pc = .ok (.iaload, 1))
    (kk : W p l e R s m args below meth c H locs cells slots Q (F0 m (pc + 1) ls (.int (f j) :: rest))) : W p l e R s m args below meth c H locs cells slots Q (F0 m pc ls (.int (nI j) :: .ref a :: rest)) := by
  obtain ⟨⟨q0, hq⟩, -⟩ := he
  refine va_iald hx hb hK hZ.1 q0 t0 hq ht (vp_in_nI hj hn) hdg ?_
  rw [nI_clamp (Nat.lt_trans hj hn)]
  exact kk
theorem hw_lald (hx : p.tables.exec = Jvm.exec) (hb : c.code = cc) (hK : va_K D cl tys s) (hZ : hwZ D cl A H0 X H locs) (t0 : Nat) {cA : ClassId} {n j : Nat} {f : Nat → Int64} (he : hwH X a L (.inl (cA, n, .inr (.inl f)))) (ht : tys[t0]? = some (cA, .long)) (hj : j < n) (hn : n < 2 ^ 31) (hdg : decode cc pc = .ok (.laload, 1))
    (kk : W p l e R s m args below meth c H locs cells slots Q (F0 m (pc + 1) ls (.long (f j) :: rest))) : W p l e R s m args below meth c H locs cells slots Q (F0 m pc ls (.int (nI j) :: .ref a :: rest)) := by
  obtain ⟨⟨q0, hq⟩, -⟩ := he
  refine va_lald hx hb hK hZ.1 q0 t0 hq ht (vp_in_nI hj hn) hdg ?_
  rw [nI_clamp (Nat.lt_trans hj hn)]
  exact kk
theorem hw_zald (hx : p.tables.exec = Jvm.exec) (hb : c.code = cc) (hK : va_K D cl tys s) (hZ : hwZ D cl A H0 X H locs) (t0 : Nat) {cA : ClassId} {n j : Nat} {f : Nat → Int32} (he : hwH X a L (.inl (cA, n, .inl f))) (ht : tys[t0]? = some (cA, .boolean)) (hj : j < n) (hn : n < 2 ^ 31) (hdg : decode cc pc = .ok (.baload, 1))
    (kk : W p l e R s m args below meth c H locs cells slots Q (F0 m (pc + 1) ls (.int (f j) :: rest))) : W p l e R s m args below meth c H locs cells slots Q (F0 m pc ls (.int (nI j) :: .ref a :: rest)) := by
  obtain ⟨⟨q0, hq⟩, -⟩ := he
  refine va_zald hx hb hK hZ.1 q0 t0 hq ht (vp_in_nI hj hn) hdg ?_
  rw [nI_clamp (Nat.lt_trans hj hn)]
  exact kk
theorem hw_cald (hx : p.tables.exec = Jvm.exec) (hb : c.code = cc) (hK : va_K D cl tys s) (hZ : hwZ D cl A H0 X H locs) (t0 : Nat) {cA : ClassId} {n j : Nat} {f : Nat → Int32} (he : hwH X a L (.inl (cA, n, .inl f))) (ht : tys[t0]? = some (cA, .char)) (hj : j < n) (hn : n < 2 ^ 31) (hdg : decode cc pc = .ok (.caload, 1))
    (kk : W p l e R s m args below meth c H locs cells slots Q (F0 m (pc + 1) ls (.int (f j) :: rest))) : W p l e R s m args below meth c H locs cells slots Q (F0 m pc ls (.int (nI j) :: .ref a :: rest)) := by
  obtain ⟨⟨q0, hq⟩, -⟩ := he
  refine va_cald hx hb hK hZ.1 q0 t0 hq ht (vp_in_nI hj hn) hdg ?_
  rw [nI_clamp (Nat.lt_trans hj hn)]
  exact kk
theorem hw_bald (hx : p.tables.exec = Jvm.exec) (hb : c.code = cc) (hK : va_K D cl tys s) (hZ : hwZ D cl A H0 X H locs) (t0 : Nat) {cA : ClassId} {n j : Nat} {f : Nat → Int32} (he : hwH X a L (.inl (cA, n, .inl f))) (ht : tys[t0]? = some (cA, .byte)) (hj : j < n) (hn : n < 2 ^ 31) (hdg : decode cc pc = .ok (.baload, 1))
    (kk : W p l e R s m args below meth c H locs cells slots Q (F0 m (pc + 1) ls (.int (f j) :: rest))) : W p l e R s m args below meth c H locs cells slots Q (F0 m pc ls (.int (nI j) :: .ref a :: rest)) := by
  obtain ⟨⟨q0, hq⟩, -⟩ := he
  refine va_bald hx hb hK hZ.1 q0 t0 hq ht (vp_in_nI hj hn) hdg ?_
  rw [nI_clamp (Nat.lt_trans hj hn)]
  exact kk
theorem hw_aldq (hx : p.tables.exec = Jvm.exec) (hb : c.code = cc) (hK : va_K D cl tys s) (hZ : hwZ D cl A H0 X H locs) (t0 : Nat) {cA : ClassId} {C : String} {n j : Nat} {f : Nat → Option Nat} (he : hwH X a L (.inl (cA, n, .inr (.inr (.inr (.inr f)))))) (ht : tys[t0]? = some (cA, .object C)) (hj : j < n) (hn : n < 2 ^ 31) (hdg : decode cc pc = .ok (.aaload, 1)) {r : Option Nat} (hr : f j = r)
    (kk : W p l e R s m args below meth c H locs cells slots Q (F0 m (pc + 1) ls (va_rf r :: rest))) : W p l e R s m args below meth c H locs cells slots Q (F0 m pc ls (.int (nI j) :: .ref a :: rest)) := by
  obtain ⟨⟨q0, hq⟩, -⟩ := he
  subst hr
  refine va_aldq hx hb hK hZ.1 q0 t0 hq ht (vp_in_nI hj hn) hdg ?_
  rw [nI_clamp (Nat.lt_trans hj hn)]
  exact kk
theorem hw_iast (hx : p.tables.exec = Jvm.exec) (hb : c.code = cc) (hK : va_K D cl tys s) (hZ : hwZ D cl A H0 X H locs) (t0 : Nat) {cA : ClassId} {n j : Nat} {f : Nat → Int32} (he : hwH X a L (.inl (cA, n, .inl f))) (ht : tys[t0]? = some (cA, .int)) {x : Int32} (hj : j < n) (hn : n < 2 ^ 31) (hdg : decode cc pc = .ok (.iastore, 1))
    (kk : ∀ (Y : hwW) (H1 : Heap) (locs1 : List Loc), hwZ D cl A H0 Y H1 locs1 → hwF X Y (fun M => M = L) → hwH Y a L (.inl (cA, n, .inl (upd f j x))) → W p l e R s m args below meth c H1 locs1 cells slots Q (F0 m (pc + 1) ls rest)) : W p l e R s m args below meth c H locs cells slots Q (F0 m pc ls (.int x :: .int (nI j) :: .ref a :: rest)) := by
  obtain ⟨⟨q0, hq⟩, hL⟩ := he
  refine va_iast hx hb hK hZ.1 hZ.2.1 hZ.2.2 q0 t0 hq ht (vp_in_nI hj hn) hdg (fun H1 locs1 hP hD hS => ?_)
  rw [nI_clamp (Nat.lt_trans hj hn)] at hP hD
  exact kk (X.1.set q0 _, X.2) H1 locs1 ⟨hP, hD, hS⟩ (hwF.set hq hL) ⟨⟨q0, hw_set_self hq⟩, hL⟩
theorem hw_last (hx : p.tables.exec = Jvm.exec) (hb : c.code = cc) (hK : va_K D cl tys s) (hZ : hwZ D cl A H0 X H locs) (t0 : Nat) {cA : ClassId} {n j : Nat} {f : Nat → Int64} (he : hwH X a L (.inl (cA, n, .inr (.inl f)))) (ht : tys[t0]? = some (cA, .long)) {x : Int64} (hj : j < n) (hn : n < 2 ^ 31) (hdg : decode cc pc = .ok (.lastore, 1))
    (kk : ∀ (Y : hwW) (H1 : Heap) (locs1 : List Loc), hwZ D cl A H0 Y H1 locs1 → hwF X Y (fun M => M = L) → hwH Y a L (.inl (cA, n, .inr (.inl (vp_updL f j x)))) → W p l e R s m args below meth c H1 locs1 cells slots Q (F0 m (pc + 1) ls rest)) : W p l e R s m args below meth c H locs cells slots Q (F0 m pc ls (.long x :: .int (nI j) :: .ref a :: rest)) := by
  obtain ⟨⟨q0, hq⟩, hL⟩ := he
  refine va_last hx hb hK hZ.1 hZ.2.1 hZ.2.2 q0 t0 hq ht (vp_in_nI hj hn) hdg (fun H1 locs1 hP hD hS => ?_)
  rw [nI_clamp (Nat.lt_trans hj hn)] at hP hD
  exact kk (X.1.set q0 _, X.2) H1 locs1 ⟨hP, hD, hS⟩ (hwF.set hq hL) ⟨⟨q0, hw_set_self hq⟩, hL⟩
theorem hw_zast (hx : p.tables.exec = Jvm.exec) (hb : c.code = cc) (hK : va_K D cl tys s) (hZ : hwZ D cl A H0 X H locs) (t0 : Nat) {cA : ClassId} {n j : Nat} {f : Nat → Int32} (he : hwH X a L (.inl (cA, n, .inl f))) (ht : tys[t0]? = some (cA, .boolean)) {x : Int32} (hj : j < n) (hn : n < 2 ^ 31) (hdg : decode cc pc = .ok (.bastore, 1))
    (kk : ∀ (Y : hwW) (H1 : Heap) (locs1 : List Loc), hwZ D cl A H0 Y H1 locs1 → hwF X Y (fun M => M = L) → hwH Y a L (.inl (cA, n, .inl (upd f j (vp_nar .boolean x)))) → W p l e R s m args below meth c H1 locs1 cells slots Q (F0 m (pc + 1) ls rest)) : W p l e R s m args below meth c H locs cells slots Q (F0 m pc ls (.int x :: .int (nI j) :: .ref a :: rest)) := by
  obtain ⟨⟨q0, hq⟩, hL⟩ := he
  refine va_zast hx hb hK hZ.1 hZ.2.1 hZ.2.2 q0 t0 hq ht (vp_in_nI hj hn) hdg (fun H1 locs1 hP hD hS => ?_)
  rw [nI_clamp (Nat.lt_trans hj hn)] at hP hD
  exact kk (X.1.set q0 _, X.2) H1 locs1 ⟨hP, hD, hS⟩ (hwF.set hq hL) ⟨⟨q0, hw_set_self hq⟩, hL⟩
theorem hw_cast (hx : p.tables.exec = Jvm.exec) (hb : c.code = cc) (hK : va_K D cl tys s) (hZ : hwZ D cl A H0 X H locs) (t0 : Nat) {cA : ClassId} {n j : Nat} {f : Nat → Int32} (he : hwH X a L (.inl (cA, n, .inl f))) (ht : tys[t0]? = some (cA, .char)) {x : Int32} (hj : j < n) (hn : n < 2 ^ 31) (hdg : decode cc pc = .ok (.castore, 1))
    (kk : ∀ (Y : hwW) (H1 : Heap) (locs1 : List Loc), hwZ D cl A H0 Y H1 locs1 → hwF X Y (fun M => M = L) → hwH Y a L (.inl (cA, n, .inl (upd f j (vp_nar .char x)))) → W p l e R s m args below meth c H1 locs1 cells slots Q (F0 m (pc + 1) ls rest)) : W p l e R s m args below meth c H locs cells slots Q (F0 m pc ls (.int x :: .int (nI j) :: .ref a :: rest)) := by
  obtain ⟨⟨q0, hq⟩, hL⟩ := he
  refine va_cast hx hb hK hZ.1 hZ.2.1 hZ.2.2 q0 t0 hq ht (vp_in_nI hj hn) hdg (fun H1 locs1 hP hD hS => ?_)
  rw [nI_clamp (Nat.lt_trans hj hn)] at hP hD
  exact kk (X.1.set q0 _, X.2) H1 locs1 ⟨hP, hD, hS⟩ (hwF.set hq hL) ⟨⟨q0, hw_set_self hq⟩, hL⟩
theorem hw_bast (hx : p.tables.exec = Jvm.exec) (hb : c.code = cc) (hK : va_K D cl tys s) (hZ : hwZ D cl A H0 X H locs) (t0 : Nat) {cA : ClassId} {n j : Nat} {f : Nat → Int32} (he : hwH X a L (.inl (cA, n, .inl f))) (ht : tys[t0]? = some (cA, .byte)) {x : Int32} (hj : j < n) (hn : n < 2 ^ 31) (hdg : decode cc pc = .ok (.bastore, 1))
    (kk : ∀ (Y : hwW) (H1 : Heap) (locs1 : List Loc), hwZ D cl A H0 Y H1 locs1 → hwF X Y (fun M => M = L) → hwH Y a L (.inl (cA, n, .inl (upd f j (vp_nar .byte x)))) → W p l e R s m args below meth c H1 locs1 cells slots Q (F0 m (pc + 1) ls rest)) : W p l e R s m args below meth c H locs cells slots Q (F0 m pc ls (.int x :: .int (nI j) :: .ref a :: rest)) := by
  obtain ⟨⟨q0, hq⟩, hL⟩ := he
  refine va_bast hx hb hK hZ.1 hZ.2.1 hZ.2.2 q0 t0 hq ht (vp_in_nI hj hn) hdg (fun H1 locs1 hP hD hS => ?_)
  rw [nI_clamp (Nat.lt_trans hj hn)] at hP hD
  exact kk (X.1.set q0 _, X.2) H1 locs1 ⟨hP, hD, hS⟩ (hwF.set hq hL) ⟨⟨q0, hw_set_self hq⟩, hL⟩
theorem hw_astq (hx : p.tables.exec = Jvm.exec) (hb : c.code = cc) (hK : va_K D cl tys s) (hZ : hwZ D cl A H0 X H locs) (t0 ci : Nat) {cA : ClassId} {r : vw_C} {n j v Lv : Nat} {vs : List Value} {f : Nat → Option Nat} (he : hwH X a L (.inl (cA, n, .inr (.inr (.inr (.inr f)))))) (ht : tys[t0]? = some (cA, .object r.1)) (hv : hwH X v Lv (.inr (ci, vs))) (hc : cl[ci]? = some r) (hj : j < n) (hn : n < 2 ^ 31) (hdg : decode cc pc = .ok (.aastore, 1))
    (kk : ∀ (Y : hwW) (H1 : Heap) (locs1 : List Loc), hwZ D cl A H0 Y H1 locs1 → hwF X Y (fun M => M = L) → hwH Y a L (.inl (cA, n, .inr (.inr (.inr (.inr (va_up f j (some v))))))) → W p l e R s m args below meth c H1 locs1 cells slots Q (F0 m (pc + 1) ls rest)) : W p l e R s m args below meth c H locs cells slots Q (F0 m pc ls (.ref v :: .int (nI j) :: .ref a :: rest)) := by
  obtain ⟨⟨q0, hq⟩, hL⟩ := he
  obtain ⟨⟨q1, hq1⟩, -⟩ := hv
  refine va_astq hx hb hK hZ.1 hZ.2.1 hZ.2.2 q0 t0 q1 ci hq ht hq1 hc (vp_in_nI hj hn) hdg (fun H1 locs1 hP hD hS => ?_)
  rw [nI_clamp (Nat.lt_trans hj hn)] at hP hD
  exact kk (X.1.set q0 _, X.2) H1 locs1 ⟨hP, hD, hS⟩ (hwF.set hq hL) ⟨⟨q0, hw_set_self hq⟩, hL⟩
theorem hw_alen (hx : p.tables.exec = Jvm.exec) (hb : c.code = cc) (hK : va_K D cl tys s) (hZ : hwZ D cl A H0 X H locs) (t0 : Nat) {cA : ClassId} {x : vp_A} (he : hwH X a L (.inl (cA, x))) {ty : FieldType} (ht : tys[t0]? = some (cA, ty)) (hdg : decode cc pc = .ok (.arraylength, 1))
    (kk : W p l e R s m args below meth c H locs cells slots Q (F0 m (pc + 1) ls (.int (nI x.1) :: rest))) : W p l e R s m args below meth c H locs cells slots Q (F0 m pc ls (.ref a :: rest)) := by
  obtain ⟨⟨q0, hq⟩, -⟩ := he
  exact va_alen hx hb hK hZ.1 q0 t0 hq ht rfl hdg kk
theorem hw_new {own C : String} {T : u_T} {N ci index : Nat} {Ts : List Cond} (hx : p.tables.exec = Jvm.exec) (hb : c.code = cc) (hts : ∀ w ∈ Ts, w.before args s = true) (hin : ∀ w ∈ u_ws C T N, w ∈ Ts) (ty : Nat → FieldType) (hty : ∀ k, k < N → parseFieldDescriptor (T k).2.2.1 = some (ty k)) (hown : s.vm.findClass own = some m.cls) (hcl : (Cond.classLink own index C).before args s = true) (hinst : (Cond.instantiable C N).before args s = true) (hini : (Cond.initialized C).before args s = true) (hK : va_K D cl tys s) (hZ : hwZ D cl A H0 X H locs) (hA : ∀ q, H0.size ≤ q → A q) (hc : cl[ci]? = some (C, T, N)) {fs : List Value} (hfs : ∀ j, j < N → defaultValue (ty j) = vp_V fs j) (hcells : cells + 1 ≤ R.cells) (hslots : slots + N ≤ R.slots) (hdg : decode cc pc = .ok (.new index, 3)) (L : Nat)
    (kk : ∀ (q : Nat) (Y : hwW) (H1 : Heap), hwZ D cl A H0 Y H1 locs → hwF X Y (fun _ => False) → hwH Y q L (.inr (ci, fs)) → W p l e R s m args below meth c H1 locs (cells + 1) (slots + N) Q (F0 m (pc + 3) ls (.ref q :: rest))) : W p l e R s m args below meth c H locs cells slots Q (F0 m pc ls rest) := by
  refine va_new hx hb hts hin ty hty hown hcl hinst hini hK hZ.1 hZ.2.1 hZ.2.2 hA hc hfs hcells hslots hdg (fun q H1 hP hD hS => ?_)
  exact kk q (X.1 ++ [(q, .inr (ci, fs))], va_up X.2 q L) H1 ⟨hP, hD, hS⟩ (hwF.push hD) hwH.push
theorem hw_newa (hx : p.tables.exec = Jvm.exec) (hb : c.code = cc) {atype : ArrayType} (harr : (Cond.arrayClass (newarray.typeOf atype)).before args s = true) {ty : FieldType} (hty : newarray.typeOf atype = ty) (hK : va_K D cl tys s) (hZ : hwZ D cl A H0 X H locs) (hA : ∀ q, H0.size ≤ q → A q) (t0 : Nat) {c0 : ClassId} (ht : tys[t0]? = some (c0, ty)) (hpr : ∀ U c1, va_RA U c1 ty = (U.vm.findClass ("[" ++ ty.toString) = some c1))
    {N : Nat} {a0 : vp_A} (ha : ∀ cA : ClassId, vp_cell cA a0 = arrV cA N (fun _ => defaultValue ty)) (hN : N < 2 ^ 31) (hbytes : N * componentBytes ty ≤ 536870912) (hcells : cells + 1 ≤ R.cells) (hslots : slots + N ≤ R.slots) (hdg : decode cc pc = .ok (.newarray atype, 2)) (L : Nat)
    (kk : ∀ (q : Nat) (Y : hwW) (H1 : Heap), hwZ D cl A H0 Y H1 locs → hwF X Y (fun _ => False) → hwH Y q L (.inl (c0, a0)) → W p l e R s m args below meth c H1 locs (cells + 1) (slots + N) Q (F0 m (pc + 2) ls (.ref q :: rest))) : W p l e R s m args below meth c H locs cells slots Q (F0 m pc ls (.int (nI N) :: rest)) := by
  refine va_newa hx hb harr hty hK hZ.1 hZ.2.1 hZ.2.2 hA ha (nI_pos hN) (nI_clamp hN) hbytes hcells hslots hdg (fun q cA H1 hK1 hP hD hS => ?_)
  have h1 := (hK1.2 tys.length (cA, ty) (by simp)).2
  have h2 := (hK.2 t0 _ ht).2
  rw [hpr] at h1 h2
  have h3 : cA = c0 := Option.some.inj (h1.symm.trans h2)
  subst h3
  exact kk q (X.1 ++ [(q, .inl (cA, a0))], va_up X.2 q L) H1 ⟨hP, hD, hS⟩ (hwF.push hD) hwH.push
theorem hw_newq (hx : p.tables.exec = Jvm.exec) (hb : c.code = cc) {own C : String} {index : Nat} (hown : s.vm.findClass own = some m.cls) (hclink : (Cond.classLink own index C).before args s = true) (hO : hwO tys s) (hK : va_K D cl tys s) (hZ : hwZ D cl A H0 X H locs) (hA : ∀ q, H0.size ≤ q → A q) (t0 : Nat) {c0 : ClassId} (ht : tys[t0]? = some (c0, .object C))
    {N : Nat} (hN : N < 2 ^ 31) (hbytes : N * 4 ≤ 536870912) (hcells : cells + 1 ≤ R.cells) (hslots : slots + N ≤ R.slots) (hdg : decode cc pc = .ok (.anewarray index, 3)) (L : Nat)
    (kk : ∀ (q : Nat) (Y : hwW) (H1 : Heap), hwZ D cl A H0 Y H1 locs → hwF X Y (fun _ => False) → hwH Y q L (.inl (c0, N, .inr (.inr (.inr (.inr (fun _ => none)))))) → W p l e R s m args below meth c H1 locs (cells + 1) (slots + N) Q (F0 m (pc + 3) ls (.ref q :: rest))) : W p l e R s m args below meth c H locs cells slots Q (F0 m pc ls (.int (nI N) :: rest)) := by
  refine va_newq hx hb hown hclink (hO.1 t0 _ _ ht) hK hZ.1 hZ.2.1 hZ.2.2 hA (nI_pos hN) (nI_clamp hN) hbytes hcells hslots hdg (fun q cA H1 hK1 hP hD hS => ?_)
  obtain ⟨_, _, -, -, -, h1⟩ := (hK1.2 tys.length (cA, .object C) (by simp)).2
  obtain ⟨_, _, -, -, -, h2⟩ := (hK.2 t0 _ ht).2
  have h3 : cA = c0 := Option.some.inj (h1.symm.trans h2)
  subst h3
  exact kk q (X.1 ++ [(q, .inl (cA, N, .inr (.inr (.inr (.inr (fun _ => none))))))], va_up X.2 q L) H1 ⟨hP, hD, hS⟩ (hwF.push hD) hwH.push
theorem hw_calli {mc ms : Nat} {st0 : List Value} {av : Array Value} {post : Int32 → hwW → Prop} (hr : va_Run p l e R s m args below meth c H locs cells slots mc ms (F0 m pc ls st0) rest (hwQi D cl X H.size post av) (va_A X.1 H.size)) (hZ : hwZ D cl A H0 X H locs) (hA : ∀ q, H0.size ≤ q → A q)
    (kk : ∀ (r : Int32) (Y : hwW) (H1 : Heap) (locs1 : List Loc), post r Y → hwZ D cl A H0 Y H1 locs1 → W p l e R s m args below meth c H1 locs1 (cells + mc) (slots + ms) Q (F0 m (pc + 3) ls (.int r :: rest))) : W p l e R s m args below meth c H locs cells slots Q (F0 m pc ls st0) := by
  have hF := hZ.up hA
  refine va_calli hr hZ.2.2 (fun q _ h => hF q h) hF (fun r u t H1 locs1 ht hvm hp hB hz hk hS => ?_)
  subst ht
  exact kk r u _ locs1 hp ⟨hB.1, hB.2.weaken (fun _ _ _ h => hF _ h), hS⟩
theorem hw_calll {mc ms : Nat} {st0 : List Value} {av : Array Value} {post : Int64 → hwW → Prop} (hr : va_Run p l e R s m args below meth c H locs cells slots mc ms (F0 m pc ls st0) rest (hwQl D cl X H.size post av) (va_A X.1 H.size)) (hZ : hwZ D cl A H0 X H locs) (hA : ∀ q, H0.size ≤ q → A q)
    (kk : ∀ (r : Int64) (Y : hwW) (H1 : Heap) (locs1 : List Loc), post r Y → hwZ D cl A H0 Y H1 locs1 → W p l e R s m args below meth c H1 locs1 (cells + mc) (slots + ms) Q (F0 m (pc + 3) ls (.long r :: rest))) : W p l e R s m args below meth c H locs cells slots Q (F0 m pc ls st0) := by
  have hF := hZ.up hA
  refine va_calll hr hZ.2.2 (fun q _ h => hF q h) hF (fun r u t H1 locs1 ht hvm hp hB hz hk hS => ?_)
  subst ht
  exact kk r u _ locs1 hp ⟨hB.1, hB.2.weaken (fun _ _ _ h => hF _ h), hS⟩
theorem hw_callv {mc ms : Nat} {st0 : List Value} {av : Array Value} {post : hwW → Prop} (hr : va_Run p l e R s m args below meth c H locs cells slots mc ms (F0 m pc ls st0) rest (hwQv D cl X H.size post av) (va_A X.1 H.size)) (hZ : hwZ D cl A H0 X H locs) (hA : ∀ q, H0.size ≤ q → A q)
    (kk : ∀ (Y : hwW) (H1 : Heap) (locs1 : List Loc), post Y → hwZ D cl A H0 Y H1 locs1 → W p l e R s m args below meth c H1 locs1 (cells + mc) (slots + ms) Q (F0 m (pc + 3) ls rest)) : W p l e R s m args below meth c H locs cells slots Q (F0 m pc ls st0) := by
  have hF := hZ.up hA
  refine va_callv hr hZ.2.2 (fun q _ h => hF q h) hF (fun u t H1 locs1 ht hvm hp hB hz hk hS => ?_)
  subst ht
  exact kk u _ locs1 hp ⟨hB.1, hB.2.weaken (fun _ _ _ h => hF _ h), hS⟩
theorem hw_callq {mc ms : Nat} {st0 : List Value} {av : Array Value} {post : Option Nat → hwW → Prop} (hr : va_Run p l e R s m args below meth c H locs cells slots mc ms (F0 m pc ls st0) rest (hwQq D cl X H.size post av) (va_A X.1 H.size)) (hZ : hwZ D cl A H0 X H locs) (hA : ∀ q, H0.size ≤ q → A q)
    (kk : ∀ (r : Option Nat) (Y : hwW) (H1 : Heap) (locs1 : List Loc), post r Y → hwZ D cl A H0 Y H1 locs1 → W p l e R s m args below meth c H1 locs1 (cells + mc) (slots + ms) Q (F0 m (pc + 3) ls (va_rf r :: rest))) : W p l e R s m args below meth c H locs cells slots Q (F0 m pc ls st0) := by
  have hF := hZ.up hA
  refine va_callq hr hZ.2.2 (fun q _ h => hF q h) hF (fun r u t H1 locs1 ht hvm hp hB hz hk hS => ?_)
  subst ht
  exact kk r u _ locs1 hp ⟨hB.1, hB.2.weaken (fun _ _ _ h => hF _ h), hS⟩
theorem hw_iret (hx : p.tables.exec = Jvm.exec) (hb : c.code = cc) (hr : meth.sig.returnType = some .int) (hlocks : meth.locks = false) {X0 : hwW} {post : Int32 → hwW → Prop} {v : Int32} (hZ : hwZ D cl (va_A X0.1 s.heap.size) s.heap X H locs) (hp : post v X) (hdg : decode cc pc = .ok (.ireturn, 1)) : W p l e R s m args below meth c H locs cells slots (MQ below (hwQi D cl X0 s.heap.size post) args s cells slots (va_A X0.1 s.heap.size)) (F0 m pc ls [.int v]) :=
  W.iret hx hb hr (fun t ht hW => ⟨⟨v, X, rfl, hp, by rw [ht]; exact hZ.1, hZ.2.1⟩, hZ.2.2.F ht⟩) hZ.2.2.2.2 hdg hlocks
theorem hw_zret (hx : p.tables.exec = Jvm.exec) (hb : c.code = cc) (hr : meth.sig.returnType = some .boolean) (hlocks : meth.locks = false) {X0 : hwW} {post : Int32 → hwW → Prop} {v : Int32} (hv : narrow .boolean (.int v) = .int v) (hZ : hwZ D cl (va_A X0.1 s.heap.size) s.heap X H locs) (hp : post v X) (hdg : decode cc pc = .ok (.ireturn, 1)) : W p l e R s m args below meth c H locs cells slots (MQ below (hwQi D cl X0 s.heap.size post) args s cells slots (va_A X0.1 s.heap.size)) (F0 m pc ls [.int v]) :=
  W.zret hx hb hr hv (fun t ht hW => ⟨⟨v, X, rfl, hp, by rw [ht]; exact hZ.1, hZ.2.1⟩, hZ.2.2.F ht⟩) hZ.2.2.2.2 hdg hlocks
theorem hw_lret (hx : p.tables.exec = Jvm.exec) (hb : c.code = cc) (hr : meth.sig.returnType = some .long) (hlocks : meth.locks = false) {X0 : hwW} {post : Int64 → hwW → Prop} {v : Int64} (hZ : hwZ D cl (va_A X0.1 s.heap.size) s.heap X H locs) (hp : post v X) (hdg : decode cc pc = .ok (.lreturn, 1)) : W p l e R s m args below meth c H locs cells slots (MQ below (hwQl D cl X0 s.heap.size post) args s cells slots (va_A X0.1 s.heap.size)) (F0 m pc ls [.long v]) :=
  W.lret hx hb hr (fun t ht hW => ⟨⟨v, X, rfl, hp, by rw [ht]; exact hZ.1, hZ.2.1⟩, hZ.2.2.F ht⟩) hZ.2.2.2.2 hdg hlocks
theorem hw_vret (hx : p.tables.exec = Jvm.exec) (hb : c.code = cc) (hr : meth.sig.returnType = none) (hlocks : meth.locks = false) {X0 : hwW} {post : hwW → Prop} (hZ : hwZ D cl (va_A X0.1 s.heap.size) s.heap X H locs) (hp : post X) (hdg : decode cc pc = .ok (.return_, 1)) : W p l e R s m args below meth c H locs cells slots (MQ below (hwQv D cl X0 s.heap.size post) args s cells slots (va_A X0.1 s.heap.size)) (F0 m pc ls []) :=
  W.vret hx hb hr (fun t ht hW => ⟨⟨X, rfl, hp, by rw [ht]; exact hZ.1, hZ.2.1⟩, hZ.2.2.F ht⟩) hZ.2.2.2.2 hdg hlocks
theorem hw_qret (hx : p.tables.exec = Jvm.exec) (hb : c.code = cc) {rt : FieldType} (hr : meth.sig.returnType = some rt) (hrt : (∃ n, rt = .object n) ∨ ∃ t, rt = .array t) (hlocks : meth.locks = false) {X0 : hwW} {post : Option Nat → hwW → Prop} {v : Option Nat} {vv : Value} (hvv : va_rf v = vv) (hZ : hwZ D cl (va_A X0.1 s.heap.size) s.heap X H locs) (hp : post v X) (hdg : decode cc pc = .ok (.areturn, 1)) : W p l e R s m args below meth c H locs cells slots (MQ below (hwQq D cl X0 s.heap.size post) args s cells slots (va_A X0.1 s.heap.size)) (F0 m pc ls [vv]) := by
  subst hvv
  exact W.aret hx hb hr hrt (va_rf_or v) (fun t ht hW => ⟨⟨v, X, rfl, hp, by rw [ht]; exact hZ.1, hZ.2.1⟩, hZ.2.2.F ht⟩) hZ.2.2.2.2 hdg hlocks
end HW1
end
section
/-! GENERIC ROWS over part 02: prologues by kind of answer, compares over naturals, truth values, long compares, options. -/
def bI (b : Bool) : Int32 := if b then 1 else 0
theorem bI_t : bI true = nI 1 := rfl
theorem bI_f : bI false = nI 0 := rfl
theorem hw_nb (b : Bool) : narrow .boolean (.int (bI b)) = .int (bI b) := by cases b <;> rfl
theorem hw_fb (b : Bool) : fits .boolean (.int (bI b)) = true := by cases b <;> rfl
theorem bI_z (b : Bool) : bI b = 0 ↔ b = false := by cases b <;> simp [bI]
theorem hw_dec {a k : Nat} {n : Int} (h : k ≤ a) (hn : Int32.ofInt n = - nI k) : nI a + Int32.ofInt n = nI (a - k) := by
  rw [hn, ← pk_sub h]; exact (Int32.sub_eq_add_neg _ _).symm
theorem hw_nmin {a b : Nat} (ha : a < 2 ^ 31) (hb : b < 2 ^ 31) : (if nI b < nI a then nI b else nI a) = nI (min a b) := by
  by_cases h : b < a
  · rw [if_pos (nI_lt h ha), Nat.min_eq_right (Nat.le_of_lt h)]
  · rw [if_neg (nI_nlt (Nat.le_of_not_lt h) hb), Nat.min_eq_left (Nat.le_of_not_lt h)]
theorem hw_nmax {a b : Nat} (ha : a < 2 ^ 31) (hb : b < 2 ^ 31) : (if nI a < nI b then nI b else nI a) = nI (max a b) := by
  by_cases h : a < b
  · rw [if_pos (nI_lt h hb), Nat.max_eq_right (Nat.le_of_lt h)]
  · rw [if_neg (nI_nlt (Nat.le_of_not_lt h) ha), Nat.max_eq_left (Nat.le_of_not_lt h)]

theorem hwMeti {l : Launch} {D : va_G} {cl : List vw_C} {tys : List (ClassId × FieldType)} {y : MethodName} {ws ws' : List Cond} {rm : Room} {mc ms sz : Nat} {cc : ByteArray} {maxL : Nat} {av : List Value} {X : hwW} {post : Int32 → hwW → Prop} (hy : plainName y.cls = true) (hw : ws = Cond.code y cc maxL (some .int) :: ws') (hlen : (lg_sl av).length ≤ maxL)
    (body : ∀ (p : Program) (e : Env) (s : State) (m : MethodId) (args : Array Value) (below : List Frame) (meth : Method) (c : Code) (ls : Array Slot) (A : Nat → Prop) (Q : State → Prop), p.tables.exec = Jvm.exec → c.code = cc → c.maxLocals = maxL → s.vm.findClass y.cls = some m.cls → (∀ w ∈ ws, w.before args s = true) → meth.name = y.name →
      (∀ {H : Heap} {locs : List Loc} {pc : Nat} {ls : Array Slot} {Y : hwW} {v : Int32}, hwZ D cl A s.heap Y H locs → post v Y → decode cc pc = .ok (.ireturn, 1) → W p l e rm s m args below meth c H locs mc ms Q (F0 m pc ls [.int v])) →
      va_K D cl tys s → hwO tys s → hwZ D cl A s.heap X s.heap [] → (∀ q, s.heap.size ≤ q → A q) → lv_has ls maxL (lv_args 0 av) → W p l e rm s m args below meth c s.heap [] 0 0 Q (F0 m 0 ls [])) : Met l y ws rm (hwPc D cl tys av X sz) (hwQi D cl X sz post) mc ms (va_A X.1 sz) := by
  refine hwMet hy hw hlen (fun p e s m below meth c ls hx hb hr hml hown hts hlocks hname hsz hK hO hZ hl => ?_)
  subst hsz
  exact body p e s m _ below meth c ls _ _ hx hb hml hown hts hname (fun  hZ hp hd => hw_iret hx hb hr hlocks hZ hp hd) hK hO hZ (fun q h => Or.inr h) hl
theorem hwMetz {l : Launch} {D : va_G} {cl : List vw_C} {tys : List (ClassId × FieldType)} {y : MethodName} {ws ws' : List Cond} {rm : Room} {mc ms sz : Nat} {cc : ByteArray} {maxL : Nat} {av : List Value} {X : hwW} {post : Int32 → hwW → Prop} (hy : plainName y.cls = true) (hw : ws = Cond.code y cc maxL (some .boolean) :: ws') (hlen : (lg_sl av).length ≤ maxL)
    (body : ∀ (p : Program) (e : Env) (s : State) (m : MethodId) (args : Array Value) (below : List Frame) (meth : Method) (c : Code) (ls : Array Slot) (A : Nat → Prop) (Q : State → Prop), p.tables.exec = Jvm.exec → c.code = cc → c.maxLocals = maxL → s.vm.findClass y.cls = some m.cls → (∀ w ∈ ws, w.before args s = true) → meth.name = y.name →
      (∀ {H : Heap} {locs : List Loc} {pc : Nat} {ls : Array Slot} {Y : hwW} {v : Int32}, narrow .boolean (.int v) = .int v → hwZ D cl A s.heap Y H locs → post v Y → decode cc pc = .ok (.ireturn, 1) → W p l e rm s m args below meth c H locs mc ms Q (F0 m pc ls [.int v])) →
      va_K D cl tys s → hwO tys s → hwZ D cl A s.heap X s.heap [] → (∀ q, s.heap.size ≤ q → A q) → lv_has ls maxL (lv_args 0 av) → W p l e rm s m args below meth c s.heap [] 0 0 Q (F0 m 0 ls [])) : Met l y ws rm (hwPc D cl tys av X sz) (hwQi D cl X sz post) mc ms (va_A X.1 sz) := by
  refine hwMet hy hw hlen (fun p e s m below meth c ls hx hb hr hml hown hts hlocks hname hsz hK hO hZ hl => ?_)
  subst hsz
  exact body p e s m _ below meth c ls _ _ hx hb hml hown hts hname (fun hv hZ hp hd => hw_zret hx hb hr hlocks hv hZ hp hd) hK hO hZ (fun q h => Or.inr h) hl
theorem hwMetl {l : Launch} {D : va_G} {cl : List vw_C} {tys : List (ClassId × FieldType)} {y : MethodName} {ws ws' : List Cond} {rm : Room} {mc ms sz : Nat} {cc : ByteArray} {maxL : Nat} {av : List Value} {X : hwW} {post : Int64 → hwW → Prop} (hy : plainName y.cls = true) (hw : ws = Cond.code y cc maxL (some .long) :: ws') (hlen : (lg_sl av).length ≤ maxL)
    (body : ∀ (p : Program) (e : Env) (s : State) (m : MethodId) (args : Array Value) (below : List Frame) (meth : Method) (c : Code) (ls : Array Slot) (A : Nat → Prop) (Q : State → Prop), p.tables.exec = Jvm.exec → c.code = cc → c.maxLocals = maxL → s.vm.findClass y.cls = some m.cls → (∀ w ∈ ws, w.before args s = true) → meth.name = y.name →
      (∀ {H : Heap} {locs : List Loc} {pc : Nat} {ls : Array Slot} {Y : hwW} {v : Int64}, hwZ D cl A s.heap Y H locs → post v Y → decode cc pc = .ok (.lreturn, 1) → W p l e rm s m args below meth c H locs mc ms Q (F0 m pc ls [.long v])) →
      va_K D cl tys s → hwO tys s → hwZ D cl A s.heap X s.heap [] → (∀ q, s.heap.size ≤ q → A q) → lv_has ls maxL (lv_args 0 av) → W p l e rm s m args below meth c s.heap [] 0 0 Q (F0 m 0 ls [])) : Met l y ws rm (hwPc D cl tys av X sz) (hwQl D cl X sz post) mc ms (va_A X.1 sz) := by
  refine hwMet hy hw hlen (fun p e s m below meth c ls hx hb hr hml hown hts hlocks hname hsz hK hO hZ hl => ?_)
  subst hsz
  exact body p e s m _ below meth c ls _ _ hx hb hml hown hts hname (fun  hZ hp hd => hw_lret hx hb hr hlocks hZ hp hd) hK hO hZ (fun q h => Or.inr h) hl
theorem hwMetv {l : Launch} {D : va_G} {cl : List vw_C} {tys : List (ClassId × FieldType)} {y : MethodName} {ws ws' : List Cond} {rm : Room} {mc ms sz : Nat} {cc : ByteArray} {maxL : Nat} {av : List Value} {X : hwW} {post : hwW → Prop} (hy : plainName y.cls = true) (hw : ws = Cond.code y cc maxL (none) :: ws') (hlen : (lg_sl av).length ≤ maxL)
    (body : ∀ (p : Program) (e : Env) (s : State) (m : MethodId) (args : Array Value) (below : List Frame) (meth : Method) (c : Code) (ls : Array Slot) (A : Nat → Prop) (Q : State → Prop), p.tables.exec = Jvm.exec → c.code = cc → c.maxLocals = maxL → s.vm.findClass y.cls = some m.cls → (∀ w ∈ ws, w.before args s = true) → meth.name = y.name →
      (∀ {H : Heap} {locs : List Loc} {pc : Nat} {ls : Array Slot} {Y : hwW} , hwZ D cl A s.heap Y H locs → post Y → decode cc pc = .ok (.return_, 1) → W p l e rm s m args below meth c H locs mc ms Q (F0 m pc ls [])) →
      va_K D cl tys s → hwO tys s → hwZ D cl A s.heap X s.heap [] → (∀ q, s.heap.size ≤ q → A q) → lv_has ls maxL (lv_args 0 av) → W p l e rm s m args below meth c s.heap [] 0 0 Q (F0 m 0 ls [])) : Met l y ws rm (hwPc D cl tys av X sz) (hwQv D cl X sz post) mc ms (va_A X.1 sz) := by
  refine hwMet hy hw hlen (fun p e s m below meth c ls hx hb hr hml hown hts hlocks hname hsz hK hO hZ hl => ?_)
  subst hsz
  exact body p e s m _ below meth c ls _ _ hx hb hml hown hts hname (fun  hZ hp hd => hw_vret hx hb hr hlocks hZ hp hd) hK hO hZ (fun q h => Or.inr h) hl
theorem hwMetq {l : Launch} {D : va_G} {cl : List vw_C} {tys : List (ClassId × FieldType)} {y : MethodName} {ws ws' : List Cond} {rm : Room} {mc ms sz : Nat} {cc : ByteArray} {maxL : Nat} {av : List Value} {X : hwW} {post : Option Nat → hwW → Prop} {rt : FieldType} (hrt : (∃ n, rt = .object n) ∨ ∃ t, rt = .array t) (hy : plainName y.cls = true) (hw : ws = Cond.code y cc maxL (some rt) :: ws') (hlen : (lg_sl av).length ≤ maxL)
    (body : ∀ (p : Program) (e : Env) (s : State) (m : MethodId) (args : Array Value) (below : List Frame) (meth : Method) (c : Code) (ls : Array Slot) (A : Nat → Prop) (Q : State → Prop), p.tables.exec = Jvm.exec → c.code = cc → c.maxLocals = maxL → s.vm.findClass y.cls = some m.cls → (∀ w ∈ ws, w.before args s = true) → meth.name = y.name →
      (∀ {H : Heap} {locs : List Loc} {pc : Nat} {ls : Array Slot} {Y : hwW} {v : Option Nat} {vv : Value}, va_rf v = vv → hwZ D cl A s.heap Y H locs → post v Y → decode cc pc = .ok (.areturn, 1) → W p l e rm s m args below meth c H locs mc ms Q (F0 m pc ls [vv])) →
      va_K D cl tys s → hwO tys s → hwZ D cl A s.heap X s.heap [] → (∀ q, s.heap.size ≤ q → A q) → lv_has ls maxL (lv_args 0 av) → W p l e rm s m args below meth c s.heap [] 0 0 Q (F0 m 0 ls [])) : Met l y ws rm (hwPc D cl tys av X sz) (hwQq D cl X sz post) mc ms (va_A X.1 sz) := by
  refine hwMet hy hw hlen (fun p e s m below meth c ls hx hb hr hml hown hts hlocks hname hsz hK hO hZ hl => ?_)
  subst hsz
  exact body p e s m _ below meth c ls _ _ hx hb hml hown hts hname (fun hv hZ hp hd => hw_qret hx hb hr hrt hlocks hv hZ hp hd) hK hO hZ (fun q h => Or.inr h) hl
section HW2
variable {p : Program} {l : Launch} {e : Env} {R : Room} {s : State} {m : MethodId} {args : Array Value} {below : List Frame} {meth : Method} {c : Code} {H : Heap} {locs : List Loc} {cells slots : Nat} {Q : State → Prop}
variable {cc : ByteArray} {pc : Nat} {ls : Array Slot} {rest : List Value} {D : va_G} {cl : List vw_C} {A : Nat → Prop} {a L : Nat} {tys : List (ClassId × FieldType)} {X : hwW} {H0 : Heap}
theorem hw_ic_eq (hx : p.tables.exec = Jvm.exec) (hb : c.code = cc) {a b : Nat} {off : Int} {tgt : Nat} (hdg : decode cc pc = .ok (.if_icmp .eq off, 3)) (ht : (pc : Int) + off = (tgt : Int)) (h1 : a < 2 ^ 31) (h2 : b < 2 ^ 31) (kt : a = b → W p l e R s m args below meth c H locs cells slots Q (F0 m tgt ls rest)) (kf : a ≠ b → W p l e R s m args below meth c H locs cells slots Q (F0 m (pc + 3) ls rest)) : W p l e R s m args below meth c H locs cells slots Q (F0 m pc ls (.int (nI b) :: .int (nI a) :: rest)) := lv_icmp_eq hx hb hdg ht (fun h => kt ((nI_eq h1 h2).mp h)) (fun h => kf (fun q => h ((nI_eq h1 h2).mpr q)))
theorem hw_if_eq (hx : p.tables.exec = Jvm.exec) (hb : c.code = cc) {a : Nat} {off : Int} {tgt : Nat} (hdg : decode cc pc = .ok (.ifCond .eq off, 3)) (ht : (pc : Int) + off = (tgt : Int)) (h1 : a < 2 ^ 31) (kt : a = 0 → W p l e R s m args below meth c H locs cells slots Q (F0 m tgt ls rest)) (kf : a ≠ 0 → W p l e R s m args below meth c H locs cells slots Q (F0 m (pc + 3) ls rest)) : W p l e R s m args below meth c H locs cells slots Q (F0 m pc ls (.int (nI a) :: rest)) := by
  refine lv_if_eq hx hb hdg ht (fun h => ?_) (fun h => ?_) <;> rw [← nI_0] at h
  · exact kt ((nI_eq h1 (by decide : 0 < 2 ^ 31)).mp h)
  · exact kf (fun q => h ((nI_eq h1 (by decide : 0 < 2 ^ 31)).mpr q))
theorem hw_ic_ne (hx : p.tables.exec = Jvm.exec) (hb : c.code = cc) {a b : Nat} {off : Int} {tgt : Nat} (hdg : decode cc pc = .ok (.if_icmp .ne off, 3)) (ht : (pc : Int) + off = (tgt : Int)) (h1 : a < 2 ^ 31) (h2 : b < 2 ^ 31) (kt : a ≠ b → W p l e R s m args below meth c H locs cells slots Q (F0 m tgt ls rest)) (kf : a = b → W p l e R s m args below meth c H locs cells slots Q (F0 m (pc + 3) ls rest)) : W p l e R s m args below meth c H locs cells slots Q (F0 m pc ls (.int (nI b) :: .int (nI a) :: rest)) := lv_icmp_ne hx hb hdg ht (fun h => kt (fun q => h ((nI_eq h1 h2).mpr q))) (fun h => kf ((nI_eq h1 h2).mp h))
theorem hw_if_ne (hx : p.tables.exec = Jvm.exec) (hb : c.code = cc) {a : Nat} {off : Int} {tgt : Nat} (hdg : decode cc pc = .ok (.ifCond .ne off, 3)) (ht : (pc : Int) + off = (tgt : Int)) (h1 : a < 2 ^ 31) (kt : a ≠ 0 → W p l e R s m args below meth c H locs cells slots Q (F0 m tgt ls rest)) (kf : a = 0 → W p l e R s m args below meth c H locs cells slots Q (F0 m (pc + 3) ls rest)) : W p l e R s m args below meth c H locs cells slots Q (F0 m pc ls (.int (nI a) :: rest)) := by
  refine lv_if_ne hx hb hdg ht (fun h => ?_) (fun h => ?_) <;> rw [← nI_0] at h
  · exact kt (fun q => h ((nI_eq h1 (by decide : 0 < 2 ^ 31)).mpr q))
  · exact kf ((nI_eq h1 (by decide : 0 < 2 ^ 31)).mp h)
theorem hw_ic_lt (hx : p.tables.exec = Jvm.exec) (hb : c.code = cc) {a b : Nat} {off : Int} {tgt : Nat} (hdg : decode cc pc = .ok (.if_icmp .lt off, 3)) (ht : (pc : Int) + off = (tgt : Int)) (h1 : a < 2 ^ 31) (h2 : b < 2 ^ 31) (kt : a < b → W p l e R s m args below meth c H locs cells slots Q (F0 m tgt ls rest)) (kf : b ≤ a → W p l e R s m args below meth c H locs cells slots Q (F0 m (pc + 3) ls rest)) : W p l e R s m args below meth c H locs cells slots Q (F0 m pc ls (.int (nI b) :: .int (nI a) :: rest)) := lv_icmp_lt hx hb hdg ht (fun h => kt ((nI_ltI h1 h2).mp h)) (fun h => kf (Nat.not_lt.mp (fun q => h ((nI_ltI h1 h2).mpr q))))
theorem hw_if_lt (hx : p.tables.exec = Jvm.exec) (hb : c.code = cc) {a : Nat} {off : Int} {tgt : Nat} (hdg : decode cc pc = .ok (.ifCond .lt off, 3)) (ht : (pc : Int) + off = (tgt : Int)) (h1 : a < 2 ^ 31) (kt : a < 0 → W p l e R s m args below meth c H locs cells slots Q (F0 m tgt ls rest)) (kf : 0 ≤ a → W p l e R s m args below meth c H locs cells slots Q (F0 m (pc + 3) ls rest)) : W p l e R s m args below meth c H locs cells slots Q (F0 m pc ls (.int (nI a) :: rest)) := by
  refine lv_if_lt hx hb hdg ht (fun h => ?_) (fun h => ?_) <;> rw [← nI_0] at h
  · exact kt ((nI_ltI h1 (by decide : 0 < 2 ^ 31)).mp h)
  · exact kf (Nat.not_lt.mp (fun q => h ((nI_ltI h1 (by decide : 0 < 2 ^ 31)).mpr q)))
theorem hw_ic_ge (hx : p.tables.exec = Jvm.exec) (hb : c.code = cc) {a b : Nat} {off : Int} {tgt : Nat} (hdg : decode cc pc = .ok (.if_icmp .ge off, 3)) (ht : (pc : Int) + off = (tgt : Int)) (h1 : a < 2 ^ 31) (h2 : b < 2 ^ 31) (kt : b ≤ a → W p l e R s m args below meth c H locs cells slots Q (F0 m tgt ls rest)) (kf : a < b → W p l e R s m args below meth c H locs cells slots Q (F0 m (pc + 3) ls rest)) : W p l e R s m args below meth c H locs cells slots Q (F0 m pc ls (.int (nI b) :: .int (nI a) :: rest)) := lv_icmp_ge hx hb hdg ht (fun h => kt ((nI_leI h2 h1).mp h)) (fun h => kf (Nat.not_le.mp (fun q => h ((nI_leI h2 h1).mpr q))))
theorem hw_if_ge (hx : p.tables.exec = Jvm.exec) (hb : c.code = cc) {a : Nat} {off : Int} {tgt : Nat} (hdg : decode cc pc = .ok (.ifCond .ge off, 3)) (ht : (pc : Int) + off = (tgt : Int)) (h1 : a < 2 ^ 31) (kt : 0 ≤ a → W p l e R s m args below meth c H locs cells slots Q (F0 m tgt ls rest)) (kf : a < 0 → W p l e R s m args below meth c H locs cells slots Q (F0 m (pc + 3) ls rest)) : W p l e R s m args below meth c H locs cells slots Q (F0 m pc ls (.int (nI a) :: rest)) := by
  refine lv_if_ge hx hb hdg ht (fun h => ?_) (fun h => ?_) <;> rw [← nI_0] at h
  · exact kt ((nI_leI (by decide : 0 < 2 ^ 31) h1).mp h)
  · exact kf (Nat.not_le.mp (fun q => h ((nI_leI (by decide : 0 < 2 ^ 31) h1).mpr q)))
theorem hw_ic_gt (hx : p.tables.exec = Jvm.exec) (hb : c.code = cc) {a b : Nat} {off : Int} {tgt : Nat} (hdg : decode cc pc = .ok (.if_icmp .gt off, 3)) (ht : (pc : Int) + off = (tgt : Int)) (h1 : a < 2 ^ 31) (h2 : b < 2 ^ 31) (kt : b < a → W p l e R s m args below meth c H locs cells slots Q (F0 m tgt ls rest)) (kf : a ≤ b → W p l e R s m args below meth c H locs cells slots Q (F0 m (pc + 3) ls rest)) : W p l e R s m args below meth c H locs cells slots Q (F0 m pc ls (.int (nI b) :: .int (nI a) :: rest)) := lv_icmp_gt hx hb hdg ht (fun h => kt ((nI_ltI h2 h1).mp h)) (fun h => kf (Nat.not_lt.mp (fun q => h ((nI_ltI h2 h1).mpr q))))
theorem hw_if_gt (hx : p.tables.exec = Jvm.exec) (hb : c.code = cc) {a : Nat} {off : Int} {tgt : Nat} (hdg : decode cc pc = .ok (.ifCond .gt off, 3)) (ht : (pc : Int) + off = (tgt : Int)) (h1 : a < 2 ^ 31) (kt : 0 < a → W p l e R s m args below meth c H locs cells slots Q (F0 m tgt ls rest)) (kf : a ≤ 0 → W p l e R s m args below meth c H locs cells slots Q (F0 m (pc + 3) ls rest)) : W p l e R s m args below meth c H locs cells slots Q (F0 m pc ls (.int (nI a) :: rest)) := by
  refine lv_if_gt hx hb hdg ht (fun h => ?_) (fun h => ?_) <;> rw [← nI_0] at h
  · exact kt ((nI_ltI (by decide : 0 < 2 ^ 31) h1).mp h)
  · exact kf (Nat.not_lt.mp (fun q => h ((nI_ltI (by decide : 0 < 2 ^ 31) h1).mpr q)))
theorem hw_ic_le (hx : p.tables.exec = Jvm.exec) (hb : c.code = cc) {a b : Nat} {off : Int} {tgt : Nat} (hdg : decode cc pc = .ok (.if_icmp .le off, 3)) (ht : (pc : Int) + off = (tgt : Int)) (h1 : a < 2 ^ 31) (h2 : b < 2 ^ 31) (kt : a ≤ b → W p l e R s m args below meth c H locs cells slots Q (F0 m tgt ls rest)) (kf : b < a → W p l e R s m args below meth c H locs cells slots Q (F0 m (pc + 3) ls rest)) : W p l e R s m args below meth c H locs cells slots Q (F0 m pc ls (.int (nI b) :: .int (nI a) :: rest)) := lv_icmp_le hx hb hdg ht (fun h => kt ((nI_leI h1 h2).mp h)) (fun h => kf (Nat.not_le.mp (fun q => h ((nI_leI h1 h2).mpr q))))
theorem hw_if_le (hx : p.tables.exec = Jvm.exec) (hb : c.code = cc) {a : Nat} {off : Int} {tgt : Nat} (hdg : decode cc pc = .ok (.ifCond .le off, 3)) (ht : (pc : Int) + off = (tgt : Int)) (h1 : a < 2 ^ 31) (kt : a ≤ 0 → W p l e R s m args below meth c H locs cells slots Q (F0 m tgt ls rest)) (kf : 0 < a → W p l e R s m args below meth c H locs cells slots Q (F0 m (pc + 3) ls rest)) : W p l e R s m args below meth c H locs cells slots Q (F0 m pc ls (.int (nI a) :: rest)) := by
  refine lv_if_le hx hb hdg ht (fun h => ?_) (fun h => ?_) <;> rw [← nI_0] at h
  · exact kt ((nI_leI h1 (by decide : 0 < 2 ^ 31)).mp h)
  · exact kf (Nat.not_le.mp (fun q => h ((nI_leI h1 (by decide : 0 < 2 ^ 31)).mpr q)))
theorem hw_bz_eq (hx : p.tables.exec = Jvm.exec) (hb : c.code = cc) {b : Bool} {off : Int} {tgt : Nat} (hdg : decode cc pc = .ok (.ifCond .eq off, 3)) (ht : (pc : Int) + off = (tgt : Int)) (kt : b = false → W p l e R s m args below meth c H locs cells slots Q (F0 m tgt ls rest)) (kf : b = true → W p l e R s m args below meth c H locs cells slots Q (F0 m (pc + 3) ls rest)) : W p l e R s m args below meth c H locs cells slots Q (F0 m pc ls (.int (bI b) :: rest)) := lv_if_eq hx hb hdg ht (fun h => kt ((bI_z b).mp h)) (fun h => kf (by cases b <;> simp_all [bI]))
theorem hw_bz_eqT (hx : p.tables.exec = Jvm.exec) (hb : c.code = cc) {b : Bool} {off : Int} {tgt : Nat} (hdg : decode cc pc = .ok (.ifCond .eq off, 3)) (ht : (pc : Int) + off = (tgt : Int)) (h : b = false) (kt : W p l e R s m args below meth c H locs cells slots Q (F0 m tgt ls rest)) : W p l e R s m args below meth c H locs cells slots Q (F0 m pc ls (.int (bI b) :: rest)) := hw_bz_eq hx hb hdg ht (fun _ => kt) (fun q => by rw [h] at q; cases q)
theorem hw_bz_eqF (hx : p.tables.exec = Jvm.exec) (hb : c.code = cc) {b : Bool} {off : Int} {tgt : Nat} (hdg : decode cc pc = .ok (.ifCond .eq off, 3)) (_ht : (pc : Int) + off = (tgt : Int)) (h : b = true) (kf : W p l e R s m args below meth c H locs cells slots Q (F0 m (pc + 3) ls rest)) : W p l e R s m args below meth c H locs cells slots Q (F0 m pc ls (.int (bI b) :: rest)) := hw_bz_eq hx hb hdg _ht (fun q => by rw [h] at q; cases q) (fun _ => kf)
theorem hw_bz_ne (hx : p.tables.exec = Jvm.exec) (hb : c.code = cc) {b : Bool} {off : Int} {tgt : Nat} (hdg : decode cc pc = .ok (.ifCond .ne off, 3)) (ht : (pc : Int) + off = (tgt : Int)) (kt : b = true → W p l e R s m args below meth c H locs cells slots Q (F0 m tgt ls rest)) (kf : b = false → W p l e R s m args below meth c H locs cells slots Q (F0 m (pc + 3) ls rest)) : W p l e R s m args below meth c H locs cells slots Q (F0 m pc ls (.int (bI b) :: rest)) := lv_if_ne hx hb hdg ht (fun h => kt (by cases b <;> simp_all [bI])) (fun h => kf ((bI_z b).mp h))
theorem hw_bz_neT (hx : p.tables.exec = Jvm.exec) (hb : c.code = cc) {b : Bool} {off : Int} {tgt : Nat} (hdg : decode cc pc = .ok (.ifCond .ne off, 3)) (ht : (pc : Int) + off = (tgt : Int)) (h : b = true) (kt : W p l e R s m args below meth c H locs cells slots Q (F0 m tgt ls rest)) : W p l e R s m args below meth c H locs cells slots Q (F0 m pc ls (.int (bI b) :: rest)) := hw_bz_ne hx hb hdg ht (fun _ => kt) (fun q => by rw [h] at q; cases q)
theorem hw_bz_neF (hx : p.tables.exec = Jvm.exec) (hb : c.code = cc) {b : Bool} {off : Int} {tgt : Nat} (hdg : decode cc pc = .ok (.ifCond .ne off, 3)) (_ht : (pc : Int) + off = (tgt : Int)) (h : b = false) (kf : W p l e R s m args below meth c H locs cells slots Q (F0 m (pc + 3) ls rest)) : W p l e R s m args below meth c H locs cells slots Q (F0 m pc ls (.int (bI b) :: rest)) := hw_bz_ne hx hb hdg _ht (fun q => by rw [h] at q; cases q) (fun _ => kf)
theorem hw_lr_eq (hx : p.tables.exec = Jvm.exec) (hb : c.code = cc) {x y : Int64} {off : Int} {tgt : Nat} (hd1 : decode cc pc = .ok (.lcmp, 1)) (hd2 : decode cc (pc + 1) = .ok (.ifCond .eq off, 3)) (ht : ((pc + 1 : Nat) : Int) + off = (tgt : Int)) (kt : x = y → W p l e R s m args below meth c H locs cells slots Q (F0 m tgt ls rest)) (kf : ¬ x = y → W p l e R s m args below meth c H locs cells slots Q (F0 m (pc + 4) ls rest)) : W p l e R s m args below meth c H locs cells slots Q (F0 m pc ls (.long y :: .long x :: rest)) := W.lcmp hx hb hd1 (lv_if_eq hx hb hd2 ht (fun h => kt ((lg_cmp_eq x y).mp h)) (fun h => kf (fun q => h ((lg_cmp_eq x y).mpr q))))
theorem hw_lr_ne (hx : p.tables.exec = Jvm.exec) (hb : c.code = cc) {x y : Int64} {off : Int} {tgt : Nat} (hd1 : decode cc pc = .ok (.lcmp, 1)) (hd2 : decode cc (pc + 1) = .ok (.ifCond .ne off, 3)) (ht : ((pc + 1 : Nat) : Int) + off = (tgt : Int)) (kt : ¬ x = y → W p l e R s m args below meth c H locs cells slots Q (F0 m tgt ls rest)) (kf : x = y → W p l e R s m args below meth c H locs cells slots Q (F0 m (pc + 4) ls rest)) : W p l e R s m args below meth c H locs cells slots Q (F0 m pc ls (.long y :: .long x :: rest)) := W.lcmp hx hb hd1 (lv_if_ne hx hb hd2 ht (fun h => kt (fun q => h ((lg_cmp_eq x y).mpr q))) (fun h => kf ((lg_cmp_eq x y).mp h)))
theorem hw_lr_lt (hx : p.tables.exec = Jvm.exec) (hb : c.code = cc) {x y : Int64} {off : Int} {tgt : Nat} (hd1 : decode cc pc = .ok (.lcmp, 1)) (hd2 : decode cc (pc + 1) = .ok (.ifCond .lt off, 3)) (ht : ((pc + 1 : Nat) : Int) + off = (tgt : Int)) (kt : x < y → W p l e R s m args below meth c H locs cells slots Q (F0 m tgt ls rest)) (kf : ¬ x < y → W p l e R s m args below meth c H locs cells slots Q (F0 m (pc + 4) ls rest)) : W p l e R s m args below meth c H locs cells slots Q (F0 m pc ls (.long y :: .long x :: rest)) := W.lcmp hx hb hd1 (lv_if_lt hx hb hd2 ht (fun h => kt ((lg_cmp_lt x y).mp h)) (fun h => kf (fun q => h ((lg_cmp_lt x y).mpr q))))
theorem hw_lr_ge (hx : p.tables.exec = Jvm.exec) (hb : c.code = cc) {x y : Int64} {off : Int} {tgt : Nat} (hd1 : decode cc pc = .ok (.lcmp, 1)) (hd2 : decode cc (pc + 1) = .ok (.ifCond .ge off, 3)) (ht : ((pc + 1 : Nat) : Int) + off = (tgt : Int)) (kt : y ≤ x → W p l e R s m args below meth c H locs cells slots Q (F0 m tgt ls rest)) (kf : ¬ y ≤ x → W p l e R s m args below meth c H locs cells slots Q (F0 m (pc + 4) ls rest)) : W p l e R s m args below meth c H locs cells slots Q (F0 m pc ls (.long y :: .long x :: rest)) := W.lcmp hx hb hd1 (lv_if_ge hx hb hd2 ht (fun h => kt ((lg_cmp_ge x y).mp h)) (fun h => kf (fun q => h ((lg_cmp_ge x y).mpr q))))
theorem hw_lr_gt (hx : p.tables.exec = Jvm.exec) (hb : c.code = cc) {x y : Int64} {off : Int} {tgt : Nat} (hd1 : decode cc pc = .ok (.lcmp, 1)) (hd2 : decode cc (pc + 1) = .ok (.ifCond .gt off, 3)) (ht : ((pc + 1 : Nat) : Int) + off = (tgt : Int)) (kt : y < x → W p l e R s m args below meth c H locs cells slots Q (F0 m tgt ls rest)) (kf : ¬ y < x → W p l e R s m args below meth c H locs cells slots Q (F0 m (pc + 4) ls rest)) : W p l e R s m args below meth c H locs cells slots Q (F0 m pc ls (.long y :: .long x :: rest)) := W.lcmp hx hb hd1 (lv_if_gt hx hb hd2 ht (fun h => kt ((lg_cmp_gt x y).mp h)) (fun h => kf (fun q => h ((lg_cmp_gt x y).mpr q))))
theorem hw_lr_le (hx : p.tables.exec = Jvm.exec) (hb : c.code = cc) {x y : Int64} {off : Int} {tgt : Nat} (hd1 : decode cc pc = .ok (.lcmp, 1)) (hd2 : decode cc (pc + 1) = .ok (.ifCond .le off, 3)) (ht : ((pc + 1 : Nat) : Int) + off = (tgt : Int)) (kt : x ≤ y → W p l e R s m args below meth c H locs cells slots Q (F0 m tgt ls rest)) (kf : ¬ x ≤ y → W p l e R s m args below meth c H locs cells slots Q (F0 m (pc + 4) ls rest)) : W p l e R s m args below meth c H locs cells slots Q (F0 m pc ls (.long y :: .long x :: rest)) := W.lcmp hx hb hd1 (lv_if_le hx hb hd2 ht (fun h => kt ((lg_cmp_le x y).mp h)) (fun h => kf (fun q => h ((lg_cmp_le x y).mpr q))))
theorem hw_lc_eq (hx : p.tables.exec = Jvm.exec) (hb : c.code = cc) {a b : Nat} {off : Int} {tgt : Nat} (hd1 : decode cc pc = .ok (.lcmp, 1)) (hd2 : decode cc (pc + 1) = .ok (.ifCond .eq off, 3)) (ht : ((pc + 1 : Nat) : Int) + off = (tgt : Int)) (h1 : a < 2 ^ 63) (h2 : b < 2 ^ 63) (kt : a = b → W p l e R s m args below meth c H locs cells slots Q (F0 m tgt ls rest)) (kf : a ≠ b → W p l e R s m args below meth c H locs cells slots Q (F0 m (pc + 4) ls rest)) : W p l e R s m args below meth c H locs cells slots Q (F0 m pc ls (.long (lN b) :: .long (lN a) :: rest)) := hw_lr_eq hx hb hd1 hd2 ht (fun h => kt ((pk_lEQ h1 h2).mp h)) (fun h => kf (fun q => h ((pk_lEQ h1 h2).mpr q)))
theorem hw_lc_ne (hx : p.tables.exec = Jvm.exec) (hb : c.code = cc) {a b : Nat} {off : Int} {tgt : Nat} (hd1 : decode cc pc = .ok (.lcmp, 1)) (hd2 : decode cc (pc + 1) = .ok (.ifCond .ne off, 3)) (ht : ((pc + 1 : Nat) : Int) + off = (tgt : Int)) (h1 : a < 2 ^ 63) (h2 : b < 2 ^ 63) (kt : a ≠ b → W p l e R s m args below meth c H locs cells slots Q (F0 m tgt ls rest)) (kf : a = b → W p l e R s m args below meth c H locs cells slots Q (F0 m (pc + 4) ls rest)) : W p l e R s m args below meth c H locs cells slots Q (F0 m pc ls (.long (lN b) :: .long (lN a) :: rest)) := hw_lr_ne hx hb hd1 hd2 ht (fun h => kt (fun q => h ((pk_lEQ h1 h2).mpr q))) (fun h => kf ((pk_lEQ h1 h2).mp h))
theorem hw_lc_lt (hx : p.tables.exec = Jvm.exec) (hb : c.code = cc) {a b : Nat} {off : Int} {tgt : Nat} (hd1 : decode cc pc = .ok (.lcmp, 1)) (hd2 : decode cc (pc + 1) = .ok (.ifCond .lt off, 3)) (ht : ((pc + 1 : Nat) : Int) + off = (tgt : Int)) (h1 : a < 2 ^ 63) (h2 : b < 2 ^ 63) (kt : a < b → W p l e R s m args below meth c H locs cells slots Q (F0 m tgt ls rest)) (kf : b ≤ a → W p l e R s m args below meth c H locs cells slots Q (F0 m (pc + 4) ls rest)) : W p l e R s m args below meth c H locs cells slots Q (F0 m pc ls (.long (lN b) :: .long (lN a) :: rest)) := hw_lr_lt hx hb hd1 hd2 ht (fun h => kt ((pk_lLT h1 h2).mp h)) (fun h => kf (Nat.not_lt.mp (fun q => h ((pk_lLT h1 h2).mpr q))))
theorem hw_lc_ge (hx : p.tables.exec = Jvm.exec) (hb : c.code = cc) {a b : Nat} {off : Int} {tgt : Nat} (hd1 : decode cc pc = .ok (.lcmp, 1)) (hd2 : decode cc (pc + 1) = .ok (.ifCond .ge off, 3)) (ht : ((pc + 1 : Nat) : Int) + off = (tgt : Int)) (h1 : a < 2 ^ 63) (h2 : b < 2 ^ 63) (kt : b ≤ a → W p l e R s m args below meth c H locs cells slots Q (F0 m tgt ls rest)) (kf : a < b → W p l e R s m args below meth c H locs cells slots Q (F0 m (pc + 4) ls rest)) : W p l e R s m args below meth c H locs cells slots Q (F0 m pc ls (.long (lN b) :: .long (lN a) :: rest)) := hw_lr_ge hx hb hd1 hd2 ht (fun h => kt ((pk_lLE h2 h1).mp h)) (fun h => kf (Nat.not_le.mp (fun q => h ((pk_lLE h2 h1).mpr q))))
theorem hw_lc_gt (hx : p.tables.exec = Jvm.exec) (hb : c.code = cc) {a b : Nat} {off : Int} {tgt : Nat} (hd1 : decode cc pc = .ok (.lcmp, 1)) (hd2 : decode cc (pc + 1) = .ok (.ifCond .gt off, 3)) (ht : ((pc + 1 : Nat) : Int) + off = (tgt : Int)) (h1 : a < 2 ^ 63) (h2 : b < 2 ^ 63) (kt : b < a → W p l e R s m args below meth c H locs cells slots Q (F0 m tgt ls rest)) (kf : a ≤ b → W p l e R s m args below meth c H locs cells slots Q (F0 m (pc + 4) ls rest)) : W p l e R s m args below meth c H locs cells slots Q (F0 m pc ls (.long (lN b) :: .long (lN a) :: rest)) := hw_lr_gt hx hb hd1 hd2 ht (fun h => kt ((pk_lLT h2 h1).mp h)) (fun h => kf (Nat.not_lt.mp (fun q => h ((pk_lLT h2 h1).mpr q))))
theorem hw_lc_le (hx : p.tables.exec = Jvm.exec) (hb : c.code = cc) {a b : Nat} {off : Int} {tgt : Nat} (hd1 : decode cc pc = .ok (.lcmp, 1)) (hd2 : decode cc (pc + 1) = .ok (.ifCond .le off, 3)) (ht : ((pc + 1 : Nat) : Int) + off = (tgt : Int)) (h1 : a < 2 ^ 63) (h2 : b < 2 ^ 63) (kt : a ≤ b → W p l e R s m args below meth c H locs cells slots Q (F0 m tgt ls rest)) (kf : b < a → W p l e R s m args below meth c H locs cells slots Q (F0 m (pc + 4) ls rest)) : W p l e R s m args below meth c H locs cells slots Q (F0 m pc ls (.long (lN b) :: .long (lN a) :: rest)) := hw_lr_le hx hb hd1 hd2 ht (fun h => kt ((pk_lLE h1 h2).mp h)) (fun h => kf (Nat.not_le.mp (fun q => h ((pk_lLE h1 h2).mpr q))))
theorem hw_aload_nO (hx : p.tables.exec = Jvm.exec) (hb : c.code = cc) {k : Fin 4} {i : Nat} {r : Option Nat} (hdg : decode cc pc = .ok (.aload_n k, 1)) (hi : (k : Nat) = i) (hl : ls[i]? = some (.val (va_rf r))) (kk : W p l e R s m args below meth c H locs cells slots Q (F0 m (pc + 1) ls (va_rf r :: rest))) : W p l e R s m args below meth c H locs cells slots Q (F0 m pc ls rest) := by
  cases r with
  | none => exact lv_aload_nN hx hb hdg hi hl kk
  | some y => exact lv_aload_n hx hb hdg hi hl kk
theorem hw_aloadO (hx : p.tables.exec = Jvm.exec) (hb : c.code = cc) {i : Nat} {r : Option Nat} (hdg : decode cc pc = .ok (.aload i, 2)) (hl : ls[i]? = some (.val (va_rf r))) (kk : W p l e R s m args below meth c H locs cells slots Q (F0 m (pc + 2) ls (va_rf r :: rest))) : W p l e R s m args below meth c H locs cells slots Q (F0 m pc ls rest) := by
  cases r with
  | none => exact lv_aloadN hx hb hdg hl kk
  | some y => exact lv_aload hx hb hdg hl kk
theorem hw_copyl (hx : p.tables.exec = Jvm.exec) (hb : c.code = cc) (hml : c.maxLocals = ls.size) {own : String} {index : Nat} (hown : s.vm.findClass own = some m.cls) (hlink : (Cond.methodLink own index arraycopyName).before args s = true) (hnat : (Cond.native arraycopyName).before args s = true) (hstat : (Cond.static arraycopyName).before args s = true) (hini : (Cond.initialized "java/lang/System").before args s = true)
    (hK : va_K D cl tys s) (hZ : hwZ D cl A H0 X H locs) (t0 t1 : Nat) {a0 L0 : Nat} {c0 c1 : ClassId} {n0 n1 sp dp n : Nat} {f g : Nat → Int64} (ha0 : hwH X a0 L0 (.inl (c0, n0, .inr (.inl f)))) (ha1 : hwH X a L (.inl (c1, n1, .inr (.inl g)))) (ht0 : tys[t0]? = some (c0, .long)) (ht1 : tys[t1]? = some (c1, .long)) (h4 : sp + n ≤ n0) (h5 : dp + n ≤ n1) (hn0 : n0 < 2 ^ 31) (hn1 : n1 < 2 ^ 31)
    (hframes : 1 ≤ R.frames) (hlocals : (rest.map fun v => v.category).sum + (nativeFrameWords "java/lang/System" "arraycopy" 5 + 11) ≤ R.locals) (hdg : decode cc pc = .ok (.invokestatic index, 3))
    (kk : ∀ (Y : hwW) (H1 : Heap) (locs1 : List Loc), hwZ D cl A H0 Y H1 locs1 → hwF X Y (fun M => M = L) → hwH Y a L (.inl (c1, n1, .inr (.inl (va_cpy f g sp dp n)))) → W p l e R s m args below meth c H1 locs1 cells slots Q (F0 m (pc + 3) ls rest)) : W p l e R s m args below meth c H locs cells slots Q (F0 m pc ls (.int (nI n) :: .int (nI dp) :: .ref a :: .int (nI sp) :: .ref a0 :: rest)) := by
  obtain ⟨⟨q0, hq0⟩, -⟩ := ha0
  obtain ⟨⟨q1, hq1⟩, hL⟩ := ha1
  have e1 : (nI sp).toNatClampNeg = sp := nI_clamp (by omega)
  have e2 : (nI dp).toNatClampNeg = dp := nI_clamp (by omega)
  have e3 : (nI n).toNatClampNeg = n := nI_clamp (by omega)
  refine va_copyl hx hb hml hown hlink hnat hstat hini hK hZ.1 hZ.2.1 hZ.2.2 q0 q1 t0 t1 hq0 hq1 ht0 ht1 rfl (nI_pos (by omega)) (nI_pos (by omega)) (nI_pos (by omega)) (by rw [e1, e3]; exact h4) (by rw [e2, e3]; exact h5) (fun _ _ => rfl) hframes hlocals hdg (fun H1 locs1 hP hD hS => ?_)
  rw [e1, e2, e3] at hP hD
  exact kk (X.1.set q1 _, X.2) H1 locs1 ⟨hP, hD, hS⟩ (hwF.set hq1 hL) ⟨⟨q1, hw_set_self hq1⟩, hL⟩
end HW2
end
section
/-! ===== nI under and, xor, >>>, one bit, 65535 ===== -/
theorem nx_and (a b : Nat) : nI a &&& nI b = nI (a &&& b) := by
  apply Int32.toBitVec_inj.1
  show BitVec.ofNat 32 a &&& BitVec.ofNat 32 b = BitVec.ofNat 32 (a &&& b)
  apply BitVec.eq_of_getLsbD_eq
  intro i hi
  simp [hi]
theorem nx_xor (a b : Nat) : nI a ^^^ nI b = nI (a ^^^ b) := by
  apply Int32.toBitVec_inj.1
  show BitVec.ofNat 32 a ^^^ BitVec.ofNat 32 b = BitVec.ofNat 32 (a ^^^ b)
  apply BitVec.eq_of_getLsbD_eq
  intro i hi
  simp [hi]
theorem nx_cnt : ∀ j : Fin 32, (UInt32.ofNat j.val &&& Int32.toUInt32 31).toNat % 32 = j.val := by decide +kernel
theorem nx_ush {k j : Nat} (hk : k < 65536) (hj : j < 32) : ((nI k).toUInt32 >>> ((nI j).toUInt32 &&& Int32.toUInt32 31)).toInt32 = nI (k >>> j) := by
  have hs : k >>> j ≤ k := by
    rw [Nat.shiftRight_eq_div_pow]
    exact Nat.div_le_self _ _
  have e2 : UInt32.ofNat k >>> (UInt32.ofNat j &&& Int32.toUInt32 31) = UInt32.ofNat (k >>> j) := by
    apply UInt32.toNat_inj.1
    have h1 : (UInt32.ofNat k).toNat = k := Nat.mod_eq_of_lt (by omega)
    have h2 : (UInt32.ofNat (k >>> j)).toNat = k >>> j := Nat.mod_eq_of_lt (by omega)
    rw [UInt32.toNat_shiftRight, nx_cnt ⟨j, hj⟩, h1, h2]
  show (UInt32.ofNat k >>> (UInt32.ofNat j &&& Int32.toUInt32 31)).toInt32 = _
  rw [e2]
  rfl
theorem nx_bit {k j : Nat} (hk : k < 65536) (hj : j < 16) : (((nI k).toUInt32 >>> ((nI j).toUInt32 &&& Int32.toUInt32 31)).toInt32 &&& 1) = 0 ↔ k.testBit j = false := by
  rw [nx_ush hk (by omega)]
  show nI (k >>> j) &&& nI 1 = 0 ↔ _
  rw [nx_and, Nat.and_one_is_mod, ← nI_0, nI_eq (by omega) (by omega), Nat.testBit_eq_decide_div_mod_eq, Nat.shiftRight_eq_div_pow, decide_eq_false_iff_not]
  generalize k / 2 ^ j = z
  omega
theorem nx_mod (k : Nat) : nI k &&& 65535 = nI (k % 65536) := by
  show nI k &&& nI 65535 = _
  rw [nx_and, show (65535 : Nat) = 2 ^ 16 - 1 from rfl, Nat.and_two_pow_sub_one_eq_mod]
theorem nx_m16 {k : Nat} (h : k < 65536) : nI k &&& 65535 = nI k := by rw [nx_mod, Nat.mod_eq_of_lt h]
theorem nx_mask (x : Int32) : ∃ k, k < 65536 ∧ x &&& 65535 = nI k := by
  have e : x = nI x.toBitVec.toNat := by
    apply Int32.toBitVec_inj.1
    show x.toBitVec = BitVec.ofNat 32 x.toBitVec.toNat
    simp
  refine ⟨x.toBitVec.toNat % 65536, Nat.mod_lt _ (by omega), ?_⟩
  rw [← nx_mod, ← e]
/-! ===== lN n to 2^64: shifts, and, or, masks, one bit ===== -/
theorem wb_tb (n : Nat) : (lN n).toBitVec = BitVec.ofNat 64 n := rfl
theorem wb_inj {a b : Int64} (h : a.toBitVec = b.toBitVec) : a = b := Int64.toBitVec_inj.mp h
theorem wb_tn {n : Nat} (h : n < 2 ^ 64) : (lN n).toBitVec.toNat = n := by rw [wb_tb, BitVec.toNat_ofNat, Nat.mod_eq_of_lt h]
theorem wb_of (x : Int64) : ∃ n, n < 2 ^ 64 ∧ x = lN n := ⟨x.toBitVec.toNat, x.toBitVec.isLt, wb_inj (by rw [wb_tb]; simp)⟩
theorem wb_of32 (x : Int32) : ∃ n, n < 2 ^ 32 ∧ x = nI n := ⟨x.toBitVec.toNat, x.toBitVec.isLt, Int32.toBitVec_inj.mp (by show _ = BitVec.ofNat 32 _; simp)⟩
theorem wb_c : ∀ k, k < 64 → ((nI k).toInt64 &&& 63) = lN k := by decide +kernel
theorem wb_cu : ∀ k, k < 64 → ((nI k).toInt64.toUInt64 &&& Int64.toUInt64 63) = UInt64.ofNat k := by decide +kernel
theorem wb_sm : ∀ k, k < 64 → (BitVec.ofNat 64 k).smod 64 = BitVec.ofNat 64 k := by decide +kernel
theorem wb_pw {a b : Nat} (h : a ≤ b) : 2 ^ b = 2 ^ a * 2 ^ (b - a) := by rw [← Nat.pow_add]; congr 1; omega
theorem wb_lt2 {a b : Nat} (h : a < b) : 2 ^ a < 2 ^ b := Nat.pow_lt_pow_right (by decide) h
theorem wb_mod (n : Nat) : lN n = lN (n % 2 ^ 64) := wb_inj (by rw [wb_tb, wb_tb]; apply BitVec.eq_of_toNat_eq; rw [BitVec.toNat_ofNat, BitVec.toNat_ofNat, Nat.mod_mod])
theorem wb_shr {n k : Nat} (hn : n < 2 ^ 64) (hk : k < 64) : ((lN n).toUInt64 >>> ((nI k).toInt64.toUInt64 &&& Int64.toUInt64 63)).toInt64 = lN (n / 2 ^ k) := by
  rw [wb_cu k hk]
  apply wb_inj
  apply BitVec.eq_of_toNat_eq
  show ((lN n).toUInt64 >>> UInt64.ofNat k).toNat = (BitVec.ofNat 64 _).toNat
  have h1 : (UInt64.ofNat k).toNat = k := by
    show (BitVec.ofNat 64 k).toNat = k
    rw [BitVec.toNat_ofNat, Nat.mod_eq_of_lt (by omega)]
  have h2 : (lN n).toUInt64.toNat = n := wb_tn hn
  rw [UInt64.toNat_shiftRight, h1, h2, Nat.mod_eq_of_lt hk, Nat.shiftRight_eq_div_pow, BitVec.toNat_ofNat, Nat.mod_eq_of_lt (Nat.lt_of_le_of_lt (Nat.div_le_self _ _) hn)]
theorem wb_shl (n : Nat) {k : Nat} (hk : k < 64) : lN n <<< ((nI k).toInt64 &&& 63) = lN (n * 2 ^ k) := by
  rw [wb_c k hk]
  apply wb_inj
  rw [Int64.toBitVec_shiftLeft, wb_tb, wb_tb, wb_tb, wb_sm k hk]
  apply BitVec.eq_of_toNat_eq
  rw [BitVec.shiftLeft_eq', BitVec.toNat_shiftLeft, BitVec.toNat_ofNat, BitVec.toNat_ofNat, BitVec.toNat_ofNat, Nat.mod_eq_of_lt (show k < 2 ^ 64 by omega), Nat.shiftLeft_eq, Nat.mul_mod, Nat.mod_mod, ← Nat.mul_mod]
theorem wb_and {a b : Nat} (ha : a < 2 ^ 64) (hb : b < 2 ^ 64) : lN a &&& lN b = lN (a &&& b) := by
  apply wb_inj
  rw [Int64.toBitVec_and, wb_tb, wb_tb, wb_tb]
  apply BitVec.eq_of_toNat_eq
  rw [BitVec.toNat_and, BitVec.toNat_ofNat, BitVec.toNat_ofNat, BitVec.toNat_ofNat, Nat.mod_eq_of_lt ha, Nat.mod_eq_of_lt hb, Nat.mod_eq_of_lt (Nat.and_lt_two_pow _ hb)]
theorem wb_or {a b : Nat} (ha : a < 2 ^ 64) (hb : b < 2 ^ 64) : lN a ||| lN b = lN (a ||| b) := by
  apply wb_inj
  rw [Int64.toBitVec_or, wb_tb, wb_tb, wb_tb]
  apply BitVec.eq_of_toNat_eq
  rw [BitVec.toNat_or, BitVec.toNat_ofNat, BitVec.toNat_ofNat, BitVec.toNat_ofNat, Nat.mod_eq_of_lt ha, Nat.mod_eq_of_lt hb, Nat.mod_eq_of_lt (Nat.or_lt_two_pow ha hb)]
theorem wb_mask {n k : Nat} (hn : n < 2 ^ 64) (hk : k < 64) : lN n &&& lN (2 ^ k - 1) = lN (n % 2 ^ k) := by
  rw [wb_and hn (by have := wb_lt2 hk; omega), Nat.and_two_pow_sub_one_eq_mod]
theorem wb_a1 {n : Nat} (hn : n < 2 ^ 64) : lN n &&& 1 = lN (n % 2) := wb_mask (k := 1) hn (by decide)
theorem wb_bit {n k : Nat} (hn : n < 2 ^ 64) (hk : k < 64) : ((lN n).toUInt64 >>> ((nI k).toInt64.toUInt64 &&& Int64.toUInt64 63)).toInt64 &&& 1 = lN (n / 2 ^ k % 2) := by
  rw [wb_shr hn hk, wb_a1 (Nat.lt_of_le_of_lt (Nat.div_le_self _ _) hn)]
theorem wb_xor {q k : Nat} (hk : k < 63) (h : 2 ^ k ≤ q) (h2 : q < 2 ^ (k + 1)) : lN q ^^^ lN (2 ^ k) = lN (q - 2 ^ k) := by
  obtain ⟨r, rfl⟩ : ∃ r, q = 2 ^ k + r := ⟨q - 2 ^ k, by omega⟩
  have hr : r < 2 ^ k := by rw [Nat.pow_succ] at h2; omega
  have hx : (2 ^ k + r) ^^^ 2 ^ k = r := by
    apply Nat.eq_of_testBit_eq
    intro i
    rw [Nat.testBit_xor, Nat.testBit_two_pow]
    rcases Nat.lt_trichotomy i k with h | h | h
    · rw [Nat.testBit_two_pow_add_gt h]
      simp [show ¬ k = i by omega]
    · subst h
      rw [Nat.testBit_two_pow_add_eq]
      simp
    · have a1 : 2 ^ (k + 1) ≤ 2 ^ i := Nat.pow_le_pow_right (by decide) h
      rw [Nat.testBit_lt_two_pow (show 2 ^ k + r < 2 ^ i by omega), Nat.testBit_lt_two_pow (show r < 2 ^ i by omega)]
      simp [show ¬ k = i by omega]
  have b1 := wb_lt2 (show k + 1 < 64 by omega)
  have b2 := wb_lt2 (show k < 64 by omega)
  apply wb_inj
  rw [Int64.toBitVec_xor, wb_tb, wb_tb, wb_tb]
  apply BitVec.eq_of_toNat_eq
  rw [BitVec.toNat_xor, BitVec.toNat_ofNat, BitVec.toNat_ofNat, BitVec.toNat_ofNat, Nat.mod_eq_of_lt (by omega : 2 ^ k + r < 2 ^ 64), Nat.mod_eq_of_lt b2, hx, Nat.add_sub_cancel_left, Nat.mod_eq_of_lt (by omega)]
end
section
/-! WORDS: lists of letters 1 .. 26, at most twelve; [] is 'no word'. eW w: the number that the class holds, the first letter highest, five bits a letter. -/
def eA : List Nat → Nat → Nat
  | [], _ => 0
  | _ :: _, 0 => 0
  | x :: xs, n + 1 => x * 32 ^ n + eA xs n
def okL (w : List Nat) : Prop := ∀ x ∈ w, 1 ≤ x ∧ x ≤ 26
def okW (w : List Nat) : Prop := w.length ≤ 12 ∧ okL w
def eW (w : List Nat) : Nat := eA w 12
theorem eA_nil (n : Nat) : eA [] n = 0 := by cases n <;> rfl
theorem eA_zero (xs : List Nat) : eA xs 0 = 0 := by cases xs <;> rfl
theorem eA_cons (x : Nat) (xs : List Nat) (n : Nat) : eA (x :: xs) (n + 1) = x * 32 ^ n + eA xs n := rfl
theorem okL.tl {x : Nat} {xs : List Nat} (h : okL (x :: xs)) : okL xs := fun y hy => h y (List.mem_cons_of_mem _ hy)
theorem okL.hd {x : Nat} {xs : List Nat} (h : okL (x :: xs)) : 1 ≤ x ∧ x ≤ 26 := h x List.mem_cons_self
theorem okL.take {w : List Nat} (h : okL w) (n : Nat) : okL (w.take n) := fun x hx => h x (List.mem_of_mem_take hx)
theorem okL.drop {w : List Nat} (h : okL w) (n : Nat) : okL (w.drop n) := fun x hx => h x (List.mem_of_mem_drop hx)
theorem okW.take {w : List Nat} (h : okW w) (n : Nat) : okW (w.take n) := ⟨by rw [List.length_take]; exact Nat.le_trans (Nat.min_le_right _ _) h.1, h.2.take n⟩
theorem okW.drop {w : List Nat} (h : okW w) (n : Nat) : okW (w.drop n) := ⟨by rw [List.length_drop]; exact Nat.le_trans (Nat.sub_le _ _) h.1, h.2.drop n⟩
theorem okW_nil : okW [] := ⟨Nat.zero_le _, fun _ h => absurd h List.not_mem_nil⟩
theorem eA_lt : ∀ (xs : List Nat) (n : Nat), okL xs → eA xs n < 32 ^ n
  | [], n, _ => by rw [eA_nil]; exact Nat.pow_pos (by decide)
  | x :: xs, 0, _ => by show 0 < 32 ^ 0; decide
  | x :: xs, n + 1, h => by
    have h1 := eA_lt xs n h.tl
    have h2 := h.hd
    rw [eA_cons, Nat.pow_succ]
    have h3 : (x + 1) * 32 ^ n ≤ 32 * 32 ^ n := Nat.mul_le_mul_right _ (by omega)
    rw [Nat.add_mul, Nat.one_mul] at h3
    rw [Nat.mul_comm (32 ^ n) 32]
    omega
theorem eW_lt {w : List Nat} (h : okW w) : eW w < 2 ^ 60 := by
  have := eA_lt w 12 h.2
  have e : (32 : Nat) ^ 12 = 2 ^ 60 := by decide
  rw [e] at this
  exact this
theorem eW_lt63 {w : List Nat} (h : okW w) : eW w < 2 ^ 63 := Nat.lt_trans (eW_lt h) (by decide)
theorem eW_lt64 {w : List Nat} (h : okW w) : eW w < 2 ^ 64 := Nat.lt_trans (eW_lt h) (by decide)
theorem eA_letter : ∀ (xs : List Nat) (n k : Nat), okL xs → k < n → eA xs n / 32 ^ (n - 1 - k) % 32 = xs.getD k 0
  | [], n, k, _, _ => by rw [eA_nil]; simp
  | x :: xs, 0, k, _, h => absurd h (Nat.not_lt_zero _)
  | x :: xs, n + 1, 0, h, _ => by
    have h1 := eA_lt xs n h.tl
    have h2 := h.hd
    have e : n + 1 - 1 - 0 = n := by omega
    rw [eA_cons, e, Nat.mul_comm, Nat.mul_add_div (Nat.pow_pos (by decide)), Nat.div_eq_of_lt h1, Nat.add_zero, Nat.mod_eq_of_lt (by omega)]
    rfl
  | x :: xs, n + 1, k + 1, h, hk => by
    have hk' : k < n := by omega
    have ih := eA_letter xs n k h.tl hk'
    have e : n + 1 - 1 - (k + 1) = n - 1 - k := by omega
    rw [eA_cons, e]
    obtain ⟨d, hd⟩ : ∃ d, n = (n - 1 - k) + (d + 1) := ⟨k, by omega⟩
    have e2 : x * 32 ^ n = 32 ^ (n - 1 - k) * (x * 32 ^ d * 32) := by
      rw [show (32 : Nat) ^ n = 32 ^ ((n - 1 - k) + (d + 1)) by rw [← hd], Nat.pow_add, Nat.pow_succ]
      simp only [Nat.mul_assoc, Nat.mul_comm, Nat.mul_left_comm]
    rw [e2, Nat.mul_add_div (Nat.pow_pos (by decide)), Nat.mul_add_mod', ih]
    rfl
theorem eW_letter {w : List Nat} (h : okW w) {k : Nat} (hk : k < 12) : eW w / 2 ^ (5 * (11 - k)) % 32 = w.getD k 0 := by
  have := eA_letter w 12 k h.2 hk
  rw [show (2 : Nat) ^ (5 * (11 - k)) = 32 ^ (12 - 1 - k) by rw [show 12 - 1 - k = 11 - k by omega, Nat.pow_mul]]
  exact this
theorem getD_ok {w : List Nat} (h : okL w) {k : Nat} (hk : k < w.length) : 1 ≤ w.getD k 0 ∧ w.getD k 0 ≤ 26 := by
  have e : w.getD k 0 = w[k] := by simp [List.getD, hk]
  rw [e]
  exact h _ (List.getElem_mem hk)
theorem getD_out {w : List Nat} {k : Nat} (hk : w.length ≤ k) : w.getD k 0 = 0 := by simp [List.getD, hk]
theorem getD_le {w : List Nat} (h : okL w) (k : Nat) : w.getD k 0 ≤ 26 := by
  by_cases hk : k < w.length
  · exact (getD_ok h hk).2
  · rw [getD_out (by omega)]; omega
theorem eA_lex : ∀ (xs ys : List Nat) (n : Nat), okL xs → okL ys → xs.length ≤ n → ys.length ≤ n → (eA xs n < eA ys n ↔ xs < ys)
  | [], [], n, _, _, _, _ => by simp
  | [], y :: ys, 0, _, _, _, h => absurd h (by simp)
  | [], y :: ys, n + 1, _, hy, _, _ => by
    rw [eA_nil, eA_cons]
    have h2 := hy.hd
    have h3 : 0 < 32 ^ n := Nat.pow_pos (by decide)
    have h4 : 1 * 32 ^ n ≤ y * 32 ^ n := Nat.mul_le_mul_right _ h2.1
    constructor
    · intro _; exact List.nil_lt_cons _ _
    · intro _; omega
  | x :: xs, [], n, _, _, _, _ => by
    rw [eA_nil]
    constructor
    · intro h; exact absurd h (Nat.not_lt_zero _)
    · intro h; exact absurd h (List.not_lt_nil _)
  | x :: xs, y :: ys, 0, _, _, h, _ => absurd h (by simp)
  | x :: xs, y :: ys, n + 1, hx, hy, h1, h2 => by
    have ih := eA_lex xs ys n hx.tl hy.tl (by simpa using h1) (by simpa using h2)
    rw [eA_cons, eA_cons, List.cons_lt_cons_iff]
    have a1 := eA_lt xs n hx.tl
    have a2 := eA_lt ys n hy.tl
    rcases Nat.lt_trichotomy x y with h | h | h
    · have h3 : (x + 1) * 32 ^ n ≤ y * 32 ^ n := Nat.mul_le_mul_right _ h
      rw [Nat.add_mul, Nat.one_mul] at h3
      constructor
      · intro _; exact Or.inl h
      · intro _; omega
    · subst h
      rw [Nat.add_lt_add_iff_left, ih]
      constructor
      · intro q; exact Or.inr ⟨rfl, q⟩
      · intro q
        rcases q with q | q
        · exact absurd q (Nat.lt_irrefl _)
        · exact q.2
    · have h3 : (y + 1) * 32 ^ n ≤ x * 32 ^ n := Nat.mul_le_mul_right _ h
      rw [Nat.add_mul, Nat.one_mul] at h3
      constructor
      · intro q; omega
      · intro q
        rcases q with q | q
        · omega
        · omega
theorem eW_lex {w v : List Nat} (hw : okW w) (hv : okW v) : eW w < eW v ↔ w < v := eA_lex w v 12 hw.2 hv.2 hw.1 hv.1
theorem eA_inj : ∀ (xs ys : List Nat) (n : Nat), okL xs → okL ys → xs.length ≤ n → ys.length ≤ n → eA xs n = eA ys n → xs = ys
  | [], [], _, _, _, _, _, _ => rfl
  | [], y :: ys, 0, _, _, _, h, _ => absurd h (by simp)
  | [], y :: ys, n + 1, _, hy, _, _, e => by
    rw [eA_nil, eA_cons] at e
    have h2 := hy.hd
    have h3 : 0 < 32 ^ n := Nat.pow_pos (by decide)
    have h4 : 1 * 32 ^ n ≤ y * 32 ^ n := Nat.mul_le_mul_right _ h2.1
    omega
  | x :: xs, [], 0, _, _, h, _, _ => absurd h (by simp)
  | x :: xs, [], n + 1, hx, _, _, _, e => by
    rw [eA_nil, eA_cons] at e
    have h2 := hx.hd
    have h3 : 0 < 32 ^ n := Nat.pow_pos (by decide)
    have h4 : 1 * 32 ^ n ≤ x * 32 ^ n := Nat.mul_le_mul_right _ h2.1
    omega
  | x :: xs, y :: ys, 0, _, _, h, _, _ => absurd h (by simp)
  | x :: xs, y :: ys, n + 1, hx, hy, h1, h2, e => by
    rw [eA_cons, eA_cons] at e
    have a1 := eA_lt xs n hx.tl
    have a2 := eA_lt ys n hy.tl
    rcases Nat.lt_trichotomy x y with h | h | h
    · have h3 : (x + 1) * 32 ^ n ≤ y * 32 ^ n := Nat.mul_le_mul_right _ h
      rw [Nat.add_mul, Nat.one_mul] at h3
      omega
    · subst h
      have e2 : eA xs n = eA ys n := by omega
      rw [eA_inj xs ys n hx.tl hy.tl (by simpa using h1) (by simpa using h2) e2]
    · have h3 : (y + 1) * 32 ^ n ≤ x * 32 ^ n := Nat.mul_le_mul_right _ h
      rw [Nat.add_mul, Nat.one_mul] at h3
      omega
theorem eW_inj {w v : List Nat} (hw : okW w) (hv : okW v) : eW w = eW v ↔ w = v := ⟨eA_inj w v 12 hw.2 hv.2 hw.1 hv.1, fun h => by rw [h]⟩
theorem eW_zero {w : List Nat} (hw : okW w) : eW w = 0 ↔ w = [] := by
  have := eW_inj hw okW_nil
  rw [show eW [] = 0 from rfl] at this
  exact this
theorem eA_take : ∀ (xs : List Nat) (n j : Nat), okL xs → j ≤ n → eA xs n / 32 ^ j * 32 ^ j = eA (xs.take (n - j)) n
  | [], n, j, _, _ => by simp [eA_nil]
  | x :: xs, 0, j, _, h => by
    rw [eA_zero, eA_zero]; simp
  | x :: xs, n + 1, j, h, hj => by
    by_cases e : j = n + 1
    · subst e
      have h1 := eA_lt (x :: xs) (n + 1) h
      rw [Nat.div_eq_of_lt h1, Nat.sub_self, List.take_zero, eA_nil, Nat.zero_mul]
    · have hj' : j ≤ n := by omega
      have ih := eA_take xs n j h.tl hj'
      obtain ⟨d, hd⟩ : ∃ d, n = j + d := ⟨n - j, by omega⟩
      have e2 : x * 32 ^ n = 32 ^ j * (x * 32 ^ d) := by
        rw [hd, Nat.pow_add]
        simp only [Nat.mul_assoc, Nat.mul_comm, Nat.mul_left_comm]
      rw [show n + 1 - j = (n - j) + 1 by omega, List.take_succ_cons, eA_cons, eA_cons, ← ih, e2, Nat.mul_add_div (Nat.pow_pos (by decide)), Nat.add_mul]
      congr 1
      exact Nat.mul_comm _ _
theorem eW_take {w : List Nat} (h : okW w) {n : Nat} (hn : n ≤ 12) : eW w / 2 ^ (5 * (12 - n)) * 2 ^ (5 * (12 - n)) = eW (w.take n) := by
  have := eA_take w 12 (12 - n) h.2 (by omega)
  rw [show 12 - (12 - n) = n by omega] at this
  rw [Nat.pow_mul]
  exact this
theorem eA_up : ∀ (xs : List Nat) (n : Nat), xs.length ≤ n → eA xs (n + 1) = eA xs n * 32
  | [], n, _ => by rw [eA_nil, eA_nil]
  | x :: xs, 0, h => absurd h (by simp)
  | x :: xs, n + 1, h => by
    rw [eA_cons, eA_cons, eA_up xs n (by simpa using h), Nat.add_mul, Nat.pow_succ, Nat.mul_assoc]
theorem eA_drop1 (xs : List Nat) (n : Nat) (hx : okL xs) (h : xs.length ≤ n) : eA xs n * 32 % 32 ^ n = eA (xs.drop 1) n := by
  cases xs with
  | nil => simp [eA_nil]
  | cons x ys =>
    cases n with
    | zero => exact absurd h (by simp)
    | succ n =>
      have h1 : ys.length ≤ n := by simpa using h
      have h2 := eA_lt ys n hx.tl
      show (x * 32 ^ n + eA ys n) * 32 % 32 ^ (n + 1) = eA ys (n + 1)
      rw [eA_up ys n h1, Nat.add_mul, Nat.mul_assoc, ← Nat.pow_succ, Nat.mul_comm x, Nat.mul_add_mod, Nat.mod_eq_of_lt]
      rw [Nat.pow_succ]
      exact Nat.mul_lt_mul_of_pos_right h2 (by decide)
theorem eA_drop (xs : List Nat) (n : Nat) (hx : okL xs) (h : xs.length ≤ n) : ∀ b, eA xs n * 32 ^ b % 32 ^ n = eA (xs.drop b) n
  | 0 => by rw [Nat.pow_zero, Nat.mul_one, List.drop_zero, Nat.mod_eq_of_lt (eA_lt xs n hx)]
  | b + 1 => by
    have ih := eA_drop xs n hx h b
    have h1 := eA_drop1 (xs.drop b) n (hx.drop b) (by rw [List.length_drop]; omega)
    rw [List.drop_drop] at h1
    rw [← h1, ← ih, Nat.pow_succ, ← Nat.mul_assoc, Nat.mod_mul_mod]
theorem eW_drop {w : List Nat} (h : okW w) (b : Nat) : eW w * 2 ^ (5 * b) % 2 ^ 60 = eW (w.drop b) := by
  have := eA_drop w 12 h.2 h.1 b
  rw [show (32 : Nat) ^ 12 = 2 ^ 60 by decide, show (32 : Nat) ^ b = 2 ^ (5 * b) by rw [Nat.pow_mul]] at this
  exact this
theorem eA_app : ∀ (xs : List Nat) (x n : Nat), xs.length < n → eA (xs ++ [x]) n = eA xs n + x * 32 ^ (n - 1 - xs.length)
  | [], x, 0, h => absurd h (Nat.not_lt_zero _)
  | [], x, n + 1, _ => by
    show x * 32 ^ n + eA [] n = 0 + x * 32 ^ (n + 1 - 1 - 0)
    rw [eA_nil, Nat.add_zero, Nat.zero_add]; rfl
  | y :: ys, x, 0, h => absurd h (Nat.not_lt_zero _)
  | y :: ys, x, n + 1, h => by
    have ih := eA_app ys x n (by simpa using h)
    rw [List.cons_append, eA_cons, eA_cons, ih, Nat.add_assoc, List.length_cons, show n + 1 - 1 - (ys.length + 1) = n - 1 - ys.length by omega]
theorem eA_mult : ∀ (xs : List Nat) (n : Nat), xs.length ≤ n → ∃ d, eA xs n = d * 32 ^ (n - xs.length)
  | [], n, _ => ⟨0, by rw [eA_nil, Nat.zero_mul]⟩
  | x :: xs, 0, h => absurd h (by simp)
  | x :: xs, n + 1, h => by
    have h1 : xs.length ≤ n := by simpa using h
    obtain ⟨d, hd⟩ := eA_mult xs n h1
    refine ⟨x * 32 ^ xs.length + d, ?_⟩
    rw [eA_cons, hd, List.length_cons, show n + 1 - (xs.length + 1) = n - xs.length by omega, Nat.add_mul, Nat.mul_assoc, ← Nat.pow_add, show xs.length + (n - xs.length) = n by omega]
/-- a letter more: bits that were free -/
theorem eW_with {w : List Nat} (h : okW w) {x : Nat} (hx : x ≤ 26) (hl : w.length < 12) : eW w ||| x * 2 ^ (5 * (11 - w.length)) = eW (w ++ [x]) := by
  have e1 : eW (w ++ [x]) = eW w + x * 2 ^ (5 * (11 - w.length)) := by
    have := eA_app w x 12 hl
    rw [show (12 - 1 - w.length) = 11 - w.length by omega] at this
    rw [Nat.pow_mul]
    exact this
  obtain ⟨d, hd⟩ := eA_mult w 12 (by omega)
  have e2 : eW w = 2 ^ (5 * (12 - w.length)) * d := by
    rw [Nat.pow_mul, Nat.mul_comm]
    exact hd
  have hlt : x * 2 ^ (5 * (11 - w.length)) < 2 ^ (5 * (12 - w.length)) := by
    rw [show 5 * (12 - w.length) = 5 + 5 * (11 - w.length) by omega, Nat.pow_add]
    exact Nat.mul_lt_mul_of_pos_right (by omega) (Nat.pow_pos (by decide))
  rw [e1, e2, Nat.two_pow_add_eq_or_of_lt hlt]
end
section
/-! PURE: what the class's static methods say of words -/
def lo8 (x : Int32) : Nat := x.toBitVec.toNat % 256
theorem lo8_lt (x : Int32) : lo8 x < 256 := Nat.mod_lt _ (by decide)
theorem hw_lo8 (x : Int32) : x &&& nI 255 = nI (lo8 x) := pk_and x 8 (by decide)
theorem hw_and31 (n : Nat) : nI n &&& nI 31 = nI (n % 32) := by
  rw [nx_and]
  exact congrArg nI (Nat.and_two_pow_sub_one_eq_mod n 5)
def ltr (c : Nat) : Nat := if 65 ≤ c ∧ c ≤ 90 then c - 64 else if 97 ≤ c ∧ c ≤ 122 then c - 96 else 0
theorem ltr_le (c : Nat) : ltr c ≤ 26 := by unfold ltr; (repeat' split) <;> omega
def sgn (x : Nat) : Nat := if x = 0 then 0 else x + 96
theorem getD_nz {w : List Nat} (_ : okL w) {i : Nat} (h : w.getD i 0 ≠ 0) : i < w.length := by
  rcases Nat.lt_or_ge i w.length with q | q
  · exact q
  · exact absurd (getD_out q) h
theorem getD_z {w : List Nat} (hw : okL w) {i : Nat} (h : w.getD i 0 = 0) : w.length ≤ i := by
  rcases Nat.lt_or_ge i w.length with q | q
  · have := getD_ok hw q; omega
  · exact q
theorem hw_first {w : List Nat} (hw : okW w) {n : Nat} (h0 : 0 < n) (hn : n < 12) : eW w / 2 ^ (5 * (11 - (n - 1))) * 2 ^ (5 * (11 - (n - 1))) = eW (w.take n) := by
  have := eW_take hw (n := n) (by omega)
  rw [show 11 - (n - 1) = 12 - n by omega]
  exact this
/-- the STEM of a word: letters 19 = s, 14 = n, 5 = e -/
def stemL (g : Nat) (w : List Nat) : List Nat :=
  if g = 1 then (if w.getD (w.length - 1) 0 = 19 ∧ 3 < w.length then w.take (w.length - 1) else w)
  else if g = 2 then (if (w.getD (w.length - 1) 0 = 14 ∧ w.getD (w.length - 2) 0 = 5) ∧ 4 < w.length then w.take (w.length - 2)
    else if w.getD (w.length - 1) 0 = 5 ∧ 3 < w.length then w.take (w.length - 1) else w)
  else w
def begL (w b : List Nat) : Bool := decide (w.take b.length = b)
def endL (w b : List Nat) : Bool := decide (b.length ≤ w.length ∧ w.drop (w.length - b.length) = b)
theorem okW_stem {w : List Nat} (h : okW w) (g : Nat) : okW (stemL g w) := by
  unfold stemL
  (repeat' split) <;> first | exact h | exact h.take _
theorem hw_lmask (n k : Nat) {m : Nat} (hm : m = 2 ^ k - 1) (hk : k < 64) : lN n &&& lN m = lN (n % 2 ^ k) := by
  subst hm
  rw [wb_mod n, wb_mask (Nat.mod_lt _ (by decide)) hk]
  congr 1
  exact Nat.mod_mod_of_dvd n (Nat.pow_dvd_pow 2 (by omega))
/-- a row of costs, one letter further -/
def nxt (x : Nat) (t : List Nat) (c : Nat → Nat) : Nat → Nat
  | 0 => c 0 + 1
  | j + 1 => min (if x = t.getD j 0 then c j else c j + 1) (min (c (j + 1)) (nxt x t c j) + 1)
def rows (t : List Nat) : List Nat → (Nat → Nat) → (Nat → Nat)
  | [], c => c
  | x :: xs, c => rows t xs (nxt x t c)
def distL (f t : List Nat) : Nat := rows t f (fun j => j) t.length
theorem nxt_le {x : Nat} {t : List Nat} {c : Nat → Nat} {B W : Nat} (h : ∀ j, j ≤ W → c j ≤ B) : ∀ j, j ≤ W → nxt x t c j ≤ B + 1
  | 0, hj => by have := h 0 hj; show c 0 + 1 ≤ B + 1; omega
  | j + 1, hj => by
    have := h j (by omega)
    show min (if x = t.getD j 0 then c j else c j + 1) _ ≤ B + 1
    split <;> omega
theorem rows_snoc (t : List Nat) : ∀ (xs : List Nat) (x : Nat) (c : Nat → Nat), rows t (xs ++ [x]) c = nxt x t (rows t xs c)
  | [], _, _ => rfl
  | y :: ys, x, c => rows_snoc t ys x (nxt y t c)
theorem rows_le {t : List Nat} {W : Nat} : ∀ (xs : List Nat) (c : Nat → Nat) (B : Nat), (∀ j, j ≤ W → c j ≤ B) → ∀ j, j ≤ W → rows t xs c j ≤ B + xs.length
  | [], c, B, h => h
  | x :: xs, c, B, h => fun j hj => by
    have := rows_le (t := t) xs (nxt x t c) (B + 1) (nxt_le h) j hj
    show rows t xs (nxt x t c) j ≤ B + (xs.length + 1)
    omega
theorem nxt_pos {x : Nat} {t : List Nat} {c : Nat → Nat} {j : Nat} (h : 1 ≤ j) : nxt x t c j = min (if x = t.getD (j - 1) 0 then c (j - 1) else c (j - 1) + 1) (min (c j) (nxt x t c (j - 1)) + 1) := by
  obtain ⟨k, rfl⟩ : ∃ k, j = k + 1 := ⟨j - 1, by omega⟩
  rfl
theorem rows_take {t f : List Nat} {c : Nat → Nat} {i : Nat} (h : i < f.length) : rows t (f.take (i + 1)) c = nxt (f.getD i 0) t (rows t (f.take i) c) := by
  rw [← rows_snoc]
  congr 1
  rw [List.take_succ]
  simp [List.getD, h]
theorem rows_id_le (t f : List Nat) (i k : Nat) (hi : i ≤ 12) (hk : k ≤ 12) : rows t (f.take i) (fun j => j) k ≤ 24 := by
  have := rows_le (t := t) (W := 12) (f.take i) (fun j => j) 12 (fun j hj => hj) k hk
  rw [List.length_take] at this
  omega
theorem hw_one {x : Nat} (h : x ≠ 0) (h2 : x ≤ 26) : okL [x] := fun y hy => by rw [List.mem_singleton.mp hy]; omega
theorem hw_app {w : List Nat} {x : Nat} (hw : okW w) (h : x ≠ 0) (h2 : x ≤ 26) (hl : w.length < 12) : okW (w ++ [x]) := ⟨by simp; omega, fun y hy => (List.mem_append.mp hy).elim (hw.2 y) (hw_one h h2 y)⟩
theorem hw_halve {lo hi lo' hi' st : Nat} (h : hi - lo ≤ 3000 / 2 ^ st) (h2 : 2 * (hi' - lo') ≤ hi - lo) : hi' - lo' ≤ 3000 / 2 ^ (st + 1) := by
  rw [Nat.pow_succ, ← Nat.div_div_eq_div_mul]
  omega
theorem getD_eq {ts : List (List Nat)} {j : Nat} (h : j < ts.length) : ts.getD j [] = ts[j] := by simp [List.getD, h]
theorem sorted_get {ts : List (List Nat)} (hs : ts.Pairwise (· < ·)) {i j : Nat} (h : i < j) (hj : j < ts.length) : ts.getD i [] < ts.getD j [] := by
  rw [getD_eq (Nat.lt_trans h hj), getD_eq hj]
  exact List.pairwise_iff_getElem.mp hs i j (Nat.lt_trans h hj) hj h
theorem lex_trans {a b c : List Nat} (h : a < b) (h2 : b < c) : a < c := List.lt_trans h h2
theorem lex_irrefl (a : List Nat) : ¬ a < a := List.lt_irrefl a
theorem sorted_upto {ts : List (List Nat)} (hs : ts.Pairwise (· < ·)) {w : List Nat} {mid j : Nat} (h : ts.getD mid [] < w) (hm : mid < ts.length) (hj : j ≤ mid) : ts.getD j [] < w := by
  rcases Nat.lt_or_eq_of_le hj with q | q
  · exact lex_trans (sorted_get hs q hm) h
  · rw [q]; exact h
theorem sorted_from {ts : List (List Nat)} (hs : ts.Pairwise (· < ·)) {w : List Nat} {mid j : Nat} (hj : mid ≤ j) (hl : j < ts.length) (h : ts.getD j [] < w) : ts.getD mid [] < w := by
  rcases Nat.lt_or_eq_of_le hj with q | q
  · exact lex_trans (sorted_get hs q hl) h
  · rw [q]; exact h
theorem mem_of_getD {ts : List (List Nat)} {p : Nat} {w : List Nat} (h : p < ts.length) (e : ts.getD p [] = w) : w ∈ ts := by
  rw [← e, getD_eq h]
  exact List.getElem_mem h
theorem getD_of_mem {ts : List (List Nat)} {w : List Nat} (h : w ∈ ts) : ∃ p, p < ts.length ∧ ts.getD p [] = w := by
  obtain ⟨p, hp, e⟩ := List.getElem_of_mem h
  exact ⟨p, hp, by rw [getD_eq hp, e]⟩
theorem not_mem_place {ts : List (List Nat)} (hs : ts.Pairwise (· < ·)) {w : List Nat} {p : Nat} (h1 : ∀ j, j < p → ts.getD j [] < w) (h2 : ∀ j, p ≤ j → j < ts.length → ¬ ts.getD j [] < w) (h3 : p < ts.length → ts.getD p [] = w → False) : w ∉ ts := by
  intro hm
  obtain ⟨j, hj, e⟩ := getD_of_mem hm
  rcases Nat.lt_trichotomy j p with q | q | q
  · have := h1 j q
    rw [e] at this
    exact lex_irrefl _ this
  · subst q
    exact h3 hj e
  · have := sorted_get hs q hj
    rw [e] at this
    exact h2 p (Nat.le_refl _) (Nat.lt_trans q hj) this
theorem not_mem_all {ts : List (List Nat)} {w : List Nat} (h : ∀ p, p < ts.length → ts.getD p [] ≠ w) : w ∉ ts := fun hm => by
  obtain ⟨p, hp, e⟩ := getD_of_mem hm
  exact h p hp e
theorem any_true {ts : List (List Nat)} {w : List Nat} (h : w ∈ ts) (hw : w ≠ []) : ts.any (fun t => decide (t ≠ [])) = true := List.any_eq_true.mpr ⟨w, h, decide_eq_true hw⟩
theorem any_false {ts : List (List Nat)} (h : ∀ p, p < ts.length → ts.getD p [] = []) : ts.any (fun t => decide (t ≠ [])) = false := by
  rw [List.any_eq_false]
  intro w hw
  obtain ⟨p, hp, e⟩ := getD_of_mem hw
  rw [h p hp] at e
  simp [← e]
theorem nn_getD {ts : List (List Nat)} {p : Nat} {w : List Nat} (h : 1 ≤ w.length) (e : ts.getD p [] = w) : p < ts.length := by
  rcases Nat.lt_or_ge p ts.length with q | q
  · exact q
  · have : ts.getD p [] = [] := by simp [List.getD, q]
    rw [this] at e
    rw [← e] at h
    exact absurd h (by simp)
theorem ne_getD {ts : List (List Nat)} (h : ∀ w ∈ ts, 1 ≤ w.length) {p : Nat} (hp : p < ts.length) : 1 ≤ (ts.getD p []).length := by
  rw [getD_eq hp]
  exact h _ (List.getElem_mem hp)
theorem getD_map {φ : List Nat → List Nat} {ts : List (List Nat)} {p : Nat} (hp : p < ts.length) : (ts.map φ).getD p [] = φ (ts.getD p []) := by simp [List.getD, hp]
/-- a word comes into an ordered row -/
def ins (w : List Nat) : List (List Nat) → List (List Nat)
  | [] => [w]
  | x :: xs => if x < w then x :: ins w xs else w :: x :: xs
def insS (N : Nat) (ts : List (List Nat)) (w : List Nat) : List (List Nat) := if N ≤ ts.length ∨ w ∈ ts then ts else ins w ts
theorem insS_full {N : Nat} {ts : List (List Nat)} {w : List Nat} (h : N ≤ ts.length) : insS N ts w = ts := by simp [insS, h]
theorem insS_mem {N : Nat} {ts : List (List Nat)} {w : List Nat} (h : w ∈ ts) : insS N ts w = ts := by simp [insS, h]
theorem insS_new {N : Nat} {ts : List (List Nat)} {w : List Nat} (h : ts.length < N) (h2 : w ∉ ts) : insS N ts w = ins w ts := by
  have : ¬ N ≤ ts.length := by omega
  simp [insS, this, h2]
theorem ins_place {w : List Nat} : ∀ {ts : List (List Nat)} {p : Nat}, (∀ j, j < p → ts.getD j [] < w) → (∀ j, p ≤ j → j < ts.length → ¬ ts.getD j [] < w) → p ≤ ts.length → ins w ts = ts.take p ++ w :: ts.drop p
  | [], 0, _, _, _ => rfl
  | [], p + 1, _, _, h => absurd h (by simp)
  | x :: xs, 0, _, h2, _ => by
    have : ¬ x < w := h2 0 (Nat.le_refl _) (by simp)
    simp [ins, this]
  | x :: xs, p + 1, h1, h2, h => by
    have hx : x < w := h1 0 (by omega)
    have ih := ins_place (w := w) (ts := xs) (p := p) (fun j hj => h1 (j + 1) (by omega)) (fun j hj hl => h2 (j + 1) (by omega) (by simp; omega)) (by simpa using h)
    simp [ins, hx, ih]
theorem ins_len {ts : List (List Nat)} {w : List Nat} {p : Nat} (h : p ≤ ts.length) : (ts.take p ++ w :: ts.drop p).length = ts.length + 1 := by
  simp [List.length_take, List.length_drop]; omega
theorem hw_mul63 {a b : Nat} (h1 : a ≤ 1000) (h2 : b ≤ 1000) : a * b < 2 ^ 63 := Nat.lt_of_le_of_lt (Nat.mul_le_mul h1 h2) (by decide)
theorem all_true {ta tb : List (List Nat)} (h : ∀ p, p < ta.length → ta.getD p [] = [] ∨ ta.getD p [] ∈ tb) : ta.all (fun t => decide (t = [] ∨ t ∈ tb)) = true := by
  rw [List.all_eq_true]
  intro w hw
  obtain ⟨p, hp, e⟩ := getD_of_mem hw
  rw [← e]
  exact decide_eq_true (h p hp)
theorem all_false {ta tb : List (List Nat)} {p : Nat} (hp : p < ta.length) (h : ¬ (ta.getD p [] = [] ∨ ta.getD p [] ∈ tb)) : ta.all (fun t => decide (t = [] ∨ t ∈ tb)) = false := by
  rw [List.all_eq_false]
  exact ⟨ta.getD p [], mem_of_getD hp rfl, by simpa using h⟩
theorem take_succ_getD {tb : List (List Nat)} {i : Nat} (h : i < tb.length) : tb.take (i + 1) = tb.take i ++ [tb.getD i []] := by
  rw [List.take_succ]
  simp [List.getD, h]
theorem cnt_stepT {tb : List (List Nat)} {P : List Nat → Bool} {i n : Nat} (h : i < tb.length) (hc : n = (tb.take i).countP P) (hp : P (tb.getD i []) = true) : n + 1 = (tb.take (i + 1)).countP P := by
  rw [take_succ_getD h, List.countP_append, ← hc]
  simp only [List.countP_cons, List.countP_nil, hp]
  simp
theorem cnt_stepF {tb : List (List Nat)} {P : List Nat → Bool} {i n : Nat} (h : i < tb.length) (hc : n = (tb.take i).countP P) (hp : P (tb.getD i []) = false) : n = (tb.take (i + 1)).countP P := by
  rw [take_succ_getD h, List.countP_append, ← hc]
  simp only [List.countP_cons, List.countP_nil, hp]
  simp
theorem hw_sh64 {x k : Nat} (h : x ≤ 26) (h2 : k ≤ 55 := by omega) : x * 2 ^ k < 2 ^ 64 := by
  have h3 : 2 ^ k ≤ 2 ^ 55 := Nat.pow_le_pow_right (by decide) h2
  have h4 : x * 2 ^ k ≤ 26 * 2 ^ 55 := Nat.mul_le_mul h h3
  exact Nat.lt_of_le_of_lt h4 (by decide)
theorem cntP_t {w : List Nat} {b : Bool} (h1 : w ≠ []) (h2 : b = true) : (decide (w ≠ []) && b) = true := by rw [decide_eq_true h1, h2]; rfl
theorem cntP_f1 {w : List Nat} {b : Bool} (h1 : w = []) : (decide (w ≠ []) && b) = false := by rw [decide_eq_false (fun h => h h1)]; rfl
theorem cntP_f2 {w : List Nat} {b : Bool} (h2 : b = false) : (decide (w ≠ []) && b) = false := by rw [h2, Bool.and_false]
end
section
theorem dWord_letterOf_0 : decode cWord_letterOf 0 = .ok (.iload_n 0, 1) := by decide +kernel
theorem dWord_letterOf_1 : decode cWord_letterOf 1 = .ok (.bipush 65, 2) := by decide +kernel
theorem dWord_letterOf_3 : decode cWord_letterOf 3 = .ok (.if_icmp .lt 16, 3) := by decide +kernel
theorem dWord_letterOf_6 : decode cWord_letterOf 6 = .ok (.iload_n 0, 1) := by decide +kernel
theorem dWord_letterOf_7 : decode cWord_letterOf 7 = .ok (.bipush 90, 2) := by decide +kernel
theorem dWord_letterOf_9 : decode cWord_letterOf 9 = .ok (.if_icmp .gt 10, 3) := by decide +kernel
theorem dWord_letterOf_12 : decode cWord_letterOf 12 = .ok (.iload_n 0, 1) := by decide +kernel
theorem dWord_letterOf_13 : decode cWord_letterOf 13 = .ok (.bipush 65, 2) := by decide +kernel
theorem dWord_letterOf_15 : decode cWord_letterOf 15 = .ok (.isub, 1) := by decide +kernel
theorem dWord_letterOf_16 : decode cWord_letterOf 16 = .ok (.iconst 1, 1) := by decide +kernel
theorem dWord_letterOf_17 : decode cWord_letterOf 17 = .ok (.iadd, 1) := by decide +kernel
theorem dWord_letterOf_18 : decode cWord_letterOf 18 = .ok (.ireturn, 1) := by decide +kernel
theorem dWord_letterOf_19 : decode cWord_letterOf 19 = .ok (.iload_n 0, 1) := by decide +kernel
theorem dWord_letterOf_20 : decode cWord_letterOf 20 = .ok (.bipush 97, 2) := by decide +kernel
theorem dWord_letterOf_22 : decode cWord_letterOf 22 = .ok (.if_icmp .lt 16, 3) := by decide +kernel
theorem dWord_letterOf_25 : decode cWord_letterOf 25 = .ok (.iload_n 0, 1) := by decide +kernel
theorem dWord_letterOf_26 : decode cWord_letterOf 26 = .ok (.bipush 122, 2) := by decide +kernel
theorem dWord_letterOf_28 : decode cWord_letterOf 28 = .ok (.if_icmp .gt 10, 3) := by decide +kernel
theorem dWord_letterOf_31 : decode cWord_letterOf 31 = .ok (.iload_n 0, 1) := by decide +kernel
theorem dWord_letterOf_32 : decode cWord_letterOf 32 = .ok (.bipush 96, 2) := by decide +kernel
theorem dWord_letterOf_34 : decode cWord_letterOf 34 = .ok (.isub, 1) := by decide +kernel
theorem dWord_letterOf_35 : decode cWord_letterOf 35 = .ok (.goto 4, 3) := by decide +kernel
theorem dWord_letterOf_38 : decode cWord_letterOf 38 = .ok (.iconst 0, 1) := by decide +kernel
theorem dWord_letterOf_39 : decode cWord_letterOf 39 = .ok (.ireturn, 1) := by decide +kernel
theorem dWord_shift_0 : decode cWord_shift 0 = .ok (.iconst 5, 1) := by decide +kernel
theorem dWord_shift_1 : decode cWord_shift 1 = .ok (.bipush 11, 2) := by decide +kernel
theorem dWord_shift_3 : decode cWord_shift 3 = .ok (.iload_n 0, 1) := by decide +kernel
theorem dWord_shift_4 : decode cWord_shift 4 = .ok (.isub, 1) := by decide +kernel
theorem dWord_shift_5 : decode cWord_shift 5 = .ok (.imul, 1) := by decide +kernel
theorem dWord_shift_6 : decode cWord_shift 6 = .ok (.ireturn, 1) := by decide +kernel
theorem dWord_with_0 : decode cWord_with 0 = .ok (.lload_n 0, 1) := by decide +kernel
theorem dWord_with_1 : decode cWord_with 1 = .ok (.iload_n 3, 1) := by decide +kernel
theorem dWord_with_2 : decode cWord_with 2 = .ok (.i2l, 1) := by decide +kernel
theorem dWord_with_3 : decode cWord_with 3 = .ok (.iload_n 2, 1) := by decide +kernel
theorem dWord_with_4 : decode cWord_with 4 = .ok (.invokestatic 11, 3) := by decide +kernel
theorem dWord_with_7 : decode cWord_with 7 = .ok (.lshl, 1) := by decide +kernel
theorem dWord_with_8 : decode cWord_with 8 = .ok (.lor, 1) := by decide +kernel
theorem dWord_with_9 : decode cWord_with 9 = .ok (.lreturn, 1) := by decide +kernel
theorem dWord_letterAt_0 : decode cWord_letterAt 0 = .ok (.iload_n 2, 1) := by decide +kernel
theorem dWord_letterAt_1 : decode cWord_letterAt 1 = .ok (.ifCond .lt 9, 3) := by decide +kernel
theorem dWord_letterAt_4 : decode cWord_letterAt 4 = .ok (.iload_n 2, 1) := by decide +kernel
theorem dWord_letterAt_5 : decode cWord_letterAt 5 = .ok (.bipush 12, 2) := by decide +kernel
theorem dWord_letterAt_7 : decode cWord_letterAt 7 = .ok (.if_icmp .lt 7, 3) := by decide +kernel
theorem dWord_letterAt_10 : decode cWord_letterAt 10 = .ok (.iconst 0, 1) := by decide +kernel
theorem dWord_letterAt_11 : decode cWord_letterAt 11 = .ok (.goto 13, 3) := by decide +kernel
theorem dWord_letterAt_14 : decode cWord_letterAt 14 = .ok (.lload_n 0, 1) := by decide +kernel
theorem dWord_letterAt_15 : decode cWord_letterAt 15 = .ok (.iload_n 2, 1) := by decide +kernel
theorem dWord_letterAt_16 : decode cWord_letterAt 16 = .ok (.invokestatic 11, 3) := by decide +kernel
theorem dWord_letterAt_19 : decode cWord_letterAt 19 = .ok (.lushr, 1) := by decide +kernel
theorem dWord_letterAt_20 : decode cWord_letterAt 20 = .ok (.l2i, 1) := by decide +kernel
theorem dWord_letterAt_21 : decode cWord_letterAt 21 = .ok (.bipush 31, 2) := by decide +kernel
theorem dWord_letterAt_23 : decode cWord_letterAt 23 = .ok (.iand, 1) := by decide +kernel
theorem dWord_letterAt_24 : decode cWord_letterAt 24 = .ok (.ireturn, 1) := by decide +kernel
theorem dWord_signAt_0 : decode cWord_signAt 0 = .ok (.lload_n 0, 1) := by decide +kernel
theorem dWord_signAt_1 : decode cWord_signAt 1 = .ok (.iload_n 2, 1) := by decide +kernel
theorem dWord_signAt_2 : decode cWord_signAt 2 = .ok (.invokestatic 15, 3) := by decide +kernel
theorem dWord_signAt_5 : decode cWord_signAt 5 = .ok (.istore_n 3, 1) := by decide +kernel
theorem dWord_signAt_6 : decode cWord_signAt 6 = .ok (.iload_n 3, 1) := by decide +kernel
theorem dWord_signAt_7 : decode cWord_signAt 7 = .ok (.ifCond .ne 7, 3) := by decide +kernel
theorem dWord_signAt_10 : decode cWord_signAt 10 = .ok (.iconst 0, 1) := by decide +kernel
theorem dWord_signAt_11 : decode cWord_signAt 11 = .ok (.goto 7, 3) := by decide +kernel
theorem dWord_signAt_14 : decode cWord_signAt 14 = .ok (.iload_n 3, 1) := by decide +kernel
theorem dWord_signAt_15 : decode cWord_signAt 15 = .ok (.bipush 96, 2) := by decide +kernel
theorem dWord_signAt_17 : decode cWord_signAt 17 = .ok (.iadd, 1) := by decide +kernel
theorem dWord_signAt_18 : decode cWord_signAt 18 = .ok (.ireturn, 1) := by decide +kernel
theorem dWord_length_0 : decode cWord_length 0 = .ok (.iconst 0, 1) := by decide +kernel
theorem dWord_length_1 : decode cWord_length 1 = .ok (.istore_n 2, 1) := by decide +kernel
theorem dWord_length_2 : decode cWord_length 2 = .ok (.iload_n 2, 1) := by decide +kernel
theorem dWord_length_3 : decode cWord_length 3 = .ok (.bipush 12, 2) := by decide +kernel
theorem dWord_length_5 : decode cWord_length 5 = .ok (.if_icmp .ge 17, 3) := by decide +kernel
theorem dWord_length_8 : decode cWord_length 8 = .ok (.lload_n 0, 1) := by decide +kernel
theorem dWord_length_9 : decode cWord_length 9 = .ok (.iload_n 2, 1) := by decide +kernel
theorem dWord_length_10 : decode cWord_length 10 = .ok (.invokestatic 15, 3) := by decide +kernel
theorem dWord_length_13 : decode cWord_length 13 = .ok (.ifCond .eq 9, 3) := by decide +kernel
theorem dWord_length_16 : decode cWord_length 16 = .ok (.iinc 2 1, 3) := by decide +kernel
theorem dWord_length_19 : decode cWord_length 19 = .ok (.goto (-17), 3) := by decide +kernel
theorem dWord_length_22 : decode cWord_length 22 = .ok (.iload_n 2, 1) := by decide +kernel
theorem dWord_length_23 : decode cWord_length 23 = .ok (.ireturn, 1) := by decide +kernel
theorem dWord_firstLetters_0 : decode cWord_firstLetters 0 = .ok (.iload_n 2, 1) := by decide +kernel
theorem dWord_firstLetters_1 : decode cWord_firstLetters 1 = .ok (.ifCond .gt 5, 3) := by decide +kernel
theorem dWord_firstLetters_4 : decode cWord_firstLetters 4 = .ok (.lconst 0, 1) := by decide +kernel
theorem dWord_firstLetters_5 : decode cWord_firstLetters 5 = .ok (.lreturn, 1) := by decide +kernel
theorem dWord_firstLetters_6 : decode cWord_firstLetters 6 = .ok (.iload_n 2, 1) := by decide +kernel
theorem dWord_firstLetters_7 : decode cWord_firstLetters 7 = .ok (.bipush 12, 2) := by decide +kernel
theorem dWord_firstLetters_9 : decode cWord_firstLetters 9 = .ok (.if_icmp .lt 7, 3) := by decide +kernel
theorem dWord_firstLetters_12 : decode cWord_firstLetters 12 = .ok (.lload_n 0, 1) := by decide +kernel
theorem dWord_firstLetters_13 : decode cWord_firstLetters 13 = .ok (.goto 18, 3) := by decide +kernel
theorem dWord_firstLetters_16 : decode cWord_firstLetters 16 = .ok (.lload_n 0, 1) := by decide +kernel
theorem dWord_firstLetters_17 : decode cWord_firstLetters 17 = .ok (.iload_n 2, 1) := by decide +kernel
theorem dWord_firstLetters_18 : decode cWord_firstLetters 18 = .ok (.iconst 1, 1) := by decide +kernel
theorem dWord_firstLetters_19 : decode cWord_firstLetters 19 = .ok (.isub, 1) := by decide +kernel
theorem dWord_firstLetters_20 : decode cWord_firstLetters 20 = .ok (.invokestatic 11, 3) := by decide +kernel
theorem dWord_firstLetters_23 : decode cWord_firstLetters 23 = .ok (.lushr, 1) := by decide +kernel
theorem dWord_firstLetters_24 : decode cWord_firstLetters 24 = .ok (.iload_n 2, 1) := by decide +kernel
theorem dWord_firstLetters_25 : decode cWord_firstLetters 25 = .ok (.iconst 1, 1) := by decide +kernel
theorem dWord_firstLetters_26 : decode cWord_firstLetters 26 = .ok (.isub, 1) := by decide +kernel
theorem dWord_firstLetters_27 : decode cWord_firstLetters 27 = .ok (.invokestatic 11, 3) := by decide +kernel
theorem dWord_firstLetters_30 : decode cWord_firstLetters 30 = .ok (.lshl, 1) := by decide +kernel
theorem dWord_firstLetters_31 : decode cWord_firstLetters 31 = .ok (.lreturn, 1) := by decide +kernel
theorem dWord_stem_0 : decode cWord_stem 0 = .ok (.lload_n 0, 1) := by decide +kernel
theorem dWord_stem_1 : decode cWord_stem 1 = .ok (.invokestatic 19, 3) := by decide +kernel
theorem dWord_stem_4 : decode cWord_stem 4 = .ok (.istore_n 3, 1) := by decide +kernel
theorem dWord_stem_5 : decode cWord_stem 5 = .ok (.lload_n 0, 1) := by decide +kernel
theorem dWord_stem_6 : decode cWord_stem 6 = .ok (.iload_n 3, 1) := by decide +kernel
theorem dWord_stem_7 : decode cWord_stem 7 = .ok (.iconst 1, 1) := by decide +kernel
theorem dWord_stem_8 : decode cWord_stem 8 = .ok (.isub, 1) := by decide +kernel
theorem dWord_stem_9 : decode cWord_stem 9 = .ok (.invokestatic 15, 3) := by decide +kernel
theorem dWord_stem_12 : decode cWord_stem 12 = .ok (.istore 4, 2) := by decide +kernel
theorem dWord_stem_14 : decode cWord_stem 14 = .ok (.iload_n 2, 1) := by decide +kernel
theorem dWord_stem_15 : decode cWord_stem 15 = .ok (.iconst 1, 1) := by decide +kernel
theorem dWord_stem_16 : decode cWord_stem 16 = .ok (.if_icmp .ne 30, 3) := by decide +kernel
theorem dWord_stem_19 : decode cWord_stem 19 = .ok (.iload 4, 2) := by decide +kernel
theorem dWord_stem_21 : decode cWord_stem 21 = .ok (.bipush 115, 2) := by decide +kernel
theorem dWord_stem_23 : decode cWord_stem 23 = .ok (.invokestatic 23, 3) := by decide +kernel
theorem dWord_stem_26 : decode cWord_stem 26 = .ok (.if_icmp .ne 18, 3) := by decide +kernel
theorem dWord_stem_29 : decode cWord_stem 29 = .ok (.iload_n 3, 1) := by decide +kernel
theorem dWord_stem_30 : decode cWord_stem 30 = .ok (.iconst 3, 1) := by decide +kernel
theorem dWord_stem_31 : decode cWord_stem 31 = .ok (.if_icmp .le 13, 3) := by decide +kernel
theorem dWord_stem_34 : decode cWord_stem 34 = .ok (.lload_n 0, 1) := by decide +kernel
theorem dWord_stem_35 : decode cWord_stem 35 = .ok (.iload_n 3, 1) := by decide +kernel
theorem dWord_stem_36 : decode cWord_stem 36 = .ok (.iconst 1, 1) := by decide +kernel
theorem dWord_stem_37 : decode cWord_stem 37 = .ok (.isub, 1) := by decide +kernel
theorem dWord_stem_38 : decode cWord_stem 38 = .ok (.invokestatic 26, 3) := by decide +kernel
theorem dWord_stem_41 : decode cWord_stem 41 = .ok (.goto 4, 3) := by decide +kernel
theorem dWord_stem_44 : decode cWord_stem 44 = .ok (.lload_n 0, 1) := by decide +kernel
theorem dWord_stem_45 : decode cWord_stem 45 = .ok (.lreturn, 1) := by decide +kernel
theorem dWord_stem_46 : decode cWord_stem 46 = .ok (.iload_n 2, 1) := by decide +kernel
theorem dWord_stem_47 : decode cWord_stem 47 = .ok (.iconst 2, 1) := by decide +kernel
theorem dWord_stem_48 : decode cWord_stem 48 = .ok (.if_icmp .eq 5, 3) := by decide +kernel
theorem dWord_stem_51 : decode cWord_stem 51 = .ok (.lload_n 0, 1) := by decide +kernel
theorem dWord_stem_52 : decode cWord_stem 52 = .ok (.lreturn, 1) := by decide +kernel
theorem dWord_stem_53 : decode cWord_stem 53 = .ok (.iload 4, 2) := by decide +kernel
theorem dWord_stem_55 : decode cWord_stem 55 = .ok (.bipush 110, 2) := by decide +kernel
theorem dWord_stem_57 : decode cWord_stem 57 = .ok (.invokestatic 23, 3) := by decide +kernel
theorem dWord_stem_60 : decode cWord_stem 60 = .ok (.if_icmp .ne 22, 3) := by decide +kernel
theorem dWord_stem_63 : decode cWord_stem 63 = .ok (.lload_n 0, 1) := by decide +kernel
theorem dWord_stem_64 : decode cWord_stem 64 = .ok (.iload_n 3, 1) := by decide +kernel
theorem dWord_stem_65 : decode cWord_stem 65 = .ok (.iconst 2, 1) := by decide +kernel
theorem dWord_stem_66 : decode cWord_stem 66 = .ok (.isub, 1) := by decide +kernel
theorem dWord_stem_67 : decode cWord_stem 67 = .ok (.invokestatic 15, 3) := by decide +kernel
theorem dWord_stem_70 : decode cWord_stem 70 = .ok (.bipush 101, 2) := by decide +kernel
theorem dWord_stem_72 : decode cWord_stem 72 = .ok (.invokestatic 23, 3) := by decide +kernel
theorem dWord_stem_75 : decode cWord_stem 75 = .ok (.if_icmp .ne 7, 3) := by decide +kernel
theorem dWord_stem_78 : decode cWord_stem 78 = .ok (.iconst 1, 1) := by decide +kernel
theorem dWord_stem_79 : decode cWord_stem 79 = .ok (.goto 4, 3) := by decide +kernel
theorem dWord_stem_82 : decode cWord_stem 82 = .ok (.iconst 0, 1) := by decide +kernel
theorem dWord_stem_83 : decode cWord_stem 83 = .ok (.istore 5, 2) := by decide +kernel
theorem dWord_stem_85 : decode cWord_stem 85 = .ok (.iload 5, 2) := by decide +kernel
theorem dWord_stem_87 : decode cWord_stem 87 = .ok (.ifCond .eq 16, 3) := by decide +kernel
theorem dWord_stem_90 : decode cWord_stem 90 = .ok (.iload_n 3, 1) := by decide +kernel
theorem dWord_stem_91 : decode cWord_stem 91 = .ok (.iconst 4, 1) := by decide +kernel
theorem dWord_stem_92 : decode cWord_stem 92 = .ok (.if_icmp .le 11, 3) := by decide +kernel
theorem dWord_stem_95 : decode cWord_stem 95 = .ok (.lload_n 0, 1) := by decide +kernel
theorem dWord_stem_96 : decode cWord_stem 96 = .ok (.iload_n 3, 1) := by decide +kernel
theorem dWord_stem_97 : decode cWord_stem 97 = .ok (.iconst 2, 1) := by decide +kernel
theorem dWord_stem_98 : decode cWord_stem 98 = .ok (.isub, 1) := by decide +kernel
theorem dWord_stem_99 : decode cWord_stem 99 = .ok (.invokestatic 26, 3) := by decide +kernel
theorem dWord_stem_102 : decode cWord_stem 102 = .ok (.lreturn, 1) := by decide +kernel
theorem dWord_stem_103 : decode cWord_stem 103 = .ok (.iload 4, 2) := by decide +kernel
theorem dWord_stem_105 : decode cWord_stem 105 = .ok (.bipush 101, 2) := by decide +kernel
theorem dWord_stem_107 : decode cWord_stem 107 = .ok (.invokestatic 23, 3) := by decide +kernel
theorem dWord_stem_110 : decode cWord_stem 110 = .ok (.if_icmp .ne 18, 3) := by decide +kernel
theorem dWord_stem_113 : decode cWord_stem 113 = .ok (.iload_n 3, 1) := by decide +kernel
theorem dWord_stem_114 : decode cWord_stem 114 = .ok (.iconst 3, 1) := by decide +kernel
theorem dWord_stem_115 : decode cWord_stem 115 = .ok (.if_icmp .le 13, 3) := by decide +kernel
theorem dWord_stem_118 : decode cWord_stem 118 = .ok (.lload_n 0, 1) := by decide +kernel
theorem dWord_stem_119 : decode cWord_stem 119 = .ok (.iload_n 3, 1) := by decide +kernel
theorem dWord_stem_120 : decode cWord_stem 120 = .ok (.iconst 1, 1) := by decide +kernel
theorem dWord_stem_121 : decode cWord_stem 121 = .ok (.isub, 1) := by decide +kernel
theorem dWord_stem_122 : decode cWord_stem 122 = .ok (.invokestatic 26, 3) := by decide +kernel
theorem dWord_stem_125 : decode cWord_stem 125 = .ok (.goto 4, 3) := by decide +kernel
theorem dWord_stem_128 : decode cWord_stem 128 = .ok (.lload_n 0, 1) := by decide +kernel
theorem dWord_stem_129 : decode cWord_stem 129 = .ok (.lreturn, 1) := by decide +kernel
theorem dWord_beginsWith_0 : decode cWord_beginsWith 0 = .ok (.lload_n 0, 1) := by decide +kernel
theorem dWord_beginsWith_1 : decode cWord_beginsWith 1 = .ok (.lload_n 2, 1) := by decide +kernel
theorem dWord_beginsWith_2 : decode cWord_beginsWith 2 = .ok (.invokestatic 19, 3) := by decide +kernel
theorem dWord_beginsWith_5 : decode cWord_beginsWith 5 = .ok (.invokestatic 26, 3) := by decide +kernel
theorem dWord_beginsWith_8 : decode cWord_beginsWith 8 = .ok (.lload_n 2, 1) := by decide +kernel
theorem dWord_beginsWith_9 : decode cWord_beginsWith 9 = .ok (.lcmp, 1) := by decide +kernel
theorem dWord_beginsWith_10 : decode cWord_beginsWith 10 = .ok (.ifCond .ne 7, 3) := by decide +kernel
theorem dWord_beginsWith_13 : decode cWord_beginsWith 13 = .ok (.iconst 1, 1) := by decide +kernel
theorem dWord_beginsWith_14 : decode cWord_beginsWith 14 = .ok (.goto 4, 3) := by decide +kernel
theorem dWord_beginsWith_17 : decode cWord_beginsWith 17 = .ok (.iconst 0, 1) := by decide +kernel
theorem dWord_beginsWith_18 : decode cWord_beginsWith 18 = .ok (.ireturn, 1) := by decide +kernel
theorem dWord_endsWith_0 : decode cWord_endsWith 0 = .ok (.lload_n 0, 1) := by decide +kernel
theorem dWord_endsWith_1 : decode cWord_endsWith 1 = .ok (.invokestatic 19, 3) := by decide +kernel
theorem dWord_endsWith_4 : decode cWord_endsWith 4 = .ok (.lload_n 2, 1) := by decide +kernel
theorem dWord_endsWith_5 : decode cWord_endsWith 5 = .ok (.invokestatic 19, 3) := by decide +kernel
theorem dWord_endsWith_8 : decode cWord_endsWith 8 = .ok (.isub, 1) := by decide +kernel
theorem dWord_endsWith_9 : decode cWord_endsWith 9 = .ok (.istore 4, 2) := by decide +kernel
theorem dWord_endsWith_11 : decode cWord_endsWith 11 = .ok (.iload 4, 2) := by decide +kernel
theorem dWord_endsWith_13 : decode cWord_endsWith 13 = .ok (.ifCond .lt 22, 3) := by decide +kernel
theorem dWord_endsWith_16 : decode cWord_endsWith 16 = .ok (.lload_n 0, 1) := by decide +kernel
theorem dWord_endsWith_17 : decode cWord_endsWith 17 = .ok (.iconst 5, 1) := by decide +kernel
theorem dWord_endsWith_18 : decode cWord_endsWith 18 = .ok (.iload 4, 2) := by decide +kernel
theorem dWord_endsWith_20 : decode cWord_endsWith 20 = .ok (.imul, 1) := by decide +kernel
theorem dWord_endsWith_21 : decode cWord_endsWith 21 = .ok (.lshl, 1) := by decide +kernel
theorem dWord_endsWith_22 : decode cWord_endsWith 22 = .ok (.ldc2_w 30, 3) := by decide +kernel
theorem dWord_endsWith_25 : decode cWord_endsWith 25 = .ok (.land, 1) := by decide +kernel
theorem dWord_endsWith_26 : decode cWord_endsWith 26 = .ok (.lload_n 2, 1) := by decide +kernel
theorem dWord_endsWith_27 : decode cWord_endsWith 27 = .ok (.lcmp, 1) := by decide +kernel
theorem dWord_endsWith_28 : decode cWord_endsWith 28 = .ok (.ifCond .ne 7, 3) := by decide +kernel
theorem dWord_endsWith_31 : decode cWord_endsWith 31 = .ok (.iconst 1, 1) := by decide +kernel
theorem dWord_endsWith_32 : decode cWord_endsWith 32 = .ok (.goto 4, 3) := by decide +kernel
theorem dWord_endsWith_35 : decode cWord_endsWith 35 = .ok (.iconst 0, 1) := by decide +kernel
theorem dWord_endsWith_36 : decode cWord_endsWith 36 = .ok (.ireturn, 1) := by decide +kernel
theorem dWord_nextCosts_0 : decode cWord_nextCosts 0 = .ok (.iload_n 3, 1) := by decide +kernel
theorem dWord_nextCosts_1 : decode cWord_nextCosts 1 = .ok (.ifCond .lt 10, 3) := by decide +kernel
theorem dWord_nextCosts_4 : decode cWord_nextCosts 4 = .ok (.iload_n 3, 1) := by decide +kernel
theorem dWord_nextCosts_5 : decode cWord_nextCosts 5 = .ok (.aload 4, 2) := by decide +kernel
theorem dWord_nextCosts_7 : decode cWord_nextCosts 7 = .ok (.arraylength, 1) := by decide +kernel
theorem dWord_nextCosts_8 : decode cWord_nextCosts 8 = .ok (.if_icmp .lt 4, 3) := by decide +kernel
theorem dWord_nextCosts_11 : decode cWord_nextCosts 11 = .ok (.return_, 1) := by decide +kernel
theorem dWord_nextCosts_12 : decode cWord_nextCosts 12 = .ok (.aload 4, 2) := by decide +kernel
theorem dWord_nextCosts_14 : decode cWord_nextCosts 14 = .ok (.iconst 0, 1) := by decide +kernel
theorem dWord_nextCosts_15 : decode cWord_nextCosts 15 = .ok (.iaload, 1) := by decide +kernel
theorem dWord_nextCosts_16 : decode cWord_nextCosts 16 = .ok (.istore 5, 2) := by decide +kernel
theorem dWord_nextCosts_18 : decode cWord_nextCosts 18 = .ok (.aload 4, 2) := by decide +kernel
theorem dWord_nextCosts_20 : decode cWord_nextCosts 20 = .ok (.iconst 0, 1) := by decide +kernel
theorem dWord_nextCosts_21 : decode cWord_nextCosts 21 = .ok (.dup2, 1) := by decide +kernel
theorem dWord_nextCosts_22 : decode cWord_nextCosts 22 = .ok (.iaload, 1) := by decide +kernel
theorem dWord_nextCosts_23 : decode cWord_nextCosts 23 = .ok (.iconst 1, 1) := by decide +kernel
theorem dWord_nextCosts_24 : decode cWord_nextCosts 24 = .ok (.iadd, 1) := by decide +kernel
theorem dWord_nextCosts_25 : decode cWord_nextCosts 25 = .ok (.iastore, 1) := by decide +kernel
theorem dWord_nextCosts_26 : decode cWord_nextCosts 26 = .ok (.iconst 1, 1) := by decide +kernel
theorem dWord_nextCosts_27 : decode cWord_nextCosts 27 = .ok (.istore 6, 2) := by decide +kernel
theorem dWord_nextCosts_29 : decode cWord_nextCosts 29 = .ok (.iload 6, 2) := by decide +kernel
theorem dWord_nextCosts_31 : decode cWord_nextCosts 31 = .ok (.iload_n 3, 1) := by decide +kernel
theorem dWord_nextCosts_32 : decode cWord_nextCosts 32 = .ok (.if_icmp .gt 66, 3) := by decide +kernel
theorem dWord_nextCosts_35 : decode cWord_nextCosts 35 = .ok (.iload_n 0, 1) := by decide +kernel
theorem dWord_nextCosts_36 : decode cWord_nextCosts 36 = .ok (.lload_n 1, 1) := by decide +kernel
theorem dWord_nextCosts_37 : decode cWord_nextCosts 37 = .ok (.iload 6, 2) := by decide +kernel
theorem dWord_nextCosts_39 : decode cWord_nextCosts 39 = .ok (.iconst 1, 1) := by decide +kernel
theorem dWord_nextCosts_40 : decode cWord_nextCosts 40 = .ok (.isub, 1) := by decide +kernel
theorem dWord_nextCosts_41 : decode cWord_nextCosts 41 = .ok (.invokestatic 15, 3) := by decide +kernel
theorem dWord_nextCosts_44 : decode cWord_nextCosts 44 = .ok (.if_icmp .ne 8, 3) := by decide +kernel
theorem dWord_nextCosts_47 : decode cWord_nextCosts 47 = .ok (.iload 5, 2) := by decide +kernel
theorem dWord_nextCosts_49 : decode cWord_nextCosts 49 = .ok (.goto 7, 3) := by decide +kernel
theorem dWord_nextCosts_52 : decode cWord_nextCosts 52 = .ok (.iload 5, 2) := by decide +kernel
theorem dWord_nextCosts_54 : decode cWord_nextCosts 54 = .ok (.iconst 1, 1) := by decide +kernel
theorem dWord_nextCosts_55 : decode cWord_nextCosts 55 = .ok (.iadd, 1) := by decide +kernel
theorem dWord_nextCosts_56 : decode cWord_nextCosts 56 = .ok (.istore 7, 2) := by decide +kernel
theorem dWord_nextCosts_58 : decode cWord_nextCosts 58 = .ok (.aload 4, 2) := by decide +kernel
theorem dWord_nextCosts_60 : decode cWord_nextCosts 60 = .ok (.iload 6, 2) := by decide +kernel
theorem dWord_nextCosts_62 : decode cWord_nextCosts 62 = .ok (.iaload, 1) := by decide +kernel
theorem dWord_nextCosts_63 : decode cWord_nextCosts 63 = .ok (.istore 5, 2) := by decide +kernel
theorem dWord_nextCosts_65 : decode cWord_nextCosts 65 = .ok (.aload 4, 2) := by decide +kernel
theorem dWord_nextCosts_67 : decode cWord_nextCosts 67 = .ok (.iload 6, 2) := by decide +kernel
theorem dWord_nextCosts_69 : decode cWord_nextCosts 69 = .ok (.iload 7, 2) := by decide +kernel
theorem dWord_nextCosts_71 : decode cWord_nextCosts 71 = .ok (.aload 4, 2) := by decide +kernel
theorem dWord_nextCosts_73 : decode cWord_nextCosts 73 = .ok (.iload 6, 2) := by decide +kernel
theorem dWord_nextCosts_75 : decode cWord_nextCosts 75 = .ok (.iaload, 1) := by decide +kernel
theorem dWord_nextCosts_76 : decode cWord_nextCosts 76 = .ok (.aload 4, 2) := by decide +kernel
theorem dWord_nextCosts_78 : decode cWord_nextCosts 78 = .ok (.iload 6, 2) := by decide +kernel
theorem dWord_nextCosts_80 : decode cWord_nextCosts 80 = .ok (.iconst 1, 1) := by decide +kernel
theorem dWord_nextCosts_81 : decode cWord_nextCosts 81 = .ok (.isub, 1) := by decide +kernel
theorem dWord_nextCosts_82 : decode cWord_nextCosts 82 = .ok (.iaload, 1) := by decide +kernel
theorem dWord_nextCosts_83 : decode cWord_nextCosts 83 = .ok (.invokestatic 32, 3) := by decide +kernel
theorem dWord_nextCosts_86 : decode cWord_nextCosts 86 = .ok (.iconst 1, 1) := by decide +kernel
theorem dWord_nextCosts_87 : decode cWord_nextCosts 87 = .ok (.iadd, 1) := by decide +kernel
theorem dWord_nextCosts_88 : decode cWord_nextCosts 88 = .ok (.invokestatic 32, 3) := by decide +kernel
theorem dWord_nextCosts_91 : decode cWord_nextCosts 91 = .ok (.iastore, 1) := by decide +kernel
theorem dWord_nextCosts_92 : decode cWord_nextCosts 92 = .ok (.iinc 6 1, 3) := by decide +kernel
theorem dWord_nextCosts_95 : decode cWord_nextCosts 95 = .ok (.goto (-66), 3) := by decide +kernel
theorem dWord_nextCosts_98 : decode cWord_nextCosts 98 = .ok (.return_, 1) := by decide +kernel
theorem dWord_distance_0 : decode cWord_distance 0 = .ok (.lload_n 2, 1) := by decide +kernel
theorem dWord_distance_1 : decode cWord_distance 1 = .ok (.invokestatic 19, 3) := by decide +kernel
theorem dWord_distance_4 : decode cWord_distance 4 = .ok (.aload 4, 2) := by decide +kernel
theorem dWord_distance_6 : decode cWord_distance 6 = .ok (.arraylength, 1) := by decide +kernel
theorem dWord_distance_7 : decode cWord_distance 7 = .ok (.iconst 1, 1) := by decide +kernel
theorem dWord_distance_8 : decode cWord_distance 8 = .ok (.isub, 1) := by decide +kernel
theorem dWord_distance_9 : decode cWord_distance 9 = .ok (.invokestatic 32, 3) := by decide +kernel
theorem dWord_distance_12 : decode cWord_distance 12 = .ok (.istore 5, 2) := by decide +kernel
theorem dWord_distance_14 : decode cWord_distance 14 = .ok (.iconst 0, 1) := by decide +kernel
theorem dWord_distance_15 : decode cWord_distance 15 = .ok (.istore 6, 2) := by decide +kernel
theorem dWord_distance_17 : decode cWord_distance 17 = .ok (.iload 6, 2) := by decide +kernel
theorem dWord_distance_19 : decode cWord_distance 19 = .ok (.iload 5, 2) := by decide +kernel
theorem dWord_distance_21 : decode cWord_distance 21 = .ok (.if_icmp .gt 16, 3) := by decide +kernel
theorem dWord_distance_24 : decode cWord_distance 24 = .ok (.aload 4, 2) := by decide +kernel
theorem dWord_distance_26 : decode cWord_distance 26 = .ok (.iload 6, 2) := by decide +kernel
theorem dWord_distance_28 : decode cWord_distance 28 = .ok (.iload 6, 2) := by decide +kernel
theorem dWord_distance_30 : decode cWord_distance 30 = .ok (.iastore, 1) := by decide +kernel
theorem dWord_distance_31 : decode cWord_distance 31 = .ok (.iinc 6 1, 3) := by decide +kernel
theorem dWord_distance_34 : decode cWord_distance 34 = .ok (.goto (-17), 3) := by decide +kernel
theorem dWord_distance_37 : decode cWord_distance 37 = .ok (.lload_n 0, 1) := by decide +kernel
theorem dWord_distance_38 : decode cWord_distance 38 = .ok (.invokestatic 19, 3) := by decide +kernel
theorem dWord_distance_41 : decode cWord_distance 41 = .ok (.istore 6, 2) := by decide +kernel
theorem dWord_distance_43 : decode cWord_distance 43 = .ok (.iconst 0, 1) := by decide +kernel
theorem dWord_distance_44 : decode cWord_distance 44 = .ok (.istore 7, 2) := by decide +kernel
theorem dWord_distance_46 : decode cWord_distance 46 = .ok (.iload 7, 2) := by decide +kernel
theorem dWord_distance_48 : decode cWord_distance 48 = .ok (.iload 6, 2) := by decide +kernel
theorem dWord_distance_50 : decode cWord_distance 50 = .ok (.if_icmp .ge 23, 3) := by decide +kernel
theorem dWord_distance_53 : decode cWord_distance 53 = .ok (.lload_n 0, 1) := by decide +kernel
theorem dWord_distance_54 : decode cWord_distance 54 = .ok (.iload 7, 2) := by decide +kernel
theorem dWord_distance_56 : decode cWord_distance 56 = .ok (.invokestatic 15, 3) := by decide +kernel
theorem dWord_distance_59 : decode cWord_distance 59 = .ok (.lload_n 2, 1) := by decide +kernel
theorem dWord_distance_60 : decode cWord_distance 60 = .ok (.iload 5, 2) := by decide +kernel
theorem dWord_distance_62 : decode cWord_distance 62 = .ok (.aload 4, 2) := by decide +kernel
theorem dWord_distance_64 : decode cWord_distance 64 = .ok (.invokestatic 38, 3) := by decide +kernel
theorem dWord_distance_67 : decode cWord_distance 67 = .ok (.iinc 7 1, 3) := by decide +kernel
theorem dWord_distance_70 : decode cWord_distance 70 = .ok (.goto (-24), 3) := by decide +kernel
theorem dWord_distance_73 : decode cWord_distance 73 = .ok (.iload 5, 2) := by decide +kernel
theorem dWord_distance_75 : decode cWord_distance 75 = .ok (.ifCond .ge 8, 3) := by decide +kernel
theorem dWord_distance_78 : decode cWord_distance 78 = .ok (.iload 6, 2) := by decide +kernel
theorem dWord_distance_80 : decode cWord_distance 80 = .ok (.goto 8, 3) := by decide +kernel
theorem dWord_distance_83 : decode cWord_distance 83 = .ok (.aload 4, 2) := by decide +kernel
theorem dWord_distance_85 : decode cWord_distance 85 = .ok (.iload 5, 2) := by decide +kernel
theorem dWord_distance_87 : decode cWord_distance 87 = .ok (.iaload, 1) := by decide +kernel
theorem dWord_distance_88 : decode cWord_distance 88 = .ok (.ireturn, 1) := by decide +kernel
theorem mm_0 : (.code yWord_shift cWord_shift 1 (some .int) : Cond) ∈ hwG := hwIx 231 (by decide +kernel) (by decide +kernel)
theorem mm_1 : (.static yWord_shift : Cond) ∈ hwG := hwIx 230 (by decide +kernel) (by decide +kernel)
theorem mm_2 : (.methodLink RWord 11 yWord_shift : Cond) ∈ hwG := hwIx 229 (by decide +kernel) (by decide +kernel)
theorem mm_3 : (.initialized RWord : Cond) ∈ hwG := hwIx 41 (by decide +kernel) (by decide +kernel)
theorem mm_4 : (.code yWord_letterAt cWord_letterAt 3 (some .int) : Cond) ∈ hwG := hwIx 292 (by decide +kernel) (by decide +kernel)
theorem mm_5 : (.static yWord_letterAt : Cond) ∈ hwG := hwIx 291 (by decide +kernel) (by decide +kernel)
theorem mm_6 : (.methodLink RWord 15 yWord_letterAt : Cond) ∈ hwG := hwIx 290 (by decide +kernel) (by decide +kernel)
theorem mm_7 : (.code yWord_length cWord_length 3 (some .int) : Cond) ∈ hwG := hwIx 289 (by decide +kernel) (by decide +kernel)
theorem mm_8 : (.static yWord_length : Cond) ∈ hwG := hwIx 288 (by decide +kernel) (by decide +kernel)
theorem mm_9 : (.methodLink RWord 19 yWord_length : Cond) ∈ hwG := hwIx 287 (by decide +kernel) (by decide +kernel)
theorem mm_10 : (.code yWord_letterOf cWord_letterOf 1 (some .int) : Cond) ∈ hwG := hwIx 205 (by decide +kernel) (by decide +kernel)
theorem mm_11 : (.static yWord_letterOf : Cond) ∈ hwG := hwIx 204 (by decide +kernel) (by decide +kernel)
theorem mm_12 : (.methodLink RWord 23 yWord_letterOf : Cond) ∈ hwG := hwIx 293 (by decide +kernel) (by decide +kernel)
theorem mm_13 : (.code yWord_firstLetters cWord_firstLetters 3 (some .long) : Cond) ∈ hwG := hwIx 296 (by decide +kernel) (by decide +kernel)
theorem mm_14 : (.static yWord_firstLetters : Cond) ∈ hwG := hwIx 295 (by decide +kernel) (by decide +kernel)
theorem mm_15 : (.methodLink RWord 26 yWord_firstLetters : Cond) ∈ hwG := hwIx 294 (by decide +kernel) (by decide +kernel)
theorem mm_16 : (.constantLong RWord 30 1152921504606846975 : Cond) ∈ hwG := hwIx 402 (by decide +kernel) (by decide +kernel)
theorem mm_17 : (.methodLink RWord 32 Lib.Math.min.name : Cond) ∈ hwG := hwIx 539 (by decide +kernel) (by decide +kernel)
theorem mm_18 : (.static Lib.Math.min.name : Cond) ∈ hwG := hwIx 221 (by decide +kernel) (by decide +kernel)
theorem mm_19 : (.initialized "java/lang/Math" : Cond) ∈ hwG := hwIx 36 (by decide +kernel) (by decide +kernel)
theorem mm_20 : (.code Lib.Math.min.name Lib.Math.min.code 2 (some .int) : Cond) ∈ hwG := hwIx 222 (by decide +kernel) (by decide +kernel)
theorem mm_21 : (.code yWord_nextCosts cWord_nextCosts 8 none : Cond) ∈ hwG := hwIx 542 (by decide +kernel) (by decide +kernel)
theorem mm_22 : (.static yWord_nextCosts : Cond) ∈ hwG := hwIx 541 (by decide +kernel) (by decide +kernel)
theorem mm_23 : (.methodLink RWord 38 yWord_nextCosts : Cond) ∈ hwG := hwIx 540 (by decide +kernel) (by decide +kernel)
set_option maxHeartbeats 4000000 in
set_option maxRecDepth 100000 in
theorem c_W_letterOf (l : Launch) (D : va_G) (K : Nat → ClassId) (X : hwW) (sz : Nat) (c0 : Nat) (hc0 : c0 < 256) : Met l yWord_letterOf (.code yWord_letterOf cWord_letterOf 1 (some .int) :: hwG) ({ frames := 0, cells := 0, slots := 0, locals := 0 } : Room) (hwPc D vwCl (hwT K) [.int (nI c0)] X sz) (hwQi D vwCl X sz (fun r Y => r = nI (ltr c0) ∧ X = Y ∧ ltr c0 ≤ 26)) 0 0 (va_A X.1 sz) := by
  refine hwMeti (cc := cWord_letterOf) (maxL := 1) (by decide) rfl (Nat.le_of_ble_eq_true rfl) (fun p e s m args below meth c ls A Q hx hb hml hown hts hname hret hK hO hZ hA hl => ?_)
  have hl : lv_has ls 1 [(0, .int (nI c0))] := hl
  refine lv_iload_n hx hb dWord_letterOf_0 rfl (lv_at hl 0 rfl) ?_
  refine lv_bipush (v := nI 65) hx hb dWord_letterOf_1 (by decide) ?_
  refine hw_ic_lt (a := c0) (b := 65) (tgt := 19) hx hb dWord_letterOf_3 (by decide) (by omega) (by omega) (fun cq_1 => ?_) (fun cq_1 => ?_)
  · refine lv_iload_n hx hb dWord_letterOf_19 rfl (lv_at hl 0 rfl) ?_
    refine lv_bipush (v := nI 97) hx hb dWord_letterOf_20 (by decide) ?_
    refine hw_ic_lt (a := c0) (b := 97) (tgt := 38) hx hb dWord_letterOf_22 (by decide) (by omega) (by omega) (fun cq_2 => ?_) (fun cq_2 => by exfalso; omega)
    refine lv_iconst (v := nI 0) hx hb dWord_letterOf_38 (by decide) ?_
    exact hret hZ ⟨congrArg nI (by unfold ltr; (repeat' split) <;> omega), rfl, ltr_le c0⟩ dWord_letterOf_39
  · refine lv_iload_n hx hb dWord_letterOf_6 rfl (lv_at hl 0 rfl) ?_
    refine lv_bipush (v := nI 90) hx hb dWord_letterOf_7 (by decide) ?_
    refine hw_ic_gt (a := c0) (b := 90) (tgt := 19) hx hb dWord_letterOf_9 (by decide) (by omega) (by omega) (fun cq_3 => ?_) (fun cq_3 => ?_)
    · refine lv_iload_n hx hb dWord_letterOf_19 rfl (lv_at hl 0 rfl) ?_
      refine lv_bipush (v := nI 97) hx hb dWord_letterOf_20 (by decide) ?_
      refine hw_ic_lt (a := c0) (b := 97) (tgt := 38) hx hb dWord_letterOf_22 (by decide) (by omega) (by omega) (fun cq_4 => ?_) (fun cq_4 => ?_)
      · refine lv_iconst (v := nI 0) hx hb dWord_letterOf_38 (by decide) ?_
        exact hret hZ ⟨congrArg nI (by unfold ltr; (repeat' split) <;> omega), rfl, ltr_le c0⟩ dWord_letterOf_39
      · refine lv_iload_n hx hb dWord_letterOf_25 rfl (lv_at hl 0 rfl) ?_
        refine lv_bipush (v := nI 122) hx hb dWord_letterOf_26 (by decide) ?_
        refine hw_ic_gt (a := c0) (b := 122) (tgt := 38) hx hb dWord_letterOf_28 (by decide) (by omega) (by omega) (fun cq_5 => ?_) (fun cq_5 => ?_)
        · refine lv_iconst (v := nI 0) hx hb dWord_letterOf_38 (by decide) ?_
          exact hret hZ ⟨congrArg nI (by unfold ltr; (repeat' split) <;> omega), rfl, ltr_le c0⟩ dWord_letterOf_39
        · refine lv_iload_n hx hb dWord_letterOf_31 rfl (lv_at hl 0 rfl) ?_
          refine lv_bipush (v := nI 96) hx hb dWord_letterOf_32 (by decide) ?_
          refine lv_isub hx hb dWord_letterOf_34 ?_
          refine hw_topi (pk_sub (a := c0) (b := 96) (by omega)) ?_
          refine lv_goto (tgt := 39) hx hb dWord_letterOf_35 (by decide) ?_
          exact hret hZ ⟨congrArg nI (by unfold ltr; (repeat' split) <;> omega), rfl, ltr_le c0⟩ dWord_letterOf_39
    · refine lv_iload_n hx hb dWord_letterOf_12 rfl (lv_at hl 0 rfl) ?_
      refine lv_bipush (v := nI 65) hx hb dWord_letterOf_13 (by decide) ?_
      refine lv_isub hx hb dWord_letterOf_15 ?_
      refine hw_topi (pk_sub (a := c0) (b := 65) (by omega)) ?_
      refine lv_iconst (v := nI 1) hx hb dWord_letterOf_16 (by decide) ?_
      refine lv_iadd hx hb dWord_letterOf_17 ?_
      refine hw_topi (nI_add (c0 - 65) 1) ?_
      exact hret hZ ⟨congrArg nI (by unfold ltr; (repeat' split) <;> omega), rfl, ltr_le c0⟩ dWord_letterOf_18
set_option maxHeartbeats 4000000 in
set_option maxRecDepth 100000 in
theorem c_W_shift (l : Launch) (D : va_G) (K : Nat → ClassId) (X : hwW) (sz : Nat) (k : Nat) (hk : k ≤ 11) : Met l yWord_shift (.code yWord_shift cWord_shift 1 (some .int) :: hwG) ({ frames := 0, cells := 0, slots := 0, locals := 0 } : Room) (hwPc D vwCl (hwT K) [.int (nI k)] X sz) (hwQi D vwCl X sz (fun r Y => r = nI (5 * (11 - k)) ∧ X = Y)) 0 0 (va_A X.1 sz) := by
  refine hwMeti (cc := cWord_shift) (maxL := 1) (by decide) rfl (Nat.le_of_ble_eq_true rfl) (fun p e s m args below meth c ls A Q hx hb hml hown hts hname hret hK hO hZ hA hl => ?_)
  have hl : lv_has ls 1 [(0, .int (nI k))] := hl
  refine lv_iconst (v := nI 5) hx hb dWord_shift_0 (by decide) ?_
  refine lv_bipush (v := nI 11) hx hb dWord_shift_1 (by decide) ?_
  refine lv_iload_n hx hb dWord_shift_3 rfl (lv_at hl 0 rfl) ?_
  refine lv_isub hx hb dWord_shift_4 ?_
  refine hw_topi (pk_sub (a := 11) (b := k) (by omega)) ?_
  refine lv_imul hx hb dWord_shift_5 ?_
  refine hw_topi (pk_mul 5 (11 - k)) ?_
  exact hret hZ ⟨rfl, rfl⟩ dWord_shift_6
set_option maxHeartbeats 4000000 in
set_option maxRecDepth 100000 in
theorem c_W_with (l : Launch) (D : va_G) (K : Nat → ClassId) (X : hwW) (sz : Nat) (w : List Nat) (x : Nat) (hw : okW w) (sl : w.length < 12) (sx : x ≤ 26) : Met l yWord_with (.code yWord_with cWord_with 4 (some .long) :: hwG) ({ frames := 1, cells := 0, slots := 0, locals := 20 } : Room) (hwPc D vwCl (hwT K) [.long (lN (eW w)), .int (nI w.length), .int (nI x)] X sz) (hwQl D vwCl X sz (fun r Y => r = lN (eW (w ++ [x])) ∧ X = Y)) 0 0 (va_A X.1 sz) := by
  refine hwMetl (cc := cWord_with) (maxL := 4) (by decide) rfl (Nat.le_of_ble_eq_true rfl) (fun p e s m args below meth c ls A Q hx hb hml hown hts hname hret hK hO hZ hA hl => ?_)
  have hl : lv_has ls 4 [(0, .long (lN (eW w))), (2, .int (nI w.length)), (3, .int (nI x))] := hl
  refine lv_lload_n hx hb dWord_with_0 rfl (lv_at hl 0 rfl) ?_
  refine lv_iload_n hx hb dWord_with_1 rfl (lv_at hl 2 rfl) ?_
  refine lv_i2l hx hb dWord_with_2 (nI_l (n := x) (by omega)) ?_
  refine lv_iload_n hx hb dWord_with_3 rfl (lv_at hl 1 rfl) ?_
  refine hw_calli (va_runS (As := [.int (nI w.length)]) (rest := [.long (lN x), .long (lN (eW w))]) ⟨hx, hb, hml, hown, hts⟩ (c_W_shift l D K X s.heap.size (k := w.length) (by omega)) (va_cwS 1 hts (hwGood (hw_3 mm_2 mm_1 mm_3 (hwAll mm_0))) rfl rfl rfl (by decide +kernel) ⟨Nat.le_of_ble_eq_true rfl, Nat.le_of_ble_eq_true rfl⟩) (hw_preS hK hO hZ) rfl rfl hl.1 rfl (lv_room (Nat.le_of_ble_eq_true rfl)) dWord_with_4 ⟨(show 0 + 0 ≤ 0 by omega), (show 0 + 0 ≤ 0 by omega)⟩) hZ hA (fun r X_1 H_2 lc_3 hp hZ => ?_)
  obtain ⟨hr, hy⟩ := hp
  subst hy
  refine hw_topi hr ?_
  refine lv_lshl hx hb dWord_with_7 (wb_shl x (k := 5 * (11 - w.length)) (by omega)) ?_
  refine lv_lor hx hb dWord_with_8 ?_
  refine hw_topl (wb_or (by first | exact eW_lt64 (by assumption) | exact hw_sh64 sx) (by first | exact eW_lt64 (by assumption) | exact hw_sh64 sx)) ?_
  exact hret hZ ⟨congrArg lN (eW_with hw sx sl), rfl⟩ dWord_with_9
set_option maxHeartbeats 4000000 in
set_option maxRecDepth 100000 in
theorem c_W_letterAt (l : Launch) (D : va_G) (K : Nat → ClassId) (X : hwW) (sz : Nat) (w : List Nat) (j : Nat) (hw : okW w) (hj : j < 2147483648) : Met l yWord_letterAt (.code yWord_letterAt cWord_letterAt 3 (some .int) :: hwG) ({ frames := 1, cells := 0, slots := 0, locals := 20 } : Room) (hwPc D vwCl (hwT K) [.long (lN (eW w)), .int (nI j)] X sz) (hwQi D vwCl X sz (fun r Y => r = nI (w.getD j 0) ∧ X = Y ∧ w.getD j 0 ≤ 26)) 0 0 (va_A X.1 sz) := by
  refine hwMeti (cc := cWord_letterAt) (maxL := 3) (by decide) rfl (Nat.le_of_ble_eq_true rfl) (fun p e s m args below meth c ls A Q hx hb hml hown hts hname hret hK hO hZ hA hl => ?_)
  have hl : lv_has ls 3 [(0, .long (lN (eW w))), (2, .int (nI j))] := hl
  refine lv_iload_n hx hb dWord_letterAt_0 rfl (lv_at hl 1 rfl) ?_
  refine hw_if_lt (a := j) (tgt := 10) hx hb dWord_letterAt_1 (by decide) (by omega) (fun cq_1 => by exfalso; omega) (fun cq_1 => ?_)
  refine lv_iload_n hx hb dWord_letterAt_4 rfl (lv_at hl 1 rfl) ?_
  refine lv_bipush (v := nI 12) hx hb dWord_letterAt_5 (by decide) ?_
  refine hw_ic_lt (a := j) (b := 12) (tgt := 14) hx hb dWord_letterAt_7 (by decide) (by omega) (by omega) (fun cq_2 => ?_) (fun cq_2 => ?_)
  · refine lv_lload_n hx hb dWord_letterAt_14 rfl (lv_at hl 0 rfl) ?_
    refine lv_iload_n hx hb dWord_letterAt_15 rfl (lv_at hl 1 rfl) ?_
    refine hw_calli (va_runS (As := [.int (nI j)]) (rest := [.long (lN (eW w))]) ⟨hx, hb, hml, hown, hts⟩ (c_W_shift l D K X s.heap.size (k := j) (by omega)) (va_cwS 1 hts (hwGood (hw_3 mm_2 mm_1 mm_3 (hwAll mm_0))) rfl rfl rfl (by decide +kernel) ⟨Nat.le_of_ble_eq_true rfl, Nat.le_of_ble_eq_true rfl⟩) (hw_preS hK hO hZ) rfl rfl hl.1 rfl (lv_room (Nat.le_of_ble_eq_true rfl)) dWord_letterAt_16 ⟨(show 0 + 0 ≤ 0 by omega), (show 0 + 0 ≤ 0 by omega)⟩) hZ hA (fun r X_3 H_4 lc_5 hp hZ => ?_)
    obtain ⟨hr, hy⟩ := hp
    subst hy
    refine hw_topi hr ?_
    refine lv_lushr hx hb dWord_letterAt_19 (wb_shr (n := eW w) (k := 5 * (11 - j)) (by first | exact eW_lt64 (by assumption) | omega) (by omega)) ?_
    refine lv_l2i hx hb dWord_letterAt_20 (lN_i ((eW w) / 2 ^ (5 * (11 - j)))) ?_
    refine lv_bipush (v := nI 31) hx hb dWord_letterAt_21 (by decide) ?_
    refine lv_iand hx hb dWord_letterAt_23 ?_
    refine hw_topi (hw_and31 ((eW w) / 2 ^ (5 * (11 - j)))) ?_
    exact hret hZ ⟨congrArg nI (eW_letter hw (by omega)), rfl, getD_le hw.2 j⟩ dWord_letterAt_24
  · refine lv_iconst (v := nI 0) hx hb dWord_letterAt_10 (by decide) ?_
    refine lv_goto (tgt := 24) hx hb dWord_letterAt_11 (by decide) ?_
    exact hret hZ ⟨congrArg nI (getD_out (by have := hw.1; omega)).symm, rfl, getD_le hw.2 j⟩ dWord_letterAt_24
set_option maxHeartbeats 4000000 in
set_option maxRecDepth 100000 in
theorem c_W_letterAtN (l : Launch) (D : va_G) (K : Nat → ClassId) (X : hwW) (sz : Nat) (w : List Nat) (i : Int32) (hi : i < 0) : Met l yWord_letterAt (.code yWord_letterAt cWord_letterAt 3 (some .int) :: hwG) ({ frames := 1, cells := 0, slots := 0, locals := 20 } : Room) (hwPc D vwCl (hwT K) [.long (lN (eW w)), .int i] X sz) (hwQi D vwCl X sz (fun r Y => r = nI 0 ∧ X = Y)) 0 0 (va_A X.1 sz) := by
  refine hwMeti (cc := cWord_letterAt) (maxL := 3) (by decide) rfl (Nat.le_of_ble_eq_true rfl) (fun p e s m args below meth c ls A Q hx hb hml hown hts hname hret hK hO hZ hA hl => ?_)
  have hl : lv_has ls 3 [(0, .long (lN (eW w))), (2, .int i)] := hl
  refine lv_iload_n hx hb dWord_letterAt_0 rfl (lv_at hl 1 rfl) ?_
  refine lv_if_lt (tgt := 10) hx hb dWord_letterAt_1 (by decide) (fun cq_1 => ?_) (fun cq_1 => absurd hi cq_1)
  refine lv_iconst (v := nI 0) hx hb dWord_letterAt_10 (by decide) ?_
  refine lv_goto (tgt := 24) hx hb dWord_letterAt_11 (by decide) ?_
  exact hret hZ ⟨rfl, rfl⟩ dWord_letterAt_24
set_option maxHeartbeats 4000000 in
set_option maxRecDepth 100000 in
theorem c_W_signAt (l : Launch) (D : va_G) (K : Nat → ClassId) (X : hwW) (sz : Nat) (w : List Nat) (j : Nat) (hw : okW w) (hj : j < 2147483648) : Met l yWord_signAt (.code yWord_signAt cWord_signAt 4 (some .int) :: hwG) ({ frames := 2, cells := 0, slots := 0, locals := 42 } : Room) (hwPc D vwCl (hwT K) [.long (lN (eW w)), .int (nI j)] X sz) (hwQi D vwCl X sz (fun r Y => r = nI (sgn (w.getD j 0)) ∧ X = Y)) 0 0 (va_A X.1 sz) := by
  refine hwMeti (cc := cWord_signAt) (maxL := 4) (by decide) rfl (Nat.le_of_ble_eq_true rfl) (fun p e s m args below meth c ls A Q hx hb hml hown hts hname hret hK hO hZ hA hl => ?_)
  have hl : lv_has ls 4 [(0, .long (lN (eW w))), (2, .int (nI j))] := hl
  have hle := getD_le hw.2 j
  refine lv_lload_n hx hb dWord_signAt_0 rfl (lv_at hl 0 rfl) ?_
  refine lv_iload_n hx hb dWord_signAt_1 rfl (lv_at hl 1 rfl) ?_
  refine hw_calli (va_runS (As := [.long (lN (eW w)), .int (nI j)]) (rest := []) ⟨hx, hb, hml, hown, hts⟩ (c_W_letterAt l D K X s.heap.size (w := w) (j := j) (by assumption) (by omega)) (va_cwS 2 hts (hwGood (hw_3 mm_6 mm_5 mm_3 (hwAll mm_4))) rfl rfl rfl (by decide +kernel) ⟨Nat.le_of_ble_eq_true rfl, Nat.le_of_ble_eq_true rfl⟩) (hw_preS hK hO hZ) rfl rfl hl.1 rfl (lv_room (Nat.le_of_ble_eq_true rfl)) dWord_signAt_2 ⟨(show 0 + 0 ≤ 0 by omega), (show 0 + 0 ≤ 0 by omega)⟩) hZ hA (fun r X_1 H_2 lc_3 hp hZ => ?_)
  obtain ⟨hr, hy, xx_4⟩ := hp
  subst hy
  refine hw_topi hr ?_
  refine lv_istore_n (lv' := [(3, .int (nI (w.getD j 0))), (0, .long (lN (eW w))), (2, .int (nI j))]) hx hb dWord_signAt_5 rfl hl (by decide) rfl (fun ls hl => ?_)
  refine lv_iload_n hx hb dWord_signAt_6 rfl (lv_at hl 0 rfl) ?_
  refine hw_if_ne (a := w.getD j 0) (tgt := 14) hx hb dWord_signAt_7 (by decide) (by omega) (fun cq_5 => ?_) (fun cq_5 => ?_)
  · refine lv_iload_n hx hb dWord_signAt_14 rfl (lv_at hl 0 rfl) ?_
    refine lv_bipush (v := nI 96) hx hb dWord_signAt_15 (by decide) ?_
    refine lv_iadd hx hb dWord_signAt_17 ?_
    refine hw_topi (nI_add (w.getD j 0) 96) ?_
    exact hret hZ ⟨congrArg nI (by unfold sgn; split <;> omega), rfl⟩ dWord_signAt_18
  · refine lv_iconst (v := nI 0) hx hb dWord_signAt_10 (by decide) ?_
    refine lv_goto (tgt := 18) hx hb dWord_signAt_11 (by decide) ?_
    exact hret hZ ⟨congrArg nI (by unfold sgn; split <;> omega), rfl⟩ dWord_signAt_18
set_option maxHeartbeats 4000000 in
set_option maxRecDepth 100000 in
theorem c_W_length (l : Launch) (D : va_G) (K : Nat → ClassId) (X : hwW) (sz : Nat) (w : List Nat) (hw : okW w) : Met l yWord_length (.code yWord_length cWord_length 3 (some .int) :: hwG) ({ frames := 2, cells := 0, slots := 0, locals := 42 } : Room) (hwPc D vwCl (hwT K) [.long (lN (eW w))] X sz) (hwQi D vwCl X sz (fun r Y => r = nI w.length ∧ X = Y)) 0 0 (va_A X.1 sz) := by
  refine hwMeti (cc := cWord_length) (maxL := 3) (by decide) rfl (Nat.le_of_ble_eq_true rfl) (fun p e s m args below meth c ls A Q hx hb hml hown hts hname hret hK hO hZ hA hl => ?_)
  have hl : lv_has ls 3 [(0, .long (lN (eW w)))] := hl
  have hw12 := hw.1
  refine lv_iconst (v := nI 0) hx hb dWord_length_0 (by decide) ?_
  refine lv_istore_n (lv' := [(2, .int (nI 0)), (0, .long (lN (eW w)))]) hx hb dWord_length_1 rfl hl (by decide) rfl (fun ls hl => ?_)
  have loop2 : ∀ (fuel : Nat) (i : Nat) (Hh : Heap) (lcs : List Loc) (ls : Array Slot), 12 - i < fuel → (i ≤ w.length) → hwZ D vwCl A s.heap X Hh lcs → lv_has ls 3 [(2, .int (nI i)), (0, .long (lN (eW w)))] → W p l e ({ frames := 2, cells := 0, slots := 0, locals := 42 } : Room) s m args below meth c Hh lcs 0 0 Q (F0 m 2 ls []) := by
    intro fuel; induction fuel with
    | zero => intro i Hh lcs ls hfu; exact absurd hfu (Nat.not_lt_zero _)
    | succ fuel ih2 =>
      intro i Hh lcs ls hfu2 hi hZ hl
      refine lv_iload_n hx hb dWord_length_2 rfl (lv_at hl 0 rfl) ?_
      refine lv_bipush (v := nI 12) hx hb dWord_length_3 (by decide) ?_
      refine hw_ic_ge (a := i) (b := 12) (tgt := 22) hx hb dWord_length_5 (by decide) (by omega) (by omega) (fun cq_1 => ?_) (fun cq_1 => ?_)
      · refine lv_iload_n hx hb dWord_length_22 rfl (lv_at hl 0 rfl) ?_
        exact hret hZ ⟨congrArg nI (by first | omega | (have hq := getD_z hw.2 cq_1; omega)), rfl⟩ dWord_length_23
      · refine lv_lload_n hx hb dWord_length_8 rfl (lv_at hl 1 rfl) ?_
        refine lv_iload_n hx hb dWord_length_9 rfl (lv_at hl 0 rfl) ?_
        refine hw_calli (va_runS (As := [.long (lN (eW w)), .int (nI i)]) (rest := []) ⟨hx, hb, hml, hown, hts⟩ (c_W_letterAt l D K X Hh.size (w := w) (j := i) (by assumption) (by omega)) (va_cwS 2 hts (hwGood (hw_3 mm_6 mm_5 mm_3 (hwAll mm_4))) rfl rfl rfl (by decide +kernel) ⟨Nat.le_of_ble_eq_true rfl, Nat.le_of_ble_eq_true rfl⟩) (hw_preS hK hO hZ) rfl rfl hl.1 rfl (lv_room (Nat.le_of_ble_eq_true rfl)) dWord_length_10 ⟨(show 0 + 0 ≤ 0 by omega), (show 0 + 0 ≤ 0 by omega)⟩) hZ hA (fun r X_2 H_3 lc_4 hp hZ => ?_)
        obtain ⟨hr, hy, xx_5⟩ := hp
        subst hy
        refine hw_topi hr ?_
        refine hw_if_eq (a := w.getD i 0) (tgt := 22) hx hb dWord_length_13 (by decide) (by omega) (fun cq_6 => ?_) (fun cq_6 => ?_)
        · refine lv_iload_n hx hb dWord_length_22 rfl (lv_at hl 0 rfl) ?_
          exact hret hZ ⟨congrArg nI (by first | omega | (have hq := getD_z hw.2 cq_6; omega)), rfl⟩ dWord_length_23
        · refine lv_iinc (v := nI (i + 1)) (lv' := [(2, .int (nI (i + 1))), (0, .long (lN (eW w)))]) hx hb dWord_length_16 hl (k := 0) rfl (nI_add _ 1) (by decide) rfl (fun ls hl => ?_)
          refine lv_goto (tgt := 2) hx hb dWord_length_19 (by decide) ?_
          have hq := getD_nz hw.2 cq_6
          exact ih2 (i + 1) _ _ _ (by omega) (by omega)  hZ (lv_sub hl [0, 1] rfl)
  exact loop2 (12 - 0 + 1) 0 _ _ _ (by omega) (Nat.zero_le _)  hZ (lv_sub hl [0, 1] rfl)
set_option maxHeartbeats 4000000 in
set_option maxRecDepth 100000 in
theorem c_W_firstLetters (l : Launch) (D : va_G) (K : Nat → ClassId) (X : hwW) (sz : Nat) (w : List Nat) (n : Nat) (hw : okW w) (hn : n ≤ 12) : Met l yWord_firstLetters (.code yWord_firstLetters cWord_firstLetters 3 (some .long) :: hwG) ({ frames := 1, cells := 0, slots := 0, locals := 20 } : Room) (hwPc D vwCl (hwT K) [.long (lN (eW w)), .int (nI n)] X sz) (hwQl D vwCl X sz (fun r Y => r = lN (eW (w.take n)) ∧ X = Y)) 0 0 (va_A X.1 sz) := by
  refine hwMetl (cc := cWord_firstLetters) (maxL := 3) (by decide) rfl (Nat.le_of_ble_eq_true rfl) (fun p e s m args below meth c ls A Q hx hb hml hown hts hname hret hK hO hZ hA hl => ?_)
  have hl : lv_has ls 3 [(0, .long (lN (eW w))), (2, .int (nI n))] := hl
  refine lv_iload_n hx hb dWord_firstLetters_0 rfl (lv_at hl 1 rfl) ?_
  refine hw_if_gt (a := n) (tgt := 6) hx hb dWord_firstLetters_1 (by decide) (by omega) (fun cq_1 => ?_) (fun cq_1 => ?_)
  · refine lv_iload_n hx hb dWord_firstLetters_6 rfl (lv_at hl 1 rfl) ?_
    refine lv_bipush (v := nI 12) hx hb dWord_firstLetters_7 (by decide) ?_
    refine hw_ic_lt (a := n) (b := 12) (tgt := 16) hx hb dWord_firstLetters_9 (by decide) (by omega) (by omega) (fun cq_2 => ?_) (fun cq_2 => ?_)
    · refine lv_lload_n hx hb dWord_firstLetters_16 rfl (lv_at hl 0 rfl) ?_
      refine lv_iload_n hx hb dWord_firstLetters_17 rfl (lv_at hl 1 rfl) ?_
      refine lv_iconst (v := nI 1) hx hb dWord_firstLetters_18 (by decide) ?_
      refine lv_isub hx hb dWord_firstLetters_19 ?_
      refine hw_topi (pk_sub (a := n) (b := 1) (by omega)) ?_
      refine hw_calli (va_runS (As := [.int (nI (n - 1))]) (rest := [.long (lN (eW w))]) ⟨hx, hb, hml, hown, hts⟩ (c_W_shift l D K X s.heap.size (k := n - 1) (by omega)) (va_cwS 1 hts (hwGood (hw_3 mm_2 mm_1 mm_3 (hwAll mm_0))) rfl rfl rfl (by decide +kernel) ⟨Nat.le_of_ble_eq_true rfl, Nat.le_of_ble_eq_true rfl⟩) (hw_preS hK hO hZ) rfl rfl hl.1 rfl (lv_room (Nat.le_of_ble_eq_true rfl)) dWord_firstLetters_20 ⟨(show 0 + 0 ≤ 0 by omega), (show 0 + 0 ≤ 0 by omega)⟩) hZ hA (fun r X_3 H_4 lc_5 hp hZ => ?_)
      obtain ⟨hr, hy⟩ := hp
      subst hy
      refine hw_topi hr ?_
      refine lv_lushr hx hb dWord_firstLetters_23 (wb_shr (n := eW w) (k := 5 * (11 - (n - 1))) (by first | exact eW_lt64 (by assumption) | omega) (by omega)) ?_
      refine lv_iload_n hx hb dWord_firstLetters_24 rfl (lv_at hl 1 rfl) ?_
      refine lv_iconst (v := nI 1) hx hb dWord_firstLetters_25 (by decide) ?_
      refine lv_isub hx hb dWord_firstLetters_26 ?_
      refine hw_topi (pk_sub (a := n) (b := 1) (by omega)) ?_
      refine hw_calli (va_runS (As := [.int (nI (n - 1))]) (rest := [.long (lN ((eW w) / 2 ^ (5 * (11 - (n - 1)))))]) ⟨hx, hb, hml, hown, hts⟩ (c_W_shift l D K X H_4.size (k := n - 1) (by omega)) (va_cwS 1 hts (hwGood (hw_3 mm_2 mm_1 mm_3 (hwAll mm_0))) rfl rfl rfl (by decide +kernel) ⟨Nat.le_of_ble_eq_true rfl, Nat.le_of_ble_eq_true rfl⟩) (hw_preS hK hO hZ) rfl rfl hl.1 rfl (lv_room (Nat.le_of_ble_eq_true rfl)) dWord_firstLetters_27 ⟨(show 0 + 0 ≤ 0 by omega), (show 0 + 0 ≤ 0 by omega)⟩) hZ hA (fun r X_6 H_7 lc_8 hp hZ => ?_)
      obtain ⟨hr, hy⟩ := hp
      subst hy
      refine hw_topi hr ?_
      refine lv_lshl hx hb dWord_firstLetters_30 (wb_shl ((eW w) / 2 ^ (5 * (11 - (n - 1)))) (k := 5 * (11 - (n - 1))) (by omega)) ?_
      exact hret hZ ⟨congrArg lN (hw_first hw (by omega) (by omega)), rfl⟩ dWord_firstLetters_31
    · refine lv_lload_n hx hb dWord_firstLetters_12 rfl (lv_at hl 0 rfl) ?_
      refine lv_goto (tgt := 31) hx hb dWord_firstLetters_13 (by decide) ?_
      exact hret hZ ⟨by have h0 : n = 12 := (by omega); subst h0; rw [List.take_of_length_le hw.1], rfl⟩ dWord_firstLetters_31
  · refine lv_lconst (v := lN 0) hx hb dWord_firstLetters_4 rfl ?_
    exact hret hZ ⟨by have h0 : n = 0 := (by omega); subst h0; rfl, rfl⟩ dWord_firstLetters_5
set_option maxHeartbeats 4000000 in
set_option maxRecDepth 100000 in
theorem c_W_stem (l : Launch) (D : va_G) (K : Nat → ClassId) (X : hwW) (sz : Nat) (w : List Nat) (g : Nat) (hw : okW w) (hg : g < 3) (hn : 1 ≤ w.length) : Met l yWord_stem (.code yWord_stem cWord_stem 6 (some .long) :: hwG) ({ frames := 3, cells := 0, slots := 0, locals := 64 } : Room) (hwPc D vwCl (hwT K) [.long (lN (eW w)), .int (nI g)] X sz) (hwQl D vwCl X sz (fun r Y => r = lN (eW (stemL g w)) ∧ X = Y)) 0 0 (va_A X.1 sz) := by
  refine hwMetl (cc := cWord_stem) (maxL := 6) (by decide) rfl (Nat.le_of_ble_eq_true rfl) (fun p e s m args below meth c ls A Q hx hb hml hown hts hname hret hK hO hZ hA hl => ?_)
  have hl : lv_has ls 6 [(0, .long (lN (eW w))), (2, .int (nI g))] := hl
  have hw12 := hw.1
  rcases Nat.lt_or_ge w.length 2 with h2 | h2
  · refine lv_lload_n hx hb dWord_stem_0 rfl (lv_at hl 0 rfl) ?_
    refine hw_calli (va_runS (As := [.long (lN (eW w))]) (rest := []) ⟨hx, hb, hml, hown, hts⟩ (c_W_length l D K X s.heap.size (w := w) (by assumption)) (va_cwS 1 hts (hwGood (hw_3 mm_9 mm_8 mm_3 (hwAll mm_7))) rfl rfl rfl (by decide +kernel) ⟨Nat.le_of_ble_eq_true rfl, Nat.le_of_ble_eq_true rfl⟩) (hw_preS hK hO hZ) rfl rfl hl.1 rfl (lv_room (Nat.le_of_ble_eq_true rfl)) dWord_stem_1 ⟨(show 0 + 0 ≤ 0 by omega), (show 0 + 0 ≤ 0 by omega)⟩) hZ hA (fun r X_1 H_2 lc_3 hp hZ => ?_)
    obtain ⟨hr, hy⟩ := hp
    subst hy
    refine hw_topi hr ?_
    refine lv_istore_n (lv' := [(3, .int (nI w.length)), (0, .long (lN (eW w))), (2, .int (nI g))]) hx hb dWord_stem_4 rfl hl (by decide) rfl (fun ls hl => ?_)
    refine lv_lload_n hx hb dWord_stem_5 rfl (lv_at hl 1 rfl) ?_
    refine lv_iload_n hx hb dWord_stem_6 rfl (lv_at hl 0 rfl) ?_
    refine lv_iconst (v := nI 1) hx hb dWord_stem_7 (by decide) ?_
    refine lv_isub hx hb dWord_stem_8 ?_
    refine hw_topi (pk_sub (a := w.length) (b := 1) (by omega)) ?_
    refine hw_calli (va_runS (As := [.long (lN (eW w)), .int (nI (w.length - 1))]) (rest := []) ⟨hx, hb, hml, hown, hts⟩ (c_W_letterAt l D K X H_2.size (w := w) (j := w.length - 1) (by assumption) (by omega)) (va_cwS 2 hts (hwGood (hw_3 mm_6 mm_5 mm_3 (hwAll mm_4))) rfl rfl rfl (by decide +kernel) ⟨Nat.le_of_ble_eq_true rfl, Nat.le_of_ble_eq_true rfl⟩) (hw_preS hK hO hZ) rfl rfl hl.1 rfl (lv_room (Nat.le_of_ble_eq_true rfl)) dWord_stem_9 ⟨(show 0 + 0 ≤ 0 by omega), (show 0 + 0 ≤ 0 by omega)⟩) hZ hA (fun r X_4 H_5 lc_6 hp hZ => ?_)
    obtain ⟨hr, hy, xx_7⟩ := hp
    subst hy
    refine hw_topi hr ?_
    refine lv_istore (lv' := [(4, .int (nI (w.getD (w.length - 1) 0))), (3, .int (nI w.length)), (0, .long (lN (eW w))), (2, .int (nI g))]) hx hb dWord_stem_12 hl (by decide) rfl (fun ls hl => ?_)
    refine lv_iload_n hx hb dWord_stem_14 rfl (lv_at hl 3 rfl) ?_
    refine lv_iconst (v := nI 1) hx hb dWord_stem_15 (by decide) ?_
    refine hw_ic_ne (a := g) (b := 1) (tgt := 46) hx hb dWord_stem_16 (by decide) (by omega) (by omega) (fun cq_8 => ?_) (fun cq_8 => ?_)
    · refine lv_iload_n hx hb dWord_stem_46 rfl (lv_at hl 3 rfl) ?_
      refine lv_iconst (v := nI 2) hx hb dWord_stem_47 (by decide) ?_
      refine hw_ic_eq (a := g) (b := 2) (tgt := 53) hx hb dWord_stem_48 (by decide) (by omega) (by omega) (fun cq_9 => ?_) (fun cq_9 => ?_)
      · refine lv_iload hx hb dWord_stem_53 (lv_at hl 0 rfl) ?_
        refine lv_bipush (v := nI 110) hx hb dWord_stem_55 (by decide) ?_
        refine hw_calli (va_runS (As := [.int (nI 110)]) (rest := [.int (nI (w.getD (w.length - 1) 0))]) ⟨hx, hb, hml, hown, hts⟩ (c_W_letterOf l D K X H_5.size (c0 := 110) (by first | omega | exact lo8_lt _ | decide)) (va_cwS 1 hts (hwGood (hw_3 mm_12 mm_11 mm_3 (hwAll mm_10))) rfl rfl rfl (by decide +kernel) ⟨Nat.le_of_ble_eq_true rfl, Nat.le_of_ble_eq_true rfl⟩) (hw_preS hK hO hZ) rfl rfl hl.1 rfl (lv_room (Nat.le_of_ble_eq_true rfl)) dWord_stem_57 ⟨(show 0 + 0 ≤ 0 by omega), (show 0 + 0 ≤ 0 by omega)⟩) hZ hA (fun r X_10 H_11 lc_12 hp hZ => ?_)
        obtain ⟨hr, hy, xx_13⟩ := hp
        subst hy
        refine hw_topi hr ?_
        refine hw_ic_ne (a := w.getD (w.length - 1) 0) (b := ltr 110) (tgt := 82) hx hb dWord_stem_60 (by decide) (by omega) (by omega) (fun cq_14 => ?_) (fun cq_14 => ?_)
        · refine lv_iconst (v := nI 0) hx hb dWord_stem_82 (by decide) ?_
          refine lv_istore (lv' := [(5, .int (nI 0)), (4, .int (nI (w.getD (w.length - 1) 0))), (3, .int (nI w.length)), (0, .long (lN (eW w))), (2, .int (nI g))]) hx hb dWord_stem_83 hl (by decide) rfl (fun ls hl => ?_)
          refine lv_iload hx hb dWord_stem_85 (lv_at hl 0 rfl) ?_
          refine hw_if_eq (a := 0) (tgt := 103) hx hb dWord_stem_87 (by decide) (by omega) (fun cq_15 => ?_) (fun cq_15 => by exfalso; omega)
          refine lv_iload hx hb dWord_stem_103 (lv_at hl 1 rfl) ?_
          refine lv_bipush (v := nI 101) hx hb dWord_stem_105 (by decide) ?_
          refine hw_calli (va_runS (As := [.int (nI 101)]) (rest := [.int (nI (w.getD (w.length - 1) 0))]) ⟨hx, hb, hml, hown, hts⟩ (c_W_letterOf l D K X H_11.size (c0 := 101) (by first | omega | exact lo8_lt _ | decide)) (va_cwS 1 hts (hwGood (hw_3 mm_12 mm_11 mm_3 (hwAll mm_10))) rfl rfl rfl (by decide +kernel) ⟨Nat.le_of_ble_eq_true rfl, Nat.le_of_ble_eq_true rfl⟩) (hw_preS hK hO hZ) rfl rfl hl.1 rfl (lv_room (Nat.le_of_ble_eq_true rfl)) dWord_stem_107 ⟨(show 0 + 0 ≤ 0 by omega), (show 0 + 0 ≤ 0 by omega)⟩) hZ hA (fun r X_16 H_17 lc_18 hp hZ => ?_)
          obtain ⟨hr, hy, xx_19⟩ := hp
          subst hy
          refine hw_topi hr ?_
          refine hw_ic_ne (a := w.getD (w.length - 1) 0) (b := ltr 101) (tgt := 128) hx hb dWord_stem_110 (by decide) (by omega) (by omega) (fun cq_20 => ?_) (fun cq_20 => ?_)
          · refine lv_lload_n hx hb dWord_stem_128 rfl (lv_at hl 3 rfl) ?_
            exact hret hZ ⟨congrArg lN (congrArg eW (by unfold stemL; simp_all (config := { decide := true }) [ltr]; try omega)), rfl⟩ dWord_stem_129
          · refine lv_iload_n hx hb dWord_stem_113 rfl (lv_at hl 2 rfl) ?_
            refine lv_iconst (v := nI 3) hx hb dWord_stem_114 (by decide) ?_
            refine hw_ic_le (a := w.length) (b := 3) (tgt := 128) hx hb dWord_stem_115 (by decide) (by omega) (by omega) (fun cq_21 => ?_) (fun cq_21 => by exfalso; omega)
            refine lv_lload_n hx hb dWord_stem_128 rfl (lv_at hl 3 rfl) ?_
            exact hret hZ ⟨congrArg lN (congrArg eW (by unfold stemL; simp_all (config := { decide := true }) [ltr]; try omega)), rfl⟩ dWord_stem_129
        · refine lv_lload_n hx hb dWord_stem_63 rfl (lv_at hl 2 rfl) ?_
          refine lv_iload_n hx hb dWord_stem_64 rfl (lv_at hl 1 rfl) ?_
          refine lv_iconst (v := nI 2) hx hb dWord_stem_65 (by decide) ?_
          refine lv_isub hx hb dWord_stem_66 ?_
          refine hw_calli (va_runS (As := [.long (lN (eW w)), .int ((nI w.length) - (nI 2))]) (rest := []) ⟨hx, hb, hml, hown, hts⟩ (c_W_letterAtN l D K X H_11.size (w := w) (i := (nI w.length) - (nI 2)) (pk_sneg (by omega) (by omega))) (va_cwS 2 hts (hwGood (hw_3 mm_6 mm_5 mm_3 (hwAll mm_4))) rfl rfl rfl (by decide +kernel) ⟨Nat.le_of_ble_eq_true rfl, Nat.le_of_ble_eq_true rfl⟩) (hw_preS hK hO hZ) rfl rfl hl.1 rfl (lv_room (Nat.le_of_ble_eq_true rfl)) dWord_stem_67 ⟨(show 0 + 0 ≤ 0 by omega), (show 0 + 0 ≤ 0 by omega)⟩) hZ hA (fun r X_22 H_23 lc_24 hp hZ => ?_)
          obtain ⟨hr, hy⟩ := hp
          subst hy
          refine hw_topi hr ?_
          refine lv_bipush (v := nI 101) hx hb dWord_stem_70 (by decide) ?_
          refine hw_calli (va_runS (As := [.int (nI 101)]) (rest := [.int (nI 0)]) ⟨hx, hb, hml, hown, hts⟩ (c_W_letterOf l D K X H_23.size (c0 := 101) (by first | omega | exact lo8_lt _ | decide)) (va_cwS 1 hts (hwGood (hw_3 mm_12 mm_11 mm_3 (hwAll mm_10))) rfl rfl rfl (by decide +kernel) ⟨Nat.le_of_ble_eq_true rfl, Nat.le_of_ble_eq_true rfl⟩) (hw_preS hK hO hZ) rfl rfl hl.1 rfl (lv_room (Nat.le_of_ble_eq_true rfl)) dWord_stem_72 ⟨(show 0 + 0 ≤ 0 by omega), (show 0 + 0 ≤ 0 by omega)⟩) hZ hA (fun r X_25 H_26 lc_27 hp hZ => ?_)
          obtain ⟨hr, hy, xx_28⟩ := hp
          subst hy
          refine hw_topi hr ?_
          refine hw_ic_ne (a := 0) (b := ltr 101) (tgt := 82) hx hb dWord_stem_75 (by decide) (by omega) (by omega) (fun cq_29 => ?_) (fun cq_29 => ?_)
          · refine lv_iconst (v := nI 0) hx hb dWord_stem_82 (by decide) ?_
            refine lv_istore (lv' := [(5, .int (nI 0)), (4, .int (nI (w.getD (w.length - 1) 0))), (3, .int (nI w.length)), (0, .long (lN (eW w))), (2, .int (nI g))]) hx hb dWord_stem_83 hl (by decide) rfl (fun ls hl => ?_)
            refine lv_iload hx hb dWord_stem_85 (lv_at hl 0 rfl) ?_
            refine hw_if_eq (a := 0) (tgt := 103) hx hb dWord_stem_87 (by decide) (by omega) (fun cq_30 => ?_) (fun cq_30 => by exfalso; omega)
            refine lv_iload hx hb dWord_stem_103 (lv_at hl 1 rfl) ?_
            refine lv_bipush (v := nI 101) hx hb dWord_stem_105 (by decide) ?_
            refine hw_calli (va_runS (As := [.int (nI 101)]) (rest := [.int (nI (w.getD (w.length - 1) 0))]) ⟨hx, hb, hml, hown, hts⟩ (c_W_letterOf l D K X H_26.size (c0 := 101) (by first | omega | exact lo8_lt _ | decide)) (va_cwS 1 hts (hwGood (hw_3 mm_12 mm_11 mm_3 (hwAll mm_10))) rfl rfl rfl (by decide +kernel) ⟨Nat.le_of_ble_eq_true rfl, Nat.le_of_ble_eq_true rfl⟩) (hw_preS hK hO hZ) rfl rfl hl.1 rfl (lv_room (Nat.le_of_ble_eq_true rfl)) dWord_stem_107 ⟨(show 0 + 0 ≤ 0 by omega), (show 0 + 0 ≤ 0 by omega)⟩) hZ hA (fun r X_31 H_32 lc_33 hp hZ => ?_)
            obtain ⟨hr, hy, xx_34⟩ := hp
            subst hy
            refine hw_topi hr ?_
            refine hw_ic_ne (a := w.getD (w.length - 1) 0) (b := ltr 101) (tgt := 128) hx hb dWord_stem_110 (by decide) (by omega) (by omega) (fun cq_35 => ?_) (fun cq_35 => ?_)
            · refine lv_lload_n hx hb dWord_stem_128 rfl (lv_at hl 3 rfl) ?_
              exact hret hZ ⟨congrArg lN (congrArg eW (by unfold stemL; simp_all (config := { decide := true }) [ltr]; try omega)), rfl⟩ dWord_stem_129
            · refine lv_iload_n hx hb dWord_stem_113 rfl (lv_at hl 2 rfl) ?_
              refine lv_iconst (v := nI 3) hx hb dWord_stem_114 (by decide) ?_
              refine hw_ic_le (a := w.length) (b := 3) (tgt := 128) hx hb dWord_stem_115 (by decide) (by omega) (by omega) (fun cq_36 => ?_) (fun cq_36 => by exfalso; omega)
              refine lv_lload_n hx hb dWord_stem_128 rfl (lv_at hl 3 rfl) ?_
              exact hret hZ ⟨congrArg lN (congrArg eW (by unfold stemL; simp_all (config := { decide := true }) [ltr]; try omega)), rfl⟩ dWord_stem_129
          · refine lv_iconst (v := nI 1) hx hb dWord_stem_78 (by decide) ?_
            refine lv_goto (tgt := 83) hx hb dWord_stem_79 (by decide) ?_
            refine lv_istore (lv' := [(5, .int (nI 1)), (4, .int (nI (w.getD (w.length - 1) 0))), (3, .int (nI w.length)), (0, .long (lN (eW w))), (2, .int (nI g))]) hx hb dWord_stem_83 hl (by decide) rfl (fun ls hl => ?_)
            refine lv_iload hx hb dWord_stem_85 (lv_at hl 0 rfl) ?_
            refine hw_if_eq (a := 1) (tgt := 103) hx hb dWord_stem_87 (by decide) (by omega) (fun cq_37 => by exfalso; omega) (fun cq_37 => ?_)
            refine lv_iload_n hx hb dWord_stem_90 rfl (lv_at hl 2 rfl) ?_
            refine lv_iconst (v := nI 4) hx hb dWord_stem_91 (by decide) ?_
            refine hw_ic_le (a := w.length) (b := 4) (tgt := 103) hx hb dWord_stem_92 (by decide) (by omega) (by omega) (fun cq_38 => ?_) (fun cq_38 => by exfalso; omega)
            refine lv_iload hx hb dWord_stem_103 (lv_at hl 1 rfl) ?_
            refine lv_bipush (v := nI 101) hx hb dWord_stem_105 (by decide) ?_
            refine hw_calli (va_runS (As := [.int (nI 101)]) (rest := [.int (nI (w.getD (w.length - 1) 0))]) ⟨hx, hb, hml, hown, hts⟩ (c_W_letterOf l D K X H_26.size (c0 := 101) (by first | omega | exact lo8_lt _ | decide)) (va_cwS 1 hts (hwGood (hw_3 mm_12 mm_11 mm_3 (hwAll mm_10))) rfl rfl rfl (by decide +kernel) ⟨Nat.le_of_ble_eq_true rfl, Nat.le_of_ble_eq_true rfl⟩) (hw_preS hK hO hZ) rfl rfl hl.1 rfl (lv_room (Nat.le_of_ble_eq_true rfl)) dWord_stem_107 ⟨(show 0 + 0 ≤ 0 by omega), (show 0 + 0 ≤ 0 by omega)⟩) hZ hA (fun r X_39 H_40 lc_41 hp hZ => ?_)
            obtain ⟨hr, hy, xx_42⟩ := hp
            subst hy
            refine hw_topi hr ?_
            refine hw_ic_ne (a := w.getD (w.length - 1) 0) (b := ltr 101) (tgt := 128) hx hb dWord_stem_110 (by decide) (by omega) (by omega) (fun cq_43 => ?_) (fun cq_43 => ?_)
            · refine lv_lload_n hx hb dWord_stem_128 rfl (lv_at hl 3 rfl) ?_
              exact hret hZ ⟨congrArg lN (congrArg eW (by unfold stemL; simp_all (config := { decide := true }) [ltr]; try omega)), rfl⟩ dWord_stem_129
            · refine lv_iload_n hx hb dWord_stem_113 rfl (lv_at hl 2 rfl) ?_
              refine lv_iconst (v := nI 3) hx hb dWord_stem_114 (by decide) ?_
              refine hw_ic_le (a := w.length) (b := 3) (tgt := 128) hx hb dWord_stem_115 (by decide) (by omega) (by omega) (fun cq_44 => ?_) (fun cq_44 => by exfalso; omega)
              refine lv_lload_n hx hb dWord_stem_128 rfl (lv_at hl 3 rfl) ?_
              exact hret hZ ⟨congrArg lN (congrArg eW (by unfold stemL; simp_all (config := { decide := true }) [ltr]; try omega)), rfl⟩ dWord_stem_129
      · refine lv_lload_n hx hb dWord_stem_51 rfl (lv_at hl 2 rfl) ?_
        exact hret hZ ⟨congrArg lN (congrArg eW (by unfold stemL; simp_all (config := { decide := true }) [ltr]; try omega)), rfl⟩ dWord_stem_52
    · refine lv_iload hx hb dWord_stem_19 (lv_at hl 0 rfl) ?_
      refine lv_bipush (v := nI 115) hx hb dWord_stem_21 (by decide) ?_
      refine hw_calli (va_runS (As := [.int (nI 115)]) (rest := [.int (nI (w.getD (w.length - 1) 0))]) ⟨hx, hb, hml, hown, hts⟩ (c_W_letterOf l D K X H_5.size (c0 := 115) (by first | omega | exact lo8_lt _ | decide)) (va_cwS 1 hts (hwGood (hw_3 mm_12 mm_11 mm_3 (hwAll mm_10))) rfl rfl rfl (by decide +kernel) ⟨Nat.le_of_ble_eq_true rfl, Nat.le_of_ble_eq_true rfl⟩) (hw_preS hK hO hZ) rfl rfl hl.1 rfl (lv_room (Nat.le_of_ble_eq_true rfl)) dWord_stem_23 ⟨(show 0 + 0 ≤ 0 by omega), (show 0 + 0 ≤ 0 by omega)⟩) hZ hA (fun r X_45 H_46 lc_47 hp hZ => ?_)
      obtain ⟨hr, hy, xx_48⟩ := hp
      subst hy
      refine hw_topi hr ?_
      refine hw_ic_ne (a := w.getD (w.length - 1) 0) (b := ltr 115) (tgt := 44) hx hb dWord_stem_26 (by decide) (by omega) (by omega) (fun cq_49 => ?_) (fun cq_49 => ?_)
      · refine lv_lload_n hx hb dWord_stem_44 rfl (lv_at hl 2 rfl) ?_
        exact hret hZ ⟨congrArg lN (congrArg eW (by unfold stemL; simp_all (config := { decide := true }) [ltr]; try omega)), rfl⟩ dWord_stem_45
      · refine lv_iload_n hx hb dWord_stem_29 rfl (lv_at hl 1 rfl) ?_
        refine lv_iconst (v := nI 3) hx hb dWord_stem_30 (by decide) ?_
        refine hw_ic_le (a := w.length) (b := 3) (tgt := 44) hx hb dWord_stem_31 (by decide) (by omega) (by omega) (fun cq_50 => ?_) (fun cq_50 => by exfalso; omega)
        refine lv_lload_n hx hb dWord_stem_44 rfl (lv_at hl 2 rfl) ?_
        exact hret hZ ⟨congrArg lN (congrArg eW (by unfold stemL; simp_all (config := { decide := true }) [ltr]; try omega)), rfl⟩ dWord_stem_45
  · refine lv_lload_n hx hb dWord_stem_0 rfl (lv_at hl 0 rfl) ?_
    refine hw_calli (va_runS (As := [.long (lN (eW w))]) (rest := []) ⟨hx, hb, hml, hown, hts⟩ (c_W_length l D K X s.heap.size (w := w) (by assumption)) (va_cwS 1 hts (hwGood (hw_3 mm_9 mm_8 mm_3 (hwAll mm_7))) rfl rfl rfl (by decide +kernel) ⟨Nat.le_of_ble_eq_true rfl, Nat.le_of_ble_eq_true rfl⟩) (hw_preS hK hO hZ) rfl rfl hl.1 rfl (lv_room (Nat.le_of_ble_eq_true rfl)) dWord_stem_1 ⟨(show 0 + 0 ≤ 0 by omega), (show 0 + 0 ≤ 0 by omega)⟩) hZ hA (fun r X_51 H_52 lc_53 hp hZ => ?_)
    obtain ⟨hr, hy⟩ := hp
    subst hy
    refine hw_topi hr ?_
    refine lv_istore_n (lv' := [(3, .int (nI w.length)), (0, .long (lN (eW w))), (2, .int (nI g))]) hx hb dWord_stem_4 rfl hl (by decide) rfl (fun ls hl => ?_)
    refine lv_lload_n hx hb dWord_stem_5 rfl (lv_at hl 1 rfl) ?_
    refine lv_iload_n hx hb dWord_stem_6 rfl (lv_at hl 0 rfl) ?_
    refine lv_iconst (v := nI 1) hx hb dWord_stem_7 (by decide) ?_
    refine lv_isub hx hb dWord_stem_8 ?_
    refine hw_topi (pk_sub (a := w.length) (b := 1) (by omega)) ?_
    refine hw_calli (va_runS (As := [.long (lN (eW w)), .int (nI (w.length - 1))]) (rest := []) ⟨hx, hb, hml, hown, hts⟩ (c_W_letterAt l D K X H_52.size (w := w) (j := w.length - 1) (by assumption) (by omega)) (va_cwS 2 hts (hwGood (hw_3 mm_6 mm_5 mm_3 (hwAll mm_4))) rfl rfl rfl (by decide +kernel) ⟨Nat.le_of_ble_eq_true rfl, Nat.le_of_ble_eq_true rfl⟩) (hw_preS hK hO hZ) rfl rfl hl.1 rfl (lv_room (Nat.le_of_ble_eq_true rfl)) dWord_stem_9 ⟨(show 0 + 0 ≤ 0 by omega), (show 0 + 0 ≤ 0 by omega)⟩) hZ hA (fun r X_54 H_55 lc_56 hp hZ => ?_)
    obtain ⟨hr, hy, xx_57⟩ := hp
    subst hy
    refine hw_topi hr ?_
    refine lv_istore (lv' := [(4, .int (nI (w.getD (w.length - 1) 0))), (3, .int (nI w.length)), (0, .long (lN (eW w))), (2, .int (nI g))]) hx hb dWord_stem_12 hl (by decide) rfl (fun ls hl => ?_)
    refine lv_iload_n hx hb dWord_stem_14 rfl (lv_at hl 3 rfl) ?_
    refine lv_iconst (v := nI 1) hx hb dWord_stem_15 (by decide) ?_
    refine hw_ic_ne (a := g) (b := 1) (tgt := 46) hx hb dWord_stem_16 (by decide) (by omega) (by omega) (fun cq_58 => ?_) (fun cq_58 => ?_)
    · refine lv_iload_n hx hb dWord_stem_46 rfl (lv_at hl 3 rfl) ?_
      refine lv_iconst (v := nI 2) hx hb dWord_stem_47 (by decide) ?_
      refine hw_ic_eq (a := g) (b := 2) (tgt := 53) hx hb dWord_stem_48 (by decide) (by omega) (by omega) (fun cq_59 => ?_) (fun cq_59 => ?_)
      · refine lv_iload hx hb dWord_stem_53 (lv_at hl 0 rfl) ?_
        refine lv_bipush (v := nI 110) hx hb dWord_stem_55 (by decide) ?_
        refine hw_calli (va_runS (As := [.int (nI 110)]) (rest := [.int (nI (w.getD (w.length - 1) 0))]) ⟨hx, hb, hml, hown, hts⟩ (c_W_letterOf l D K X H_55.size (c0 := 110) (by first | omega | exact lo8_lt _ | decide)) (va_cwS 1 hts (hwGood (hw_3 mm_12 mm_11 mm_3 (hwAll mm_10))) rfl rfl rfl (by decide +kernel) ⟨Nat.le_of_ble_eq_true rfl, Nat.le_of_ble_eq_true rfl⟩) (hw_preS hK hO hZ) rfl rfl hl.1 rfl (lv_room (Nat.le_of_ble_eq_true rfl)) dWord_stem_57 ⟨(show 0 + 0 ≤ 0 by omega), (show 0 + 0 ≤ 0 by omega)⟩) hZ hA (fun r X_60 H_61 lc_62 hp hZ => ?_)
        obtain ⟨hr, hy, xx_63⟩ := hp
        subst hy
        refine hw_topi hr ?_
        refine hw_ic_ne (a := w.getD (w.length - 1) 0) (b := ltr 110) (tgt := 82) hx hb dWord_stem_60 (by decide) (by omega) (by omega) (fun cq_64 => ?_) (fun cq_64 => ?_)
        · refine lv_iconst (v := nI 0) hx hb dWord_stem_82 (by decide) ?_
          refine lv_istore (lv' := [(5, .int (nI 0)), (4, .int (nI (w.getD (w.length - 1) 0))), (3, .int (nI w.length)), (0, .long (lN (eW w))), (2, .int (nI g))]) hx hb dWord_stem_83 hl (by decide) rfl (fun ls hl => ?_)
          refine lv_iload hx hb dWord_stem_85 (lv_at hl 0 rfl) ?_
          refine hw_if_eq (a := 0) (tgt := 103) hx hb dWord_stem_87 (by decide) (by omega) (fun cq_65 => ?_) (fun cq_65 => by exfalso; omega)
          refine lv_iload hx hb dWord_stem_103 (lv_at hl 1 rfl) ?_
          refine lv_bipush (v := nI 101) hx hb dWord_stem_105 (by decide) ?_
          refine hw_calli (va_runS (As := [.int (nI 101)]) (rest := [.int (nI (w.getD (w.length - 1) 0))]) ⟨hx, hb, hml, hown, hts⟩ (c_W_letterOf l D K X H_61.size (c0 := 101) (by first | omega | exact lo8_lt _ | decide)) (va_cwS 1 hts (hwGood (hw_3 mm_12 mm_11 mm_3 (hwAll mm_10))) rfl rfl rfl (by decide +kernel) ⟨Nat.le_of_ble_eq_true rfl, Nat.le_of_ble_eq_true rfl⟩) (hw_preS hK hO hZ) rfl rfl hl.1 rfl (lv_room (Nat.le_of_ble_eq_true rfl)) dWord_stem_107 ⟨(show 0 + 0 ≤ 0 by omega), (show 0 + 0 ≤ 0 by omega)⟩) hZ hA (fun r X_66 H_67 lc_68 hp hZ => ?_)
          obtain ⟨hr, hy, xx_69⟩ := hp
          subst hy
          refine hw_topi hr ?_
          refine hw_ic_ne (a := w.getD (w.length - 1) 0) (b := ltr 101) (tgt := 128) hx hb dWord_stem_110 (by decide) (by omega) (by omega) (fun cq_70 => ?_) (fun cq_70 => ?_)
          · refine lv_lload_n hx hb dWord_stem_128 rfl (lv_at hl 3 rfl) ?_
            exact hret hZ ⟨congrArg lN (congrArg eW (by unfold stemL; simp_all (config := { decide := true }) [ltr]; try omega)), rfl⟩ dWord_stem_129
          · refine lv_iload_n hx hb dWord_stem_113 rfl (lv_at hl 2 rfl) ?_
            refine lv_iconst (v := nI 3) hx hb dWord_stem_114 (by decide) ?_
            refine hw_ic_le (a := w.length) (b := 3) (tgt := 128) hx hb dWord_stem_115 (by decide) (by omega) (by omega) (fun cq_71 => ?_) (fun cq_71 => ?_)
            · refine lv_lload_n hx hb dWord_stem_128 rfl (lv_at hl 3 rfl) ?_
              exact hret hZ ⟨congrArg lN (congrArg eW (by unfold stemL; simp_all (config := { decide := true }) [ltr]; try omega)), rfl⟩ dWord_stem_129
            · refine lv_lload_n hx hb dWord_stem_118 rfl (lv_at hl 3 rfl) ?_
              refine lv_iload_n hx hb dWord_stem_119 rfl (lv_at hl 2 rfl) ?_
              refine lv_iconst (v := nI 1) hx hb dWord_stem_120 (by decide) ?_
              refine lv_isub hx hb dWord_stem_121 ?_
              refine hw_topi (pk_sub (a := w.length) (b := 1) (by omega)) ?_
              refine hw_calll (va_runS (As := [.long (lN (eW w)), .int (nI (w.length - 1))]) (rest := []) ⟨hx, hb, hml, hown, hts⟩ (c_W_firstLetters l D K X H_67.size (w := w) (n := w.length - 1) (by assumption) (by omega)) (va_cwS 2 hts (hwGood (hw_3 mm_15 mm_14 mm_3 (hwAll mm_13))) rfl rfl rfl (by decide +kernel) ⟨Nat.le_of_ble_eq_true rfl, Nat.le_of_ble_eq_true rfl⟩) (hw_preS hK hO hZ) rfl rfl hl.1 rfl (lv_room (Nat.le_of_ble_eq_true rfl)) dWord_stem_122 ⟨(show 0 + 0 ≤ 0 by omega), (show 0 + 0 ≤ 0 by omega)⟩) hZ hA (fun r X_72 H_73 lc_74 hp hZ => ?_)
              obtain ⟨hr, hy⟩ := hp
              subst hy
              refine hw_topl hr ?_
              refine lv_goto (tgt := 129) hx hb dWord_stem_125 (by decide) ?_
              exact hret hZ ⟨congrArg lN (congrArg eW (by unfold stemL; simp_all (config := { decide := true }) [ltr]; try omega)), rfl⟩ dWord_stem_129
        · refine lv_lload_n hx hb dWord_stem_63 rfl (lv_at hl 2 rfl) ?_
          refine lv_iload_n hx hb dWord_stem_64 rfl (lv_at hl 1 rfl) ?_
          refine lv_iconst (v := nI 2) hx hb dWord_stem_65 (by decide) ?_
          refine lv_isub hx hb dWord_stem_66 ?_
          refine hw_topi (pk_sub (a := w.length) (b := 2) (by omega)) ?_
          refine hw_calli (va_runS (As := [.long (lN (eW w)), .int (nI (w.length - 2))]) (rest := []) ⟨hx, hb, hml, hown, hts⟩ (c_W_letterAt l D K X H_61.size (w := w) (j := w.length - 2) (by assumption) (by omega)) (va_cwS 2 hts (hwGood (hw_3 mm_6 mm_5 mm_3 (hwAll mm_4))) rfl rfl rfl (by decide +kernel) ⟨Nat.le_of_ble_eq_true rfl, Nat.le_of_ble_eq_true rfl⟩) (hw_preS hK hO hZ) rfl rfl hl.1 rfl (lv_room (Nat.le_of_ble_eq_true rfl)) dWord_stem_67 ⟨(show 0 + 0 ≤ 0 by omega), (show 0 + 0 ≤ 0 by omega)⟩) hZ hA (fun r X_75 H_76 lc_77 hp hZ => ?_)
          obtain ⟨hr, hy, xx_78⟩ := hp
          subst hy
          refine hw_topi hr ?_
          refine lv_bipush (v := nI 101) hx hb dWord_stem_70 (by decide) ?_
          refine hw_calli (va_runS (As := [.int (nI 101)]) (rest := [.int (nI (w.getD (w.length - 2) 0))]) ⟨hx, hb, hml, hown, hts⟩ (c_W_letterOf l D K X H_76.size (c0 := 101) (by first | omega | exact lo8_lt _ | decide)) (va_cwS 1 hts (hwGood (hw_3 mm_12 mm_11 mm_3 (hwAll mm_10))) rfl rfl rfl (by decide +kernel) ⟨Nat.le_of_ble_eq_true rfl, Nat.le_of_ble_eq_true rfl⟩) (hw_preS hK hO hZ) rfl rfl hl.1 rfl (lv_room (Nat.le_of_ble_eq_true rfl)) dWord_stem_72 ⟨(show 0 + 0 ≤ 0 by omega), (show 0 + 0 ≤ 0 by omega)⟩) hZ hA (fun r X_79 H_80 lc_81 hp hZ => ?_)
          obtain ⟨hr, hy, xx_82⟩ := hp
          subst hy
          refine hw_topi hr ?_
          refine hw_ic_ne (a := w.getD (w.length - 2) 0) (b := ltr 101) (tgt := 82) hx hb dWord_stem_75 (by decide) (by omega) (by omega) (fun cq_83 => ?_) (fun cq_83 => ?_)
          · refine lv_iconst (v := nI 0) hx hb dWord_stem_82 (by decide) ?_
            refine lv_istore (lv' := [(5, .int (nI 0)), (4, .int (nI (w.getD (w.length - 1) 0))), (3, .int (nI w.length)), (0, .long (lN (eW w))), (2, .int (nI g))]) hx hb dWord_stem_83 hl (by decide) rfl (fun ls hl => ?_)
            refine lv_iload hx hb dWord_stem_85 (lv_at hl 0 rfl) ?_
            refine hw_if_eq (a := 0) (tgt := 103) hx hb dWord_stem_87 (by decide) (by omega) (fun cq_84 => ?_) (fun cq_84 => by exfalso; omega)
            refine lv_iload hx hb dWord_stem_103 (lv_at hl 1 rfl) ?_
            refine lv_bipush (v := nI 101) hx hb dWord_stem_105 (by decide) ?_
            refine hw_calli (va_runS (As := [.int (nI 101)]) (rest := [.int (nI (w.getD (w.length - 1) 0))]) ⟨hx, hb, hml, hown, hts⟩ (c_W_letterOf l D K X H_80.size (c0 := 101) (by first | omega | exact lo8_lt _ | decide)) (va_cwS 1 hts (hwGood (hw_3 mm_12 mm_11 mm_3 (hwAll mm_10))) rfl rfl rfl (by decide +kernel) ⟨Nat.le_of_ble_eq_true rfl, Nat.le_of_ble_eq_true rfl⟩) (hw_preS hK hO hZ) rfl rfl hl.1 rfl (lv_room (Nat.le_of_ble_eq_true rfl)) dWord_stem_107 ⟨(show 0 + 0 ≤ 0 by omega), (show 0 + 0 ≤ 0 by omega)⟩) hZ hA (fun r X_85 H_86 lc_87 hp hZ => ?_)
            obtain ⟨hr, hy, xx_88⟩ := hp
            subst hy
            refine hw_topi hr ?_
            refine hw_ic_ne (a := w.getD (w.length - 1) 0) (b := ltr 101) (tgt := 128) hx hb dWord_stem_110 (by decide) (by omega) (by omega) (fun cq_89 => ?_) (fun cq_89 => ?_)
            · refine lv_lload_n hx hb dWord_stem_128 rfl (lv_at hl 3 rfl) ?_
              exact hret hZ ⟨congrArg lN (congrArg eW (by unfold stemL; simp_all (config := { decide := true }) [ltr]; try omega)), rfl⟩ dWord_stem_129
            · refine lv_iload_n hx hb dWord_stem_113 rfl (lv_at hl 2 rfl) ?_
              refine lv_iconst (v := nI 3) hx hb dWord_stem_114 (by decide) ?_
              refine hw_ic_le (a := w.length) (b := 3) (tgt := 128) hx hb dWord_stem_115 (by decide) (by omega) (by omega) (fun cq_90 => ?_) (fun cq_90 => ?_)
              · refine lv_lload_n hx hb dWord_stem_128 rfl (lv_at hl 3 rfl) ?_
                exact hret hZ ⟨congrArg lN (congrArg eW (by unfold stemL; simp_all (config := { decide := true }) [ltr]; try omega)), rfl⟩ dWord_stem_129
              · refine lv_lload_n hx hb dWord_stem_118 rfl (lv_at hl 3 rfl) ?_
                refine lv_iload_n hx hb dWord_stem_119 rfl (lv_at hl 2 rfl) ?_
                refine lv_iconst (v := nI 1) hx hb dWord_stem_120 (by decide) ?_
                refine lv_isub hx hb dWord_stem_121 ?_
                refine hw_topi (pk_sub (a := w.length) (b := 1) (by omega)) ?_
                refine hw_calll (va_runS (As := [.long (lN (eW w)), .int (nI (w.length - 1))]) (rest := []) ⟨hx, hb, hml, hown, hts⟩ (c_W_firstLetters l D K X H_86.size (w := w) (n := w.length - 1) (by assumption) (by omega)) (va_cwS 2 hts (hwGood (hw_3 mm_15 mm_14 mm_3 (hwAll mm_13))) rfl rfl rfl (by decide +kernel) ⟨Nat.le_of_ble_eq_true rfl, Nat.le_of_ble_eq_true rfl⟩) (hw_preS hK hO hZ) rfl rfl hl.1 rfl (lv_room (Nat.le_of_ble_eq_true rfl)) dWord_stem_122 ⟨(show 0 + 0 ≤ 0 by omega), (show 0 + 0 ≤ 0 by omega)⟩) hZ hA (fun r X_91 H_92 lc_93 hp hZ => ?_)
                obtain ⟨hr, hy⟩ := hp
                subst hy
                refine hw_topl hr ?_
                refine lv_goto (tgt := 129) hx hb dWord_stem_125 (by decide) ?_
                exact hret hZ ⟨congrArg lN (congrArg eW (by unfold stemL; simp_all (config := { decide := true }) [ltr]; try omega)), rfl⟩ dWord_stem_129
          · refine lv_iconst (v := nI 1) hx hb dWord_stem_78 (by decide) ?_
            refine lv_goto (tgt := 83) hx hb dWord_stem_79 (by decide) ?_
            refine lv_istore (lv' := [(5, .int (nI 1)), (4, .int (nI (w.getD (w.length - 1) 0))), (3, .int (nI w.length)), (0, .long (lN (eW w))), (2, .int (nI g))]) hx hb dWord_stem_83 hl (by decide) rfl (fun ls hl => ?_)
            refine lv_iload hx hb dWord_stem_85 (lv_at hl 0 rfl) ?_
            refine hw_if_eq (a := 1) (tgt := 103) hx hb dWord_stem_87 (by decide) (by omega) (fun cq_94 => by exfalso; omega) (fun cq_94 => ?_)
            refine lv_iload_n hx hb dWord_stem_90 rfl (lv_at hl 2 rfl) ?_
            refine lv_iconst (v := nI 4) hx hb dWord_stem_91 (by decide) ?_
            refine hw_ic_le (a := w.length) (b := 4) (tgt := 103) hx hb dWord_stem_92 (by decide) (by omega) (by omega) (fun cq_95 => ?_) (fun cq_95 => ?_)
            · refine lv_iload hx hb dWord_stem_103 (lv_at hl 1 rfl) ?_
              refine lv_bipush (v := nI 101) hx hb dWord_stem_105 (by decide) ?_
              refine hw_calli (va_runS (As := [.int (nI 101)]) (rest := [.int (nI (w.getD (w.length - 1) 0))]) ⟨hx, hb, hml, hown, hts⟩ (c_W_letterOf l D K X H_80.size (c0 := 101) (by first | omega | exact lo8_lt _ | decide)) (va_cwS 1 hts (hwGood (hw_3 mm_12 mm_11 mm_3 (hwAll mm_10))) rfl rfl rfl (by decide +kernel) ⟨Nat.le_of_ble_eq_true rfl, Nat.le_of_ble_eq_true rfl⟩) (hw_preS hK hO hZ) rfl rfl hl.1 rfl (lv_room (Nat.le_of_ble_eq_true rfl)) dWord_stem_107 ⟨(show 0 + 0 ≤ 0 by omega), (show 0 + 0 ≤ 0 by omega)⟩) hZ hA (fun r X_96 H_97 lc_98 hp hZ => ?_)
              obtain ⟨hr, hy, xx_99⟩ := hp
              subst hy
              refine hw_topi hr ?_
              refine hw_ic_ne (a := w.getD (w.length - 1) 0) (b := ltr 101) (tgt := 128) hx hb dWord_stem_110 (by decide) (by omega) (by omega) (fun cq_100 => ?_) (fun cq_100 => ?_)
              · refine lv_lload_n hx hb dWord_stem_128 rfl (lv_at hl 3 rfl) ?_
                exact hret hZ ⟨congrArg lN (congrArg eW (by unfold stemL; simp_all (config := { decide := true }) [ltr]; try omega)), rfl⟩ dWord_stem_129
              · refine lv_iload_n hx hb dWord_stem_113 rfl (lv_at hl 2 rfl) ?_
                refine lv_iconst (v := nI 3) hx hb dWord_stem_114 (by decide) ?_
                refine hw_ic_le (a := w.length) (b := 3) (tgt := 128) hx hb dWord_stem_115 (by decide) (by omega) (by omega) (fun cq_101 => ?_) (fun cq_101 => ?_)
                · refine lv_lload_n hx hb dWord_stem_128 rfl (lv_at hl 3 rfl) ?_
                  exact hret hZ ⟨congrArg lN (congrArg eW (by unfold stemL; simp_all (config := { decide := true }) [ltr]; try omega)), rfl⟩ dWord_stem_129
                · refine lv_lload_n hx hb dWord_stem_118 rfl (lv_at hl 3 rfl) ?_
                  refine lv_iload_n hx hb dWord_stem_119 rfl (lv_at hl 2 rfl) ?_
                  refine lv_iconst (v := nI 1) hx hb dWord_stem_120 (by decide) ?_
                  refine lv_isub hx hb dWord_stem_121 ?_
                  refine hw_topi (pk_sub (a := w.length) (b := 1) (by omega)) ?_
                  refine hw_calll (va_runS (As := [.long (lN (eW w)), .int (nI (w.length - 1))]) (rest := []) ⟨hx, hb, hml, hown, hts⟩ (c_W_firstLetters l D K X H_97.size (w := w) (n := w.length - 1) (by assumption) (by omega)) (va_cwS 2 hts (hwGood (hw_3 mm_15 mm_14 mm_3 (hwAll mm_13))) rfl rfl rfl (by decide +kernel) ⟨Nat.le_of_ble_eq_true rfl, Nat.le_of_ble_eq_true rfl⟩) (hw_preS hK hO hZ) rfl rfl hl.1 rfl (lv_room (Nat.le_of_ble_eq_true rfl)) dWord_stem_122 ⟨(show 0 + 0 ≤ 0 by omega), (show 0 + 0 ≤ 0 by omega)⟩) hZ hA (fun r X_102 H_103 lc_104 hp hZ => ?_)
                  obtain ⟨hr, hy⟩ := hp
                  subst hy
                  refine hw_topl hr ?_
                  refine lv_goto (tgt := 129) hx hb dWord_stem_125 (by decide) ?_
                  exact hret hZ ⟨congrArg lN (congrArg eW (by unfold stemL; simp_all (config := { decide := true }) [ltr]; try omega)), rfl⟩ dWord_stem_129
            · refine lv_lload_n hx hb dWord_stem_95 rfl (lv_at hl 3 rfl) ?_
              refine lv_iload_n hx hb dWord_stem_96 rfl (lv_at hl 2 rfl) ?_
              refine lv_iconst (v := nI 2) hx hb dWord_stem_97 (by decide) ?_
              refine lv_isub hx hb dWord_stem_98 ?_
              refine hw_topi (pk_sub (a := w.length) (b := 2) (by omega)) ?_
              refine hw_calll (va_runS (As := [.long (lN (eW w)), .int (nI (w.length - 2))]) (rest := []) ⟨hx, hb, hml, hown, hts⟩ (c_W_firstLetters l D K X H_80.size (w := w) (n := w.length - 2) (by assumption) (by omega)) (va_cwS 2 hts (hwGood (hw_3 mm_15 mm_14 mm_3 (hwAll mm_13))) rfl rfl rfl (by decide +kernel) ⟨Nat.le_of_ble_eq_true rfl, Nat.le_of_ble_eq_true rfl⟩) (hw_preS hK hO hZ) rfl rfl hl.1 rfl (lv_room (Nat.le_of_ble_eq_true rfl)) dWord_stem_99 ⟨(show 0 + 0 ≤ 0 by omega), (show 0 + 0 ≤ 0 by omega)⟩) hZ hA (fun r X_105 H_106 lc_107 hp hZ => ?_)
              obtain ⟨hr, hy⟩ := hp
              subst hy
              refine hw_topl hr ?_
              exact hret hZ ⟨congrArg lN (congrArg eW (by unfold stemL; simp_all (config := { decide := true }) [ltr]; try omega)), rfl⟩ dWord_stem_102
      · refine lv_lload_n hx hb dWord_stem_51 rfl (lv_at hl 2 rfl) ?_
        exact hret hZ ⟨congrArg lN (congrArg eW (by unfold stemL; simp_all (config := { decide := true }) [ltr]; try omega)), rfl⟩ dWord_stem_52
    · refine lv_iload hx hb dWord_stem_19 (lv_at hl 0 rfl) ?_
      refine lv_bipush (v := nI 115) hx hb dWord_stem_21 (by decide) ?_
      refine hw_calli (va_runS (As := [.int (nI 115)]) (rest := [.int (nI (w.getD (w.length - 1) 0))]) ⟨hx, hb, hml, hown, hts⟩ (c_W_letterOf l D K X H_55.size (c0 := 115) (by first | omega | exact lo8_lt _ | decide)) (va_cwS 1 hts (hwGood (hw_3 mm_12 mm_11 mm_3 (hwAll mm_10))) rfl rfl rfl (by decide +kernel) ⟨Nat.le_of_ble_eq_true rfl, Nat.le_of_ble_eq_true rfl⟩) (hw_preS hK hO hZ) rfl rfl hl.1 rfl (lv_room (Nat.le_of_ble_eq_true rfl)) dWord_stem_23 ⟨(show 0 + 0 ≤ 0 by omega), (show 0 + 0 ≤ 0 by omega)⟩) hZ hA (fun r X_108 H_109 lc_110 hp hZ => ?_)
      obtain ⟨hr, hy, xx_111⟩ := hp
      subst hy
      refine hw_topi hr ?_
      refine hw_ic_ne (a := w.getD (w.length - 1) 0) (b := ltr 115) (tgt := 44) hx hb dWord_stem_26 (by decide) (by omega) (by omega) (fun cq_112 => ?_) (fun cq_112 => ?_)
      · refine lv_lload_n hx hb dWord_stem_44 rfl (lv_at hl 2 rfl) ?_
        exact hret hZ ⟨congrArg lN (congrArg eW (by unfold stemL; simp_all (config := { decide := true }) [ltr]; try omega)), rfl⟩ dWord_stem_45
      · refine lv_iload_n hx hb dWord_stem_29 rfl (lv_at hl 1 rfl) ?_
        refine lv_iconst (v := nI 3) hx hb dWord_stem_30 (by decide) ?_
        refine hw_ic_le (a := w.length) (b := 3) (tgt := 44) hx hb dWord_stem_31 (by decide) (by omega) (by omega) (fun cq_113 => ?_) (fun cq_113 => ?_)
        · refine lv_lload_n hx hb dWord_stem_44 rfl (lv_at hl 2 rfl) ?_
          exact hret hZ ⟨congrArg lN (congrArg eW (by unfold stemL; simp_all (config := { decide := true }) [ltr]; try omega)), rfl⟩ dWord_stem_45
        · refine lv_lload_n hx hb dWord_stem_34 rfl (lv_at hl 2 rfl) ?_
          refine lv_iload_n hx hb dWord_stem_35 rfl (lv_at hl 1 rfl) ?_
          refine lv_iconst (v := nI 1) hx hb dWord_stem_36 (by decide) ?_
          refine lv_isub hx hb dWord_stem_37 ?_
          refine hw_topi (pk_sub (a := w.length) (b := 1) (by omega)) ?_
          refine hw_calll (va_runS (As := [.long (lN (eW w)), .int (nI (w.length - 1))]) (rest := []) ⟨hx, hb, hml, hown, hts⟩ (c_W_firstLetters l D K X H_109.size (w := w) (n := w.length - 1) (by assumption) (by omega)) (va_cwS 2 hts (hwGood (hw_3 mm_15 mm_14 mm_3 (hwAll mm_13))) rfl rfl rfl (by decide +kernel) ⟨Nat.le_of_ble_eq_true rfl, Nat.le_of_ble_eq_true rfl⟩) (hw_preS hK hO hZ) rfl rfl hl.1 rfl (lv_room (Nat.le_of_ble_eq_true rfl)) dWord_stem_38 ⟨(show 0 + 0 ≤ 0 by omega), (show 0 + 0 ≤ 0 by omega)⟩) hZ hA (fun r X_114 H_115 lc_116 hp hZ => ?_)
          obtain ⟨hr, hy⟩ := hp
          subst hy
          refine hw_topl hr ?_
          refine lv_goto (tgt := 45) hx hb dWord_stem_41 (by decide) ?_
          exact hret hZ ⟨congrArg lN (congrArg eW (by unfold stemL; simp_all (config := { decide := true }) [ltr]; try omega)), rfl⟩ dWord_stem_45
set_option maxHeartbeats 4000000 in
set_option maxRecDepth 100000 in
theorem c_W_begins (l : Launch) (D : va_G) (K : Nat → ClassId) (X : hwW) (sz : Nat) (w : List Nat) (b : List Nat) (hw : okW w) (hb0 : okW b) : Met l yWord_beginsWith (.code yWord_beginsWith cWord_beginsWith 4 (some .boolean) :: hwG) ({ frames := 3, cells := 0, slots := 0, locals := 64 } : Room) (hwPc D vwCl (hwT K) [.long (lN (eW w)), .long (lN (eW b))] X sz) (hwQi D vwCl X sz (fun r Y => r = bI (begL w b) ∧ X = Y)) 0 0 (va_A X.1 sz) := by
  refine hwMetz (cc := cWord_beginsWith) (maxL := 4) (by decide) rfl (Nat.le_of_ble_eq_true rfl) (fun p e s m args below meth c ls A Q hx hb hml hown hts hname hret hK hO hZ hA hl => ?_)
  have hl : lv_has ls 4 [(0, .long (lN (eW w))), (2, .long (lN (eW b)))] := hl
  have hw12 := hb0.1
  refine lv_lload_n hx hb dWord_beginsWith_0 rfl (lv_at hl 0 rfl) ?_
  refine lv_lload_n hx hb dWord_beginsWith_1 rfl (lv_at hl 1 rfl) ?_
  refine hw_calli (va_runS (As := [.long (lN (eW b))]) (rest := [.long (lN (eW w))]) ⟨hx, hb, hml, hown, hts⟩ (c_W_length l D K X s.heap.size (w := b) (by assumption)) (va_cwS 1 hts (hwGood (hw_3 mm_9 mm_8 mm_3 (hwAll mm_7))) rfl rfl rfl (by decide +kernel) ⟨Nat.le_of_ble_eq_true rfl, Nat.le_of_ble_eq_true rfl⟩) (hw_preS hK hO hZ) rfl rfl hl.1 rfl (lv_room (Nat.le_of_ble_eq_true rfl)) dWord_beginsWith_2 ⟨(show 0 + 0 ≤ 0 by omega), (show 0 + 0 ≤ 0 by omega)⟩) hZ hA (fun r X_1 H_2 lc_3 hp hZ => ?_)
  obtain ⟨hr, hy⟩ := hp
  subst hy
  refine hw_topi hr ?_
  refine hw_calll (va_runS (As := [.long (lN (eW w)), .int (nI b.length)]) (rest := []) ⟨hx, hb, hml, hown, hts⟩ (c_W_firstLetters l D K X H_2.size (w := w) (n := b.length) (by assumption) (by omega)) (va_cwS 2 hts (hwGood (hw_3 mm_15 mm_14 mm_3 (hwAll mm_13))) rfl rfl rfl (by decide +kernel) ⟨Nat.le_of_ble_eq_true rfl, Nat.le_of_ble_eq_true rfl⟩) (hw_preS hK hO hZ) rfl rfl hl.1 rfl (lv_room (Nat.le_of_ble_eq_true rfl)) dWord_beginsWith_5 ⟨(show 0 + 0 ≤ 0 by omega), (show 0 + 0 ≤ 0 by omega)⟩) hZ hA (fun r X_4 H_5 lc_6 hp hZ => ?_)
  obtain ⟨hr, hy⟩ := hp
  subst hy
  refine hw_topl hr ?_
  refine lv_lload_n hx hb dWord_beginsWith_8 rfl (lv_at hl 1 rfl) ?_
  refine hw_lc_ne (a := eW (w.take b.length)) (b := eW b) (tgt := 17) hx hb dWord_beginsWith_9 dWord_beginsWith_10 (by decide) (by first | exact eW_lt63 (by assumption) | exact eW_lt63 (okW.take (by assumption) _)) (by first | exact eW_lt63 (by assumption) | exact eW_lt63 (okW.take (by assumption) _)) (fun cq_7 => ?_) (fun cq_7 => ?_)
  · refine lv_iconst (v := nI 0) hx hb dWord_beginsWith_17 (by decide) ?_
    exact hret (by decide) hZ ⟨by unfold begL; rw [decide_eq_false (fun h => cq_7 ((eW_inj (hw.take _) hb0).mpr h))]; rfl, rfl⟩ dWord_beginsWith_18
  · refine lv_iconst (v := nI 1) hx hb dWord_beginsWith_13 (by decide) ?_
    refine lv_goto (tgt := 18) hx hb dWord_beginsWith_14 (by decide) ?_
    exact hret (by decide) hZ ⟨by unfold begL; rw [decide_eq_true ((eW_inj (hw.take _) hb0).mp cq_7)]; rfl, rfl⟩ dWord_beginsWith_18
set_option maxHeartbeats 4000000 in
set_option maxRecDepth 100000 in
theorem c_W_ends (l : Launch) (D : va_G) (K : Nat → ClassId) (X : hwW) (sz : Nat) (w : List Nat) (b : List Nat) (hw : okW w) (hb0 : okW b) : Met l yWord_endsWith (.code yWord_endsWith cWord_endsWith 5 (some .boolean) :: hwG) ({ frames := 3, cells := 0, slots := 0, locals := 64 } : Room) (hwPc D vwCl (hwT K) [.long (lN (eW w)), .long (lN (eW b))] X sz) (hwQi D vwCl X sz (fun r Y => r = bI (endL w b) ∧ X = Y)) 0 0 (va_A X.1 sz) := by
  refine hwMetz (cc := cWord_endsWith) (maxL := 5) (by decide) rfl (Nat.le_of_ble_eq_true rfl) (fun p e s m args below meth c ls A Q hx hb hml hown hts hname hret hK hO hZ hA hl => ?_)
  have hl : lv_has ls 5 [(0, .long (lN (eW w))), (2, .long (lN (eW b)))] := hl
  have hw12 := hw.1
  have hb12 := hb0.1
  rcases Nat.lt_or_ge w.length b.length with hq | hq
  · refine lv_lload_n hx hb dWord_endsWith_0 rfl (lv_at hl 0 rfl) ?_
    refine hw_calli (va_runS (As := [.long (lN (eW w))]) (rest := []) ⟨hx, hb, hml, hown, hts⟩ (c_W_length l D K X s.heap.size (w := w) (by assumption)) (va_cwS 1 hts (hwGood (hw_3 mm_9 mm_8 mm_3 (hwAll mm_7))) rfl rfl rfl (by decide +kernel) ⟨Nat.le_of_ble_eq_true rfl, Nat.le_of_ble_eq_true rfl⟩) (hw_preS hK hO hZ) rfl rfl hl.1 rfl (lv_room (Nat.le_of_ble_eq_true rfl)) dWord_endsWith_1 ⟨(show 0 + 0 ≤ 0 by omega), (show 0 + 0 ≤ 0 by omega)⟩) hZ hA (fun r X_1 H_2 lc_3 hp hZ => ?_)
    obtain ⟨hr, hy⟩ := hp
    subst hy
    refine hw_topi hr ?_
    refine lv_lload_n hx hb dWord_endsWith_4 rfl (lv_at hl 1 rfl) ?_
    refine hw_calli (va_runS (As := [.long (lN (eW b))]) (rest := [.int (nI w.length)]) ⟨hx, hb, hml, hown, hts⟩ (c_W_length l D K X H_2.size (w := b) (by assumption)) (va_cwS 1 hts (hwGood (hw_3 mm_9 mm_8 mm_3 (hwAll mm_7))) rfl rfl rfl (by decide +kernel) ⟨Nat.le_of_ble_eq_true rfl, Nat.le_of_ble_eq_true rfl⟩) (hw_preS hK hO hZ) rfl rfl hl.1 rfl (lv_room (Nat.le_of_ble_eq_true rfl)) dWord_endsWith_5 ⟨(show 0 + 0 ≤ 0 by omega), (show 0 + 0 ≤ 0 by omega)⟩) hZ hA (fun r X_4 H_5 lc_6 hp hZ => ?_)
    obtain ⟨hr, hy⟩ := hp
    subst hy
    refine hw_topi hr ?_
    refine lv_isub hx hb dWord_endsWith_8 ?_
    refine lv_istore (lv' := [(4, .int ((nI w.length) - (nI b.length))), (0, .long (lN (eW w))), (2, .long (lN (eW b)))]) hx hb dWord_endsWith_9 hl (by decide) rfl (fun ls hl => ?_)
    refine lv_iload hx hb dWord_endsWith_11 (lv_at hl 0 rfl) ?_
    refine lv_if_lt (tgt := 35) hx hb dWord_endsWith_13 (by decide) (fun cq_7 => ?_) (fun cq_7 => absurd (pk_sneg (a := w.length) (b := b.length) (by omega) hq) cq_7)
    refine lv_iconst (v := nI 0) hx hb dWord_endsWith_35 (by decide) ?_
    exact hret (by decide) hZ ⟨by unfold endL; rw [decide_eq_false (fun h => absurd h.1 (by omega))]; rfl, rfl⟩ dWord_endsWith_36
  · refine lv_lload_n hx hb dWord_endsWith_0 rfl (lv_at hl 0 rfl) ?_
    refine hw_calli (va_runS (As := [.long (lN (eW w))]) (rest := []) ⟨hx, hb, hml, hown, hts⟩ (c_W_length l D K X s.heap.size (w := w) (by assumption)) (va_cwS 1 hts (hwGood (hw_3 mm_9 mm_8 mm_3 (hwAll mm_7))) rfl rfl rfl (by decide +kernel) ⟨Nat.le_of_ble_eq_true rfl, Nat.le_of_ble_eq_true rfl⟩) (hw_preS hK hO hZ) rfl rfl hl.1 rfl (lv_room (Nat.le_of_ble_eq_true rfl)) dWord_endsWith_1 ⟨(show 0 + 0 ≤ 0 by omega), (show 0 + 0 ≤ 0 by omega)⟩) hZ hA (fun r X_8 H_9 lc_10 hp hZ => ?_)
    obtain ⟨hr, hy⟩ := hp
    subst hy
    refine hw_topi hr ?_
    refine lv_lload_n hx hb dWord_endsWith_4 rfl (lv_at hl 1 rfl) ?_
    refine hw_calli (va_runS (As := [.long (lN (eW b))]) (rest := [.int (nI w.length)]) ⟨hx, hb, hml, hown, hts⟩ (c_W_length l D K X H_9.size (w := b) (by assumption)) (va_cwS 1 hts (hwGood (hw_3 mm_9 mm_8 mm_3 (hwAll mm_7))) rfl rfl rfl (by decide +kernel) ⟨Nat.le_of_ble_eq_true rfl, Nat.le_of_ble_eq_true rfl⟩) (hw_preS hK hO hZ) rfl rfl hl.1 rfl (lv_room (Nat.le_of_ble_eq_true rfl)) dWord_endsWith_5 ⟨(show 0 + 0 ≤ 0 by omega), (show 0 + 0 ≤ 0 by omega)⟩) hZ hA (fun r X_11 H_12 lc_13 hp hZ => ?_)
    obtain ⟨hr, hy⟩ := hp
    subst hy
    refine hw_topi hr ?_
    refine lv_isub hx hb dWord_endsWith_8 ?_
    refine hw_topi (pk_sub (a := w.length) (b := b.length) (by omega)) ?_
    refine lv_istore (lv' := [(4, .int (nI (w.length - b.length))), (0, .long (lN (eW w))), (2, .long (lN (eW b)))]) hx hb dWord_endsWith_9 hl (by decide) rfl (fun ls hl => ?_)
    refine lv_iload hx hb dWord_endsWith_11 (lv_at hl 0 rfl) ?_
    refine hw_if_lt (a := w.length - b.length) (tgt := 35) hx hb dWord_endsWith_13 (by decide) (by omega) (fun cq_14 => by exfalso; omega) (fun cq_14 => ?_)
    refine lv_lload_n hx hb dWord_endsWith_16 rfl (lv_at hl 1 rfl) ?_
    refine lv_iconst (v := nI 5) hx hb dWord_endsWith_17 (by decide) ?_
    refine lv_iload hx hb dWord_endsWith_18 (lv_at hl 0 rfl) ?_
    refine lv_imul hx hb dWord_endsWith_20 ?_
    refine hw_topi (pk_mul 5 (w.length - b.length)) ?_
    refine lv_lshl hx hb dWord_endsWith_21 (wb_shl (eW w) (k := 5 * (w.length - b.length)) (by omega)) ?_
    refine lv_ldc2 (v := lN 1152921504606846975) hx hb hown (hts (.constantLong RWord 30 1152921504606846975) (hwMem mm_16)) dWord_endsWith_22 ?_
    refine lv_land hx hb dWord_endsWith_25 ?_
    refine hw_topl (hw_lmask ((eW w) * 2 ^ (5 * (w.length - b.length))) 60 rfl (by decide)) ?_
    refine lv_lload_n hx hb dWord_endsWith_26 rfl (lv_at hl 2 rfl) ?_
    refine hw_lc_ne (a := ((eW w) * 2 ^ (5 * (w.length - b.length))) % 2 ^ 60) (b := eW b) (tgt := 35) hx hb dWord_endsWith_27 dWord_endsWith_28 (by decide) (by first | exact eW_lt63 (by assumption) | exact Nat.lt_trans (Nat.mod_lt _ (by decide)) (by decide)) (by first | exact eW_lt63 (by assumption) | exact Nat.lt_trans (Nat.mod_lt _ (by decide)) (by decide)) (fun cq_15 => ?_) (fun cq_15 => ?_)
    · refine lv_iconst (v := nI 0) hx hb dWord_endsWith_35 (by decide) ?_
      exact hret (by decide) hZ ⟨by unfold endL; rw [decide_eq_false (fun h => cq_15 ((eW_drop hw _).trans (congrArg eW h.2)))]; rfl, rfl⟩ dWord_endsWith_36
    · refine lv_iconst (v := nI 1) hx hb dWord_endsWith_31 (by decide) ?_
      refine lv_goto (tgt := 36) hx hb dWord_endsWith_32 (by decide) ?_
      exact hret (by decide) hZ ⟨by unfold endL; rw [decide_eq_true ⟨hq, (eW_inj (hw.drop _) hb0).mp ((eW_drop hw _).symm.trans cq_15)⟩]; rfl, rfl⟩ dWord_endsWith_36
set_option maxHeartbeats 4000000 in
set_option maxRecDepth 100000 in
theorem c_W_next (l : Launch) (D : va_G) (K : Nat → ClassId) (X : hwW) (sz : Nat) (x : Nat) (t : List Nat) (wd : Nat) (a : Nat) (L : Nat) (f : Nat → Int32) (c1 : Nat → Nat) (B : Nat) (f0_ : hwH X a L (.inl (K 0, 13, .inl f))) (ht : okW t) (hW : wd ≤ 12) (hf : ∀ j, j ≤ wd → f j = nI (c1 j)) (hB : ∀ j, j ≤ wd → c1 j ≤ B) (hB1 : B ≤ 1000) (hx0 : x ≤ 26) : Met l yWord_nextCosts (.code yWord_nextCosts cWord_nextCosts 8 none :: hwG) ({ frames := 2, cells := 0, slots := 0, locals := 42 } : Room) (hwPc D vwCl (hwT K) [.int (nI x), .long (lN (eW t)), .int (nI wd), .ref a] X sz) (hwQv D vwCl X sz (fun Y => ∃ f' : Nat → Int32, hwF X Y (fun M => M = L) ∧ hwH Y a L (.inl (K 0, 13, .inl f')) ∧ ∀ j, j ≤ wd → f' j = nI (nxt x t c1 j))) 0 0 (va_A X.1 sz) := by
  refine hwMetv (cc := cWord_nextCosts) (maxL := 8) (by decide) rfl (Nat.le_of_ble_eq_true rfl) (fun p e s m args below meth c ls A Q hx hb hml hown hts hname hret hK hO hZ hA hl => ?_)
  have hl : lv_has ls 8 [(0, .int (nI x)), (1, .long (lN (eW t))), (3, .int (nI wd)), (4, .ref a)] := hl
  have hFr : hwF X X (fun M => M = L) := hwF.rf
  refine lv_iload_n hx hb dWord_nextCosts_0 rfl (lv_at hl 2 rfl) ?_
  refine hw_if_lt (a := wd) (tgt := 11) hx hb dWord_nextCosts_1 (by decide) (by omega) (fun cq_1 => by exfalso; omega) (fun cq_1 => ?_)
  refine lv_iload_n hx hb dWord_nextCosts_4 rfl (lv_at hl 2 rfl) ?_
  refine lv_aload hx hb dWord_nextCosts_5 (lv_at hl 3 rfl) ?_
  refine hw_alen hx hb hK hZ 0 f0_ rfl dWord_nextCosts_7 ?_
  refine hw_ic_lt (a := wd) (b := 13) (tgt := 12) hx hb dWord_nextCosts_8 (by decide) (by omega) (by omega) (fun cq_2 => ?_) (fun cq_2 => by exfalso; omega)
  refine lv_aload hx hb dWord_nextCosts_12 (lv_at hl 3 rfl) ?_
  refine lv_iconst (v := nI 0) hx hb dWord_nextCosts_14 (by decide) ?_
  refine hw_iald hx hb hK hZ 0 f0_ rfl (j := 0) (by omega) (by omega) dWord_nextCosts_15 ?_
  refine hw_topi (hf 0 (by omega)) ?_
  have hb0 := hB 0 (by omega)
  refine lv_istore (lv' := [(5, .int (nI (c1 0))), (0, .int (nI x)), (1, .long (lN (eW t))), (3, .int (nI wd)), (4, .ref a)]) hx hb dWord_nextCosts_16 hl (by decide) rfl (fun ls hl => ?_)
  refine lv_aload hx hb dWord_nextCosts_18 (lv_at hl 4 rfl) ?_
  refine lv_iconst (v := nI 0) hx hb dWord_nextCosts_20 (by decide) ?_
  refine lv_dup2_11 hx hb dWord_nextCosts_21 rfl rfl ?_
  refine hw_iald hx hb hK hZ 0 f0_ rfl (j := 0) (by omega) (by omega) dWord_nextCosts_22 ?_
  refine hw_topi (hf 0 (by omega)) ?_
  refine lv_iconst (v := nI 1) hx hb dWord_nextCosts_23 (by decide) ?_
  refine lv_iadd hx hb dWord_nextCosts_24 ?_
  refine hw_topi (nI_add (c1 0) 1) ?_
  refine hw_iast hx hb hK hZ 0 f0_ rfl (j := 0) (by omega) (by omega) dWord_nextCosts_25 (fun X_3 H_4 lc_5 hZ hF hNw => ?_)
  have hFr := hwF.tr hFr hF (fun _ h => h) (fun M h => by first | exact False.elim h | ((try dsimp only at h ⊢); omega))
  have f0_ := hNw
  refine lv_iconst (v := nI 1) hx hb dWord_nextCosts_26 (by decide) ?_
  refine lv_istore (lv' := [(6, .int (nI 1)), (5, .int (nI (c1 0))), (0, .int (nI x)), (1, .long (lN (eW t))), (3, .int (nI wd)), (4, .ref a)]) hx hb dWord_nextCosts_27 hl (by decide) rfl (fun ls hl => ?_)
  have loop29 : ∀ (fuel : Nat) (j : Nat) (g : Nat → Int32) (XL29 : hwW) (Hh : Heap) (lcs : List Loc) (ls : Array Slot), wd + 1 - j < fuel → (1 ≤ j) → (j ≤ wd + 1) → (∀ k, k < j → g k = nI (nxt x t c1 k)) → (∀ k, j ≤ k → k ≤ wd → g k = nI (c1 k)) → (hwF X XL29 (fun M => M = L)) → (hwH XL29 a L (.inl (K 0, 13, .inl g))) → hwZ D vwCl A s.heap XL29 Hh lcs → lv_has ls 8 [(6, .int (nI j)), (5, .int (nI (c1 (j - 1)))), (0, .int (nI x)), (1, .long (lN (eW t))), (3, .int (nI wd)), (4, .ref a)] → W p l e ({ frames := 2, cells := 0, slots := 0, locals := 42 } : Room) s m args below meth c Hh lcs 0 0 Q (F0 m 29 ls []) := by
    intro fuel; induction fuel with
    | zero => intro j g XL29 Hh lcs ls hfu; exact absurd hfu (Nat.not_lt_zero _)
    | succ fuel ih29 =>
      intro j g XL29 Hh lcs ls hfu29 hj1 hj2 hg1 hg2 hFr fa hZ hl
      refine lv_iload hx hb dWord_nextCosts_29 (lv_at hl 0 rfl) ?_
      refine lv_iload_n hx hb dWord_nextCosts_31 rfl (lv_at hl 4 rfl) ?_
      refine hw_ic_gt (a := j) (b := wd) (tgt := 98) hx hb dWord_nextCosts_32 (by decide) (by omega) (by omega) (fun cq_6 => ?_) (fun cq_6 => ?_)
      · exact hret hZ ⟨g, hFr, fa, fun k hk => hg1 k (by omega)⟩ dWord_nextCosts_98
      · refine lv_iload_n hx hb dWord_nextCosts_35 rfl (lv_at hl 2 rfl) ?_
        refine lv_lload_n hx hb dWord_nextCosts_36 rfl (lv_at hl 3 rfl) ?_
        refine lv_iload hx hb dWord_nextCosts_37 (lv_at hl 0 rfl) ?_
        refine lv_iconst (v := nI 1) hx hb dWord_nextCosts_39 (by decide) ?_
        refine lv_isub hx hb dWord_nextCosts_40 ?_
        refine hw_topi (pk_sub (a := j) (b := 1) (by omega)) ?_
        refine hw_calli (va_runS (As := [.long (lN (eW t)), .int (nI (j - 1))]) (rest := [.int (nI x)]) ⟨hx, hb, hml, hown, hts⟩ (c_W_letterAt l D K XL29 Hh.size (w := t) (j := j - 1) (by assumption) (by omega)) (va_cwS 2 hts (hwGood (hw_3 mm_6 mm_5 mm_3 (hwAll mm_4))) rfl rfl rfl (by decide +kernel) ⟨Nat.le_of_ble_eq_true rfl, Nat.le_of_ble_eq_true rfl⟩) (hw_preS hK hO hZ) rfl rfl hl.1 rfl (lv_room (Nat.le_of_ble_eq_true rfl)) dWord_nextCosts_41 ⟨(show 0 + 0 ≤ 0 by omega), (show 0 + 0 ≤ 0 by omega)⟩) hZ hA (fun r X_7 H_8 lc_9 hp hZ => ?_)
        obtain ⟨hr, hy, xx_10⟩ := hp
        subst hy
        refine hw_topi hr ?_
        refine hw_ic_ne (a := x) (b := t.getD (j - 1) 0) (tgt := 52) hx hb dWord_nextCosts_44 (by decide) (by omega) (by omega) (fun cq_11 => ?_) (fun cq_11 => ?_)
        · refine lv_iload hx hb dWord_nextCosts_52 (lv_at hl 1 rfl) ?_
          refine lv_iconst (v := nI 1) hx hb dWord_nextCosts_54 (by decide) ?_
          refine lv_iadd hx hb dWord_nextCosts_55 ?_
          refine hw_topi (nI_add (c1 (j - 1)) 1) ?_
          refine lv_istore (lv' := [(7, .int (nI (c1 (j - 1) + 1))), (6, .int (nI j)), (5, .int (nI (c1 (j - 1)))), (0, .int (nI x)), (1, .long (lN (eW t))), (3, .int (nI wd)), (4, .ref a)]) hx hb dWord_nextCosts_56 hl (by decide) rfl (fun ls hl => ?_)
          refine lv_aload hx hb dWord_nextCosts_58 (lv_at hl 6 rfl) ?_
          refine lv_iload hx hb dWord_nextCosts_60 (lv_at hl 1 rfl) ?_
          refine hw_iald hx hb hK hZ 0 fa rfl (j := j) (by omega) (by omega) dWord_nextCosts_62 ?_
          refine hw_topi (hg2 j (by omega) (by omega)) ?_
          have hbj := hB j (by omega)
          have hbk := hB (j - 1) (by omega)
          have hbn := nxt_le (x := x) (t := t) hB (j - 1) (by omega)
          refine lv_istore (lv' := [(5, .int (nI (c1 j))), (7, .int (nI (c1 (j - 1) + 1))), (6, .int (nI j)), (0, .int (nI x)), (1, .long (lN (eW t))), (3, .int (nI wd)), (4, .ref a)]) hx hb dWord_nextCosts_63 hl (by decide) rfl (fun ls hl => ?_)
          refine lv_aload hx hb dWord_nextCosts_65 (lv_at hl 6 rfl) ?_
          refine lv_iload hx hb dWord_nextCosts_67 (lv_at hl 2 rfl) ?_
          refine lv_iload hx hb dWord_nextCosts_69 (lv_at hl 1 rfl) ?_
          refine lv_aload hx hb dWord_nextCosts_71 (lv_at hl 6 rfl) ?_
          refine lv_iload hx hb dWord_nextCosts_73 (lv_at hl 2 rfl) ?_
          refine hw_iald hx hb hK hZ 0 fa rfl (j := j) (by omega) (by omega) dWord_nextCosts_75 ?_
          refine hw_topi (hg2 j (by omega) (by omega)) ?_
          refine lv_aload hx hb dWord_nextCosts_76 (lv_at hl 6 rfl) ?_
          refine lv_iload hx hb dWord_nextCosts_78 (lv_at hl 2 rfl) ?_
          refine lv_iconst (v := nI 1) hx hb dWord_nextCosts_80 (by decide) ?_
          refine lv_isub hx hb dWord_nextCosts_81 ?_
          refine hw_topi (pk_sub (a := j) (b := 1) (by omega)) ?_
          refine hw_iald hx hb hK hZ 0 fa rfl (j := j - 1) (by omega) (by omega) dWord_nextCosts_82 ?_
          refine hw_topi (hg1 (j - 1) (by omega)) ?_
          refine va_mmin hx hb (hml.trans hl.1.symm) hown (hts (.methodLink RWord 32 Lib.Math.min.name) (hwMem mm_17)) (hts (.static Lib.Math.min.name) (hwMem mm_18)) (hts (.initialized "java/lang/Math") (hwMem mm_19)) (hts (.code Lib.Math.min.name Lib.Math.min.code 2 (some .int)) (hwMem mm_20)) (Nat.le_of_ble_eq_true rfl) (Nat.le_of_ble_eq_true rfl) (show 0 ≤ 0 by omega) (show 0 ≤ 0 by omega) dWord_nextCosts_83 ?_
          refine hw_topi (hw_nmin (a := c1 j) (b := nxt x t c1 (j - 1)) (by omega) (by omega)) ?_
          refine lv_iconst (v := nI 1) hx hb dWord_nextCosts_86 (by decide) ?_
          refine lv_iadd hx hb dWord_nextCosts_87 ?_
          refine hw_topi (nI_add (min (c1 j) (nxt x t c1 (j - 1))) 1) ?_
          refine va_mmin hx hb (hml.trans hl.1.symm) hown (hts (.methodLink RWord 32 Lib.Math.min.name) (hwMem mm_17)) (hts (.static Lib.Math.min.name) (hwMem mm_18)) (hts (.initialized "java/lang/Math") (hwMem mm_19)) (hts (.code Lib.Math.min.name Lib.Math.min.code 2 (some .int)) (hwMem mm_20)) (Nat.le_of_ble_eq_true rfl) (Nat.le_of_ble_eq_true rfl) (show 0 ≤ 0 by omega) (show 0 ≤ 0 by omega) dWord_nextCosts_88 ?_
          refine hw_topi (hw_nmin (a := c1 (j - 1) + 1) (b := min (c1 j) (nxt x t c1 (j - 1)) + 1) (by omega) (by omega)) ?_
          refine hw_iast hx hb hK hZ 0 fa rfl (j := j) (by omega) (by omega) dWord_nextCosts_91 (fun X_12 H_13 lc_14 hZ hF hNw => ?_)
          have hFr := hwF.tr hFr hF (fun _ h => h) (fun M h => by first | exact False.elim h | ((try dsimp only at h ⊢); omega))
          have fa := hNw
          refine lv_iinc (v := nI (j + 1)) (lv' := [(6, .int (nI (j + 1))), (5, .int (nI (c1 j))), (7, .int (nI (c1 (j - 1) + 1))), (0, .int (nI x)), (1, .long (lN (eW t))), (3, .int (nI wd)), (4, .ref a)]) hx hb dWord_nextCosts_92 hl (k := 2) rfl (nI_add _ 1) (by decide) rfl (fun ls hl => ?_)
          refine lv_goto (tgt := 29) hx hb dWord_nextCosts_95 (by decide) ?_
          exact ih29 (j + 1) (upd g j (nI (min (c1 (j - 1) + 1) (min (c1 j) (nxt x t c1 (j - 1)) + 1)))) _ _ _ _ (by omega) (by omega) (by omega) (fun k hk => (Nat.lt_or_eq_of_le (Nat.le_of_lt_succ hk)).elim (fun q => by rw [pk_un (by omega)]; exact hg1 k q) (fun q => by subst q; rw [pk_us, nxt_pos hj1, if_neg cq_11])) (fun k hk hk2 => by rw [pk_un (by omega)]; exact hg2 k (by omega) hk2) hFr fa hZ (lv_sub hl [0, 1, 3, 4, 5, 6] rfl)
        · refine lv_iload hx hb dWord_nextCosts_47 (lv_at hl 1 rfl) ?_
          refine lv_goto (tgt := 56) hx hb dWord_nextCosts_49 (by decide) ?_
          refine lv_istore (lv' := [(7, .int (nI (c1 (j - 1)))), (6, .int (nI j)), (5, .int (nI (c1 (j - 1)))), (0, .int (nI x)), (1, .long (lN (eW t))), (3, .int (nI wd)), (4, .ref a)]) hx hb dWord_nextCosts_56 hl (by decide) rfl (fun ls hl => ?_)
          refine lv_aload hx hb dWord_nextCosts_58 (lv_at hl 6 rfl) ?_
          refine lv_iload hx hb dWord_nextCosts_60 (lv_at hl 1 rfl) ?_
          refine hw_iald hx hb hK hZ 0 fa rfl (j := j) (by omega) (by omega) dWord_nextCosts_62 ?_
          refine hw_topi (hg2 j (by omega) (by omega)) ?_
          have hbj := hB j (by omega)
          have hbk := hB (j - 1) (by omega)
          have hbn := nxt_le (x := x) (t := t) hB (j - 1) (by omega)
          refine lv_istore (lv' := [(5, .int (nI (c1 j))), (7, .int (nI (c1 (j - 1)))), (6, .int (nI j)), (0, .int (nI x)), (1, .long (lN (eW t))), (3, .int (nI wd)), (4, .ref a)]) hx hb dWord_nextCosts_63 hl (by decide) rfl (fun ls hl => ?_)
          refine lv_aload hx hb dWord_nextCosts_65 (lv_at hl 6 rfl) ?_
          refine lv_iload hx hb dWord_nextCosts_67 (lv_at hl 2 rfl) ?_
          refine lv_iload hx hb dWord_nextCosts_69 (lv_at hl 1 rfl) ?_
          refine lv_aload hx hb dWord_nextCosts_71 (lv_at hl 6 rfl) ?_
          refine lv_iload hx hb dWord_nextCosts_73 (lv_at hl 2 rfl) ?_
          refine hw_iald hx hb hK hZ 0 fa rfl (j := j) (by omega) (by omega) dWord_nextCosts_75 ?_
          refine hw_topi (hg2 j (by omega) (by omega)) ?_
          refine lv_aload hx hb dWord_nextCosts_76 (lv_at hl 6 rfl) ?_
          refine lv_iload hx hb dWord_nextCosts_78 (lv_at hl 2 rfl) ?_
          refine lv_iconst (v := nI 1) hx hb dWord_nextCosts_80 (by decide) ?_
          refine lv_isub hx hb dWord_nextCosts_81 ?_
          refine hw_topi (pk_sub (a := j) (b := 1) (by omega)) ?_
          refine hw_iald hx hb hK hZ 0 fa rfl (j := j - 1) (by omega) (by omega) dWord_nextCosts_82 ?_
          refine hw_topi (hg1 (j - 1) (by omega)) ?_
          refine va_mmin hx hb (hml.trans hl.1.symm) hown (hts (.methodLink RWord 32 Lib.Math.min.name) (hwMem mm_17)) (hts (.static Lib.Math.min.name) (hwMem mm_18)) (hts (.initialized "java/lang/Math") (hwMem mm_19)) (hts (.code Lib.Math.min.name Lib.Math.min.code 2 (some .int)) (hwMem mm_20)) (Nat.le_of_ble_eq_true rfl) (Nat.le_of_ble_eq_true rfl) (show 0 ≤ 0 by omega) (show 0 ≤ 0 by omega) dWord_nextCosts_83 ?_
          refine hw_topi (hw_nmin (a := c1 j) (b := nxt x t c1 (j - 1)) (by omega) (by omega)) ?_
          refine lv_iconst (v := nI 1) hx hb dWord_nextCosts_86 (by decide) ?_
          refine lv_iadd hx hb dWord_nextCosts_87 ?_
          refine hw_topi (nI_add (min (c1 j) (nxt x t c1 (j - 1))) 1) ?_
          refine va_mmin hx hb (hml.trans hl.1.symm) hown (hts (.methodLink RWord 32 Lib.Math.min.name) (hwMem mm_17)) (hts (.static Lib.Math.min.name) (hwMem mm_18)) (hts (.initialized "java/lang/Math") (hwMem mm_19)) (hts (.code Lib.Math.min.name Lib.Math.min.code 2 (some .int)) (hwMem mm_20)) (Nat.le_of_ble_eq_true rfl) (Nat.le_of_ble_eq_true rfl) (show 0 ≤ 0 by omega) (show 0 ≤ 0 by omega) dWord_nextCosts_88 ?_
          refine hw_topi (hw_nmin (a := c1 (j - 1)) (b := min (c1 j) (nxt x t c1 (j - 1)) + 1) (by omega) (by omega)) ?_
          refine hw_iast hx hb hK hZ 0 fa rfl (j := j) (by omega) (by omega) dWord_nextCosts_91 (fun X_15 H_16 lc_17 hZ hF hNw => ?_)
          have hFr := hwF.tr hFr hF (fun _ h => h) (fun M h => by first | exact False.elim h | ((try dsimp only at h ⊢); omega))
          have fa := hNw
          refine lv_iinc (v := nI (j + 1)) (lv' := [(6, .int (nI (j + 1))), (5, .int (nI (c1 j))), (7, .int (nI (c1 (j - 1)))), (0, .int (nI x)), (1, .long (lN (eW t))), (3, .int (nI wd)), (4, .ref a)]) hx hb dWord_nextCosts_92 hl (k := 2) rfl (nI_add _ 1) (by decide) rfl (fun ls hl => ?_)
          refine lv_goto (tgt := 29) hx hb dWord_nextCosts_95 (by decide) ?_
          exact ih29 (j + 1) (upd g j (nI (min (c1 (j - 1)) (min (c1 j) (nxt x t c1 (j - 1)) + 1)))) _ _ _ _ (by omega) (by omega) (by omega) (fun k hk => (Nat.lt_or_eq_of_le (Nat.le_of_lt_succ hk)).elim (fun q => by rw [pk_un (by omega)]; exact hg1 k q) (fun q => by subst q; rw [pk_us, nxt_pos hj1, if_pos cq_11])) (fun k hk hk2 => by rw [pk_un (by omega)]; exact hg2 k (by omega) hk2) hFr fa hZ (lv_sub hl [0, 1, 3, 4, 5, 6] rfl)
  exact loop29 (wd + 1 - 1 + 1) 1 (upd f 0 (nI (c1 0 + 1))) _ _ _ _ (by omega) (by omega) (by omega) (fun k hk => by obtain rfl : k = 0 := (by omega); rw [pk_us]; rfl) (fun k hk hk2 => by rw [pk_un (by omega)]; exact hf k hk2) hFr f0_ hZ (lv_sub hl [0, 1, 2, 3, 4, 5] rfl)
set_option maxHeartbeats 4000000 in
set_option maxRecDepth 100000 in
theorem c_W_dist (l : Launch) (D : va_G) (K : Nat → ClassId) (X : hwW) (sz : Nat) (f0 : List Nat) (t : List Nat) (a : Nat) (L : Nat) (f : Nat → Int32) (f0_ : hwH X a L (.inl (K 0, 13, .inl f))) (hf0 : okW f0) (ht : okW t) : Met l yWord_distance (.code yWord_distance cWord_distance 8 (some .int) :: hwG) ({ frames := 3, cells := 0, slots := 0, locals := 69 } : Room) (hwPc D vwCl (hwT K) [.long (lN (eW f0)), .long (lN (eW t)), .ref a] X sz) (hwQi D vwCl X sz (fun r Y => ∃ f' : Nat → Int32, r = nI (distL f0 t) ∧ hwF X Y (fun M => M = L) ∧ hwH Y a L (.inl (K 0, 13, .inl f')))) 0 0 (va_A X.1 sz) := by
  refine hwMeti (cc := cWord_distance) (maxL := 8) (by decide) rfl (Nat.le_of_ble_eq_true rfl) (fun p e s m args below meth c ls A Q hx hb hml hown hts hname hret hK hO hZ hA hl => ?_)
  have hl : lv_has ls 8 [(0, .long (lN (eW f0))), (2, .long (lN (eW t))), (4, .ref a)] := hl
  have hFr : hwF X X (fun M => M = L) := hwF.rf
  have ht12 := ht.1
  have hf12 := hf0.1
  refine lv_lload_n hx hb dWord_distance_0 rfl (lv_at hl 1 rfl) ?_
  refine hw_calli (va_runS (As := [.long (lN (eW t))]) (rest := []) ⟨hx, hb, hml, hown, hts⟩ (c_W_length l D K X s.heap.size (w := t) (by assumption)) (va_cwS 1 hts (hwGood (hw_3 mm_9 mm_8 mm_3 (hwAll mm_7))) rfl rfl rfl (by decide +kernel) ⟨Nat.le_of_ble_eq_true rfl, Nat.le_of_ble_eq_true rfl⟩) (hw_preS hK hO hZ) rfl rfl hl.1 rfl (lv_room (Nat.le_of_ble_eq_true rfl)) dWord_distance_1 ⟨(show 0 + 0 ≤ 0 by omega), (show 0 + 0 ≤ 0 by omega)⟩) hZ hA (fun r X_1 H_2 lc_3 hp hZ => ?_)
  obtain ⟨hr, hy⟩ := hp
  subst hy
  refine hw_topi hr ?_
  refine lv_aload hx hb dWord_distance_4 (lv_at hl 2 rfl) ?_
  refine hw_alen hx hb hK hZ 0 f0_ rfl dWord_distance_6 ?_
  refine lv_iconst (v := nI 1) hx hb dWord_distance_7 (by decide) ?_
  refine lv_isub hx hb dWord_distance_8 ?_
  refine hw_topi (pk_sub (a := 13) (b := 1) (by omega)) ?_
  refine va_mmin hx hb (hml.trans hl.1.symm) hown (hts (.methodLink RWord 32 Lib.Math.min.name) (hwMem mm_17)) (hts (.static Lib.Math.min.name) (hwMem mm_18)) (hts (.initialized "java/lang/Math") (hwMem mm_19)) (hts (.code Lib.Math.min.name Lib.Math.min.code 2 (some .int)) (hwMem mm_20)) (Nat.le_of_ble_eq_true rfl) (Nat.le_of_ble_eq_true rfl) (show 0 ≤ 0 by omega) (show 0 ≤ 0 by omega) dWord_distance_9 ?_
  refine hw_topi (hw_nmin (a := t.length) (b := 13 - 1) (by omega) (by omega)) ?_
  refine hw_topi (congrArg nI (Nat.min_eq_left (by omega))) ?_
  refine lv_istore (lv' := [(5, .int (nI t.length)), (0, .long (lN (eW f0))), (2, .long (lN (eW t))), (4, .ref a)]) hx hb dWord_distance_12 hl (by decide) rfl (fun ls hl => ?_)
  refine lv_iconst (v := nI 0) hx hb dWord_distance_14 (by decide) ?_
  refine lv_istore (lv' := [(6, .int (nI 0)), (5, .int (nI t.length)), (0, .long (lN (eW f0))), (2, .long (lN (eW t))), (4, .ref a)]) hx hb dWord_distance_15 hl (by decide) rfl (fun ls hl => ?_)
  have loop17 : ∀ (fuel : Nat) (j : Nat) (g : Nat → Int32) (XL17 : hwW) (Hh : Heap) (lcs : List Loc) (ls : Array Slot), t.length + 1 - j < fuel → (j ≤ t.length + 1) → (∀ k, k < j → g k = nI k) → (hwF X XL17 (fun M => M = L)) → (hwH XL17 a L (.inl (K 0, 13, .inl g))) → hwZ D vwCl A s.heap XL17 Hh lcs → lv_has ls 8 [(6, .int (nI j)), (5, .int (nI t.length)), (0, .long (lN (eW f0))), (2, .long (lN (eW t))), (4, .ref a)] → W p l e ({ frames := 3, cells := 0, slots := 0, locals := 69 } : Room) s m args below meth c Hh lcs 0 0 Q (F0 m 17 ls []) := by
    intro fuel; induction fuel with
    | zero => intro j g XL17 Hh lcs ls hfu; exact absurd hfu (Nat.not_lt_zero _)
    | succ fuel ih17 =>
      intro j g XL17 Hh lcs ls hfu17 hj hg hFr fa hZ hl
      refine lv_iload hx hb dWord_distance_17 (lv_at hl 0 rfl) ?_
      refine lv_iload hx hb dWord_distance_19 (lv_at hl 1 rfl) ?_
      refine hw_ic_gt (a := j) (b := t.length) (tgt := 37) hx hb dWord_distance_21 (by decide) (by omega) (by omega) (fun cq_4 => ?_) (fun cq_4 => ?_)
      · refine lv_lload_n hx hb dWord_distance_37 rfl (lv_at hl 2 rfl) ?_
        refine hw_calli (va_runS (As := [.long (lN (eW f0))]) (rest := []) ⟨hx, hb, hml, hown, hts⟩ (c_W_length l D K XL17 Hh.size (w := f0) (by assumption)) (va_cwS 1 hts (hwGood (hw_3 mm_9 mm_8 mm_3 (hwAll mm_7))) rfl rfl rfl (by decide +kernel) ⟨Nat.le_of_ble_eq_true rfl, Nat.le_of_ble_eq_true rfl⟩) (hw_preS hK hO hZ) rfl rfl hl.1 rfl (lv_room (Nat.le_of_ble_eq_true rfl)) dWord_distance_38 ⟨(show 0 + 0 ≤ 0 by omega), (show 0 + 0 ≤ 0 by omega)⟩) hZ hA (fun r X_5 H_6 lc_7 hp hZ => ?_)
        obtain ⟨hr, hy⟩ := hp
        subst hy
        refine hw_topi hr ?_
        refine lv_istore (lv' := [(6, .int (nI f0.length)), (5, .int (nI t.length)), (0, .long (lN (eW f0))), (2, .long (lN (eW t))), (4, .ref a)]) hx hb dWord_distance_41 hl (by decide) rfl (fun ls hl => ?_)
        refine lv_iconst (v := nI 0) hx hb dWord_distance_43 (by decide) ?_
        refine lv_istore (lv' := [(7, .int (nI 0)), (6, .int (nI f0.length)), (5, .int (nI t.length)), (0, .long (lN (eW f0))), (2, .long (lN (eW t))), (4, .ref a)]) hx hb dWord_distance_44 hl (by decide) rfl (fun ls hl => ?_)
        have loop46 : ∀ (fuel : Nat) (i : Nat) (g : Nat → Int32) (XL46 : hwW) (Hh : Heap) (lcs : List Loc) (ls : Array Slot), f0.length - i < fuel → (i ≤ f0.length) → (∀ k, k ≤ t.length → g k = nI (rows t (f0.take i) (fun j => j) k)) → (hwF X XL46 (fun M => M = L)) → (hwH XL46 a L (.inl (K 0, 13, .inl g))) → hwZ D vwCl A s.heap XL46 Hh lcs → lv_has ls 8 [(7, .int (nI i)), (6, .int (nI f0.length)), (5, .int (nI t.length)), (0, .long (lN (eW f0))), (2, .long (lN (eW t))), (4, .ref a)] → W p l e ({ frames := 3, cells := 0, slots := 0, locals := 69 } : Room) s m args below meth c Hh lcs 0 0 Q (F0 m 46 ls []) := by
          intro fuel; induction fuel with
          | zero => intro i g XL46 Hh lcs ls hfu; exact absurd hfu (Nat.not_lt_zero _)
          | succ fuel ih46 =>
            intro i g XL46 Hh lcs ls hfu46 hi hg hFr fa hZ hl
            refine lv_iload hx hb dWord_distance_46 (lv_at hl 0 rfl) ?_
            refine lv_iload hx hb dWord_distance_48 (lv_at hl 1 rfl) ?_
            refine hw_ic_ge (a := i) (b := f0.length) (tgt := 73) hx hb dWord_distance_50 (by decide) (by omega) (by omega) (fun cq_8 => ?_) (fun cq_8 => ?_)
            · refine lv_iload hx hb dWord_distance_73 (lv_at hl 2 rfl) ?_
              refine hw_if_ge (a := t.length) (tgt := 83) hx hb dWord_distance_75 (by decide) (by omega) (fun cq_9 => ?_) (fun cq_9 => by exfalso; omega)
              refine lv_aload hx hb dWord_distance_83 (lv_at hl 5 rfl) ?_
              refine lv_iload hx hb dWord_distance_85 (lv_at hl 2 rfl) ?_
              refine hw_iald hx hb hK hZ 0 fa rfl (j := t.length) (by omega) (by omega) dWord_distance_87 ?_
              exact hret hZ ⟨g, by rw [hg t.length (Nat.le_refl _)]; unfold distL; rw [List.take_of_length_le (by omega)], hFr, fa⟩ dWord_distance_88
            · refine lv_lload_n hx hb dWord_distance_53 rfl (lv_at hl 3 rfl) ?_
              refine lv_iload hx hb dWord_distance_54 (lv_at hl 0 rfl) ?_
              refine hw_calli (va_runS (As := [.long (lN (eW f0)), .int (nI i)]) (rest := []) ⟨hx, hb, hml, hown, hts⟩ (c_W_letterAt l D K XL46 Hh.size (w := f0) (j := i) (by assumption) (by omega)) (va_cwS 2 hts (hwGood (hw_3 mm_6 mm_5 mm_3 (hwAll mm_4))) rfl rfl rfl (by decide +kernel) ⟨Nat.le_of_ble_eq_true rfl, Nat.le_of_ble_eq_true rfl⟩) (hw_preS hK hO hZ) rfl rfl hl.1 rfl (lv_room (Nat.le_of_ble_eq_true rfl)) dWord_distance_56 ⟨(show 0 + 0 ≤ 0 by omega), (show 0 + 0 ≤ 0 by omega)⟩) hZ hA (fun r X_10 H_11 lc_12 hp hZ => ?_)
              obtain ⟨hr, hy, xx_13⟩ := hp
              subst hy
              refine hw_topi hr ?_
              refine lv_lload_n hx hb dWord_distance_59 rfl (lv_at hl 4 rfl) ?_
              refine lv_iload hx hb dWord_distance_60 (lv_at hl 2 rfl) ?_
              refine lv_aload hx hb dWord_distance_62 (lv_at hl 5 rfl) ?_
              refine hw_callv (va_runS (As := [.int (nI (f0.getD i 0)), .long (lN (eW t)), .int (nI t.length), .ref a]) (rest := []) ⟨hx, hb, hml, hown, hts⟩ (c_W_next l D K XL46 H_11.size (x := f0.getD i 0) (t := t) (wd := t.length) (a := a) (L := L) (f := g) (c1 := (rows t (f0.take i) (fun j => j))) (B := 24) fa (by assumption) (by omega) hg (fun k hk => rows_id_le t f0 i k (by omega) (by omega)) (by omega) (getD_le hf0.2 i)) (va_cwS 4 hts (hwGood (hw_3 mm_23 mm_22 mm_3 (hwAll mm_21))) rfl rfl rfl (by decide +kernel) ⟨Nat.le_of_ble_eq_true rfl, Nat.le_of_ble_eq_true rfl⟩) (hw_preS hK hO hZ) rfl rfl hl.1 rfl (lv_room (Nat.le_of_ble_eq_true rfl)) dWord_distance_64 ⟨(show 0 + 0 ≤ 0 by omega), (show 0 + 0 ≤ 0 by omega)⟩) hZ hA (fun X_14 H_15 lc_16 hp hZ => ?_)
              obtain ⟨fz_17, hF, hN_18, xx_19⟩ := hp
              have hFr := hwF.tr hFr hF (fun _ h => h) (fun M h => by first | exact False.elim h | ((try dsimp only at h ⊢); omega))
              have ff_20 := hN_18
              refine lv_iinc (v := nI (i + 1)) (lv' := [(7, .int (nI (i + 1))), (6, .int (nI f0.length)), (5, .int (nI t.length)), (0, .long (lN (eW f0))), (2, .long (lN (eW t))), (4, .ref a)]) hx hb dWord_distance_67 hl (k := 0) rfl (nI_add _ 1) (by decide) rfl (fun ls hl => ?_)
              refine lv_goto (tgt := 46) hx hb dWord_distance_70 (by decide) ?_
              exact ih46 (i + 1) fz_17 _ _ _ _ (by omega) (by omega) (fun k hk => by rw [rows_take (by omega)]; exact xx_19 k hk) hFr ff_20 hZ (lv_sub hl [0, 1, 2, 3, 4, 5] rfl)
        exact loop46 (f0.length - 0 + 1) 0 g _ _ _ _ (by omega) (by omega) (fun k hk => by rw [List.take_zero]; exact hg k (by omega)) hFr fa hZ (lv_sub hl [0, 1, 2, 3, 4, 5] rfl)
      · refine lv_aload hx hb dWord_distance_24 (lv_at hl 4 rfl) ?_
        refine lv_iload hx hb dWord_distance_26 (lv_at hl 0 rfl) ?_
        refine lv_iload hx hb dWord_distance_28 (lv_at hl 0 rfl) ?_
        refine hw_iast hx hb hK hZ 0 fa rfl (j := j) (by omega) (by omega) dWord_distance_30 (fun X_21 H_22 lc_23 hZ hF hNw => ?_)
        have hFr := hwF.tr hFr hF (fun _ h => h) (fun M h => by first | exact False.elim h | ((try dsimp only at h ⊢); omega))
        have fa := hNw
        refine lv_iinc (v := nI (j + 1)) (lv' := [(6, .int (nI (j + 1))), (5, .int (nI t.length)), (0, .long (lN (eW f0))), (2, .long (lN (eW t))), (4, .ref a)]) hx hb dWord_distance_31 hl (k := 0) rfl (nI_add _ 1) (by decide) rfl (fun ls hl => ?_)
        refine lv_goto (tgt := 17) hx hb dWord_distance_34 (by decide) ?_
        exact ih17 (j + 1) (upd g j (nI j)) _ _ _ _ (by omega) (by omega) (fun k hk => (Nat.lt_or_eq_of_le (Nat.le_of_lt_succ hk)).elim (fun q => by rw [pk_un (by omega)]; exact hg k q) (fun q => by subst q; rw [pk_us])) hFr fa hZ (lv_sub hl [0, 1, 2, 3, 4] rfl)
  exact loop17 (t.length + 1 - 0 + 1) 0 f _ _ _ _ (by omega) (by omega) (fun k hk => absurd hk (Nat.not_lt_zero _)) hFr f0_ hZ (lv_sub hl [0, 1, 2, 3, 4] rfl)
end
section
/-! THE STATE of the class, by its cells. A row of words in an array; labels 2 * k (the object) and 2 * k + 1 (its array). -/
def lvec (f : Nat → Int64) (ws : List (List Nat)) : Prop := ∀ p, p < ws.length → f p = lN (eW (ws.getD p []))
def okWs (ws : List (List Nat)) : Prop := ∀ w ∈ ws, okW w
theorem okWs.at {ws : List (List Nat)} (h : okWs ws) (p : Nat) : okW (ws.getD p []) := by
  by_cases q : p < ws.length
  · have e : ws.getD p [] = ws[p] := by simp [List.getD, q]
    rw [e]; exact h _ (List.getElem_mem q)
  · have e : ws.getD p [] = [] := by simp [List.getD, Nat.le_of_not_lt q]
    rw [e]; exact okW_nil
theorem okWs.app {us vs : List (List Nat)} (h : okWs us) (h2 : okWs vs) : okWs (us ++ vs) := fun w hw => (List.mem_append.mp hw).elim (h w) (h2 w)
theorem okWs.one {w : List Nat} (h : okW w) : okWs [w] := fun v hv => by rw [List.mem_singleton.mp hv]; exact h
theorem okWs.nil : okWs [] := fun _ h => absurd h List.not_mem_nil
theorem okWs.init {us : List (List Nat)} {w : List Nat} (h : okWs (us ++ [w])) : okWs us ∧ okW w := ⟨fun v hv => h v (List.mem_append_left _ hv), h w (List.mem_append_right _ (List.mem_singleton.mpr rfl))⟩
theorem getD_app_last {us : List (List Nat)} {w : List Nat} : (us ++ [w]).getD us.length [] = w := by simp [List.getD]
theorem getD_app_lo {us vs : List (List Nat)} {p : Nat} (h : p < us.length) : (us ++ vs).getD p [] = us.getD p [] := by simp [List.getD, List.getElem?_append_left h]
theorem lvec.nil {f : Nat → Int64} : lvec f [] := fun _ h => absurd h (Nat.not_lt_zero _)
theorem lvec.last {f : Nat → Int64} {us : List (List Nat)} {w : List Nat} (h : lvec f (us ++ [w])) : f us.length = lN (eW w) := by
  rw [h us.length (by simp), getD_app_last]
theorem lvec.setLast {f : Nat → Int64} {us : List (List Nat)} {w v : List Nat} (h : lvec f (us ++ [w])) : lvec (vp_updL f us.length (lN (eW v))) (us ++ [v]) := by
  intro p hp
  have hp' : p < us.length + 1 := by simpa using hp
  by_cases q : p = us.length
  · subst q; rw [pk_uLs, getD_app_last]
  · have hq : p < us.length := by omega
    rw [pk_uLn q, h p (by simp; omega), getD_app_lo hq, getD_app_lo hq]
theorem lvec.push {f : Nat → Int64} {us : List (List Nat)} {v : List Nat} (h : lvec f us) : lvec (vp_updL f us.length (lN (eW v))) (us ++ [v]) := by
  intro p hp
  have hp' : p < us.length + 1 := by simpa using hp
  by_cases q : p = us.length
  · subst q; rw [pk_uLs, getD_app_last]
  · have hq : p < us.length := by omega
    rw [pk_uLn q, h p hq, getD_app_lo hq]
theorem lvec.at {f : Nat → Int64} {us : List (List Nat)} (h : lvec f us) {p : Nat} (hp : p < us.length) : f p = lN (eW (us.getD p [])) := h p hp
theorem getD_big {us : List (List Nat)} {p : Nat} (h : us.length ≤ p) : us.getD p [] = [] := by simp [List.getD, h]
def txAt (K : Nat → ClassId) (X : hwW) (a k : Nat) (ws : List (List Nat)) (o : Nat) : Prop := ∃ (q N : Nat) (f : Nat → Int64), hwH X a (2 * k) (.inr (3, [.ref q, .int (nI ws.length), .int (nI o)])) ∧ hwH X q (2 * k + 1) (.inl (K 1, N, .inr (.inl f))) ∧ ws.length ≤ N ∧ N ≤ 3000 ∧ lvec f ws ∧ okWs ws
def seAt (K : Nat → ClassId) (X : hwW) (a k N : Nat) (ss : List (List Nat)) : Prop := ∃ (q : Nat) (f : Nat → Int64), hwH X a (2 * k) (.inr (4, [.ref q, .int (nI ss.length)])) ∧ hwH X q (2 * k + 1) (.inl (K 1, N, .inr (.inl f))) ∧ ss.length ≤ N ∧ N ≤ 3000 ∧ lvec f ss ∧ okWs ss
def tmAt (K : Nat → ClassId) (X : hwW) (a k N : Nat) (ts : List (List Nat)) : Prop := ∃ (q : Nat) (f : Nat → Int64), hwH X a (2 * k) (.inr (2, [.ref q, .int (nI ts.length)])) ∧ hwH X q (2 * k + 1) (.inl (K 1, N, .inr (.inl f))) ∧ ts.length ≤ N ∧ N ≤ 3000 ∧ lvec f ts ∧ okWs ts
theorem txAt.fr {K : Nat → ClassId} {X Y : hwW} {S : Nat → Prop} {a k : Nat} {ws : List (List Nat)} {o : Nat} (hF : hwF X Y S) (h1 : ¬ S (2 * k)) (h2 : ¬ S (2 * k + 1)) (h : txAt K X a k ws o) : txAt K Y a k ws o := by
  obtain ⟨q, N, f, f0, f1, r⟩ := h
  exact ⟨q, N, f, hF _ _ _ h1 f0, hF _ _ _ h2 f1, r⟩
theorem seAt.fr {K : Nat → ClassId} {X Y : hwW} {S : Nat → Prop} {a k N : Nat} {ws : List (List Nat)} (hF : hwF X Y S) (h1 : ¬ S (2 * k)) (h2 : ¬ S (2 * k + 1)) (h : seAt K X a k N ws) : seAt K Y a k N ws := by
  obtain ⟨q, f, f0, f1, r⟩ := h
  exact ⟨q, f, hF _ _ _ h1 f0, hF _ _ _ h2 f1, r⟩
theorem tmAt.fr {K : Nat → ClassId} {X Y : hwW} {S : Nat → Prop} {a k N : Nat} {ws : List (List Nat)} (hF : hwF X Y S) (h1 : ¬ S (2 * k)) (h2 : ¬ S (2 * k + 1)) (h : tmAt K X a k N ws) : tmAt K Y a k N ws := by
  obtain ⟨q, f, f0, f1, r⟩ := h
  exact ⟨q, f, hF _ _ _ h1 f0, hF _ _ _ h2 f1, r⟩
theorem txAt.ob {K : Nat → ClassId} {X : hwW} {a k : Nat} {ws : List (List Nat)} {o : Nat} (h : txAt K X a k ws o) : ∃ (L : Nat) (fs : List Value), hwH X a L (.inr (3, fs)) := by
  obtain ⟨q, N, f, f0, -⟩ := h
  exact ⟨_, _, f0⟩
theorem seAt.ob {K : Nat → ClassId} {X : hwW} {a k N : Nat} {ws : List (List Nat)} (h : seAt K X a k N ws) : ∃ (L : Nat) (fs : List Value), hwH X a L (.inr (4, fs)) := by
  obtain ⟨q, f, f0, -⟩ := h
  exact ⟨_, _, f0⟩
theorem tmAt.ob {K : Nat → ClassId} {X : hwW} {a k N : Nat} {ws : List (List Nat)} (h : tmAt K X a k N ws) : ∃ (L : Nat) (fs : List Value), hwH X a L (.inr (2, fs)) := by
  obtain ⟨q, f, f0, -⟩ := h
  exact ⟨_, _, f0⟩
/-- a sign comes behind a row of words: x its letter, or 0 -/
def tk (s : List (List Nat) × Nat) (x : Nat) : List (List Nat) × Nat := if x = 0 then (s.1, 0) else if s.2 = 0 then (s.1 ++ [[x]], 1) else if s.2 < 12 then (s.1.dropLast ++ [s.1.getLastD [] ++ [x]], s.2 + 1) else s
def txG (ws : List (List Nat)) (o : Nat) : Prop := (∀ w ∈ ws, 1 ≤ w.length) ∧ (o = 0 ∨ ∃ us w, ws = us ++ [w] ∧ w.length = o)
theorem tk_0 (ws : List (List Nat)) (o : Nat) {x : Nat} (h : x = 0) : tk (ws, o) x = (ws, 0) := by simp [tk, h]
theorem tk_A (ws : List (List Nat)) {x : Nat} (h : x ≠ 0) : tk (ws, 0) x = (ws ++ [[x]], 1) := by simp [tk, h]
theorem tk_B (us : List (List Nat)) (w : List Nat) {x : Nat} (h : x ≠ 0) (h1 : w.length ≠ 0) (h2 : w.length < 12) : tk (us ++ [w], w.length) x = (us ++ [w ++ [x]], w.length + 1) := by simp [tk, h, h1, h2]
theorem tk_C (us : List (List Nat)) (w : List Nat) {x : Nat} (h : x ≠ 0) (h2 : 12 ≤ w.length) : tk (us ++ [w], w.length) x = (us ++ [w], w.length) := by
  have h1 : w.length ≠ 0 := by omega
  have h3 : ¬ w.length < 12 := by omega
  simp [tk, h, h1, h3]
def trm (g : Nat) (ss : List (List Nat)) (w : List Nat) : List Nat := if w ∈ ss then [] else stemL g w
theorem okW_trm {w : List Nat} (h : okW w) (g : Nat) (ss : List (List Nat)) : okW (trm g ss w) := by
  unfold trm; split
  · exact okW_nil
  · exact okW_stem h g
theorem tmAt.len {K : Nat → ClassId} {X : hwW} {a k N : Nat} {ws : List (List Nat)} (h : tmAt K X a k N ws) : ws.length ≤ 3000 := by
  obtain ⟨q, f, f0, f1, h1, h2, -⟩ := h
  exact Nat.le_trans h1 h2
theorem txAt.oks {K : Nat → ClassId} {X : hwW} {a k : Nat} {ws : List (List Nat)} {o : Nat} (h : txAt K X a k ws o) : okWs ws := by
  obtain ⟨q, N, f, f0, f1, h1, h2, h3, h4⟩ := h
  exact h4
theorem seAt.oks {K : Nat → ClassId} {X : hwW} {a k N : Nat} {ws : List (List Nat)} (h : seAt K X a k N ws) : okWs ws := by
  obtain ⟨q, f, f0, f1, h1, h2, h3, h4⟩ := h
  exact h4
theorem tmAt.oks {K : Nat → ClassId} {X : hwW} {a k N : Nat} {ws : List (List Nat)} (h : tmAt K X a k N ws) : okWs ws := by
  obtain ⟨q, f, f0, f1, h1, h2, h3, h4⟩ := h
  exact h4
theorem okWs.ins {ts : List (List Nat)} {w : List Nat} {p : Nat} (h : okWs ts) (hw : okW w) : okWs (ts.take p ++ w :: ts.drop p) := by
  intro v hv
  rcases List.mem_append.mp hv with q | q
  · exact h v (List.mem_of_mem_take q)
  · rcases List.mem_cons.mp q with q | q
    · rw [q]; exact hw
    · exact h v (List.mem_of_mem_drop q)
theorem lvec.ins {f : Nat → Int64} {ts : List (List Nat)} {w : List Nat} {p : Nat} (h : lvec f ts) (hp : p ≤ ts.length) : lvec (vp_updL (va_cpy f f p (p + 1) (ts.length - p)) p (lN (eW w))) (ts.take p ++ w :: ts.drop p) := by
  intro j hj
  rw [ins_len hp] at hj
  have hl : (ts.take p).length = p := by rw [List.length_take]; omega
  rcases Nat.lt_trichotomy j p with q | q | q
  · rw [pk_uLn (by omega), pk_cpy_out (Or.inl (by omega)), h j (by omega)]
    congr 2
    simp [List.getD, List.getElem?_append, hl, q, List.getElem?_take]
    rw [List.getElem?_eq_getElem (by omega)]; rfl
  · subst q
    rw [pk_uLs]
    congr 2
    simp [List.getD, List.getElem?_append, hl]
  · rw [pk_uLn (by omega), pk_cpy_in (by omega) (by omega), h _ (by omega)]
    congr 2
    obtain ⟨d, rfl⟩ : ∃ d, j = p + 1 + d := ⟨j - (p + 1), by omega⟩
    have e1 : p + (p + 1 + d - (p + 1)) = p + d := by omega
    have e2 : ¬ p + 1 + d < p := by omega
    have e3 : p + 1 + d - p = d + 1 := by omega
    simp [List.getD, List.getElem?_append, hl, e1, e2, e3]
theorem dArrays_copyOf_0 : decode cArrays_copyOf 0 = .ok (.iload_n 1, 1) := by decide +kernel
theorem dArrays_copyOf_1 : decode cArrays_copyOf 1 = .ok (.aload_n 0, 1) := by decide +kernel
theorem dArrays_copyOf_2 : decode cArrays_copyOf 2 = .ok (.arraylength, 1) := by decide +kernel
theorem dArrays_copyOf_3 : decode cArrays_copyOf 3 = .ok (.if_icmp .ne 11, 3) := by decide +kernel
theorem dArrays_copyOf_6 : decode cArrays_copyOf 6 = .ok (.aload_n 0, 1) := by decide +kernel
theorem dArrays_copyOf_7 : decode cArrays_copyOf 7 = .ok (.invokevirtual 319, 3) := by decide +kernel
theorem dArrays_copyOf_10 : decode cArrays_copyOf 10 = .ok (.checkcast 320, 3) := by decide +kernel
theorem dArrays_copyOf_13 : decode cArrays_copyOf 13 = .ok (.areturn, 1) := by decide +kernel
theorem dArrays_copyOf_14 : decode cArrays_copyOf 14 = .ok (.iload_n 1, 1) := by decide +kernel
theorem dArrays_copyOf_15 : decode cArrays_copyOf 15 = .ok (.newarray .long, 2) := by decide +kernel
theorem dArrays_copyOf_17 : decode cArrays_copyOf 17 = .ok (.astore_n 2, 1) := by decide +kernel
theorem dArrays_copyOf_18 : decode cArrays_copyOf 18 = .ok (.aload_n 0, 1) := by decide +kernel
theorem dArrays_copyOf_19 : decode cArrays_copyOf 19 = .ok (.iconst 0, 1) := by decide +kernel
theorem dArrays_copyOf_20 : decode cArrays_copyOf 20 = .ok (.aload_n 2, 1) := by decide +kernel
theorem dArrays_copyOf_21 : decode cArrays_copyOf 21 = .ok (.iconst 0, 1) := by decide +kernel
theorem dArrays_copyOf_22 : decode cArrays_copyOf 22 = .ok (.aload_n 0, 1) := by decide +kernel
theorem dArrays_copyOf_23 : decode cArrays_copyOf 23 = .ok (.arraylength, 1) := by decide +kernel
theorem dArrays_copyOf_24 : decode cArrays_copyOf 24 = .ok (.iload_n 1, 1) := by decide +kernel
theorem dArrays_copyOf_25 : decode cArrays_copyOf 25 = .ok (.invokestatic 304, 3) := by decide +kernel
theorem dArrays_copyOf_28 : decode cArrays_copyOf 28 = .ok (.invokestatic 150, 3) := by decide +kernel
theorem dArrays_copyOf_31 : decode cArrays_copyOf 31 = .ok (.aload_n 2, 1) := by decide +kernel
theorem dArrays_copyOf_32 : decode cArrays_copyOf 32 = .ok (.areturn, 1) := by decide +kernel
theorem dText_init_0 : decode cText_init 0 = .ok (.aload_n 0, 1) := by decide +kernel
theorem dText_init_1 : decode cText_init 1 = .ok (.invokespecial 3, 3) := by decide +kernel
theorem dText_init_4 : decode cText_init 4 = .ok (.aload_n 0, 1) := by decide +kernel
theorem dText_init_5 : decode cText_init 5 = .ok (.iconst 4, 1) := by decide +kernel
theorem dText_init_6 : decode cText_init 6 = .ok (.newarray .long, 2) := by decide +kernel
theorem dText_init_8 : decode cText_init 8 = .ok (.putfield 9, 3) := by decide +kernel
theorem dText_init_11 : decode cText_init 11 = .ok (.return_, 1) := by decide +kernel
theorem dText_size_0 : decode cText_size 0 = .ok (.aload_n 0, 1) := by decide +kernel
theorem dText_size_1 : decode cText_size 1 = .ok (.getfield 15, 3) := by decide +kernel
theorem dText_size_4 : decode cText_size 4 = .ok (.ireturn, 1) := by decide +kernel
theorem dText_wordAt_0 : decode cText_wordAt 0 = .ok (.iload_n 1, 1) := by decide +kernel
theorem dText_wordAt_1 : decode cText_wordAt 1 = .ok (.ifCond .lt 20, 3) := by decide +kernel
theorem dText_wordAt_4 : decode cText_wordAt 4 = .ok (.iload_n 1, 1) := by decide +kernel
theorem dText_wordAt_5 : decode cText_wordAt 5 = .ok (.aload_n 0, 1) := by decide +kernel
theorem dText_wordAt_6 : decode cText_wordAt 6 = .ok (.getfield 15, 3) := by decide +kernel
theorem dText_wordAt_9 : decode cText_wordAt 9 = .ok (.if_icmp .ge 12, 3) := by decide +kernel
theorem dText_wordAt_12 : decode cText_wordAt 12 = .ok (.iload_n 1, 1) := by decide +kernel
theorem dText_wordAt_13 : decode cText_wordAt 13 = .ok (.aload_n 0, 1) := by decide +kernel
theorem dText_wordAt_14 : decode cText_wordAt 14 = .ok (.getfield 9, 3) := by decide +kernel
theorem dText_wordAt_17 : decode cText_wordAt 17 = .ok (.arraylength, 1) := by decide +kernel
theorem dText_wordAt_18 : decode cText_wordAt 18 = .ok (.if_icmp .lt 7, 3) := by decide +kernel
theorem dText_wordAt_21 : decode cText_wordAt 21 = .ok (.lconst 0, 1) := by decide +kernel
theorem dText_wordAt_22 : decode cText_wordAt 22 = .ok (.goto 9, 3) := by decide +kernel
theorem dText_wordAt_25 : decode cText_wordAt 25 = .ok (.aload_n 0, 1) := by decide +kernel
theorem dText_wordAt_26 : decode cText_wordAt 26 = .ok (.getfield 9, 3) := by decide +kernel
theorem dText_wordAt_29 : decode cText_wordAt 29 = .ok (.iload_n 1, 1) := by decide +kernel
theorem dText_wordAt_30 : decode cText_wordAt 30 = .ok (.laload, 1) := by decide +kernel
theorem dText_wordAt_31 : decode cText_wordAt 31 = .ok (.lreturn, 1) := by decide +kernel
theorem dText_clear_0 : decode cText_clear 0 = .ok (.aload_n 0, 1) := by decide +kernel
theorem dText_clear_1 : decode cText_clear 1 = .ok (.iconst 0, 1) := by decide +kernel
theorem dText_clear_2 : decode cText_clear 2 = .ok (.putfield 15, 3) := by decide +kernel
theorem dText_clear_5 : decode cText_clear 5 = .ok (.aload_n 0, 1) := by decide +kernel
theorem dText_clear_6 : decode cText_clear 6 = .ok (.iconst 0, 1) := by decide +kernel
theorem dText_clear_7 : decode cText_clear 7 = .ok (.putfield 19, 3) := by decide +kernel
theorem dText_clear_10 : decode cText_clear 10 = .ok (.return_, 1) := by decide +kernel
theorem dText_beginWord_0 : decode cText_beginWord 0 = .ok (.aload_n 0, 1) := by decide +kernel
theorem dText_beginWord_1 : decode cText_beginWord 1 = .ok (.getfield 15, 3) := by decide +kernel
theorem dText_beginWord_4 : decode cText_beginWord 4 = .ok (.aload_n 0, 1) := by decide +kernel
theorem dText_beginWord_5 : decode cText_beginWord 5 = .ok (.getfield 9, 3) := by decide +kernel
theorem dText_beginWord_8 : decode cText_beginWord 8 = .ok (.arraylength, 1) := by decide +kernel
theorem dText_beginWord_9 : decode cText_beginWord 9 = .ok (.if_icmp .lt 22, 3) := by decide +kernel
theorem dText_beginWord_12 : decode cText_beginWord 12 = .ok (.aload_n 0, 1) := by decide +kernel
theorem dText_beginWord_13 : decode cText_beginWord 13 = .ok (.aload_n 0, 1) := by decide +kernel
theorem dText_beginWord_14 : decode cText_beginWord 14 = .ok (.getfield 9, 3) := by decide +kernel
theorem dText_beginWord_17 : decode cText_beginWord 17 = .ok (.iconst 2, 1) := by decide +kernel
theorem dText_beginWord_18 : decode cText_beginWord 18 = .ok (.aload_n 0, 1) := by decide +kernel
theorem dText_beginWord_19 : decode cText_beginWord 19 = .ok (.getfield 15, 3) := by decide +kernel
theorem dText_beginWord_22 : decode cText_beginWord 22 = .ok (.imul, 1) := by decide +kernel
theorem dText_beginWord_23 : decode cText_beginWord 23 = .ok (.iconst 4, 1) := by decide +kernel
theorem dText_beginWord_24 : decode cText_beginWord 24 = .ok (.iadd, 1) := by decide +kernel
theorem dText_beginWord_25 : decode cText_beginWord 25 = .ok (.invokestatic 35, 3) := by decide +kernel
theorem dText_beginWord_28 : decode cText_beginWord 28 = .ok (.putfield 9, 3) := by decide +kernel
theorem dText_beginWord_31 : decode cText_beginWord 31 = .ok (.aload_n 0, 1) := by decide +kernel
theorem dText_beginWord_32 : decode cText_beginWord 32 = .ok (.getfield 9, 3) := by decide +kernel
theorem dText_beginWord_35 : decode cText_beginWord 35 = .ok (.aload_n 0, 1) := by decide +kernel
theorem dText_beginWord_36 : decode cText_beginWord 36 = .ok (.getfield 15, 3) := by decide +kernel
theorem dText_beginWord_39 : decode cText_beginWord 39 = .ok (.lconst 0, 1) := by decide +kernel
theorem dText_beginWord_40 : decode cText_beginWord 40 = .ok (.lastore, 1) := by decide +kernel
theorem dText_beginWord_41 : decode cText_beginWord 41 = .ok (.aload_n 0, 1) := by decide +kernel
theorem dText_beginWord_42 : decode cText_beginWord 42 = .ok (.dup, 1) := by decide +kernel
theorem dText_beginWord_43 : decode cText_beginWord 43 = .ok (.getfield 15, 3) := by decide +kernel
theorem dText_beginWord_46 : decode cText_beginWord 46 = .ok (.iconst 1, 1) := by decide +kernel
theorem dText_beginWord_47 : decode cText_beginWord 47 = .ok (.iadd, 1) := by decide +kernel
theorem dText_beginWord_48 : decode cText_beginWord 48 = .ok (.putfield 15, 3) := by decide +kernel
theorem dText_beginWord_51 : decode cText_beginWord 51 = .ok (.return_, 1) := by decide +kernel
theorem dText_take_0 : decode cText_take 0 = .ok (.iload_n 1, 1) := by decide +kernel
theorem dText_take_1 : decode cText_take 1 = .ok (.sipush 255, 3) := by decide +kernel
theorem dText_take_4 : decode cText_take 4 = .ok (.iand, 1) := by decide +kernel
theorem dText_take_5 : decode cText_take 5 = .ok (.invokestatic 22, 3) := by decide +kernel
theorem dText_take_8 : decode cText_take 8 = .ok (.istore_n 2, 1) := by decide +kernel
theorem dText_take_9 : decode cText_take 9 = .ok (.iload_n 2, 1) := by decide +kernel
theorem dText_take_10 : decode cText_take 10 = .ok (.ifCond .ne 9, 3) := by decide +kernel
theorem dText_take_13 : decode cText_take 13 = .ok (.aload_n 0, 1) := by decide +kernel
theorem dText_take_14 : decode cText_take 14 = .ok (.iconst 0, 1) := by decide +kernel
theorem dText_take_15 : decode cText_take 15 = .ok (.putfield 19, 3) := by decide +kernel
theorem dText_take_18 : decode cText_take 18 = .ok (.return_, 1) := by decide +kernel
theorem dText_take_19 : decode cText_take 19 = .ok (.aload_n 0, 1) := by decide +kernel
theorem dText_take_20 : decode cText_take 20 = .ok (.getfield 19, 3) := by decide +kernel
theorem dText_take_23 : decode cText_take 23 = .ok (.ifCond .ne 7, 3) := by decide +kernel
theorem dText_take_26 : decode cText_take 26 = .ok (.aload_n 0, 1) := by decide +kernel
theorem dText_take_27 : decode cText_take 27 = .ok (.invokevirtual 28, 3) := by decide +kernel
theorem dText_take_30 : decode cText_take 30 = .ok (.aload_n 0, 1) := by decide +kernel
theorem dText_take_31 : decode cText_take 31 = .ok (.getfield 15, 3) := by decide +kernel
theorem dText_take_34 : decode cText_take 34 = .ok (.iconst 1, 1) := by decide +kernel
theorem dText_take_35 : decode cText_take 35 = .ok (.isub, 1) := by decide +kernel
theorem dText_take_36 : decode cText_take 36 = .ok (.istore_n 3, 1) := by decide +kernel
theorem dText_take_37 : decode cText_take 37 = .ok (.aload_n 0, 1) := by decide +kernel
theorem dText_take_38 : decode cText_take 38 = .ok (.getfield 19, 3) := by decide +kernel
theorem dText_take_41 : decode cText_take 41 = .ok (.bipush 12, 2) := by decide +kernel
theorem dText_take_43 : decode cText_take 43 = .ok (.if_icmp .ge 46, 3) := by decide +kernel
theorem dText_take_46 : decode cText_take 46 = .ok (.iload_n 3, 1) := by decide +kernel
theorem dText_take_47 : decode cText_take 47 = .ok (.ifCond .lt 42, 3) := by decide +kernel
theorem dText_take_50 : decode cText_take 50 = .ok (.iload_n 3, 1) := by decide +kernel
theorem dText_take_51 : decode cText_take 51 = .ok (.aload_n 0, 1) := by decide +kernel
theorem dText_take_52 : decode cText_take 52 = .ok (.getfield 9, 3) := by decide +kernel
theorem dText_take_55 : decode cText_take 55 = .ok (.arraylength, 1) := by decide +kernel
theorem dText_take_56 : decode cText_take 56 = .ok (.if_icmp .ge 33, 3) := by decide +kernel
theorem dText_take_59 : decode cText_take 59 = .ok (.aload_n 0, 1) := by decide +kernel
theorem dText_take_60 : decode cText_take 60 = .ok (.getfield 9, 3) := by decide +kernel
theorem dText_take_63 : decode cText_take 63 = .ok (.iload_n 3, 1) := by decide +kernel
theorem dText_take_64 : decode cText_take 64 = .ok (.aload_n 0, 1) := by decide +kernel
theorem dText_take_65 : decode cText_take 65 = .ok (.getfield 9, 3) := by decide +kernel
theorem dText_take_68 : decode cText_take 68 = .ok (.iload_n 3, 1) := by decide +kernel
theorem dText_take_69 : decode cText_take 69 = .ok (.laload, 1) := by decide +kernel
theorem dText_take_70 : decode cText_take 70 = .ok (.aload_n 0, 1) := by decide +kernel
theorem dText_take_71 : decode cText_take 71 = .ok (.getfield 19, 3) := by decide +kernel
theorem dText_take_74 : decode cText_take 74 = .ok (.iload_n 2, 1) := by decide +kernel
theorem dText_take_75 : decode cText_take 75 = .ok (.invokestatic 31, 3) := by decide +kernel
theorem dText_take_78 : decode cText_take 78 = .ok (.lastore, 1) := by decide +kernel
theorem dText_take_79 : decode cText_take 79 = .ok (.aload_n 0, 1) := by decide +kernel
theorem dText_take_80 : decode cText_take 80 = .ok (.dup, 1) := by decide +kernel
theorem dText_take_81 : decode cText_take 81 = .ok (.getfield 19, 3) := by decide +kernel
theorem dText_take_84 : decode cText_take 84 = .ok (.iconst 1, 1) := by decide +kernel
theorem dText_take_85 : decode cText_take 85 = .ok (.iadd, 1) := by decide +kernel
theorem dText_take_86 : decode cText_take 86 = .ok (.putfield 19, 3) := by decide +kernel
theorem dText_take_89 : decode cText_take 89 = .ok (.return_, 1) := by decide +kernel
theorem mm_24 : (.arrayClass .long : Cond) ∈ hwG := hwIx 76 (by decide +kernel) (by decide +kernel)
theorem mm_25 : (.methodLink RArrays 304 Lib.Math.min.name : Cond) ∈ hwG := hwIx 220 (by decide +kernel) (by decide +kernel)
theorem mm_26 : (.methodLink RArrays 150 arraycopyName : Cond) ∈ hwG := hwIx 223 (by decide +kernel) (by decide +kernel)
theorem mm_27 : (.native arraycopyName : Cond) ∈ hwG := hwIx 225 (by decide +kernel) (by decide +kernel)
theorem mm_28 : (.static arraycopyName : Cond) ∈ hwG := hwIx 224 (by decide +kernel) (by decide +kernel)
theorem mm_29 : (.initialized "java/lang/System" : Cond) ∈ hwG := hwIx 43 (by decide +kernel) (by decide +kernel)
theorem mm_30 : (.methodLink RText 3 objectInit : Cond) ∈ hwG := hwIx 64 (by decide +kernel) (by decide +kernel)
theorem mm_31 : (.instanceMethod objectInit : Cond) ∈ hwG := hwIx 55 (by decide +kernel) (by decide +kernel)
theorem mm_32 : (.code objectInit ⟨#[0xb1]⟩ 1 none : Cond) ∈ hwG := hwIx 56 (by decide +kernel) (by decide +kernel)
theorem mm_33 : (.fieldLink RText 9 RText "words" "[J" : Cond) ∈ hwG := hwIx 65 (by decide +kernel) (by decide +kernel)
theorem mm_34 : (.fieldLink RText 15 RText "count" "I" : Cond) ∈ hwG := hwIx 66 (by decide +kernel) (by decide +kernel)
theorem mm_35 : (.fieldLink RText 19 RText "openLetters" "I" : Cond) ∈ hwG := hwIx 67 (by decide +kernel) (by decide +kernel)
theorem mm_36 : (.code yArrays_copyOf cArrays_copyOf 3 (some (.array .long)) : Cond) ∈ hwG := hwIx 212 (by decide +kernel) (by decide +kernel)
theorem mm_37 : (.static yArrays_copyOf : Cond) ∈ hwG := hwIx 211 (by decide +kernel) (by decide +kernel)
theorem mm_38 : (.methodLink RText 35 yArrays_copyOf : Cond) ∈ hwG := hwIx 210 (by decide +kernel) (by decide +kernel)
theorem mm_39 : (.initialized RArrays : Cond) ∈ hwG := hwIx 42 (by decide +kernel) (by decide +kernel)
theorem mm_40 : (.methodLink RText 22 yWord_letterOf : Cond) ∈ hwG := hwIx 203 (by decide +kernel) (by decide +kernel)
theorem mm_41 : (.code yText_beginWord cText_beginWord 1 none : Cond) ∈ hwG := hwIx 209 (by decide +kernel) (by decide +kernel)
theorem mm_42 : (.methodLink RText 28 yText_beginWord : Cond) ∈ hwG := hwIx 206 (by decide +kernel) (by decide +kernel)
theorem mm_43 : (.instanceMethod yText_beginWord : Cond) ∈ hwG := hwIx 208 (by decide +kernel) (by decide +kernel)
theorem mm_44 : (.selects RText yText_beginWord yText_beginWord : Cond) ∈ hwG := hwIx 2 (by decide +kernel) (by decide +kernel)
theorem mm_45 : (.initialized RText : Cond) ∈ hwG := hwIx 34 (by decide +kernel) (by decide +kernel)
theorem mm_46 : (.code yWord_with cWord_with 4 (some .long) : Cond) ∈ hwG := hwIx 228 (by decide +kernel) (by decide +kernel)
theorem mm_47 : (.static yWord_with : Cond) ∈ hwG := hwIx 227 (by decide +kernel) (by decide +kernel)
theorem mm_48 : (.methodLink RText 31 yWord_with : Cond) ∈ hwG := hwIx 226 (by decide +kernel) (by decide +kernel)
set_option maxHeartbeats 4000000 in
set_option maxRecDepth 100000 in
theorem c_copyOf (l : Launch) (D : va_G) (K : Nat → ClassId) (X : hwW) (sz : Nat) (q : Nat) (L : Nat) (N : Nat) (f : Nat → Int64) (n : Nat) (L1 : Nat) (f0_ : hwH X q L (.inl (K 1, N, .inr (.inl f)))) (hn : N < n) (hm : n ≤ 100000) : Met l yArrays_copyOf (.code yArrays_copyOf cArrays_copyOf 3 (some (.array .long)) :: hwG) ({ frames := 1, cells := 1, slots := n, locals := 26 } : Room) (hwPc D vwCl (hwT K) [.ref q, .int (nI n)] X sz) (hwQq D vwCl X sz (fun r Y => ∃ (q1 : Nat) (f1 : Nat → Int64), r = some q1 ∧ hwF X Y (fun M => M = L1) ∧ hwH Y q1 L1 (.inl (K 1, n, .inr (.inl f1))) ∧ ∀ p, p < N → f1 p = f p)) 1 n (va_A X.1 sz) := by
  refine hwMetq (cc := cArrays_copyOf) (maxL := 3) (rt := (.array .long)) (by first | exact Or.inl ⟨_, rfl⟩ | exact Or.inr ⟨_, rfl⟩) (by decide) rfl (Nat.le_of_ble_eq_true rfl) (fun p e s m args below meth c ls A Q hx hb hml hown hts hname hret hK hO hZ hA hl => ?_)
  have hl : lv_has ls 3 [(0, .ref q), (1, .int (nI n))] := hl
  have hFr : hwF X X (fun M => M = L1) := hwF.rf
  refine lv_iload_n hx hb dArrays_copyOf_0 rfl (lv_at hl 1 rfl) ?_
  refine lv_aload_n hx hb dArrays_copyOf_1 rfl (lv_at hl 0 rfl) ?_
  refine hw_alen hx hb hK hZ 1 f0_ rfl dArrays_copyOf_2 ?_
  refine hw_ic_ne (a := n) (b := N) (tgt := 14) hx hb dArrays_copyOf_3 (by decide) (by omega) (by omega) (fun cq_1 => ?_) (fun cq_1 => by exfalso; omega)
  refine lv_iload_n hx hb dArrays_copyOf_14 rfl (lv_at hl 1 rfl) ?_
  refine hw_newa (atype := .long) (ty := .long) (a0 := (n, .inr (.inl (fun _ => 0)))) (N := n) hx hb (hts (.arrayClass .long) (hwMem mm_24)) rfl hK hZ hA 1 rfl (fun _ _ => rfl) (fun _ => rfl) (by omega) (by show _ * _ ≤ _; first | decide | (simp only [componentBytes]; omega)) (show 0 + 1 ≤ 1 by omega) (show 0 + n ≤ n by omega) dArrays_copyOf_15 L1 (fun qq_2 X_3 H_4 hZ hF hNw => ?_)
  have hFr := hwF.tr hFr hF (fun _ h => h) (fun M h => by first | exact False.elim h | ((try dsimp only at h ⊢); omega))
  have f0_ := hF _ _ _ (by intro hNS; first | exact False.elim hNS | ((try dsimp only at hNS); omega)) f0_
  have ff_6 := hNw
  refine lv_astore_n (lv' := [(2, .ref qq_2), (0, .ref q), (1, .int (nI n))]) hx hb dArrays_copyOf_17 rfl hl (by decide) rfl (fun ls hl => ?_)
  refine lv_aload_n hx hb dArrays_copyOf_18 rfl (lv_at hl 1 rfl) ?_
  refine lv_iconst (v := nI 0) hx hb dArrays_copyOf_19 (by decide) ?_
  refine lv_aload_n hx hb dArrays_copyOf_20 rfl (lv_at hl 0 rfl) ?_
  refine lv_iconst (v := nI 0) hx hb dArrays_copyOf_21 (by decide) ?_
  refine lv_aload_n hx hb dArrays_copyOf_22 rfl (lv_at hl 1 rfl) ?_
  refine hw_alen hx hb hK hZ 1 f0_ rfl dArrays_copyOf_23 ?_
  refine lv_iload_n hx hb dArrays_copyOf_24 rfl (lv_at hl 2 rfl) ?_
  refine va_mmin hx hb (hml.trans hl.1.symm) hown (hts (.methodLink RArrays 304 Lib.Math.min.name) (hwMem mm_25)) (hts (.static Lib.Math.min.name) (hwMem mm_18)) (hts (.initialized "java/lang/Math") (hwMem mm_19)) (hts (.code Lib.Math.min.name Lib.Math.min.code 2 (some .int)) (hwMem mm_20)) (Nat.le_of_ble_eq_true rfl) (Nat.le_of_ble_eq_true rfl) (show 1 ≤ 1 by omega) (show 0 + n ≤ n by omega) dArrays_copyOf_25 ?_
  refine hw_topi (hw_nmin (a := N) (b := n) (by omega) (by omega)) ?_
  refine hw_topi (congrArg nI (Nat.min_eq_left (by omega))) ?_
  refine hw_copyl (sp := 0) (dp := 0) (n := N) hx hb (hml.trans hl.1.symm) hown (hts (.methodLink RArrays 150 arraycopyName) (hwMem mm_26)) (hts (.native arraycopyName) (hwMem mm_27)) (hts (.static arraycopyName) (hwMem mm_28)) (hts (.initialized "java/lang/System") (hwMem mm_29)) hK hZ 1 1 f0_ ff_6 rfl rfl (by omega) (by omega) (by omega) (by omega) (Nat.le_of_ble_eq_true rfl) (Nat.le_of_ble_eq_true rfl) dArrays_copyOf_28 (fun X_7 H_8 lc_9 hZ hF hNw => ?_)
  have hFr := hwF.tr hFr hF (fun _ h => h) (fun M h => by first | exact False.elim h | ((try dsimp only at h ⊢); omega))
  have ff_6 := hNw
  refine lv_aload_n hx hb dArrays_copyOf_31 rfl (lv_at hl 0 rfl) ?_
  refine W.widen (k := 1) (n := n) (by omega) (by omega) ?_
  exact hret (vv := .ref qq_2) (v := some qq_2) rfl hZ ⟨qq_2, _, rfl, hFr, ff_6, fun p hp => by rw [pk_cpy_in (by omega) (by omega)]; congr 1; omega⟩ dArrays_copyOf_32
set_option maxHeartbeats 4000000 in
set_option maxRecDepth 100000 in
theorem c_Tx_init (l : Launch) (D : va_G) (K : Nat → ClassId) (X : hwW) (sz : Nat) (a : Nat) (k : Nat) (f0_ : hwH X a (2 * k) (.inr (3, [.null, .int (nI 0), .int (nI 0)]))) : Met l yText_init (.code yText_init cText_init 1 none :: hwG) ({ frames := 1, cells := 1, slots := 4, locals := 20 } : Room) (hwPc D vwCl (hwT K) [.ref a] X sz) (hwQv D vwCl X sz (fun Y => hwF X Y (fun M => M = 2 * k ∨ M = 2 * k + 1) ∧ txAt K Y a k [] 0)) 1 4 (va_A X.1 sz) := by
  refine hwMetv (cc := cText_init) (maxL := 1) (by decide) rfl (Nat.le_of_ble_eq_true rfl) (fun p e s m args below meth c ls A Q hx hb hml hown hts hname hret hK hO hZ hA hl => ?_)
  have hl : lv_has ls 1 [(0, .ref a)] := hl
  have hFr : hwF X X (fun M => M = 2 * k ∨ M = 2 * k + 1) := hwF.rf
  refine lv_aload_n hx hb dText_init_0 rfl (lv_at hl 0 rfl) ?_
  refine W.objInit hx hb hown (hts (.methodLink RText 3 objectInit) (hwMem mm_30)) (hts (.instanceMethod objectInit) (hwMem mm_31)) (hts (.code objectInit ⟨#[0xb1]⟩ 1 none) (hwMem mm_32)) rfl (by rw [hml]; exact hl.1) rfl dText_init_1 (Nat.le_of_ble_eq_true rfl) (Nat.le_of_ble_eq_true rfl) ?_
  refine W.eq (g2 := F0 m 4 ls []) rfl ?_
  refine lv_aload_n hx hb dText_init_4 rfl (lv_at hl 0 rfl) ?_
  refine lv_iconst (v := nI 4) hx hb dText_init_5 (by decide) ?_
  refine hw_newa (atype := .long) (ty := .long) (a0 := (4, .inr (.inl (fun _ => 0)))) (N := 4) hx hb (hts (.arrayClass .long) (hwMem mm_24)) rfl hK hZ hA 1 rfl (fun _ _ => rfl) (fun _ => rfl) (by omega) (by show _ * _ ≤ _; first | decide | (simp only [componentBytes]; omega)) (show 0 + 1 ≤ 1 by omega) (show 0 + 4 ≤ 4 by omega) dText_init_6 (2 * k + 1) (fun qq_1 X_2 H_3 hZ hF hNw => ?_)
  have hFr := hwF.tr hFr hF (fun _ h => h) (fun M h => by first | exact False.elim h | ((try dsimp only at h ⊢); omega))
  have f0_ := hF _ _ _ (by intro hNS; first | exact False.elim hNS | ((try dsimp only at hNS); omega)) f0_
  have ff_5 := hNw
  refine hw_put (ty := (.array .long)) (fs' := [.ref qq_1, .int (nI 0), .int (nI 0)]) hx hb hts (hwInn inText) tyText tyText_ok nmText hown hK hZ f0_ rfl 0 (by decide) (hts (.fieldLink RText 9 RText "words" "[J") (hwMem mm_33)) (fun _ h => h) rfl (by decide +kernel) rfl rfl (Nat.le_of_ble_eq_true rfl) rfl dText_init_8 (fun X_6 H_7 lc_8 hZ hF hNw => ?_)
  have hFr := hwF.tr hFr hF (fun _ h => h) (fun M h => by first | exact False.elim h | ((try dsimp only at h ⊢); omega))
  have f0_ := hNw
  have ff_5 := hF _ _ _ (by intro hNS; first | exact False.elim hNS | ((try dsimp only at hNS); omega)) ff_5
  refine W.widen (k := 1) (n := 4) (by omega) (by omega) ?_
  exact hret hZ ⟨hFr, qq_1, 4, _, f0_, ff_5, Nat.zero_le _, by decide, lvec.nil, okWs.nil⟩ dText_init_11
set_option maxHeartbeats 4000000 in
set_option maxRecDepth 100000 in
theorem c_Tx_size (l : Launch) (D : va_G) (K : Nat → ClassId) (X : hwW) (sz : Nat) (a : Nat) (k : Nat) (ws : List (List Nat)) (o : Nat) (f0_ : txAt K X a k ws o) : Met l yText_size (.code yText_size cText_size 1 (some .int) :: hwG) ({ frames := 0, cells := 0, slots := 0, locals := 0 } : Room) (hwPc D vwCl (hwT K) [.ref a] X sz) (hwQi D vwCl X sz (fun r Y => r = nI ws.length ∧ X = Y)) 0 0 (va_A X.1 sz) := by
  refine hwMeti (cc := cText_size) (maxL := 1) (by decide) rfl (Nat.le_of_ble_eq_true rfl) (fun p e s m args below meth c ls A Q hx hb hml hown hts hname hret hK hO hZ hA hl => ?_)
  have hl : lv_has ls 1 [(0, .ref a)] := hl
  obtain ⟨q, N, f, g0, g1, hN, hM, hv, hk⟩ := f0_
  refine lv_aload_n hx hb dText_size_0 rfl (lv_at hl 0 rfl) ?_
  refine hw_get hx hb hts (hwInn inText) hown hK hZ g0 rfl 1 (by decide) (hts (.fieldLink RText 15 RText "count" "I") (hwMem mm_34)) (fun _ h => h) rfl dText_size_1 ?_
  exact hret hZ ⟨rfl, rfl⟩ dText_size_4
set_option maxHeartbeats 4000000 in
set_option maxRecDepth 100000 in
theorem c_Tx_at (l : Launch) (D : va_G) (K : Nat → ClassId) (X : hwW) (sz : Nat) (a : Nat) (k : Nat) (ws : List (List Nat)) (o : Nat) (j : Nat) (f0_ : txAt K X a k ws o) (hj : j < 2147483648) : Met l yText_wordAt (.code yText_wordAt cText_wordAt 2 (some .long) :: hwG) ({ frames := 0, cells := 0, slots := 0, locals := 0 } : Room) (hwPc D vwCl (hwT K) [.ref a, .int (nI j)] X sz) (hwQl D vwCl X sz (fun r Y => r = lN (eW (ws.getD j [])) ∧ X = Y)) 0 0 (va_A X.1 sz) := by
  refine hwMetl (cc := cText_wordAt) (maxL := 2) (by decide) rfl (Nat.le_of_ble_eq_true rfl) (fun p e s m args below meth c ls A Q hx hb hml hown hts hname hret hK hO hZ hA hl => ?_)
  have hl : lv_has ls 2 [(0, .ref a), (1, .int (nI j))] := hl
  obtain ⟨q, N, f, g0, g1, hN, hM, hv, hk⟩ := f0_
  refine lv_iload_n hx hb dText_wordAt_0 rfl (lv_at hl 1 rfl) ?_
  refine hw_if_lt (a := j) (tgt := 21) hx hb dText_wordAt_1 (by decide) (by omega) (fun cq_1 => by exfalso; omega) (fun cq_1 => ?_)
  refine lv_iload_n hx hb dText_wordAt_4 rfl (lv_at hl 1 rfl) ?_
  refine lv_aload_n hx hb dText_wordAt_5 rfl (lv_at hl 0 rfl) ?_
  refine hw_get hx hb hts (hwInn inText) hown hK hZ g0 rfl 1 (by decide) (hts (.fieldLink RText 15 RText "count" "I") (hwMem mm_34)) (fun _ h => h) rfl dText_wordAt_6 ?_
  refine hw_ic_ge (a := j) (b := ws.length) (tgt := 21) hx hb dText_wordAt_9 (by decide) (by omega) (by omega) (fun cq_2 => ?_) (fun cq_2 => ?_)
  · refine lv_lconst (v := lN 0) hx hb dText_wordAt_21 rfl ?_
    refine lv_goto (tgt := 31) hx hb dText_wordAt_22 (by decide) ?_
    exact hret hZ ⟨by first | exact hv j (by omega) | (rw [getD_big (by omega)]; rfl), rfl⟩ dText_wordAt_31
  · refine lv_iload_n hx hb dText_wordAt_12 rfl (lv_at hl 1 rfl) ?_
    refine lv_aload_n hx hb dText_wordAt_13 rfl (lv_at hl 0 rfl) ?_
    refine hw_get hx hb hts (hwInn inText) hown hK hZ g0 rfl 0 (by decide) (hts (.fieldLink RText 9 RText "words" "[J") (hwMem mm_33)) (fun _ h => h) rfl dText_wordAt_14 ?_
    refine hw_alen hx hb hK hZ 1 g1 rfl dText_wordAt_17 ?_
    refine hw_ic_lt (a := j) (b := N) (tgt := 25) hx hb dText_wordAt_18 (by decide) (by omega) (by omega) (fun cq_3 => ?_) (fun cq_3 => by exfalso; omega)
    refine lv_aload_n hx hb dText_wordAt_25 rfl (lv_at hl 0 rfl) ?_
    refine hw_get hx hb hts (hwInn inText) hown hK hZ g0 rfl 0 (by decide) (hts (.fieldLink RText 9 RText "words" "[J") (hwMem mm_33)) (fun _ h => h) rfl dText_wordAt_26 ?_
    refine lv_iload_n hx hb dText_wordAt_29 rfl (lv_at hl 1 rfl) ?_
    refine hw_lald hx hb hK hZ 1 g1 rfl (j := j) (by omega) (by omega) dText_wordAt_30 ?_
    exact hret hZ ⟨by first | exact hv j (by omega) | (rw [getD_big (by omega)]; rfl), rfl⟩ dText_wordAt_31
set_option maxHeartbeats 4000000 in
set_option maxRecDepth 100000 in
theorem c_Tx_clear (l : Launch) (D : va_G) (K : Nat → ClassId) (X : hwW) (sz : Nat) (a : Nat) (k : Nat) (ws : List (List Nat)) (o : Nat) (f0_ : txAt K X a k ws o) : Met l yText_clear (.code yText_clear cText_clear 1 none :: hwG) ({ frames := 0, cells := 0, slots := 0, locals := 0 } : Room) (hwPc D vwCl (hwT K) [.ref a] X sz) (hwQv D vwCl X sz (fun Y => hwF X Y (fun M => M = 2 * k ∨ M = 2 * k + 1) ∧ txAt K Y a k [] 0)) 0 0 (va_A X.1 sz) := by
  refine hwMetv (cc := cText_clear) (maxL := 1) (by decide) rfl (Nat.le_of_ble_eq_true rfl) (fun p e s m args below meth c ls A Q hx hb hml hown hts hname hret hK hO hZ hA hl => ?_)
  have hl : lv_has ls 1 [(0, .ref a)] := hl
  have hFr : hwF X X (fun M => M = 2 * k ∨ M = 2 * k + 1) := hwF.rf
  obtain ⟨q, N, f, g0, g1, hN, hM, hv, hk⟩ := f0_
  refine lv_aload_n hx hb dText_clear_0 rfl (lv_at hl 0 rfl) ?_
  refine lv_iconst (v := nI 0) hx hb dText_clear_1 (by decide) ?_
  refine hw_put (ty := .int) (fs' := [.ref q, .int (nI 0), .int (nI o)]) hx hb hts (hwInn inText) tyText tyText_ok nmText hown hK hZ g0 rfl 1 (by decide) (hts (.fieldLink RText 15 RText "count" "I") (hwMem mm_34)) (fun _ h => h) rfl (by decide +kernel) rfl rfl (Nat.le_of_ble_eq_true rfl) rfl dText_clear_2 (fun X_1 H_2 lc_3 hZ hF hNw => ?_)
  have hFr := hwF.tr hFr hF (fun _ h => h) (fun M h => by first | exact False.elim h | ((try dsimp only at h ⊢); omega))
  have g0 := hNw
  have g1 := hF _ _ _ (by intro hNS; first | exact False.elim hNS | ((try dsimp only at hNS); omega)) g1
  refine lv_aload_n hx hb dText_clear_5 rfl (lv_at hl 0 rfl) ?_
  refine lv_iconst (v := nI 0) hx hb dText_clear_6 (by decide) ?_
  refine hw_put (ty := .int) (fs' := [.ref q, .int (nI 0), .int (nI 0)]) hx hb hts (hwInn inText) tyText tyText_ok nmText hown hK hZ g0 rfl 2 (by decide) (hts (.fieldLink RText 19 RText "openLetters" "I") (hwMem mm_35)) (fun _ h => h) rfl (by decide +kernel) rfl rfl (Nat.le_of_ble_eq_true rfl) rfl dText_clear_7 (fun X_4 H_5 lc_6 hZ hF hNw => ?_)
  have hFr := hwF.tr hFr hF (fun _ h => h) (fun M h => by first | exact False.elim h | ((try dsimp only at h ⊢); omega))
  have g0 := hNw
  have g1 := hF _ _ _ (by intro hNS; first | exact False.elim hNS | ((try dsimp only at hNS); omega)) g1
  exact hret hZ ⟨hFr, q, N, f, g0, g1, Nat.zero_le _, hM, lvec.nil, okWs.nil⟩ dText_clear_10
set_option maxHeartbeats 4000000 in
set_option maxRecDepth 100000 in
theorem c_Tx_begin (l : Launch) (D : va_G) (K : Nat → ClassId) (X : hwW) (sz : Nat) (a : Nat) (k : Nat) (ws : List (List Nat)) (o : Nat) (f0_ : txAt K X a k ws o) (sl : ws.length ≤ 600) : Met l yText_beginWord (.code yText_beginWord cText_beginWord 1 none :: hwG) ({ frames := 2, cells := 1, slots := 1300, locals := 48 } : Room) (hwPc D vwCl (hwT K) [.ref a] X sz) (hwQv D vwCl X sz (fun Y => hwF X Y (fun M => M = 2 * k ∨ M = 2 * k + 1) ∧ txAt K Y a k (ws ++ [[]]) o)) 1 1300 (va_A X.1 sz) := by
  refine hwMetv (cc := cText_beginWord) (maxL := 1) (by decide) rfl (Nat.le_of_ble_eq_true rfl) (fun p e s m args below meth c ls A Q hx hb hml hown hts hname hret hK hO hZ hA hl => ?_)
  have hl : lv_has ls 1 [(0, .ref a)] := hl
  have hFr : hwF X X (fun M => M = 2 * k ∨ M = 2 * k + 1) := hwF.rf
  obtain ⟨q, N, f, g0, g1, hN, hM, hv, hk⟩ := f0_
  refine lv_aload_n hx hb dText_beginWord_0 rfl (lv_at hl 0 rfl) ?_
  refine hw_get hx hb hts (hwInn inText) hown hK hZ g0 rfl 1 (by decide) (hts (.fieldLink RText 15 RText "count" "I") (hwMem mm_34)) (fun _ h => h) rfl dText_beginWord_1 ?_
  refine lv_aload_n hx hb dText_beginWord_4 rfl (lv_at hl 0 rfl) ?_
  refine hw_get hx hb hts (hwInn inText) hown hK hZ g0 rfl 0 (by decide) (hts (.fieldLink RText 9 RText "words" "[J") (hwMem mm_33)) (fun _ h => h) rfl dText_beginWord_5 ?_
  refine hw_alen hx hb hK hZ 1 g1 rfl dText_beginWord_8 ?_
  refine hw_ic_lt (a := ws.length) (b := N) (tgt := 31) hx hb dText_beginWord_9 (by decide) (by omega) (by omega) (fun cq_1 => ?_) (fun cq_1 => ?_)
  · refine lv_aload_n hx hb dText_beginWord_31 rfl (lv_at hl 0 rfl) ?_
    refine hw_get hx hb hts (hwInn inText) hown hK hZ g0 rfl 0 (by decide) (hts (.fieldLink RText 9 RText "words" "[J") (hwMem mm_33)) (fun _ h => h) rfl dText_beginWord_32 ?_
    refine lv_aload_n hx hb dText_beginWord_35 rfl (lv_at hl 0 rfl) ?_
    refine hw_get hx hb hts (hwInn inText) hown hK hZ g0 rfl 1 (by decide) (hts (.fieldLink RText 15 RText "count" "I") (hwMem mm_34)) (fun _ h => h) rfl dText_beginWord_36 ?_
    refine lv_lconst (v := lN 0) hx hb dText_beginWord_39 rfl ?_
    refine hw_last hx hb hK hZ 1 g1 rfl (j := ws.length) (by omega) (by omega) dText_beginWord_40 (fun X_2 H_3 lc_4 hZ hF hNw => ?_)
    have hFr := hwF.tr hFr hF (fun _ h => h) (fun M h => by first | exact False.elim h | ((try dsimp only at h ⊢); omega))
    have g0 := hF _ _ _ (by intro hNS; first | exact False.elim hNS | ((try dsimp only at hNS); omega)) g0
    have g1 := hNw
    refine lv_aload_n hx hb dText_beginWord_41 rfl (lv_at hl 0 rfl) ?_
    refine lv_dup hx hb dText_beginWord_42 rfl ?_
    refine hw_get hx hb hts (hwInn inText) hown hK hZ g0 rfl 1 (by decide) (hts (.fieldLink RText 15 RText "count" "I") (hwMem mm_34)) (fun _ h => h) rfl dText_beginWord_43 ?_
    refine lv_iconst (v := nI 1) hx hb dText_beginWord_46 (by decide) ?_
    refine lv_iadd hx hb dText_beginWord_47 ?_
    refine hw_topi (nI_add ws.length 1) ?_
    refine hw_put (ty := .int) (fs' := [.ref q, .int (nI (ws.length + 1)), .int (nI o)]) hx hb hts (hwInn inText) tyText tyText_ok nmText hown hK hZ g0 rfl 1 (by decide) (hts (.fieldLink RText 15 RText "count" "I") (hwMem mm_34)) (fun _ h => h) rfl (by decide +kernel) rfl rfl (Nat.le_of_ble_eq_true rfl) rfl dText_beginWord_48 (fun X_5 H_6 lc_7 hZ hF hNw => ?_)
    have hFr := hwF.tr hFr hF (fun _ h => h) (fun M h => by first | exact False.elim h | ((try dsimp only at h ⊢); omega))
    have g0 := hNw
    have g1 := hF _ _ _ (by intro hNS; first | exact False.elim hNS | ((try dsimp only at hNS); omega)) g1
    refine W.widen (k := 1) (n := 1300) (by omega) (by omega) ?_
    exact hret hZ ⟨hFr, q, N, _, by rw [List.length_append]; exact g0, g1, by rw [List.length_append]; show ws.length + 1 ≤ _; omega, by omega, lvec.push (v := []) hv, hk.app (okWs.one okW_nil)⟩ dText_beginWord_51
  · refine lv_aload_n hx hb dText_beginWord_12 rfl (lv_at hl 0 rfl) ?_
    refine lv_aload_n hx hb dText_beginWord_13 rfl (lv_at hl 0 rfl) ?_
    refine hw_get hx hb hts (hwInn inText) hown hK hZ g0 rfl 0 (by decide) (hts (.fieldLink RText 9 RText "words" "[J") (hwMem mm_33)) (fun _ h => h) rfl dText_beginWord_14 ?_
    refine lv_iconst (v := nI 2) hx hb dText_beginWord_17 (by decide) ?_
    refine lv_aload_n hx hb dText_beginWord_18 rfl (lv_at hl 0 rfl) ?_
    refine hw_get hx hb hts (hwInn inText) hown hK hZ g0 rfl 1 (by decide) (hts (.fieldLink RText 15 RText "count" "I") (hwMem mm_34)) (fun _ h => h) rfl dText_beginWord_19 ?_
    refine lv_imul hx hb dText_beginWord_22 ?_
    refine hw_topi (pk_mul 2 ws.length) ?_
    refine lv_iconst (v := nI 4) hx hb dText_beginWord_23 (by decide) ?_
    refine lv_iadd hx hb dText_beginWord_24 ?_
    refine hw_topi (nI_add (2 * ws.length) 4) ?_
    refine hw_callq (va_runS (As := [.ref q, .int (nI (2 * ws.length + 4))]) (rest := [.ref a]) ⟨hx, hb, hml, hown, hts⟩ (c_copyOf l D K X s.heap.size (q := q) (L := 2 * k + 1) (N := N) (f := f) (n := 2 * ws.length + 4) (L1 := 2 * k + 1) g1 (by omega) (by omega)) (va_cwS 2 hts (hwGood (hw_3 mm_38 mm_37 mm_39 (hwAll mm_36))) rfl rfl rfl (by decide +kernel) ⟨Nat.le_of_ble_eq_true rfl, Nat.le_of_ble_eq_true rfl⟩) (hw_preS hK hO hZ) rfl rfl hl.1 rfl (lv_room (Nat.le_of_ble_eq_true rfl)) dText_beginWord_25 ⟨(show 0 + 1 ≤ 1 by omega), (show 0 + (2 * ws.length + 4) ≤ 1300 by omega)⟩) hZ hA (fun r X_8 H_9 lc_10 hp hZ => ?_)
    obtain ⟨qz_11, fz_12, hr, hF, hN_13, xx_14⟩ := hp
    have hFr := hwF.tr hFr hF (fun _ h => h) (fun M h => by first | exact False.elim h | ((try dsimp only at h ⊢); omega))
    have g0 := hF _ _ _ (by intro hNS; first | exact False.elim hNS | ((try dsimp only at hNS); omega)) g0
    have ff_15 := hN_13
    refine hw_top (y := .ref qz_11) (by rw [hr]; rfl) ?_
    refine hw_put (ty := (.array .long)) (fs' := [.ref qz_11, .int (nI ws.length), .int (nI o)]) hx hb hts (hwInn inText) tyText tyText_ok nmText hown hK hZ g0 rfl 0 (by decide) (hts (.fieldLink RText 9 RText "words" "[J") (hwMem mm_33)) (fun _ h => h) rfl (by decide +kernel) rfl rfl (Nat.le_of_ble_eq_true rfl) rfl dText_beginWord_28 (fun X_16 H_17 lc_18 hZ hF hNw => ?_)
    have hFr := hwF.tr hFr hF (fun _ h => h) (fun M h => by first | exact False.elim h | ((try dsimp only at h ⊢); omega))
    have g0 := hNw
    have ff_15 := hF _ _ _ (by intro hNS; first | exact False.elim hNS | ((try dsimp only at hNS); omega)) ff_15
    refine lv_aload_n hx hb dText_beginWord_31 rfl (lv_at hl 0 rfl) ?_
    refine hw_get hx hb hts (hwInn inText) hown hK hZ g0 rfl 0 (by decide) (hts (.fieldLink RText 9 RText "words" "[J") (hwMem mm_33)) (fun _ h => h) rfl dText_beginWord_32 ?_
    refine lv_aload_n hx hb dText_beginWord_35 rfl (lv_at hl 0 rfl) ?_
    refine hw_get hx hb hts (hwInn inText) hown hK hZ g0 rfl 1 (by decide) (hts (.fieldLink RText 15 RText "count" "I") (hwMem mm_34)) (fun _ h => h) rfl dText_beginWord_36 ?_
    refine lv_lconst (v := lN 0) hx hb dText_beginWord_39 rfl ?_
    refine hw_last hx hb hK hZ 1 ff_15 rfl (j := ws.length) (by omega) (by omega) dText_beginWord_40 (fun X_19 H_20 lc_21 hZ hF hNw => ?_)
    have hFr := hwF.tr hFr hF (fun _ h => h) (fun M h => by first | exact False.elim h | ((try dsimp only at h ⊢); omega))
    have g0 := hF _ _ _ (by intro hNS; first | exact False.elim hNS | ((try dsimp only at hNS); omega)) g0
    have ff_15 := hNw
    refine lv_aload_n hx hb dText_beginWord_41 rfl (lv_at hl 0 rfl) ?_
    refine lv_dup hx hb dText_beginWord_42 rfl ?_
    refine hw_get hx hb hts (hwInn inText) hown hK hZ g0 rfl 1 (by decide) (hts (.fieldLink RText 15 RText "count" "I") (hwMem mm_34)) (fun _ h => h) rfl dText_beginWord_43 ?_
    refine lv_iconst (v := nI 1) hx hb dText_beginWord_46 (by decide) ?_
    refine lv_iadd hx hb dText_beginWord_47 ?_
    refine hw_topi (nI_add ws.length 1) ?_
    refine hw_put (ty := .int) (fs' := [.ref qz_11, .int (nI (ws.length + 1)), .int (nI o)]) hx hb hts (hwInn inText) tyText tyText_ok nmText hown hK hZ g0 rfl 1 (by decide) (hts (.fieldLink RText 15 RText "count" "I") (hwMem mm_34)) (fun _ h => h) rfl (by decide +kernel) rfl rfl (Nat.le_of_ble_eq_true rfl) rfl dText_beginWord_48 (fun X_22 H_23 lc_24 hZ hF hNw => ?_)
    have hFr := hwF.tr hFr hF (fun _ h => h) (fun M h => by first | exact False.elim h | ((try dsimp only at h ⊢); omega))
    have g0 := hNw
    have ff_15 := hF _ _ _ (by intro hNS; first | exact False.elim hNS | ((try dsimp only at hNS); omega)) ff_15
    refine W.widen (k := 1) (n := 1300) (by omega) (by omega) ?_
    exact hret hZ ⟨hFr, qz_11, 2 * ws.length + 4, _, by rw [List.length_append]; exact g0, ff_15, by rw [List.length_append]; show ws.length + 1 ≤ _; omega, by omega, lvec.push (v := []) (fun p hp => (xx_14 p (by omega)).trans (hv p hp)), hk.app (okWs.one okW_nil)⟩ dText_beginWord_51
set_option maxHeartbeats 4000000 in
set_option maxRecDepth 100000 in
theorem c_Tx_take (l : Launch) (D : va_G) (K : Nat → ClassId) (X : hwW) (sz : Nat) (a : Nat) (k : Nat) (ws : List (List Nat)) (o : Nat) (c0 : Int32) (f0_ : txAt K X a k ws o) (sl : ws.length ≤ 600) (hG : txG ws o) : Met l yText_take (.code yText_take cText_take 4 none :: hwG) ({ frames := 3, cells := 1, slots := 1300, locals := 68 } : Room) (hwPc D vwCl (hwT K) [.ref a, .int c0] X sz) (hwQv D vwCl X sz (fun Y => hwF X Y (fun M => M = 2 * k ∨ M = 2 * k + 1) ∧ txAt K Y a k (tk (ws, o) (ltr (lo8 c0))).1 (tk (ws, o) (ltr (lo8 c0))).2)) 1 1300 (va_A X.1 sz) := by
  refine hwMetv (cc := cText_take) (maxL := 4) (by decide) rfl (Nat.le_of_ble_eq_true rfl) (fun p e s m args below meth c ls A Q hx hb hml hown hts hname hret hK hO hZ hA hl => ?_)
  have hl : lv_has ls 4 [(0, .ref a), (1, .int c0)] := hl
  have hFr : hwF X X (fun M => M = 2 * k ∨ M = 2 * k + 1) := hwF.rf
  obtain ⟨hG1, hG2⟩ := hG
  have hle := ltr_le (lo8 c0)
  rcases hG2 with rfl | ⟨us, w, rfl, rfl⟩
  · refine lv_iload_n hx hb dText_take_0 rfl (lv_at hl 1 rfl) ?_
    refine lv_sipush (v := nI 255) hx hb dText_take_1 (by decide) ?_
    refine lv_iand hx hb dText_take_4 ?_
    refine hw_topi (hw_lo8 c0) ?_
    have hlo8 := lo8_lt c0
    refine hw_calli (va_runS (As := [.int (nI (lo8 c0))]) (rest := []) ⟨hx, hb, hml, hown, hts⟩ (c_W_letterOf l D K X s.heap.size (c0 := lo8 c0) (by first | omega | exact lo8_lt _ | decide)) (va_cwS 1 hts (hwGood (hw_3 mm_40 mm_11 mm_3 (hwAll mm_10))) rfl rfl rfl (by decide +kernel) ⟨Nat.le_of_ble_eq_true rfl, Nat.le_of_ble_eq_true rfl⟩) (hw_preS hK hO hZ) rfl rfl hl.1 rfl (lv_room (Nat.le_of_ble_eq_true rfl)) dText_take_5 ⟨(show 0 + 0 ≤ 1 by omega), (show 0 + 0 ≤ 1300 by omega)⟩) hZ hA (fun r X_1 H_2 lc_3 hp hZ => ?_)
    obtain ⟨hr, hy, xx_4⟩ := hp
    subst hy
    refine hw_topi hr ?_
    refine lv_istore_n (lv' := [(2, .int (nI (ltr (lo8 c0)))), (0, .ref a), (1, .int c0)]) hx hb dText_take_8 rfl hl (by decide) rfl (fun ls hl => ?_)
    refine lv_iload_n hx hb dText_take_9 rfl (lv_at hl 0 rfl) ?_
    refine hw_if_ne (a := ltr (lo8 c0)) (tgt := 19) hx hb dText_take_10 (by decide) (by omega) (fun cq_5 => ?_) (fun cq_5 => ?_)
    · have hT := f0_
      obtain ⟨q, N, f, g0, g1, hN, hM, hv, hk⟩ := f0_
      refine lv_aload_n hx hb dText_take_19 rfl (lv_at hl 1 rfl) ?_
      refine hw_get hx hb hts (hwInn inText) hown hK hZ g0 rfl 2 (by decide) (hts (.fieldLink RText 19 RText "openLetters" "I") (hwMem mm_35)) (fun _ h => h) rfl dText_take_20 ?_
      refine hw_if_ne (a := 0) (tgt := 30) hx hb dText_take_23 (by decide) (by omega) (fun cq_6 => by exfalso; omega) (fun cq_6 => ?_)
      refine lv_aload_n hx hb dText_take_26 rfl (lv_at hl 1 rfl) ?_
      refine hw_callv (va_runV (As := []) (rest := []) ⟨hx, hb, hml, hown, hts⟩ (c_Tx_begin l D K X H_2.size (a := a) (k := k) (ws := ws) (o := 0) hT (by omega)) (cwV 0 hts (hwGood (hw_4 mm_42 mm_43 mm_44 mm_45 (hwAll mm_41))) rfl rfl rfl (by decide +kernel) ⟨Nat.le_of_ble_eq_true rfl, Nat.le_of_ble_eq_true rfl⟩) (hw_preV hK hO hZ (txAt.ob hT) rfl) rfl rfl hl.1 rfl (lv_room (Nat.le_of_ble_eq_true rfl)) dText_take_27 ⟨(show 0 + 1 ≤ 1 by omega), (show 0 + 1300 ≤ 1300 by omega)⟩) hZ hA (fun X_7 H_8 lc_9 hp hZ => ?_)
      obtain ⟨hF, hN_10⟩ := hp
      have hFr := hwF.tr hFr hF (fun _ h => h) (fun M h => by first | exact False.elim h | ((try dsimp only at h ⊢); omega))
      have ff_11 := hN_10
      obtain ⟨q, N, f, g0, g1, hN, hM, hv, hk⟩ := ff_11
      rw [show ((ws ++ [[]] : List (List Nat))).length = ws.length + 1 by simp] at g0 hN
      have hw := hk.init.2
      have hu := hk.init.1
      refine lv_aload_n hx hb dText_take_30 rfl (lv_at hl 1 rfl) ?_
      refine hw_get hx hb hts (hwInn inText) hown hK hZ g0 rfl 1 (by decide) (hts (.fieldLink RText 15 RText "count" "I") (hwMem mm_34)) (fun _ h => h) rfl dText_take_31 ?_
      refine lv_iconst (v := nI 1) hx hb dText_take_34 (by decide) ?_
      refine lv_isub hx hb dText_take_35 ?_
      refine hw_topi (pk_sub (a := ws.length + 1) (b := 1) (by omega)) ?_
      refine lv_istore_n (lv' := [(3, .int (nI (ws.length + 1 - 1))), (2, .int (nI (ltr (lo8 c0)))), (0, .ref a), (1, .int c0)]) hx hb dText_take_36 rfl hl (by decide) rfl (fun ls hl => ?_)
      refine lv_aload_n hx hb dText_take_37 rfl (lv_at hl 2 rfl) ?_
      refine hw_get hx hb hts (hwInn inText) hown hK hZ g0 rfl 2 (by decide) (hts (.fieldLink RText 19 RText "openLetters" "I") (hwMem mm_35)) (fun _ h => h) rfl dText_take_38 ?_
      refine lv_bipush (v := nI 12) hx hb dText_take_41 (by decide) ?_
      refine hw_ic_ge (a := 0) (b := 12) (tgt := 89) hx hb dText_take_43 (by decide) (by omega) (by omega) (fun cq_12 => by exfalso; omega) (fun cq_12 => ?_)
      refine lv_iload_n hx hb dText_take_46 rfl (lv_at hl 0 rfl) ?_
      refine hw_if_lt (a := ws.length + 1 - 1) (tgt := 89) hx hb dText_take_47 (by decide) (by omega) (fun cq_13 => by exfalso; omega) (fun cq_13 => ?_)
      refine lv_iload_n hx hb dText_take_50 rfl (lv_at hl 0 rfl) ?_
      refine lv_aload_n hx hb dText_take_51 rfl (lv_at hl 2 rfl) ?_
      refine hw_get hx hb hts (hwInn inText) hown hK hZ g0 rfl 0 (by decide) (hts (.fieldLink RText 9 RText "words" "[J") (hwMem mm_33)) (fun _ h => h) rfl dText_take_52 ?_
      refine hw_alen hx hb hK hZ 1 g1 rfl dText_take_55 ?_
      refine hw_ic_ge (a := ws.length + 1 - 1) (b := N) (tgt := 89) hx hb dText_take_56 (by decide) (by omega) (by omega) (fun cq_14 => by exfalso; omega) (fun cq_14 => ?_)
      refine lv_aload_n hx hb dText_take_59 rfl (lv_at hl 2 rfl) ?_
      refine hw_get hx hb hts (hwInn inText) hown hK hZ g0 rfl 0 (by decide) (hts (.fieldLink RText 9 RText "words" "[J") (hwMem mm_33)) (fun _ h => h) rfl dText_take_60 ?_
      refine lv_iload_n hx hb dText_take_63 rfl (lv_at hl 0 rfl) ?_
      refine lv_aload_n hx hb dText_take_64 rfl (lv_at hl 2 rfl) ?_
      refine hw_get hx hb hts (hwInn inText) hown hK hZ g0 rfl 0 (by decide) (hts (.fieldLink RText 9 RText "words" "[J") (hwMem mm_33)) (fun _ h => h) rfl dText_take_65 ?_
      refine lv_iload_n hx hb dText_take_68 rfl (lv_at hl 0 rfl) ?_
      refine hw_lald hx hb hK hZ 1 g1 rfl (j := ws.length + 1 - 1) (by omega) (by omega) dText_take_69 ?_
      refine hw_topl hv.last ?_
      refine lv_aload_n hx hb dText_take_70 rfl (lv_at hl 2 rfl) ?_
      refine hw_get hx hb hts (hwInn inText) hown hK hZ g0 rfl 2 (by decide) (hts (.fieldLink RText 19 RText "openLetters" "I") (hwMem mm_35)) (fun _ h => h) rfl dText_take_71 ?_
      refine lv_iload_n hx hb dText_take_74 rfl (lv_at hl 1 rfl) ?_
      refine hw_calll (va_runS (As := [.long (lN (eW ([]))), .int (nI 0), .int (nI (ltr (lo8 c0)))]) (rest := [.int (nI (ws.length + 1 - 1)), .ref q]) ⟨hx, hb, hml, hown, hts⟩ (c_W_with l D K X_7 H_8.size (w := ([])) (x := ltr (lo8 c0)) (by assumption) (by omega) (by omega)) (va_cwS 3 hts (hwGood (hw_3 mm_48 mm_47 mm_3 (hwAll mm_46))) rfl rfl rfl (by decide +kernel) ⟨Nat.le_of_ble_eq_true rfl, Nat.le_of_ble_eq_true rfl⟩) (hw_preS hK hO hZ) rfl rfl hl.1 rfl (lv_room (Nat.le_of_ble_eq_true rfl)) dText_take_75 ⟨(show 1 + 0 ≤ 1 by omega), (show (0 + 1300) + 0 ≤ 1300 by omega)⟩) hZ hA (fun r X_15 H_16 lc_17 hp hZ => ?_)
      obtain ⟨hr, hy⟩ := hp
      subst hy
      refine hw_topl hr ?_
      refine hw_last hx hb hK hZ 1 g1 rfl (j := ws.length + 1 - 1) (by omega) (by omega) dText_take_78 (fun X_18 H_19 lc_20 hZ hF hNw => ?_)
      have hFr := hwF.tr hFr hF (fun _ h => h) (fun M h => by first | exact False.elim h | ((try dsimp only at h ⊢); omega))
      have g0 := hF _ _ _ (by intro hNS; first | exact False.elim hNS | ((try dsimp only at hNS); omega)) g0
      have g1 := hNw
      refine lv_aload_n hx hb dText_take_79 rfl (lv_at hl 2 rfl) ?_
      refine lv_dup hx hb dText_take_80 rfl ?_
      refine hw_get hx hb hts (hwInn inText) hown hK hZ g0 rfl 2 (by decide) (hts (.fieldLink RText 19 RText "openLetters" "I") (hwMem mm_35)) (fun _ h => h) rfl dText_take_81 ?_
      refine lv_iconst (v := nI 1) hx hb dText_take_84 (by decide) ?_
      refine lv_iadd hx hb dText_take_85 ?_
      refine hw_topi (nI_add 0 1) ?_
      refine hw_put (ty := .int) (fs' := [.ref q, .int (nI (ws.length + 1)), .int (nI (0 + 1))]) hx hb hts (hwInn inText) tyText tyText_ok nmText hown hK hZ g0 rfl 2 (by decide) (hts (.fieldLink RText 19 RText "openLetters" "I") (hwMem mm_35)) (fun _ h => h) rfl (by decide +kernel) rfl rfl (Nat.le_of_ble_eq_true rfl) rfl dText_take_86 (fun X_21 H_22 lc_23 hZ hF hNw => ?_)
      have hFr := hwF.tr hFr hF (fun _ h => h) (fun M h => by first | exact False.elim h | ((try dsimp only at h ⊢); omega))
      have g0 := hNw
      have g1 := hF _ _ _ (by intro hNS; first | exact False.elim hNS | ((try dsimp only at hNS); omega)) g1
      refine W.widen (k := 1) (n := 1300) (by omega) (by omega) ?_
      exact hret hZ (by rw [tk_A _ cq_5]; exact ⟨hFr, q, N, _, by rw [List.length_append]; exact g0, g1, by rw [List.length_append]; exact hN, hM, hv.setLast (v := [ltr (lo8 c0)]), hu.app (okWs.one ⟨Nat.le_of_ble_eq_true rfl, hw_one cq_5 hle⟩)⟩) dText_take_89
    · obtain ⟨q, N, f, g0, g1, hN, hM, hv, hk⟩ := f0_
      refine lv_aload_n hx hb dText_take_13 rfl (lv_at hl 1 rfl) ?_
      refine lv_iconst (v := nI 0) hx hb dText_take_14 (by decide) ?_
      refine hw_put (ty := .int) (fs' := [.ref q, .int (nI ws.length), .int (nI 0)]) hx hb hts (hwInn inText) tyText tyText_ok nmText hown hK hZ g0 rfl 2 (by decide) (hts (.fieldLink RText 19 RText "openLetters" "I") (hwMem mm_35)) (fun _ h => h) rfl (by decide +kernel) rfl rfl (Nat.le_of_ble_eq_true rfl) rfl dText_take_15 (fun X_24 H_25 lc_26 hZ hF hNw => ?_)
      have hFr := hwF.tr hFr hF (fun _ h => h) (fun M h => by first | exact False.elim h | ((try dsimp only at h ⊢); omega))
      have g0 := hNw
      have g1 := hF _ _ _ (by intro hNS; first | exact False.elim hNS | ((try dsimp only at hNS); omega)) g1
      refine W.widen (k := 1) (n := 1300) (by omega) (by omega) ?_
      exact hret hZ (by rw [tk_0 _ _ cq_5]; exact ⟨hFr, q, N, f, g0, g1, hN, hM, hv, hk⟩) dText_take_18
  · have hwl := hG1 w (by simp)
    rw [List.length_append] at sl; simp only [List.length_singleton] at sl
    obtain ⟨q, N, f, g0, g1, hN, hM, hv, hk⟩ := f0_
    rw [show ((us ++ [w] : List (List Nat))).length = us.length + 1 by simp] at g0 hN
    have hw := hk.init.2
    have hu := hk.init.1
    have hw12 := hw.1
    refine lv_iload_n hx hb dText_take_0 rfl (lv_at hl 1 rfl) ?_
    refine lv_sipush (v := nI 255) hx hb dText_take_1 (by decide) ?_
    refine lv_iand hx hb dText_take_4 ?_
    refine hw_topi (hw_lo8 c0) ?_
    have hlo8 := lo8_lt c0
    refine hw_calli (va_runS (As := [.int (nI (lo8 c0))]) (rest := []) ⟨hx, hb, hml, hown, hts⟩ (c_W_letterOf l D K X s.heap.size (c0 := lo8 c0) (by first | omega | exact lo8_lt _ | decide)) (va_cwS 1 hts (hwGood (hw_3 mm_40 mm_11 mm_3 (hwAll mm_10))) rfl rfl rfl (by decide +kernel) ⟨Nat.le_of_ble_eq_true rfl, Nat.le_of_ble_eq_true rfl⟩) (hw_preS hK hO hZ) rfl rfl hl.1 rfl (lv_room (Nat.le_of_ble_eq_true rfl)) dText_take_5 ⟨(show 0 + 0 ≤ 1 by omega), (show 0 + 0 ≤ 1300 by omega)⟩) hZ hA (fun r X_27 H_28 lc_29 hp hZ => ?_)
    obtain ⟨hr, hy, xx_30⟩ := hp
    subst hy
    refine hw_topi hr ?_
    refine lv_istore_n (lv' := [(2, .int (nI (ltr (lo8 c0)))), (0, .ref a), (1, .int c0)]) hx hb dText_take_8 rfl hl (by decide) rfl (fun ls hl => ?_)
    refine lv_iload_n hx hb dText_take_9 rfl (lv_at hl 0 rfl) ?_
    refine hw_if_ne (a := ltr (lo8 c0)) (tgt := 19) hx hb dText_take_10 (by decide) (by omega) (fun cq_31 => ?_) (fun cq_31 => ?_)
    · refine lv_aload_n hx hb dText_take_19 rfl (lv_at hl 1 rfl) ?_
      refine hw_get hx hb hts (hwInn inText) hown hK hZ g0 rfl 2 (by decide) (hts (.fieldLink RText 19 RText "openLetters" "I") (hwMem mm_35)) (fun _ h => h) rfl dText_take_20 ?_
      refine hw_if_ne (a := w.length) (tgt := 30) hx hb dText_take_23 (by decide) (by omega) (fun cq_32 => ?_) (fun cq_32 => by exfalso; omega)
      refine lv_aload_n hx hb dText_take_30 rfl (lv_at hl 1 rfl) ?_
      refine hw_get hx hb hts (hwInn inText) hown hK hZ g0 rfl 1 (by decide) (hts (.fieldLink RText 15 RText "count" "I") (hwMem mm_34)) (fun _ h => h) rfl dText_take_31 ?_
      refine lv_iconst (v := nI 1) hx hb dText_take_34 (by decide) ?_
      refine lv_isub hx hb dText_take_35 ?_
      refine hw_topi (pk_sub (a := us.length + 1) (b := 1) (by omega)) ?_
      refine lv_istore_n (lv' := [(3, .int (nI (us.length + 1 - 1))), (2, .int (nI (ltr (lo8 c0)))), (0, .ref a), (1, .int c0)]) hx hb dText_take_36 rfl hl (by decide) rfl (fun ls hl => ?_)
      refine lv_aload_n hx hb dText_take_37 rfl (lv_at hl 2 rfl) ?_
      refine hw_get hx hb hts (hwInn inText) hown hK hZ g0 rfl 2 (by decide) (hts (.fieldLink RText 19 RText "openLetters" "I") (hwMem mm_35)) (fun _ h => h) rfl dText_take_38 ?_
      refine lv_bipush (v := nI 12) hx hb dText_take_41 (by decide) ?_
      refine hw_ic_ge (a := w.length) (b := 12) (tgt := 89) hx hb dText_take_43 (by decide) (by omega) (by omega) (fun cq_33 => ?_) (fun cq_33 => ?_)
      · refine W.widen (k := 1) (n := 1300) (by omega) (by omega) ?_
        exact hret hZ (by rw [tk_C _ _ cq_31 (by omega)]; exact ⟨hFr, q, N, f, by rw [List.length_append]; exact g0, g1, by rw [List.length_append]; exact hN, hM, hv, hk⟩) dText_take_89
      · refine lv_iload_n hx hb dText_take_46 rfl (lv_at hl 0 rfl) ?_
        refine hw_if_lt (a := us.length + 1 - 1) (tgt := 89) hx hb dText_take_47 (by decide) (by omega) (fun cq_34 => by exfalso; omega) (fun cq_34 => ?_)
        refine lv_iload_n hx hb dText_take_50 rfl (lv_at hl 0 rfl) ?_
        refine lv_aload_n hx hb dText_take_51 rfl (lv_at hl 2 rfl) ?_
        refine hw_get hx hb hts (hwInn inText) hown hK hZ g0 rfl 0 (by decide) (hts (.fieldLink RText 9 RText "words" "[J") (hwMem mm_33)) (fun _ h => h) rfl dText_take_52 ?_
        refine hw_alen hx hb hK hZ 1 g1 rfl dText_take_55 ?_
        refine hw_ic_ge (a := us.length + 1 - 1) (b := N) (tgt := 89) hx hb dText_take_56 (by decide) (by omega) (by omega) (fun cq_35 => by exfalso; omega) (fun cq_35 => ?_)
        refine lv_aload_n hx hb dText_take_59 rfl (lv_at hl 2 rfl) ?_
        refine hw_get hx hb hts (hwInn inText) hown hK hZ g0 rfl 0 (by decide) (hts (.fieldLink RText 9 RText "words" "[J") (hwMem mm_33)) (fun _ h => h) rfl dText_take_60 ?_
        refine lv_iload_n hx hb dText_take_63 rfl (lv_at hl 0 rfl) ?_
        refine lv_aload_n hx hb dText_take_64 rfl (lv_at hl 2 rfl) ?_
        refine hw_get hx hb hts (hwInn inText) hown hK hZ g0 rfl 0 (by decide) (hts (.fieldLink RText 9 RText "words" "[J") (hwMem mm_33)) (fun _ h => h) rfl dText_take_65 ?_
        refine lv_iload_n hx hb dText_take_68 rfl (lv_at hl 0 rfl) ?_
        refine hw_lald hx hb hK hZ 1 g1 rfl (j := us.length + 1 - 1) (by omega) (by omega) dText_take_69 ?_
        refine hw_topl hv.last ?_
        refine lv_aload_n hx hb dText_take_70 rfl (lv_at hl 2 rfl) ?_
        refine hw_get hx hb hts (hwInn inText) hown hK hZ g0 rfl 2 (by decide) (hts (.fieldLink RText 19 RText "openLetters" "I") (hwMem mm_35)) (fun _ h => h) rfl dText_take_71 ?_
        refine lv_iload_n hx hb dText_take_74 rfl (lv_at hl 1 rfl) ?_
        refine hw_calll (va_runS (As := [.long (lN (eW w)), .int (nI w.length), .int (nI (ltr (lo8 c0)))]) (rest := [.int (nI (us.length + 1 - 1)), .ref q]) ⟨hx, hb, hml, hown, hts⟩ (c_W_with l D K X H_28.size (w := w) (x := ltr (lo8 c0)) (by assumption) (by omega) (by omega)) (va_cwS 3 hts (hwGood (hw_3 mm_48 mm_47 mm_3 (hwAll mm_46))) rfl rfl rfl (by decide +kernel) ⟨Nat.le_of_ble_eq_true rfl, Nat.le_of_ble_eq_true rfl⟩) (hw_preS hK hO hZ) rfl rfl hl.1 rfl (lv_room (Nat.le_of_ble_eq_true rfl)) dText_take_75 ⟨(show 0 + 0 ≤ 1 by omega), (show 0 + 0 ≤ 1300 by omega)⟩) hZ hA (fun r X_36 H_37 lc_38 hp hZ => ?_)
        obtain ⟨hr, hy⟩ := hp
        subst hy
        refine hw_topl hr ?_
        refine hw_last hx hb hK hZ 1 g1 rfl (j := us.length + 1 - 1) (by omega) (by omega) dText_take_78 (fun X_39 H_40 lc_41 hZ hF hNw => ?_)
        have hFr := hwF.tr hFr hF (fun _ h => h) (fun M h => by first | exact False.elim h | ((try dsimp only at h ⊢); omega))
        have g0 := hF _ _ _ (by intro hNS; first | exact False.elim hNS | ((try dsimp only at hNS); omega)) g0
        have g1 := hNw
        refine lv_aload_n hx hb dText_take_79 rfl (lv_at hl 2 rfl) ?_
        refine lv_dup hx hb dText_take_80 rfl ?_
        refine hw_get hx hb hts (hwInn inText) hown hK hZ g0 rfl 2 (by decide) (hts (.fieldLink RText 19 RText "openLetters" "I") (hwMem mm_35)) (fun _ h => h) rfl dText_take_81 ?_
        refine lv_iconst (v := nI 1) hx hb dText_take_84 (by decide) ?_
        refine lv_iadd hx hb dText_take_85 ?_
        refine hw_topi (nI_add w.length 1) ?_
        refine hw_put (ty := .int) (fs' := [.ref q, .int (nI (us.length + 1)), .int (nI (w.length + 1))]) hx hb hts (hwInn inText) tyText tyText_ok nmText hown hK hZ g0 rfl 2 (by decide) (hts (.fieldLink RText 19 RText "openLetters" "I") (hwMem mm_35)) (fun _ h => h) rfl (by decide +kernel) rfl rfl (Nat.le_of_ble_eq_true rfl) rfl dText_take_86 (fun X_42 H_43 lc_44 hZ hF hNw => ?_)
        have hFr := hwF.tr hFr hF (fun _ h => h) (fun M h => by first | exact False.elim h | ((try dsimp only at h ⊢); omega))
        have g0 := hNw
        have g1 := hF _ _ _ (by intro hNS; first | exact False.elim hNS | ((try dsimp only at hNS); omega)) g1
        refine W.widen (k := 1) (n := 1300) (by omega) (by omega) ?_
        exact hret hZ (by rw [tk_B _ _ cq_31 (by omega) (by omega)]; exact ⟨hFr, q, N, _, by rw [List.length_append]; exact g0, g1, by rw [List.length_append]; exact hN, hM, hv.setLast (v := w ++ [ltr (lo8 c0)]), hu.app (okWs.one (hw_app hw cq_31 hle (by omega)))⟩) dText_take_89
    · refine lv_aload_n hx hb dText_take_13 rfl (lv_at hl 1 rfl) ?_
      refine lv_iconst (v := nI 0) hx hb dText_take_14 (by decide) ?_
      refine hw_put (ty := .int) (fs' := [.ref q, .int (nI (us.length + 1)), .int (nI 0)]) hx hb hts (hwInn inText) tyText tyText_ok nmText hown hK hZ g0 rfl 2 (by decide) (hts (.fieldLink RText 19 RText "openLetters" "I") (hwMem mm_35)) (fun _ h => h) rfl (by decide +kernel) rfl rfl (Nat.le_of_ble_eq_true rfl) rfl dText_take_15 (fun X_45 H_46 lc_47 hZ hF hNw => ?_)
      have hFr := hwF.tr hFr hF (fun _ h => h) (fun M h => by first | exact False.elim h | ((try dsimp only at h ⊢); omega))
      have g0 := hNw
      have g1 := hF _ _ _ (by intro hNS; first | exact False.elim hNS | ((try dsimp only at hNS); omega)) g1
      refine W.widen (k := 1) (n := 1300) (by omega) (by omega) ?_
      exact hret hZ (by rw [tk_0 _ _ cq_31]; exact ⟨hFr, q, N, f, by rw [List.length_append]; exact g0, g1, by rw [List.length_append]; exact hN, hM, hv, hk⟩) dText_take_18
end
section
theorem dWordSet_init_0 : decode cWordSet_init 0 = .ok (.aload_n 0, 1) := by decide +kernel
theorem dWordSet_init_1 : decode cWordSet_init 1 = .ok (.invokespecial 1, 3) := by decide +kernel
theorem dWordSet_init_4 : decode cWordSet_init 4 = .ok (.aload_n 0, 1) := by decide +kernel
theorem dWordSet_init_5 : decode cWordSet_init 5 = .ok (.iload_n 1, 1) := by decide +kernel
theorem dWordSet_init_6 : decode cWordSet_init 6 = .ok (.iconst 0, 1) := by decide +kernel
theorem dWordSet_init_7 : decode cWordSet_init 7 = .ok (.invokestatic 7, 3) := by decide +kernel
theorem dWordSet_init_10 : decode cWordSet_init 10 = .ok (.newarray .long, 2) := by decide +kernel
theorem dWordSet_init_12 : decode cWordSet_init 12 = .ok (.putfield 13, 3) := by decide +kernel
theorem dWordSet_init_15 : decode cWordSet_init 15 = .ok (.return_, 1) := by decide +kernel
theorem dWordSet_size_0 : decode cWordSet_size 0 = .ok (.aload_n 0, 1) := by decide +kernel
theorem dWordSet_size_1 : decode cWordSet_size 1 = .ok (.getfield 19, 3) := by decide +kernel
theorem dWordSet_size_4 : decode cWordSet_size 4 = .ok (.ireturn, 1) := by decide +kernel
theorem dWordSet_at_0 : decode cWordSet_at 0 = .ok (.iload_n 1, 1) := by decide +kernel
theorem dWordSet_at_1 : decode cWordSet_at 1 = .ok (.ifCond .lt 20, 3) := by decide +kernel
theorem dWordSet_at_4 : decode cWordSet_at 4 = .ok (.iload_n 1, 1) := by decide +kernel
theorem dWordSet_at_5 : decode cWordSet_at 5 = .ok (.aload_n 0, 1) := by decide +kernel
theorem dWordSet_at_6 : decode cWordSet_at 6 = .ok (.getfield 19, 3) := by decide +kernel
theorem dWordSet_at_9 : decode cWordSet_at 9 = .ok (.if_icmp .ge 12, 3) := by decide +kernel
theorem dWordSet_at_12 : decode cWordSet_at 12 = .ok (.iload_n 1, 1) := by decide +kernel
theorem dWordSet_at_13 : decode cWordSet_at 13 = .ok (.aload_n 0, 1) := by decide +kernel
theorem dWordSet_at_14 : decode cWordSet_at 14 = .ok (.getfield 13, 3) := by decide +kernel
theorem dWordSet_at_17 : decode cWordSet_at 17 = .ok (.arraylength, 1) := by decide +kernel
theorem dWordSet_at_18 : decode cWordSet_at 18 = .ok (.if_icmp .lt 7, 3) := by decide +kernel
theorem dWordSet_at_21 : decode cWordSet_at 21 = .ok (.lconst 0, 1) := by decide +kernel
theorem dWordSet_at_22 : decode cWordSet_at 22 = .ok (.goto 9, 3) := by decide +kernel
theorem dWordSet_at_25 : decode cWordSet_at 25 = .ok (.aload_n 0, 1) := by decide +kernel
theorem dWordSet_at_26 : decode cWordSet_at 26 = .ok (.getfield 13, 3) := by decide +kernel
theorem dWordSet_at_29 : decode cWordSet_at 29 = .ok (.iload_n 1, 1) := by decide +kernel
theorem dWordSet_at_30 : decode cWordSet_at 30 = .ok (.laload, 1) := by decide +kernel
theorem dWordSet_at_31 : decode cWordSet_at 31 = .ok (.lreturn, 1) := by decide +kernel
theorem dWordSet_clear_0 : decode cWordSet_clear 0 = .ok (.aload_n 0, 1) := by decide +kernel
theorem dWordSet_clear_1 : decode cWordSet_clear 1 = .ok (.iconst 0, 1) := by decide +kernel
theorem dWordSet_clear_2 : decode cWordSet_clear 2 = .ok (.putfield 19, 3) := by decide +kernel
theorem dWordSet_clear_5 : decode cWordSet_clear 5 = .ok (.return_, 1) := by decide +kernel
theorem dTerms_init_0 : decode cTerms_init 0 = .ok (.aload_n 0, 1) := by decide +kernel
theorem dTerms_init_1 : decode cTerms_init 1 = .ok (.invokespecial 1, 3) := by decide +kernel
theorem dTerms_init_4 : decode cTerms_init 4 = .ok (.aload_n 0, 1) := by decide +kernel
theorem dTerms_init_5 : decode cTerms_init 5 = .ok (.iload_n 1, 1) := by decide +kernel
theorem dTerms_init_6 : decode cTerms_init 6 = .ok (.iconst 0, 1) := by decide +kernel
theorem dTerms_init_7 : decode cTerms_init 7 = .ok (.invokestatic 7, 3) := by decide +kernel
theorem dTerms_init_10 : decode cTerms_init 10 = .ok (.newarray .long, 2) := by decide +kernel
theorem dTerms_init_12 : decode cTerms_init 12 = .ok (.putfield 13, 3) := by decide +kernel
theorem dTerms_init_15 : decode cTerms_init 15 = .ok (.return_, 1) := by decide +kernel
theorem dTerms_size_0 : decode cTerms_size 0 = .ok (.aload_n 0, 1) := by decide +kernel
theorem dTerms_size_1 : decode cTerms_size 1 = .ok (.getfield 19, 3) := by decide +kernel
theorem dTerms_size_4 : decode cTerms_size 4 = .ok (.ireturn, 1) := by decide +kernel
theorem dTerms_at_0 : decode cTerms_at 0 = .ok (.iload_n 1, 1) := by decide +kernel
theorem dTerms_at_1 : decode cTerms_at 1 = .ok (.ifCond .lt 20, 3) := by decide +kernel
theorem dTerms_at_4 : decode cTerms_at 4 = .ok (.iload_n 1, 1) := by decide +kernel
theorem dTerms_at_5 : decode cTerms_at 5 = .ok (.aload_n 0, 1) := by decide +kernel
theorem dTerms_at_6 : decode cTerms_at 6 = .ok (.getfield 19, 3) := by decide +kernel
theorem dTerms_at_9 : decode cTerms_at 9 = .ok (.if_icmp .ge 12, 3) := by decide +kernel
theorem dTerms_at_12 : decode cTerms_at 12 = .ok (.iload_n 1, 1) := by decide +kernel
theorem dTerms_at_13 : decode cTerms_at 13 = .ok (.aload_n 0, 1) := by decide +kernel
theorem dTerms_at_14 : decode cTerms_at 14 = .ok (.getfield 13, 3) := by decide +kernel
theorem dTerms_at_17 : decode cTerms_at 17 = .ok (.arraylength, 1) := by decide +kernel
theorem dTerms_at_18 : decode cTerms_at 18 = .ok (.if_icmp .lt 7, 3) := by decide +kernel
theorem dTerms_at_21 : decode cTerms_at 21 = .ok (.lconst 0, 1) := by decide +kernel
theorem dTerms_at_22 : decode cTerms_at 22 = .ok (.goto 9, 3) := by decide +kernel
theorem dTerms_at_25 : decode cTerms_at 25 = .ok (.aload_n 0, 1) := by decide +kernel
theorem dTerms_at_26 : decode cTerms_at 26 = .ok (.getfield 13, 3) := by decide +kernel
theorem dTerms_at_29 : decode cTerms_at 29 = .ok (.iload_n 1, 1) := by decide +kernel
theorem dTerms_at_30 : decode cTerms_at 30 = .ok (.laload, 1) := by decide +kernel
theorem dTerms_at_31 : decode cTerms_at 31 = .ok (.lreturn, 1) := by decide +kernel
theorem dTerms_clear_0 : decode cTerms_clear 0 = .ok (.aload_n 0, 1) := by decide +kernel
theorem dTerms_clear_1 : decode cTerms_clear 1 = .ok (.iconst 0, 1) := by decide +kernel
theorem dTerms_clear_2 : decode cTerms_clear 2 = .ok (.putfield 19, 3) := by decide +kernel
theorem dTerms_clear_5 : decode cTerms_clear 5 = .ok (.return_, 1) := by decide +kernel
theorem dWordSet_placeOf_0 : decode cWordSet_placeOf 0 = .ok (.iconst 0, 1) := by decide +kernel
theorem dWordSet_placeOf_1 : decode cWordSet_placeOf 1 = .ok (.istore_n 3, 1) := by decide +kernel
theorem dWordSet_placeOf_2 : decode cWordSet_placeOf 2 = .ok (.aload_n 0, 1) := by decide +kernel
theorem dWordSet_placeOf_3 : decode cWordSet_placeOf 3 = .ok (.getfield 19, 3) := by decide +kernel
theorem dWordSet_placeOf_6 : decode cWordSet_placeOf 6 = .ok (.istore 4, 2) := by decide +kernel
theorem dWordSet_placeOf_8 : decode cWordSet_placeOf 8 = .ok (.iconst 0, 1) := by decide +kernel
theorem dWordSet_placeOf_9 : decode cWordSet_placeOf 9 = .ok (.istore 5, 2) := by decide +kernel
theorem dWordSet_placeOf_11 : decode cWordSet_placeOf 11 = .ok (.iload 5, 2) := by decide +kernel
theorem dWordSet_placeOf_13 : decode cWordSet_placeOf 13 = .ok (.bipush 32, 2) := by decide +kernel
theorem dWordSet_placeOf_15 : decode cWordSet_placeOf 15 = .ok (.if_icmp .ge 46, 3) := by decide +kernel
theorem dWordSet_placeOf_18 : decode cWordSet_placeOf 18 = .ok (.iload_n 3, 1) := by decide +kernel
theorem dWordSet_placeOf_19 : decode cWordSet_placeOf 19 = .ok (.iload 4, 2) := by decide +kernel
theorem dWordSet_placeOf_21 : decode cWordSet_placeOf 21 = .ok (.if_icmp .ge 40, 3) := by decide +kernel
theorem dWordSet_placeOf_24 : decode cWordSet_placeOf 24 = .ok (.iload_n 3, 1) := by decide +kernel
theorem dWordSet_placeOf_25 : decode cWordSet_placeOf 25 = .ok (.iload 4, 2) := by decide +kernel
theorem dWordSet_placeOf_27 : decode cWordSet_placeOf 27 = .ok (.iadd, 1) := by decide +kernel
theorem dWordSet_placeOf_28 : decode cWordSet_placeOf 28 = .ok (.iconst 1, 1) := by decide +kernel
theorem dWordSet_placeOf_29 : decode cWordSet_placeOf 29 = .ok (.iushr, 1) := by decide +kernel
theorem dWordSet_placeOf_30 : decode cWordSet_placeOf 30 = .ok (.istore 6, 2) := by decide +kernel
theorem dWordSet_placeOf_32 : decode cWordSet_placeOf 32 = .ok (.aload_n 0, 1) := by decide +kernel
theorem dWordSet_placeOf_33 : decode cWordSet_placeOf 33 = .ok (.iload 6, 2) := by decide +kernel
theorem dWordSet_placeOf_35 : decode cWordSet_placeOf 35 = .ok (.invokevirtual 27, 3) := by decide +kernel
theorem dWordSet_placeOf_38 : decode cWordSet_placeOf 38 = .ok (.lload_n 1, 1) := by decide +kernel
theorem dWordSet_placeOf_39 : decode cWordSet_placeOf 39 = .ok (.lcmp, 1) := by decide +kernel
theorem dWordSet_placeOf_40 : decode cWordSet_placeOf 40 = .ok (.ifCond .ge 11, 3) := by decide +kernel
theorem dWordSet_placeOf_43 : decode cWordSet_placeOf 43 = .ok (.iload 6, 2) := by decide +kernel
theorem dWordSet_placeOf_45 : decode cWordSet_placeOf 45 = .ok (.iconst 1, 1) := by decide +kernel
theorem dWordSet_placeOf_46 : decode cWordSet_placeOf 46 = .ok (.iadd, 1) := by decide +kernel
theorem dWordSet_placeOf_47 : decode cWordSet_placeOf 47 = .ok (.istore_n 3, 1) := by decide +kernel
theorem dWordSet_placeOf_48 : decode cWordSet_placeOf 48 = .ok (.goto 7, 3) := by decide +kernel
theorem dWordSet_placeOf_51 : decode cWordSet_placeOf 51 = .ok (.iload 6, 2) := by decide +kernel
theorem dWordSet_placeOf_53 : decode cWordSet_placeOf 53 = .ok (.istore 4, 2) := by decide +kernel
theorem dWordSet_placeOf_55 : decode cWordSet_placeOf 55 = .ok (.iinc 5 1, 3) := by decide +kernel
theorem dWordSet_placeOf_58 : decode cWordSet_placeOf 58 = .ok (.goto (-47), 3) := by decide +kernel
theorem dWordSet_placeOf_61 : decode cWordSet_placeOf 61 = .ok (.iload_n 3, 1) := by decide +kernel
theorem dWordSet_placeOf_62 : decode cWordSet_placeOf 62 = .ok (.ireturn, 1) := by decide +kernel
theorem dWordSet_has_0 : decode cWordSet_has 0 = .ok (.aload_n 0, 1) := by decide +kernel
theorem dWordSet_has_1 : decode cWordSet_has 1 = .ok (.lload_n 1, 1) := by decide +kernel
theorem dWordSet_has_2 : decode cWordSet_has 2 = .ok (.invokevirtual 23, 3) := by decide +kernel
theorem dWordSet_has_5 : decode cWordSet_has 5 = .ok (.istore_n 3, 1) := by decide +kernel
theorem dWordSet_has_6 : decode cWordSet_has 6 = .ok (.iload_n 3, 1) := by decide +kernel
theorem dWordSet_has_7 : decode cWordSet_has 7 = .ok (.aload_n 0, 1) := by decide +kernel
theorem dWordSet_has_8 : decode cWordSet_has 8 = .ok (.getfield 19, 3) := by decide +kernel
theorem dWordSet_has_11 : decode cWordSet_has 11 = .ok (.if_icmp .ge 17, 3) := by decide +kernel
theorem dWordSet_has_14 : decode cWordSet_has 14 = .ok (.aload_n 0, 1) := by decide +kernel
theorem dWordSet_has_15 : decode cWordSet_has 15 = .ok (.iload_n 3, 1) := by decide +kernel
theorem dWordSet_has_16 : decode cWordSet_has 16 = .ok (.invokevirtual 27, 3) := by decide +kernel
theorem dWordSet_has_19 : decode cWordSet_has 19 = .ok (.lload_n 1, 1) := by decide +kernel
theorem dWordSet_has_20 : decode cWordSet_has 20 = .ok (.lcmp, 1) := by decide +kernel
theorem dWordSet_has_21 : decode cWordSet_has 21 = .ok (.ifCond .ne 7, 3) := by decide +kernel
theorem dWordSet_has_24 : decode cWordSet_has 24 = .ok (.iconst 1, 1) := by decide +kernel
theorem dWordSet_has_25 : decode cWordSet_has 25 = .ok (.goto 4, 3) := by decide +kernel
theorem dWordSet_has_28 : decode cWordSet_has 28 = .ok (.iconst 0, 1) := by decide +kernel
theorem dWordSet_has_29 : decode cWordSet_has 29 = .ok (.ireturn, 1) := by decide +kernel
theorem dWordSet_add_0 : decode cWordSet_add 0 = .ok (.aload_n 0, 1) := by decide +kernel
theorem dWordSet_add_1 : decode cWordSet_add 1 = .ok (.lload_n 1, 1) := by decide +kernel
theorem dWordSet_add_2 : decode cWordSet_add 2 = .ok (.invokevirtual 23, 3) := by decide +kernel
theorem dWordSet_add_5 : decode cWordSet_add 5 = .ok (.istore_n 3, 1) := by decide +kernel
theorem dWordSet_add_6 : decode cWordSet_add 6 = .ok (.aload_n 0, 1) := by decide +kernel
theorem dWordSet_add_7 : decode cWordSet_add 7 = .ok (.getfield 19, 3) := by decide +kernel
theorem dWordSet_add_10 : decode cWordSet_add 10 = .ok (.aload_n 0, 1) := by decide +kernel
theorem dWordSet_add_11 : decode cWordSet_add 11 = .ok (.getfield 13, 3) := by decide +kernel
theorem dWordSet_add_14 : decode cWordSet_add 14 = .ok (.arraylength, 1) := by decide +kernel
theorem dWordSet_add_15 : decode cWordSet_add 15 = .ok (.if_icmp .ge 21, 3) := by decide +kernel
theorem dWordSet_add_18 : decode cWordSet_add 18 = .ok (.iload_n 3, 1) := by decide +kernel
theorem dWordSet_add_19 : decode cWordSet_add 19 = .ok (.aload_n 0, 1) := by decide +kernel
theorem dWordSet_add_20 : decode cWordSet_add 20 = .ok (.getfield 19, 3) := by decide +kernel
theorem dWordSet_add_23 : decode cWordSet_add 23 = .ok (.if_icmp .gt 13, 3) := by decide +kernel
theorem dWordSet_add_26 : decode cWordSet_add 26 = .ok (.aload_n 0, 1) := by decide +kernel
theorem dWordSet_add_27 : decode cWordSet_add 27 = .ok (.iload_n 3, 1) := by decide +kernel
theorem dWordSet_add_28 : decode cWordSet_add 28 = .ok (.invokevirtual 27, 3) := by decide +kernel
theorem dWordSet_add_31 : decode cWordSet_add 31 = .ok (.lload_n 1, 1) := by decide +kernel
theorem dWordSet_add_32 : decode cWordSet_add 32 = .ok (.lcmp, 1) := by decide +kernel
theorem dWordSet_add_33 : decode cWordSet_add 33 = .ok (.ifCond .ne 4, 3) := by decide +kernel
theorem dWordSet_add_36 : decode cWordSet_add 36 = .ok (.return_, 1) := by decide +kernel
theorem dWordSet_add_37 : decode cWordSet_add 37 = .ok (.aload_n 0, 1) := by decide +kernel
theorem dWordSet_add_38 : decode cWordSet_add 38 = .ok (.getfield 13, 3) := by decide +kernel
theorem dWordSet_add_41 : decode cWordSet_add 41 = .ok (.iload_n 3, 1) := by decide +kernel
theorem dWordSet_add_42 : decode cWordSet_add 42 = .ok (.aload_n 0, 1) := by decide +kernel
theorem dWordSet_add_43 : decode cWordSet_add 43 = .ok (.getfield 13, 3) := by decide +kernel
theorem dWordSet_add_46 : decode cWordSet_add 46 = .ok (.iload_n 3, 1) := by decide +kernel
theorem dWordSet_add_47 : decode cWordSet_add 47 = .ok (.iconst 1, 1) := by decide +kernel
theorem dWordSet_add_48 : decode cWordSet_add 48 = .ok (.iadd, 1) := by decide +kernel
theorem dWordSet_add_49 : decode cWordSet_add 49 = .ok (.aload_n 0, 1) := by decide +kernel
theorem dWordSet_add_50 : decode cWordSet_add 50 = .ok (.getfield 19, 3) := by decide +kernel
theorem dWordSet_add_53 : decode cWordSet_add 53 = .ok (.iload_n 3, 1) := by decide +kernel
theorem dWordSet_add_54 : decode cWordSet_add 54 = .ok (.isub, 1) := by decide +kernel
theorem dWordSet_add_55 : decode cWordSet_add 55 = .ok (.invokestatic 31, 3) := by decide +kernel
theorem dWordSet_add_58 : decode cWordSet_add 58 = .ok (.aload_n 0, 1) := by decide +kernel
theorem dWordSet_add_59 : decode cWordSet_add 59 = .ok (.getfield 13, 3) := by decide +kernel
theorem dWordSet_add_62 : decode cWordSet_add 62 = .ok (.iload_n 3, 1) := by decide +kernel
theorem dWordSet_add_63 : decode cWordSet_add 63 = .ok (.lload_n 1, 1) := by decide +kernel
theorem dWordSet_add_64 : decode cWordSet_add 64 = .ok (.lastore, 1) := by decide +kernel
theorem dWordSet_add_65 : decode cWordSet_add 65 = .ok (.aload_n 0, 1) := by decide +kernel
theorem dWordSet_add_66 : decode cWordSet_add 66 = .ok (.dup, 1) := by decide +kernel
theorem dWordSet_add_67 : decode cWordSet_add 67 = .ok (.getfield 19, 3) := by decide +kernel
theorem dWordSet_add_70 : decode cWordSet_add 70 = .ok (.iconst 1, 1) := by decide +kernel
theorem dWordSet_add_71 : decode cWordSet_add 71 = .ok (.iadd, 1) := by decide +kernel
theorem dWordSet_add_72 : decode cWordSet_add 72 = .ok (.putfield 19, 3) := by decide +kernel
theorem dWordSet_add_75 : decode cWordSet_add 75 = .ok (.return_, 1) := by decide +kernel
theorem dTerms_read_0 : decode cTerms_read 0 = .ok (.aload_n 0, 1) := by decide +kernel
theorem dTerms_read_1 : decode cTerms_read 1 = .ok (.aload_n 1, 1) := by decide +kernel
theorem dTerms_read_2 : decode cTerms_read 2 = .ok (.invokevirtual 23, 3) := by decide +kernel
theorem dTerms_read_5 : decode cTerms_read 5 = .ok (.aload_n 0, 1) := by decide +kernel
theorem dTerms_read_6 : decode cTerms_read 6 = .ok (.getfield 13, 3) := by decide +kernel
theorem dTerms_read_9 : decode cTerms_read 9 = .ok (.arraylength, 1) := by decide +kernel
theorem dTerms_read_10 : decode cTerms_read 10 = .ok (.invokestatic 29, 3) := by decide +kernel
theorem dTerms_read_13 : decode cTerms_read 13 = .ok (.putfield 19, 3) := by decide +kernel
theorem dTerms_read_16 : decode cTerms_read 16 = .ok (.iconst 0, 1) := by decide +kernel
theorem dTerms_read_17 : decode cTerms_read 17 = .ok (.istore 4, 2) := by decide +kernel
theorem dTerms_read_19 : decode cTerms_read 19 = .ok (.iload 4, 2) := by decide +kernel
theorem dTerms_read_21 : decode cTerms_read 21 = .ok (.aload_n 0, 1) := by decide +kernel
theorem dTerms_read_22 : decode cTerms_read 22 = .ok (.getfield 19, 3) := by decide +kernel
theorem dTerms_read_25 : decode cTerms_read 25 = .ok (.if_icmp .ge 43, 3) := by decide +kernel
theorem dTerms_read_28 : decode cTerms_read 28 = .ok (.aload_n 1, 1) := by decide +kernel
theorem dTerms_read_29 : decode cTerms_read 29 = .ok (.iload 4, 2) := by decide +kernel
theorem dTerms_read_31 : decode cTerms_read 31 = .ok (.invokevirtual 32, 3) := by decide +kernel
theorem dTerms_read_34 : decode cTerms_read 34 = .ok (.lstore 5, 2) := by decide +kernel
theorem dTerms_read_36 : decode cTerms_read 36 = .ok (.aload_n 0, 1) := by decide +kernel
theorem dTerms_read_37 : decode cTerms_read 37 = .ok (.getfield 13, 3) := by decide +kernel
theorem dTerms_read_40 : decode cTerms_read 40 = .ok (.iload 4, 2) := by decide +kernel
theorem dTerms_read_42 : decode cTerms_read 42 = .ok (.aload_n 3, 1) := by decide +kernel
theorem dTerms_read_43 : decode cTerms_read 43 = .ok (.lload 5, 2) := by decide +kernel
theorem dTerms_read_45 : decode cTerms_read 45 = .ok (.invokevirtual 36, 3) := by decide +kernel
theorem dTerms_read_48 : decode cTerms_read 48 = .ok (.ifCond .eq 7, 3) := by decide +kernel
theorem dTerms_read_51 : decode cTerms_read 51 = .ok (.lconst 0, 1) := by decide +kernel
theorem dTerms_read_52 : decode cTerms_read 52 = .ok (.goto 9, 3) := by decide +kernel
theorem dTerms_read_55 : decode cTerms_read 55 = .ok (.lload 5, 2) := by decide +kernel
theorem dTerms_read_57 : decode cTerms_read 57 = .ok (.iload_n 2, 1) := by decide +kernel
theorem dTerms_read_58 : decode cTerms_read 58 = .ok (.invokestatic 42, 3) := by decide +kernel
theorem dTerms_read_61 : decode cTerms_read 61 = .ok (.lastore, 1) := by decide +kernel
theorem dTerms_read_62 : decode cTerms_read 62 = .ok (.iinc 4 1, 3) := by decide +kernel
theorem dTerms_read_65 : decode cTerms_read 65 = .ok (.goto (-46), 3) := by decide +kernel
theorem dTerms_read_68 : decode cTerms_read 68 = .ok (.return_, 1) := by decide +kernel
theorem dTerms_has_0 : decode cTerms_has 0 = .ok (.iconst 0, 1) := by decide +kernel
theorem dTerms_has_1 : decode cTerms_has 1 = .ok (.istore_n 3, 1) := by decide +kernel
theorem dTerms_has_2 : decode cTerms_has 2 = .ok (.iload_n 3, 1) := by decide +kernel
theorem dTerms_has_3 : decode cTerms_has 3 = .ok (.aload_n 0, 1) := by decide +kernel
theorem dTerms_has_4 : decode cTerms_has 4 = .ok (.getfield 19, 3) := by decide +kernel
theorem dTerms_has_7 : decode cTerms_has 7 = .ok (.if_icmp .ge 21, 3) := by decide +kernel
theorem dTerms_has_10 : decode cTerms_has 10 = .ok (.aload_n 0, 1) := by decide +kernel
theorem dTerms_has_11 : decode cTerms_has 11 = .ok (.iload_n 3, 1) := by decide +kernel
theorem dTerms_has_12 : decode cTerms_has 12 = .ok (.invokevirtual 48, 3) := by decide +kernel
theorem dTerms_has_15 : decode cTerms_has 15 = .ok (.lload_n 1, 1) := by decide +kernel
theorem dTerms_has_16 : decode cTerms_has 16 = .ok (.lcmp, 1) := by decide +kernel
theorem dTerms_has_17 : decode cTerms_has 17 = .ok (.ifCond .ne 5, 3) := by decide +kernel
theorem dTerms_has_20 : decode cTerms_has 20 = .ok (.iconst 1, 1) := by decide +kernel
theorem dTerms_has_21 : decode cTerms_has 21 = .ok (.ireturn, 1) := by decide +kernel
theorem dTerms_has_22 : decode cTerms_has 22 = .ok (.iinc 3 1, 3) := by decide +kernel
theorem dTerms_has_25 : decode cTerms_has 25 = .ok (.goto (-23), 3) := by decide +kernel
theorem dTerms_has_28 : decode cTerms_has 28 = .ok (.iconst 0, 1) := by decide +kernel
theorem dTerms_has_29 : decode cTerms_has 29 = .ok (.ireturn, 1) := by decide +kernel
theorem dTerms_hasAny_0 : decode cTerms_hasAny 0 = .ok (.iconst 0, 1) := by decide +kernel
theorem dTerms_hasAny_1 : decode cTerms_hasAny 1 = .ok (.istore_n 1, 1) := by decide +kernel
theorem dTerms_hasAny_2 : decode cTerms_hasAny 2 = .ok (.iload_n 1, 1) := by decide +kernel
theorem dTerms_hasAny_3 : decode cTerms_hasAny 3 = .ok (.aload_n 0, 1) := by decide +kernel
theorem dTerms_hasAny_4 : decode cTerms_hasAny 4 = .ok (.getfield 19, 3) := by decide +kernel
theorem dTerms_hasAny_7 : decode cTerms_hasAny 7 = .ok (.if_icmp .ge 21, 3) := by decide +kernel
theorem dTerms_hasAny_10 : decode cTerms_hasAny 10 = .ok (.aload_n 0, 1) := by decide +kernel
theorem dTerms_hasAny_11 : decode cTerms_hasAny 11 = .ok (.iload_n 1, 1) := by decide +kernel
theorem dTerms_hasAny_12 : decode cTerms_hasAny 12 = .ok (.invokevirtual 48, 3) := by decide +kernel
theorem dTerms_hasAny_15 : decode cTerms_hasAny 15 = .ok (.lconst 0, 1) := by decide +kernel
theorem dTerms_hasAny_16 : decode cTerms_hasAny 16 = .ok (.lcmp, 1) := by decide +kernel
theorem dTerms_hasAny_17 : decode cTerms_hasAny 17 = .ok (.ifCond .eq 5, 3) := by decide +kernel
theorem dTerms_hasAny_20 : decode cTerms_hasAny 20 = .ok (.iconst 1, 1) := by decide +kernel
theorem dTerms_hasAny_21 : decode cTerms_hasAny 21 = .ok (.ireturn, 1) := by decide +kernel
theorem dTerms_hasAny_22 : decode cTerms_hasAny 22 = .ok (.iinc 1 1, 3) := by decide +kernel
theorem dTerms_hasAny_25 : decode cTerms_hasAny 25 = .ok (.goto (-23), 3) := by decide +kernel
theorem dTerms_hasAny_28 : decode cTerms_hasAny 28 = .ok (.iconst 0, 1) := by decide +kernel
theorem dTerms_hasAny_29 : decode cTerms_hasAny 29 = .ok (.ireturn, 1) := by decide +kernel
theorem mm_49 : (.methodLink RWordSet 1 objectInit : Cond) ∈ hwG := hwIx 82 (by decide +kernel) (by decide +kernel)
theorem mm_50 : (.methodLink RWordSet 7 Lib.Math.max.name : Cond) ∈ hwG := hwIx 83 (by decide +kernel) (by decide +kernel)
theorem mm_51 : (.static Lib.Math.max.name : Cond) ∈ hwG := hwIx 84 (by decide +kernel) (by decide +kernel)
theorem mm_52 : (.code Lib.Math.max.name Lib.Math.max.code 2 (some .int) : Cond) ∈ hwG := hwIx 85 (by decide +kernel) (by decide +kernel)
theorem mm_53 : (.fieldLink RWordSet 13 RWordSet "words" "[J" : Cond) ∈ hwG := hwIx 86 (by decide +kernel) (by decide +kernel)
theorem mm_54 : (.fieldLink RWordSet 19 RWordSet "count" "I" : Cond) ∈ hwG := hwIx 87 (by decide +kernel) (by decide +kernel)
theorem mm_55 : (.methodLink RTerms 1 objectInit : Cond) ∈ hwG := hwIx 117 (by decide +kernel) (by decide +kernel)
theorem mm_56 : (.methodLink RTerms 7 Lib.Math.max.name : Cond) ∈ hwG := hwIx 118 (by decide +kernel) (by decide +kernel)
theorem mm_57 : (.fieldLink RTerms 13 RTerms "terms" "[J" : Cond) ∈ hwG := hwIx 119 (by decide +kernel) (by decide +kernel)
theorem mm_58 : (.fieldLink RTerms 19 RTerms "count" "I" : Cond) ∈ hwG := hwIx 120 (by decide +kernel) (by decide +kernel)
theorem mm_59 : (.code yWordSet_at cWordSet_at 2 (some .long) : Cond) ∈ hwG := hwIx 283 (by decide +kernel) (by decide +kernel)
theorem mm_60 : (.methodLink RWordSet 27 yWordSet_at : Cond) ∈ hwG := hwIx 280 (by decide +kernel) (by decide +kernel)
theorem mm_61 : (.instanceMethod yWordSet_at : Cond) ∈ hwG := hwIx 281 (by decide +kernel) (by decide +kernel)
theorem mm_62 : (.selects RWordSet yWordSet_at yWordSet_at : Cond) ∈ hwG := hwIx 282 (by decide +kernel) (by decide +kernel)
theorem mm_63 : (.initialized RWordSet : Cond) ∈ hwG := hwIx 35 (by decide +kernel) (by decide +kernel)
theorem mm_64 : (.code yWordSet_placeOf cWordSet_placeOf 7 (some .int) : Cond) ∈ hwG := hwIx 279 (by decide +kernel) (by decide +kernel)
theorem mm_65 : (.methodLink RWordSet 23 yWordSet_placeOf : Cond) ∈ hwG := hwIx 276 (by decide +kernel) (by decide +kernel)
theorem mm_66 : (.instanceMethod yWordSet_placeOf : Cond) ∈ hwG := hwIx 278 (by decide +kernel) (by decide +kernel)
theorem mm_67 : (.selects RWordSet yWordSet_placeOf yWordSet_placeOf : Cond) ∈ hwG := hwIx 4 (by decide +kernel) (by decide +kernel)
theorem mm_68 : (.methodLink RWordSet 31 arraycopyName : Cond) ∈ hwG := hwIx 523 (by decide +kernel) (by decide +kernel)
theorem mm_69 : (.code yText_size cText_size 1 (some .int) : Cond) ∈ hwG := hwIx 266 (by decide +kernel) (by decide +kernel)
theorem mm_70 : (.methodLink RTerms 23 yText_size : Cond) ∈ hwG := hwIx 263 (by decide +kernel) (by decide +kernel)
theorem mm_71 : (.instanceMethod yText_size : Cond) ∈ hwG := hwIx 264 (by decide +kernel) (by decide +kernel)
theorem mm_72 : (.selects RText yText_size yText_size : Cond) ∈ hwG := hwIx 265 (by decide +kernel) (by decide +kernel)
theorem mm_73 : (.methodLink RTerms 29 Lib.Math.min.name : Cond) ∈ hwG := hwIx 267 (by decide +kernel) (by decide +kernel)
theorem mm_74 : (.code yText_wordAt cText_wordAt 2 (some .long) : Cond) ∈ hwG := hwIx 271 (by decide +kernel) (by decide +kernel)
theorem mm_75 : (.methodLink RTerms 32 yText_wordAt : Cond) ∈ hwG := hwIx 268 (by decide +kernel) (by decide +kernel)
theorem mm_76 : (.instanceMethod yText_wordAt : Cond) ∈ hwG := hwIx 269 (by decide +kernel) (by decide +kernel)
theorem mm_77 : (.selects RText yText_wordAt yText_wordAt : Cond) ∈ hwG := hwIx 270 (by decide +kernel) (by decide +kernel)
theorem mm_78 : (.code yWordSet_has cWordSet_has 4 (some .boolean) : Cond) ∈ hwG := hwIx 275 (by decide +kernel) (by decide +kernel)
theorem mm_79 : (.methodLink RTerms 36 yWordSet_has : Cond) ∈ hwG := hwIx 272 (by decide +kernel) (by decide +kernel)
theorem mm_80 : (.instanceMethod yWordSet_has : Cond) ∈ hwG := hwIx 273 (by decide +kernel) (by decide +kernel)
theorem mm_81 : (.selects RWordSet yWordSet_has yWordSet_has : Cond) ∈ hwG := hwIx 274 (by decide +kernel) (by decide +kernel)
theorem mm_82 : (.code yWord_stem cWord_stem 6 (some .long) : Cond) ∈ hwG := hwIx 286 (by decide +kernel) (by decide +kernel)
theorem mm_83 : (.static yWord_stem : Cond) ∈ hwG := hwIx 285 (by decide +kernel) (by decide +kernel)
theorem mm_84 : (.methodLink RTerms 42 yWord_stem : Cond) ∈ hwG := hwIx 284 (by decide +kernel) (by decide +kernel)
theorem mm_85 : (.code yTerms_at cTerms_at 2 (some .long) : Cond) ∈ hwG := hwIx 312 (by decide +kernel) (by decide +kernel)
theorem mm_86 : (.methodLink RTerms 48 yTerms_at : Cond) ∈ hwG := hwIx 309 (by decide +kernel) (by decide +kernel)
theorem mm_87 : (.instanceMethod yTerms_at : Cond) ∈ hwG := hwIx 310 (by decide +kernel) (by decide +kernel)
theorem mm_88 : (.selects RTerms yTerms_at yTerms_at : Cond) ∈ hwG := hwIx 311 (by decide +kernel) (by decide +kernel)
theorem mm_89 : (.initialized RTerms : Cond) ∈ hwG := hwIx 38 (by decide +kernel) (by decide +kernel)
set_option maxHeartbeats 4000000 in
set_option maxRecDepth 100000 in
theorem c_Se_init (l : Launch) (D : va_G) (K : Nat → ClassId) (X : hwW) (sz : Nat) (a : Nat) (k : Nat) (N : Nat) (f0_ : hwH X a (2 * k) (.inr (4, [.null, .int (nI 0)]))) (hN : N ≤ 3000) : Met l yWordSet_init (.code yWordSet_init cWordSet_init 2 none :: hwG) ({ frames := 1, cells := 1, slots := N, locals := 22 } : Room) (hwPc D vwCl (hwT K) [.ref a, .int (nI N)] X sz) (hwQv D vwCl X sz (fun Y => hwF X Y (fun M => M = 2 * k ∨ M = 2 * k + 1) ∧ seAt K Y a k N [])) 1 N (va_A X.1 sz) := by
  refine hwMetv (cc := cWordSet_init) (maxL := 2) (by decide) rfl (Nat.le_of_ble_eq_true rfl) (fun p e s m args below meth c ls A Q hx hb hml hown hts hname hret hK hO hZ hA hl => ?_)
  have hl : lv_has ls 2 [(0, .ref a), (1, .int (nI N))] := hl
  have hFr : hwF X X (fun M => M = 2 * k ∨ M = 2 * k + 1) := hwF.rf
  refine lv_aload_n hx hb dWordSet_init_0 rfl (lv_at hl 0 rfl) ?_
  refine W.objInit hx hb hown (hts (.methodLink RWordSet 1 objectInit) (hwMem mm_49)) (hts (.instanceMethod objectInit) (hwMem mm_31)) (hts (.code objectInit ⟨#[0xb1]⟩ 1 none) (hwMem mm_32)) rfl (by rw [hml]; exact hl.1) rfl dWordSet_init_1 (Nat.le_of_ble_eq_true rfl) (Nat.le_of_ble_eq_true rfl) ?_
  refine W.eq (g2 := F0 m 4 ls []) rfl ?_
  refine lv_aload_n hx hb dWordSet_init_4 rfl (lv_at hl 0 rfl) ?_
  refine lv_iload_n hx hb dWordSet_init_5 rfl (lv_at hl 1 rfl) ?_
  refine lv_iconst (v := nI 0) hx hb dWordSet_init_6 (by decide) ?_
  refine va_mmax hx hb (hml.trans hl.1.symm) hown (hts (.methodLink RWordSet 7 Lib.Math.max.name) (hwMem mm_50)) (hts (.static Lib.Math.max.name) (hwMem mm_51)) (hts (.initialized "java/lang/Math") (hwMem mm_19)) (hts (.code Lib.Math.max.name Lib.Math.max.code 2 (some .int)) (hwMem mm_52)) (Nat.le_of_ble_eq_true rfl) (Nat.le_of_ble_eq_true rfl) (show 0 ≤ 1 by omega) (show 0 ≤ N by omega) dWordSet_init_7 ?_
  refine hw_topi (hw_nmax (a := N) (b := 0) (by omega) (by omega)) ?_
  refine hw_topi (congrArg nI (Nat.max_eq_left (by omega))) ?_
  refine hw_newa (atype := .long) (ty := .long) (a0 := (N, .inr (.inl (fun _ => 0)))) (N := N) hx hb (hts (.arrayClass .long) (hwMem mm_24)) rfl hK hZ hA 1 rfl (fun _ _ => rfl) (fun _ => rfl) (by omega) (by show _ * _ ≤ _; first | decide | (simp only [componentBytes]; omega)) (show 0 + 1 ≤ 1 by omega) (show 0 + N ≤ N by omega) dWordSet_init_10 (2 * k + 1) (fun qq_1 X_2 H_3 hZ hF hNw => ?_)
  have hFr := hwF.tr hFr hF (fun _ h => h) (fun M h => by first | exact False.elim h | ((try dsimp only at h ⊢); omega))
  have f0_ := hF _ _ _ (by intro hNS; first | exact False.elim hNS | ((try dsimp only at hNS); omega)) f0_
  have ff_5 := hNw
  refine hw_putF (ty := (.array .long)) (fs' := [.ref qq_1, .int (nI 0)]) hx hb hts (hwInn inWordSet) tyWordSet tyWordSet_ok nmWordSet hown hK hZ f0_ rfl 0 (by decide) (hts (.fieldLink RWordSet 13 RWordSet "words" "[J") (hwMem mm_53)) (fun _ h => h) rfl hname rfl (by decide +kernel) rfl rfl (Nat.le_of_ble_eq_true rfl) rfl dWordSet_init_12 (fun X_6 H_7 lc_8 hZ hF hNw => ?_)
  have hFr := hwF.tr hFr hF (fun _ h => h) (fun M h => by first | exact False.elim h | ((try dsimp only at h ⊢); omega))
  have f0_ := hNw
  have ff_5 := hF _ _ _ (by intro hNS; first | exact False.elim hNS | ((try dsimp only at hNS); omega)) ff_5
  refine W.widen (k := 1) (n := N) (by omega) (by omega) ?_
  exact hret hZ ⟨hFr, qq_1, _, f0_, ff_5, Nat.zero_le _, hN, lvec.nil, okWs.nil⟩ dWordSet_init_15
set_option maxHeartbeats 4000000 in
set_option maxRecDepth 100000 in
theorem c_Se_size (l : Launch) (D : va_G) (K : Nat → ClassId) (X : hwW) (sz : Nat) (a : Nat) (k : Nat) (N : Nat) (ts : List (List Nat)) (f0_ : seAt K X a k N ts) : Met l yWordSet_size (.code yWordSet_size cWordSet_size 1 (some .int) :: hwG) ({ frames := 0, cells := 0, slots := 0, locals := 0 } : Room) (hwPc D vwCl (hwT K) [.ref a] X sz) (hwQi D vwCl X sz (fun r Y => r = nI ts.length ∧ X = Y)) 0 0 (va_A X.1 sz) := by
  refine hwMeti (cc := cWordSet_size) (maxL := 1) (by decide) rfl (Nat.le_of_ble_eq_true rfl) (fun p e s m args below meth c ls A Q hx hb hml hown hts hname hret hK hO hZ hA hl => ?_)
  have hl : lv_has ls 1 [(0, .ref a)] := hl
  obtain ⟨q, f, g0, g1, hN, hM, hv, hk⟩ := f0_
  refine lv_aload_n hx hb dWordSet_size_0 rfl (lv_at hl 0 rfl) ?_
  refine hw_get hx hb hts (hwInn inWordSet) hown hK hZ g0 rfl 1 (by decide) (hts (.fieldLink RWordSet 19 RWordSet "count" "I") (hwMem mm_54)) (fun _ h => h) rfl dWordSet_size_1 ?_
  exact hret hZ ⟨rfl, rfl⟩ dWordSet_size_4
set_option maxHeartbeats 4000000 in
set_option maxRecDepth 100000 in
theorem c_Se_at (l : Launch) (D : va_G) (K : Nat → ClassId) (X : hwW) (sz : Nat) (a : Nat) (k : Nat) (N : Nat) (ts : List (List Nat)) (j : Nat) (f0_ : seAt K X a k N ts) (hj : j < 2147483648) : Met l yWordSet_at (.code yWordSet_at cWordSet_at 2 (some .long) :: hwG) ({ frames := 0, cells := 0, slots := 0, locals := 0 } : Room) (hwPc D vwCl (hwT K) [.ref a, .int (nI j)] X sz) (hwQl D vwCl X sz (fun r Y => r = lN (eW (ts.getD j [])) ∧ X = Y)) 0 0 (va_A X.1 sz) := by
  refine hwMetl (cc := cWordSet_at) (maxL := 2) (by decide) rfl (Nat.le_of_ble_eq_true rfl) (fun p e s m args below meth c ls A Q hx hb hml hown hts hname hret hK hO hZ hA hl => ?_)
  have hl : lv_has ls 2 [(0, .ref a), (1, .int (nI j))] := hl
  obtain ⟨q, f, g0, g1, hN, hM, hv, hk⟩ := f0_
  refine lv_iload_n hx hb dWordSet_at_0 rfl (lv_at hl 1 rfl) ?_
  refine hw_if_lt (a := j) (tgt := 21) hx hb dWordSet_at_1 (by decide) (by omega) (fun cq_1 => by exfalso; omega) (fun cq_1 => ?_)
  refine lv_iload_n hx hb dWordSet_at_4 rfl (lv_at hl 1 rfl) ?_
  refine lv_aload_n hx hb dWordSet_at_5 rfl (lv_at hl 0 rfl) ?_
  refine hw_get hx hb hts (hwInn inWordSet) hown hK hZ g0 rfl 1 (by decide) (hts (.fieldLink RWordSet 19 RWordSet "count" "I") (hwMem mm_54)) (fun _ h => h) rfl dWordSet_at_6 ?_
  refine hw_ic_ge (a := j) (b := ts.length) (tgt := 21) hx hb dWordSet_at_9 (by decide) (by omega) (by omega) (fun cq_2 => ?_) (fun cq_2 => ?_)
  · refine lv_lconst (v := lN 0) hx hb dWordSet_at_21 rfl ?_
    refine lv_goto (tgt := 31) hx hb dWordSet_at_22 (by decide) ?_
    exact hret hZ ⟨by first | exact hv j (by omega) | (rw [getD_big (by omega)]; rfl), rfl⟩ dWordSet_at_31
  · refine lv_iload_n hx hb dWordSet_at_12 rfl (lv_at hl 1 rfl) ?_
    refine lv_aload_n hx hb dWordSet_at_13 rfl (lv_at hl 0 rfl) ?_
    refine hw_get hx hb hts (hwInn inWordSet) hown hK hZ g0 rfl 0 (by decide) (hts (.fieldLink RWordSet 13 RWordSet "words" "[J") (hwMem mm_53)) (fun _ h => h) rfl dWordSet_at_14 ?_
    refine hw_alen hx hb hK hZ 1 g1 rfl dWordSet_at_17 ?_
    refine hw_ic_lt (a := j) (b := N) (tgt := 25) hx hb dWordSet_at_18 (by decide) (by omega) (by omega) (fun cq_3 => ?_) (fun cq_3 => by exfalso; omega)
    refine lv_aload_n hx hb dWordSet_at_25 rfl (lv_at hl 0 rfl) ?_
    refine hw_get hx hb hts (hwInn inWordSet) hown hK hZ g0 rfl 0 (by decide) (hts (.fieldLink RWordSet 13 RWordSet "words" "[J") (hwMem mm_53)) (fun _ h => h) rfl dWordSet_at_26 ?_
    refine lv_iload_n hx hb dWordSet_at_29 rfl (lv_at hl 1 rfl) ?_
    refine hw_lald hx hb hK hZ 1 g1 rfl (j := j) (by omega) (by omega) dWordSet_at_30 ?_
    exact hret hZ ⟨by first | exact hv j (by omega) | (rw [getD_big (by omega)]; rfl), rfl⟩ dWordSet_at_31
set_option maxHeartbeats 4000000 in
set_option maxRecDepth 100000 in
theorem c_Se_atN (l : Launch) (D : va_G) (K : Nat → ClassId) (X : hwW) (sz : Nat) (a : Nat) (k : Nat) (N : Nat) (ts : List (List Nat)) (i : Int32) (f0_ : seAt K X a k N ts) (hi : i < 0) : Met l yWordSet_at (.code yWordSet_at cWordSet_at 2 (some .long) :: hwG) ({ frames := 0, cells := 0, slots := 0, locals := 0 } : Room) (hwPc D vwCl (hwT K) [.ref a, .int i] X sz) (hwQl D vwCl X sz (fun r Y => r = lN (eW []) ∧ X = Y)) 0 0 (va_A X.1 sz) := by
  refine hwMetl (cc := cWordSet_at) (maxL := 2) (by decide) rfl (Nat.le_of_ble_eq_true rfl) (fun p e s m args below meth c ls A Q hx hb hml hown hts hname hret hK hO hZ hA hl => ?_)
  have hl : lv_has ls 2 [(0, .ref a), (1, .int i)] := hl
  obtain ⟨q, f, g0, g1, hN, hM, hv, hk⟩ := f0_
  refine lv_iload_n hx hb dWordSet_at_0 rfl (lv_at hl 1 rfl) ?_
  refine lv_if_lt (tgt := 21) hx hb dWordSet_at_1 (by decide) (fun cq_1 => ?_) (fun cq_1 => absurd hi cq_1)
  refine lv_lconst (v := lN 0) hx hb dWordSet_at_21 rfl ?_
  refine lv_goto (tgt := 31) hx hb dWordSet_at_22 (by decide) ?_
  exact hret hZ ⟨rfl, rfl⟩ dWordSet_at_31
set_option maxHeartbeats 4000000 in
set_option maxRecDepth 100000 in
theorem c_Se_clear (l : Launch) (D : va_G) (K : Nat → ClassId) (X : hwW) (sz : Nat) (a : Nat) (k : Nat) (N : Nat) (ts : List (List Nat)) (f0_ : seAt K X a k N ts) : Met l yWordSet_clear (.code yWordSet_clear cWordSet_clear 1 none :: hwG) ({ frames := 0, cells := 0, slots := 0, locals := 0 } : Room) (hwPc D vwCl (hwT K) [.ref a] X sz) (hwQv D vwCl X sz (fun Y => hwF X Y (fun M => M = 2 * k ∨ M = 2 * k + 1) ∧ seAt K Y a k N [])) 0 0 (va_A X.1 sz) := by
  refine hwMetv (cc := cWordSet_clear) (maxL := 1) (by decide) rfl (Nat.le_of_ble_eq_true rfl) (fun p e s m args below meth c ls A Q hx hb hml hown hts hname hret hK hO hZ hA hl => ?_)
  have hl : lv_has ls 1 [(0, .ref a)] := hl
  have hFr : hwF X X (fun M => M = 2 * k ∨ M = 2 * k + 1) := hwF.rf
  obtain ⟨q, f, g0, g1, hN, hM, hv, hk⟩ := f0_
  refine lv_aload_n hx hb dWordSet_clear_0 rfl (lv_at hl 0 rfl) ?_
  refine lv_iconst (v := nI 0) hx hb dWordSet_clear_1 (by decide) ?_
  refine hw_put (ty := .int) (fs' := [.ref q, .int (nI 0)]) hx hb hts (hwInn inWordSet) tyWordSet tyWordSet_ok nmWordSet hown hK hZ g0 rfl 1 (by decide) (hts (.fieldLink RWordSet 19 RWordSet "count" "I") (hwMem mm_54)) (fun _ h => h) rfl (by decide +kernel) rfl rfl (Nat.le_of_ble_eq_true rfl) rfl dWordSet_clear_2 (fun X_1 H_2 lc_3 hZ hF hNw => ?_)
  have hFr := hwF.tr hFr hF (fun _ h => h) (fun M h => by first | exact False.elim h | ((try dsimp only at h ⊢); omega))
  have g0 := hNw
  have g1 := hF _ _ _ (by intro hNS; first | exact False.elim hNS | ((try dsimp only at hNS); omega)) g1
  exact hret hZ ⟨hFr, q, f, g0, g1, Nat.zero_le _, hM, lvec.nil, okWs.nil⟩ dWordSet_clear_5
set_option maxHeartbeats 4000000 in
set_option maxRecDepth 100000 in
theorem c_Tm_init (l : Launch) (D : va_G) (K : Nat → ClassId) (X : hwW) (sz : Nat) (a : Nat) (k : Nat) (N : Nat) (f0_ : hwH X a (2 * k) (.inr (2, [.null, .int (nI 0)]))) (hN : N ≤ 3000) : Met l yTerms_init (.code yTerms_init cTerms_init 2 none :: hwG) ({ frames := 1, cells := 1, slots := N, locals := 22 } : Room) (hwPc D vwCl (hwT K) [.ref a, .int (nI N)] X sz) (hwQv D vwCl X sz (fun Y => hwF X Y (fun M => M = 2 * k ∨ M = 2 * k + 1) ∧ tmAt K Y a k N [])) 1 N (va_A X.1 sz) := by
  refine hwMetv (cc := cTerms_init) (maxL := 2) (by decide) rfl (Nat.le_of_ble_eq_true rfl) (fun p e s m args below meth c ls A Q hx hb hml hown hts hname hret hK hO hZ hA hl => ?_)
  have hl : lv_has ls 2 [(0, .ref a), (1, .int (nI N))] := hl
  have hFr : hwF X X (fun M => M = 2 * k ∨ M = 2 * k + 1) := hwF.rf
  refine lv_aload_n hx hb dTerms_init_0 rfl (lv_at hl 0 rfl) ?_
  refine W.objInit hx hb hown (hts (.methodLink RTerms 1 objectInit) (hwMem mm_55)) (hts (.instanceMethod objectInit) (hwMem mm_31)) (hts (.code objectInit ⟨#[0xb1]⟩ 1 none) (hwMem mm_32)) rfl (by rw [hml]; exact hl.1) rfl dTerms_init_1 (Nat.le_of_ble_eq_true rfl) (Nat.le_of_ble_eq_true rfl) ?_
  refine W.eq (g2 := F0 m 4 ls []) rfl ?_
  refine lv_aload_n hx hb dTerms_init_4 rfl (lv_at hl 0 rfl) ?_
  refine lv_iload_n hx hb dTerms_init_5 rfl (lv_at hl 1 rfl) ?_
  refine lv_iconst (v := nI 0) hx hb dTerms_init_6 (by decide) ?_
  refine va_mmax hx hb (hml.trans hl.1.symm) hown (hts (.methodLink RTerms 7 Lib.Math.max.name) (hwMem mm_56)) (hts (.static Lib.Math.max.name) (hwMem mm_51)) (hts (.initialized "java/lang/Math") (hwMem mm_19)) (hts (.code Lib.Math.max.name Lib.Math.max.code 2 (some .int)) (hwMem mm_52)) (Nat.le_of_ble_eq_true rfl) (Nat.le_of_ble_eq_true rfl) (show 0 ≤ 1 by omega) (show 0 ≤ N by omega) dTerms_init_7 ?_
  refine hw_topi (hw_nmax (a := N) (b := 0) (by omega) (by omega)) ?_
  refine hw_topi (congrArg nI (Nat.max_eq_left (by omega))) ?_
  refine hw_newa (atype := .long) (ty := .long) (a0 := (N, .inr (.inl (fun _ => 0)))) (N := N) hx hb (hts (.arrayClass .long) (hwMem mm_24)) rfl hK hZ hA 1 rfl (fun _ _ => rfl) (fun _ => rfl) (by omega) (by show _ * _ ≤ _; first | decide | (simp only [componentBytes]; omega)) (show 0 + 1 ≤ 1 by omega) (show 0 + N ≤ N by omega) dTerms_init_10 (2 * k + 1) (fun qq_1 X_2 H_3 hZ hF hNw => ?_)
  have hFr := hwF.tr hFr hF (fun _ h => h) (fun M h => by first | exact False.elim h | ((try dsimp only at h ⊢); omega))
  have f0_ := hF _ _ _ (by intro hNS; first | exact False.elim hNS | ((try dsimp only at hNS); omega)) f0_
  have ff_5 := hNw
  refine hw_putF (ty := (.array .long)) (fs' := [.ref qq_1, .int (nI 0)]) hx hb hts (hwInn inTerms) tyTerms tyTerms_ok nmTerms hown hK hZ f0_ rfl 0 (by decide) (hts (.fieldLink RTerms 13 RTerms "terms" "[J") (hwMem mm_57)) (fun _ h => h) rfl hname rfl (by decide +kernel) rfl rfl (Nat.le_of_ble_eq_true rfl) rfl dTerms_init_12 (fun X_6 H_7 lc_8 hZ hF hNw => ?_)
  have hFr := hwF.tr hFr hF (fun _ h => h) (fun M h => by first | exact False.elim h | ((try dsimp only at h ⊢); omega))
  have f0_ := hNw
  have ff_5 := hF _ _ _ (by intro hNS; first | exact False.elim hNS | ((try dsimp only at hNS); omega)) ff_5
  refine W.widen (k := 1) (n := N) (by omega) (by omega) ?_
  exact hret hZ ⟨hFr, qq_1, _, f0_, ff_5, Nat.zero_le _, hN, lvec.nil, okWs.nil⟩ dTerms_init_15
set_option maxHeartbeats 4000000 in
set_option maxRecDepth 100000 in
theorem c_Tm_size (l : Launch) (D : va_G) (K : Nat → ClassId) (X : hwW) (sz : Nat) (a : Nat) (k : Nat) (N : Nat) (ts : List (List Nat)) (f0_ : tmAt K X a k N ts) : Met l yTerms_size (.code yTerms_size cTerms_size 1 (some .int) :: hwG) ({ frames := 0, cells := 0, slots := 0, locals := 0 } : Room) (hwPc D vwCl (hwT K) [.ref a] X sz) (hwQi D vwCl X sz (fun r Y => r = nI ts.length ∧ X = Y)) 0 0 (va_A X.1 sz) := by
  refine hwMeti (cc := cTerms_size) (maxL := 1) (by decide) rfl (Nat.le_of_ble_eq_true rfl) (fun p e s m args below meth c ls A Q hx hb hml hown hts hname hret hK hO hZ hA hl => ?_)
  have hl : lv_has ls 1 [(0, .ref a)] := hl
  obtain ⟨q, f, g0, g1, hN, hM, hv, hk⟩ := f0_
  refine lv_aload_n hx hb dTerms_size_0 rfl (lv_at hl 0 rfl) ?_
  refine hw_get hx hb hts (hwInn inTerms) hown hK hZ g0 rfl 1 (by decide) (hts (.fieldLink RTerms 19 RTerms "count" "I") (hwMem mm_58)) (fun _ h => h) rfl dTerms_size_1 ?_
  exact hret hZ ⟨rfl, rfl⟩ dTerms_size_4
set_option maxHeartbeats 4000000 in
set_option maxRecDepth 100000 in
theorem c_Tm_at (l : Launch) (D : va_G) (K : Nat → ClassId) (X : hwW) (sz : Nat) (a : Nat) (k : Nat) (N : Nat) (ts : List (List Nat)) (j : Nat) (f0_ : tmAt K X a k N ts) (hj : j < 2147483648) : Met l yTerms_at (.code yTerms_at cTerms_at 2 (some .long) :: hwG) ({ frames := 0, cells := 0, slots := 0, locals := 0 } : Room) (hwPc D vwCl (hwT K) [.ref a, .int (nI j)] X sz) (hwQl D vwCl X sz (fun r Y => r = lN (eW (ts.getD j [])) ∧ X = Y)) 0 0 (va_A X.1 sz) := by
  refine hwMetl (cc := cTerms_at) (maxL := 2) (by decide) rfl (Nat.le_of_ble_eq_true rfl) (fun p e s m args below meth c ls A Q hx hb hml hown hts hname hret hK hO hZ hA hl => ?_)
  have hl : lv_has ls 2 [(0, .ref a), (1, .int (nI j))] := hl
  obtain ⟨q, f, g0, g1, hN, hM, hv, hk⟩ := f0_
  refine lv_iload_n hx hb dTerms_at_0 rfl (lv_at hl 1 rfl) ?_
  refine hw_if_lt (a := j) (tgt := 21) hx hb dTerms_at_1 (by decide) (by omega) (fun cq_1 => by exfalso; omega) (fun cq_1 => ?_)
  refine lv_iload_n hx hb dTerms_at_4 rfl (lv_at hl 1 rfl) ?_
  refine lv_aload_n hx hb dTerms_at_5 rfl (lv_at hl 0 rfl) ?_
  refine hw_get hx hb hts (hwInn inTerms) hown hK hZ g0 rfl 1 (by decide) (hts (.fieldLink RTerms 19 RTerms "count" "I") (hwMem mm_58)) (fun _ h => h) rfl dTerms_at_6 ?_
  refine hw_ic_ge (a := j) (b := ts.length) (tgt := 21) hx hb dTerms_at_9 (by decide) (by omega) (by omega) (fun cq_2 => ?_) (fun cq_2 => ?_)
  · refine lv_lconst (v := lN 0) hx hb dTerms_at_21 rfl ?_
    refine lv_goto (tgt := 31) hx hb dTerms_at_22 (by decide) ?_
    exact hret hZ ⟨by first | exact hv j (by omega) | (rw [getD_big (by omega)]; rfl), rfl⟩ dTerms_at_31
  · refine lv_iload_n hx hb dTerms_at_12 rfl (lv_at hl 1 rfl) ?_
    refine lv_aload_n hx hb dTerms_at_13 rfl (lv_at hl 0 rfl) ?_
    refine hw_get hx hb hts (hwInn inTerms) hown hK hZ g0 rfl 0 (by decide) (hts (.fieldLink RTerms 13 RTerms "terms" "[J") (hwMem mm_57)) (fun _ h => h) rfl dTerms_at_14 ?_
    refine hw_alen hx hb hK hZ 1 g1 rfl dTerms_at_17 ?_
    refine hw_ic_lt (a := j) (b := N) (tgt := 25) hx hb dTerms_at_18 (by decide) (by omega) (by omega) (fun cq_3 => ?_) (fun cq_3 => by exfalso; omega)
    refine lv_aload_n hx hb dTerms_at_25 rfl (lv_at hl 0 rfl) ?_
    refine hw_get hx hb hts (hwInn inTerms) hown hK hZ g0 rfl 0 (by decide) (hts (.fieldLink RTerms 13 RTerms "terms" "[J") (hwMem mm_57)) (fun _ h => h) rfl dTerms_at_26 ?_
    refine lv_iload_n hx hb dTerms_at_29 rfl (lv_at hl 1 rfl) ?_
    refine hw_lald hx hb hK hZ 1 g1 rfl (j := j) (by omega) (by omega) dTerms_at_30 ?_
    exact hret hZ ⟨by first | exact hv j (by omega) | (rw [getD_big (by omega)]; rfl), rfl⟩ dTerms_at_31
set_option maxHeartbeats 4000000 in
set_option maxRecDepth 100000 in
theorem c_Tm_atN (l : Launch) (D : va_G) (K : Nat → ClassId) (X : hwW) (sz : Nat) (a : Nat) (k : Nat) (N : Nat) (ts : List (List Nat)) (i : Int32) (f0_ : tmAt K X a k N ts) (hi : i < 0) : Met l yTerms_at (.code yTerms_at cTerms_at 2 (some .long) :: hwG) ({ frames := 0, cells := 0, slots := 0, locals := 0 } : Room) (hwPc D vwCl (hwT K) [.ref a, .int i] X sz) (hwQl D vwCl X sz (fun r Y => r = lN (eW []) ∧ X = Y)) 0 0 (va_A X.1 sz) := by
  refine hwMetl (cc := cTerms_at) (maxL := 2) (by decide) rfl (Nat.le_of_ble_eq_true rfl) (fun p e s m args below meth c ls A Q hx hb hml hown hts hname hret hK hO hZ hA hl => ?_)
  have hl : lv_has ls 2 [(0, .ref a), (1, .int i)] := hl
  obtain ⟨q, f, g0, g1, hN, hM, hv, hk⟩ := f0_
  refine lv_iload_n hx hb dTerms_at_0 rfl (lv_at hl 1 rfl) ?_
  refine lv_if_lt (tgt := 21) hx hb dTerms_at_1 (by decide) (fun cq_1 => ?_) (fun cq_1 => absurd hi cq_1)
  refine lv_lconst (v := lN 0) hx hb dTerms_at_21 rfl ?_
  refine lv_goto (tgt := 31) hx hb dTerms_at_22 (by decide) ?_
  exact hret hZ ⟨rfl, rfl⟩ dTerms_at_31
set_option maxHeartbeats 4000000 in
set_option maxRecDepth 100000 in
theorem c_Tm_clear (l : Launch) (D : va_G) (K : Nat → ClassId) (X : hwW) (sz : Nat) (a : Nat) (k : Nat) (N : Nat) (ts : List (List Nat)) (f0_ : tmAt K X a k N ts) : Met l yTerms_clear (.code yTerms_clear cTerms_clear 1 none :: hwG) ({ frames := 0, cells := 0, slots := 0, locals := 0 } : Room) (hwPc D vwCl (hwT K) [.ref a] X sz) (hwQv D vwCl X sz (fun Y => hwF X Y (fun M => M = 2 * k ∨ M = 2 * k + 1) ∧ tmAt K Y a k N [])) 0 0 (va_A X.1 sz) := by
  refine hwMetv (cc := cTerms_clear) (maxL := 1) (by decide) rfl (Nat.le_of_ble_eq_true rfl) (fun p e s m args below meth c ls A Q hx hb hml hown hts hname hret hK hO hZ hA hl => ?_)
  have hl : lv_has ls 1 [(0, .ref a)] := hl
  have hFr : hwF X X (fun M => M = 2 * k ∨ M = 2 * k + 1) := hwF.rf
  obtain ⟨q, f, g0, g1, hN, hM, hv, hk⟩ := f0_
  refine lv_aload_n hx hb dTerms_clear_0 rfl (lv_at hl 0 rfl) ?_
  refine lv_iconst (v := nI 0) hx hb dTerms_clear_1 (by decide) ?_
  refine hw_put (ty := .int) (fs' := [.ref q, .int (nI 0)]) hx hb hts (hwInn inTerms) tyTerms tyTerms_ok nmTerms hown hK hZ g0 rfl 1 (by decide) (hts (.fieldLink RTerms 19 RTerms "count" "I") (hwMem mm_58)) (fun _ h => h) rfl (by decide +kernel) rfl rfl (Nat.le_of_ble_eq_true rfl) rfl dTerms_clear_2 (fun X_1 H_2 lc_3 hZ hF hNw => ?_)
  have hFr := hwF.tr hFr hF (fun _ h => h) (fun M h => by first | exact False.elim h | ((try dsimp only at h ⊢); omega))
  have g0 := hNw
  have g1 := hF _ _ _ (by intro hNS; first | exact False.elim hNS | ((try dsimp only at hNS); omega)) g1
  exact hret hZ ⟨hFr, q, f, g0, g1, Nat.zero_le _, hM, lvec.nil, okWs.nil⟩ dTerms_clear_5
set_option maxHeartbeats 4000000 in
set_option maxRecDepth 100000 in
theorem c_Se_place (l : Launch) (D : va_G) (K : Nat → ClassId) (X : hwW) (sz : Nat) (a : Nat) (k : Nat) (N : Nat) (ts : List (List Nat)) (w : List Nat) (f0_ : seAt K X a k N ts) (hs : ts.Pairwise (· < ·)) (hw : okW w) : Met l yWordSet_placeOf (.code yWordSet_placeOf cWordSet_placeOf 7 (some .int) :: hwG) ({ frames := 1, cells := 0, slots := 0, locals := 21 } : Room) (hwPc D vwCl (hwT K) [.ref a, .long (lN (eW w))] X sz) (hwQi D vwCl X sz (fun r Y => ∃ p : Nat, r = nI p ∧ X = Y ∧ p ≤ ts.length ∧ (∀ j, j < p → ts.getD j [] < w) ∧ (∀ j, p ≤ j → j < ts.length → ¬ ts.getD j [] < w))) 0 0 (va_A X.1 sz) := by
  refine hwMeti (cc := cWordSet_placeOf) (maxL := 7) (by decide) rfl (Nat.le_of_ble_eq_true rfl) (fun p e s m args below meth c ls A Q hx hb hml hown hts hname hret hK hO hZ hA hl => ?_)
  have hl : lv_has ls 7 [(0, .ref a), (1, .long (lN (eW w)))] := hl
  have hT := f0_
  obtain ⟨q, f, g0, g1, hN, hM, hv, hk⟩ := f0_
  have hL2 := fun j => okWs.at hk j
  refine lv_iconst (v := nI 0) hx hb dWordSet_placeOf_0 (by decide) ?_
  refine lv_istore_n (lv' := [(3, .int (nI 0)), (0, .ref a), (1, .long (lN (eW w)))]) hx hb dWordSet_placeOf_1 rfl hl (by decide) rfl (fun ls hl => ?_)
  refine lv_aload_n hx hb dWordSet_placeOf_2 rfl (lv_at hl 1 rfl) ?_
  refine hw_get hx hb hts (hwInn inWordSet) hown hK hZ g0 rfl 1 (by decide) (hts (.fieldLink RWordSet 19 RWordSet "count" "I") (hwMem mm_54)) (fun _ h => h) rfl dWordSet_placeOf_3 ?_
  refine lv_istore (lv' := [(4, .int (nI ts.length)), (3, .int (nI 0)), (0, .ref a), (1, .long (lN (eW w)))]) hx hb dWordSet_placeOf_6 hl (by decide) rfl (fun ls hl => ?_)
  refine lv_iconst (v := nI 0) hx hb dWordSet_placeOf_8 (by decide) ?_
  refine lv_istore (lv' := [(5, .int (nI 0)), (4, .int (nI ts.length)), (3, .int (nI 0)), (0, .ref a), (1, .long (lN (eW w)))]) hx hb dWordSet_placeOf_9 hl (by decide) rfl (fun ls hl => ?_)
  have loop11 : ∀ (fuel : Nat) (st : Nat) (lo : Nat) (hi : Nat) (Hh : Heap) (lcs : List Loc) (ls : Array Slot), 32 - st < fuel → (st ≤ 32) → (lo ≤ hi) → (hi ≤ ts.length) → (hi - lo ≤ 3000 / 2 ^ st) → (∀ j, j < lo → ts.getD j [] < w) → (∀ j, hi ≤ j → j < ts.length → ¬ ts.getD j [] < w) → hwZ D vwCl A s.heap X Hh lcs → lv_has ls 7 [(5, .int (nI st)), (3, .int (nI lo)), (4, .int (nI hi)), (0, .ref a), (1, .long (lN (eW w)))] → W p l e ({ frames := 1, cells := 0, slots := 0, locals := 21 } : Room) s m args below meth c Hh lcs 0 0 Q (F0 m 11 ls []) := by
    intro fuel; induction fuel with
    | zero => intro st lo hi Hh lcs ls hfu; exact absurd hfu (Nat.not_lt_zero _)
    | succ fuel ih11 =>
      intro st lo hi Hh lcs ls hfu11 hst hlh hhl hd hA1 hA2 hZ hl
      refine lv_iload hx hb dWordSet_placeOf_11 (lv_at hl 0 rfl) ?_
      refine lv_bipush (v := nI 32) hx hb dWordSet_placeOf_13 (by decide) ?_
      refine hw_ic_ge (a := st) (b := 32) (tgt := 61) hx hb dWordSet_placeOf_15 (by decide) (by omega) (by omega) (fun cq_1 => ?_) (fun cq_1 => ?_)
      · refine lv_iload_n hx hb dWordSet_placeOf_61 rfl (lv_at hl 1 rfl) ?_
        exact hret hZ ⟨lo, rfl, rfl, by omega, hA1, fun j hj hj2 => hA2 j (by first | omega | (obtain rfl : st = 32 := (by omega); have h0 : 3000 / 2 ^ 32 = 0 := (by decide); omega)) hj2⟩ dWordSet_placeOf_62
      · refine lv_iload_n hx hb dWordSet_placeOf_18 rfl (lv_at hl 1 rfl) ?_
        refine lv_iload hx hb dWordSet_placeOf_19 (lv_at hl 2 rfl) ?_
        refine hw_ic_ge (a := lo) (b := hi) (tgt := 61) hx hb dWordSet_placeOf_21 (by decide) (by omega) (by omega) (fun cq_2 => ?_) (fun cq_2 => ?_)
        · refine lv_iload_n hx hb dWordSet_placeOf_61 rfl (lv_at hl 1 rfl) ?_
          exact hret hZ ⟨lo, rfl, rfl, by omega, hA1, fun j hj hj2 => hA2 j (by first | omega | (obtain rfl : st = 32 := (by omega); have h0 : 3000 / 2 ^ 32 = 0 := (by decide); omega)) hj2⟩ dWordSet_placeOf_62
        · refine lv_iload_n hx hb dWordSet_placeOf_24 rfl (lv_at hl 1 rfl) ?_
          refine lv_iload hx hb dWordSet_placeOf_25 (lv_at hl 2 rfl) ?_
          refine lv_iadd hx hb dWordSet_placeOf_27 ?_
          refine hw_topi (nI_add lo hi) ?_
          refine lv_iconst (v := nI 1) hx hb dWordSet_placeOf_28 (by decide) ?_
          refine lv_iushr hx hb dWordSet_placeOf_29 (pk_ushrN (n := lo + hi) (by omega) _ 1 (by decide)) ?_
          obtain ⟨mid, hmid⟩ : ∃ z, z = (lo + hi) / 2 ^ 1 := ⟨_, rfl⟩
          rw [← hmid]
          have hmid : mid = (lo + hi) / 2 := hmid
          have hm1 : lo ≤ mid := by omega
          have hm2 : mid < hi := by omega
          refine lv_istore (lv' := [(6, .int (nI mid)), (5, .int (nI st)), (3, .int (nI lo)), (4, .int (nI hi)), (0, .ref a), (1, .long (lN (eW w)))]) hx hb dWordSet_placeOf_30 hl (by decide) rfl (fun ls hl => ?_)
          refine lv_aload_n hx hb dWordSet_placeOf_32 rfl (lv_at hl 4 rfl) ?_
          refine lv_iload hx hb dWordSet_placeOf_33 (lv_at hl 0 rfl) ?_
          refine hw_calll (va_runV (As := [.int (nI mid)]) (rest := []) ⟨hx, hb, hml, hown, hts⟩ (c_Se_at l D K X Hh.size (a := a) (k := k) (N := N) (ts := ts) (j := mid) hT (by omega)) (cwV 1 hts (hwGood (hw_4 mm_60 mm_61 mm_62 mm_63 (hwAll mm_59))) rfl rfl rfl (by decide +kernel) ⟨Nat.le_of_ble_eq_true rfl, Nat.le_of_ble_eq_true rfl⟩) (hw_preV hK hO hZ (⟨_, _, g0⟩) rfl) rfl rfl hl.1 rfl (lv_room (Nat.le_of_ble_eq_true rfl)) dWordSet_placeOf_35 ⟨(show 0 + 0 ≤ 0 by omega), (show 0 + 0 ≤ 0 by omega)⟩) hZ hA (fun r X_3 H_4 lc_5 hp hZ => ?_)
          obtain ⟨hr, hy⟩ := hp
          subst hy
          refine hw_topl hr ?_
          refine lv_lload_n hx hb dWordSet_placeOf_38 rfl (lv_at hl 5 rfl) ?_
          refine hw_lc_ge (a := eW (ts.getD mid [])) (b := eW w) (tgt := 51) hx hb dWordSet_placeOf_39 dWordSet_placeOf_40 (by decide) (by first | exact eW_lt63 (by assumption) | exact eW_lt63 (hL2 _)) (by first | exact eW_lt63 (by assumption) | exact eW_lt63 (hL2 _)) (fun cq_6 => ?_) (fun cq_6 => ?_)
          · refine lv_iload hx hb dWordSet_placeOf_51 (lv_at hl 0 rfl) ?_
            refine lv_istore (lv' := [(4, .int (nI mid)), (6, .int (nI mid)), (5, .int (nI st)), (3, .int (nI lo)), (0, .ref a), (1, .long (lN (eW w)))]) hx hb dWordSet_placeOf_53 hl (by decide) rfl (fun ls hl => ?_)
            refine lv_iinc (v := nI (st + 1)) (lv' := [(5, .int (nI (st + 1))), (4, .int (nI mid)), (6, .int (nI mid)), (3, .int (nI lo)), (0, .ref a), (1, .long (lN (eW w)))]) hx hb dWordSet_placeOf_55 hl (k := 2) rfl (nI_add _ 1) (by decide) rfl (fun ls hl => ?_)
            refine lv_goto (tgt := 11) hx hb dWordSet_placeOf_58 (by decide) ?_
            exact ih11 (st + 1) lo mid _ _ _ (by omega) (by omega) (by omega) (by omega) (hw_halve hd (by omega)) hA1 (fun j hj hj2 q => Nat.not_lt.mpr cq_6 ((eW_lex (hL2 mid) hw).mpr (sorted_from hs hj hj2 q)))  hZ (lv_sub hl [0, 3, 1, 4, 5] rfl)
          · refine lv_iload hx hb dWordSet_placeOf_43 (lv_at hl 0 rfl) ?_
            refine lv_iconst (v := nI 1) hx hb dWordSet_placeOf_45 (by decide) ?_
            refine lv_iadd hx hb dWordSet_placeOf_46 ?_
            refine hw_topi (nI_add mid 1) ?_
            refine lv_istore_n (lv' := [(3, .int (nI (mid + 1))), (6, .int (nI mid)), (5, .int (nI st)), (4, .int (nI hi)), (0, .ref a), (1, .long (lN (eW w)))]) hx hb dWordSet_placeOf_47 rfl hl (by decide) rfl (fun ls hl => ?_)
            refine lv_goto (tgt := 55) hx hb dWordSet_placeOf_48 (by decide) ?_
            refine lv_iinc (v := nI (st + 1)) (lv' := [(5, .int (nI (st + 1))), (3, .int (nI (mid + 1))), (6, .int (nI mid)), (4, .int (nI hi)), (0, .ref a), (1, .long (lN (eW w)))]) hx hb dWordSet_placeOf_55 hl (k := 2) rfl (nI_add _ 1) (by decide) rfl (fun ls hl => ?_)
            refine lv_goto (tgt := 11) hx hb dWordSet_placeOf_58 (by decide) ?_
            exact ih11 (st + 1) (mid + 1) hi _ _ _ (by omega) (by omega) (by omega) (by omega) (hw_halve hd (by omega)) (fun j hj => sorted_upto hs ((eW_lex (hL2 mid) hw).mp cq_6) (by omega) (by omega)) hA2  hZ (lv_sub hl [0, 1, 3, 4, 5] rfl)
  exact loop11 (32 - 0 + 1) 0 0 ts.length _ _ _ (by omega) (by omega) (by omega) (by omega) (by show _ ≤ 3000 / 1; omega) (fun j hj => absurd hj (Nat.not_lt_zero _)) (fun j hj hj2 => absurd hj2 (by omega))  hZ (lv_sub hl [0, 2, 1, 3, 4] rfl)
set_option maxHeartbeats 4000000 in
set_option maxRecDepth 100000 in
theorem c_Se_has (l : Launch) (D : va_G) (K : Nat → ClassId) (X : hwW) (sz : Nat) (a : Nat) (k : Nat) (N : Nat) (ts : List (List Nat)) (w : List Nat) (f0_ : seAt K X a k N ts) (hs : ts.Pairwise (· < ·)) (hw : okW w) : Met l yWordSet_has (.code yWordSet_has cWordSet_has 4 (some .boolean) :: hwG) ({ frames := 2, cells := 0, slots := 0, locals := 47 } : Room) (hwPc D vwCl (hwT K) [.ref a, .long (lN (eW w))] X sz) (hwQi D vwCl X sz (fun r Y => r = bI (decide (w ∈ ts)) ∧ X = Y)) 0 0 (va_A X.1 sz) := by
  refine hwMetz (cc := cWordSet_has) (maxL := 4) (by decide) rfl (Nat.le_of_ble_eq_true rfl) (fun p e s m args below meth c ls A Q hx hb hml hown hts hname hret hK hO hZ hA hl => ?_)
  have hl : lv_has ls 4 [(0, .ref a), (1, .long (lN (eW w)))] := hl
  have hT := f0_
  obtain ⟨q, f, g0, g1, hN, hM, hv, hk⟩ := f0_
  have hL2 := fun j => okWs.at hk j
  refine lv_aload_n hx hb dWordSet_has_0 rfl (lv_at hl 0 rfl) ?_
  refine lv_lload_n hx hb dWordSet_has_1 rfl (lv_at hl 1 rfl) ?_
  refine hw_calli (va_runV (As := [.long (lN (eW w))]) (rest := []) ⟨hx, hb, hml, hown, hts⟩ (c_Se_place l D K X s.heap.size (a := a) (k := k) (N := N) (ts := ts) (w := w) hT (by assumption) (by assumption)) (cwV 1 hts (hwGood (hw_4 mm_65 mm_66 mm_67 mm_63 (hwAll mm_64))) rfl rfl rfl (by decide +kernel) ⟨Nat.le_of_ble_eq_true rfl, Nat.le_of_ble_eq_true rfl⟩) (hw_preV hK hO hZ (⟨_, _, g0⟩) rfl) rfl rfl hl.1 rfl (lv_room (Nat.le_of_ble_eq_true rfl)) dWordSet_has_2 ⟨(show 0 + 0 ≤ 0 by omega), (show 0 + 0 ≤ 0 by omega)⟩) hZ hA (fun r X_1 H_2 lc_3 hp hZ => ?_)
  obtain ⟨pz_4, hr, hy, xx_5, xx_6, xx_7⟩ := hp
  subst hy
  refine hw_topi hr ?_
  refine lv_istore_n (lv' := [(3, .int (nI pz_4)), (0, .ref a), (1, .long (lN (eW w)))]) hx hb dWordSet_has_5 rfl hl (by decide) rfl (fun ls hl => ?_)
  refine lv_iload_n hx hb dWordSet_has_6 rfl (lv_at hl 0 rfl) ?_
  refine lv_aload_n hx hb dWordSet_has_7 rfl (lv_at hl 1 rfl) ?_
  refine hw_get hx hb hts (hwInn inWordSet) hown hK hZ g0 rfl 1 (by decide) (hts (.fieldLink RWordSet 19 RWordSet "count" "I") (hwMem mm_54)) (fun _ h => h) rfl dWordSet_has_8 ?_
  refine hw_ic_ge (a := pz_4) (b := ts.length) (tgt := 28) hx hb dWordSet_has_11 (by decide) (by omega) (by omega) (fun cq_8 => ?_) (fun cq_8 => ?_)
  · refine lv_iconst (v := nI 0) hx hb dWordSet_has_28 (by decide) ?_
    exact hret (by decide) hZ ⟨by rw [decide_eq_false (not_mem_place hs xx_6 xx_7 (fun hlt he => absurd hlt (by omega)))]; rfl, rfl⟩ dWordSet_has_29
  · refine lv_aload_n hx hb dWordSet_has_14 rfl (lv_at hl 1 rfl) ?_
    refine lv_iload_n hx hb dWordSet_has_15 rfl (lv_at hl 0 rfl) ?_
    refine hw_calll (va_runV (As := [.int (nI pz_4)]) (rest := []) ⟨hx, hb, hml, hown, hts⟩ (c_Se_at l D K X H_2.size (a := a) (k := k) (N := N) (ts := ts) (j := pz_4) hT (by omega)) (cwV 1 hts (hwGood (hw_4 mm_60 mm_61 mm_62 mm_63 (hwAll mm_59))) rfl rfl rfl (by decide +kernel) ⟨Nat.le_of_ble_eq_true rfl, Nat.le_of_ble_eq_true rfl⟩) (hw_preV hK hO hZ (⟨_, _, g0⟩) rfl) rfl rfl hl.1 rfl (lv_room (Nat.le_of_ble_eq_true rfl)) dWordSet_has_16 ⟨(show 0 + 0 ≤ 0 by omega), (show 0 + 0 ≤ 0 by omega)⟩) hZ hA (fun r X_9 H_10 lc_11 hp hZ => ?_)
    obtain ⟨hr, hy⟩ := hp
    subst hy
    refine hw_topl hr ?_
    refine lv_lload_n hx hb dWordSet_has_19 rfl (lv_at hl 2 rfl) ?_
    refine hw_lc_ne (a := eW (ts.getD pz_4 [])) (b := eW w) (tgt := 28) hx hb dWordSet_has_20 dWordSet_has_21 (by decide) (by first | exact eW_lt63 (by assumption) | exact eW_lt63 (hL2 _)) (by first | exact eW_lt63 (by assumption) | exact eW_lt63 (hL2 _)) (fun cq_12 => ?_) (fun cq_12 => ?_)
    · refine lv_iconst (v := nI 0) hx hb dWordSet_has_28 (by decide) ?_
      exact hret (by decide) hZ ⟨by rw [decide_eq_false (not_mem_place hs xx_6 xx_7 (fun hlt he => cq_12 ((eW_inj (hL2 _) hw).mpr he)))]; rfl, rfl⟩ dWordSet_has_29
    · refine lv_iconst (v := nI 1) hx hb dWordSet_has_24 (by decide) ?_
      refine lv_goto (tgt := 29) hx hb dWordSet_has_25 (by decide) ?_
      exact hret (by decide) hZ ⟨by rw [decide_eq_true (mem_of_getD (by omega) ((eW_inj (hL2 _) hw).mp cq_12))]; rfl, rfl⟩ dWordSet_has_29
set_option maxHeartbeats 4000000 in
set_option maxRecDepth 100000 in
theorem c_Se_add (l : Launch) (D : va_G) (K : Nat → ClassId) (X : hwW) (sz : Nat) (a : Nat) (k : Nat) (N : Nat) (ts : List (List Nat)) (w : List Nat) (f0_ : seAt K X a k N ts) (hs : ts.Pairwise (· < ·)) (hw : okW w) (hn0 : 1 ≤ w.length) : Met l yWordSet_add (.code yWordSet_add cWordSet_add 4 none :: hwG) ({ frames := 2, cells := 0, slots := 0, locals := 47 } : Room) (hwPc D vwCl (hwT K) [.ref a, .long (lN (eW w))] X sz) (hwQv D vwCl X sz (fun Y => hwF X Y (fun M => M = 2 * k ∨ M = 2 * k + 1) ∧ seAt K Y a k N (insS N ts w))) 0 0 (va_A X.1 sz) := by
  refine hwMetv (cc := cWordSet_add) (maxL := 4) (by decide) rfl (Nat.le_of_ble_eq_true rfl) (fun p e s m args below meth c ls A Q hx hb hml hown hts hname hret hK hO hZ hA hl => ?_)
  have hl : lv_has ls 4 [(0, .ref a), (1, .long (lN (eW w)))] := hl
  have hFr : hwF X X (fun M => M = 2 * k ∨ M = 2 * k + 1) := hwF.rf
  have hT := f0_
  obtain ⟨q, f, g0, g1, hN, hM, hv, hk⟩ := f0_
  have hL2 := fun j => okWs.at hk j
  refine lv_aload_n hx hb dWordSet_add_0 rfl (lv_at hl 0 rfl) ?_
  refine lv_lload_n hx hb dWordSet_add_1 rfl (lv_at hl 1 rfl) ?_
  refine hw_calli (va_runV (As := [.long (lN (eW w))]) (rest := []) ⟨hx, hb, hml, hown, hts⟩ (c_Se_place l D K X s.heap.size (a := a) (k := k) (N := N) (ts := ts) (w := w) hT (by assumption) (by assumption)) (cwV 1 hts (hwGood (hw_4 mm_65 mm_66 mm_67 mm_63 (hwAll mm_64))) rfl rfl rfl (by decide +kernel) ⟨Nat.le_of_ble_eq_true rfl, Nat.le_of_ble_eq_true rfl⟩) (hw_preV hK hO hZ (⟨_, _, g0⟩) rfl) rfl rfl hl.1 rfl (lv_room (Nat.le_of_ble_eq_true rfl)) dWordSet_add_2 ⟨(show 0 + 0 ≤ 0 by omega), (show 0 + 0 ≤ 0 by omega)⟩) hZ hA (fun r X_1 H_2 lc_3 hp hZ => ?_)
  obtain ⟨pz_4, hr, hy, xx_5, xx_6, xx_7⟩ := hp
  subst hy
  refine hw_topi hr ?_
  refine lv_istore_n (lv' := [(3, .int (nI pz_4)), (0, .ref a), (1, .long (lN (eW w)))]) hx hb dWordSet_add_5 rfl hl (by decide) rfl (fun ls hl => ?_)
  refine lv_aload_n hx hb dWordSet_add_6 rfl (lv_at hl 1 rfl) ?_
  refine hw_get hx hb hts (hwInn inWordSet) hown hK hZ g0 rfl 1 (by decide) (hts (.fieldLink RWordSet 19 RWordSet "count" "I") (hwMem mm_54)) (fun _ h => h) rfl dWordSet_add_7 ?_
  refine lv_aload_n hx hb dWordSet_add_10 rfl (lv_at hl 1 rfl) ?_
  refine hw_get hx hb hts (hwInn inWordSet) hown hK hZ g0 rfl 0 (by decide) (hts (.fieldLink RWordSet 13 RWordSet "words" "[J") (hwMem mm_53)) (fun _ h => h) rfl dWordSet_add_11 ?_
  refine hw_alen hx hb hK hZ 1 g1 rfl dWordSet_add_14 ?_
  refine hw_ic_ge (a := ts.length) (b := N) (tgt := 36) hx hb dWordSet_add_15 (by decide) (by omega) (by omega) (fun cq_8 => ?_) (fun cq_8 => ?_)
  · exact hret hZ (by rw [insS_full (by omega)]; exact ⟨hFr, hT⟩) dWordSet_add_36
  · refine lv_iload_n hx hb dWordSet_add_18 rfl (lv_at hl 0 rfl) ?_
    refine lv_aload_n hx hb dWordSet_add_19 rfl (lv_at hl 1 rfl) ?_
    refine hw_get hx hb hts (hwInn inWordSet) hown hK hZ g0 rfl 1 (by decide) (hts (.fieldLink RWordSet 19 RWordSet "count" "I") (hwMem mm_54)) (fun _ h => h) rfl dWordSet_add_20 ?_
    refine hw_ic_gt (a := pz_4) (b := ts.length) (tgt := 36) hx hb dWordSet_add_23 (by decide) (by omega) (by omega) (fun cq_9 => by exfalso; omega) (fun cq_9 => ?_)
    refine lv_aload_n hx hb dWordSet_add_26 rfl (lv_at hl 1 rfl) ?_
    refine lv_iload_n hx hb dWordSet_add_27 rfl (lv_at hl 0 rfl) ?_
    refine hw_calll (va_runV (As := [.int (nI pz_4)]) (rest := []) ⟨hx, hb, hml, hown, hts⟩ (c_Se_at l D K X H_2.size (a := a) (k := k) (N := N) (ts := ts) (j := pz_4) hT (by omega)) (cwV 1 hts (hwGood (hw_4 mm_60 mm_61 mm_62 mm_63 (hwAll mm_59))) rfl rfl rfl (by decide +kernel) ⟨Nat.le_of_ble_eq_true rfl, Nat.le_of_ble_eq_true rfl⟩) (hw_preV hK hO hZ (⟨_, _, g0⟩) rfl) rfl rfl hl.1 rfl (lv_room (Nat.le_of_ble_eq_true rfl)) dWordSet_add_28 ⟨(show 0 + 0 ≤ 0 by omega), (show 0 + 0 ≤ 0 by omega)⟩) hZ hA (fun r X_10 H_11 lc_12 hp hZ => ?_)
    obtain ⟨hr, hy⟩ := hp
    subst hy
    refine hw_topl hr ?_
    refine lv_lload_n hx hb dWordSet_add_31 rfl (lv_at hl 2 rfl) ?_
    refine hw_lc_ne (a := eW (ts.getD pz_4 [])) (b := eW w) (tgt := 37) hx hb dWordSet_add_32 dWordSet_add_33 (by decide) (by first | exact eW_lt63 (by assumption) | exact eW_lt63 (hL2 _)) (by first | exact eW_lt63 (by assumption) | exact eW_lt63 (hL2 _)) (fun cq_13 => ?_) (fun cq_13 => ?_)
    · refine lv_aload_n hx hb dWordSet_add_37 rfl (lv_at hl 1 rfl) ?_
      refine hw_get hx hb hts (hwInn inWordSet) hown hK hZ g0 rfl 0 (by decide) (hts (.fieldLink RWordSet 13 RWordSet "words" "[J") (hwMem mm_53)) (fun _ h => h) rfl dWordSet_add_38 ?_
      refine lv_iload_n hx hb dWordSet_add_41 rfl (lv_at hl 0 rfl) ?_
      refine lv_aload_n hx hb dWordSet_add_42 rfl (lv_at hl 1 rfl) ?_
      refine hw_get hx hb hts (hwInn inWordSet) hown hK hZ g0 rfl 0 (by decide) (hts (.fieldLink RWordSet 13 RWordSet "words" "[J") (hwMem mm_53)) (fun _ h => h) rfl dWordSet_add_43 ?_
      refine lv_iload_n hx hb dWordSet_add_46 rfl (lv_at hl 0 rfl) ?_
      refine lv_iconst (v := nI 1) hx hb dWordSet_add_47 (by decide) ?_
      refine lv_iadd hx hb dWordSet_add_48 ?_
      refine hw_topi (nI_add pz_4 1) ?_
      refine lv_aload_n hx hb dWordSet_add_49 rfl (lv_at hl 1 rfl) ?_
      refine hw_get hx hb hts (hwInn inWordSet) hown hK hZ g0 rfl 1 (by decide) (hts (.fieldLink RWordSet 19 RWordSet "count" "I") (hwMem mm_54)) (fun _ h => h) rfl dWordSet_add_50 ?_
      refine lv_iload_n hx hb dWordSet_add_53 rfl (lv_at hl 0 rfl) ?_
      refine lv_isub hx hb dWordSet_add_54 ?_
      refine hw_topi (pk_sub (a := ts.length) (b := pz_4) (by omega)) ?_
      refine hw_copyl (sp := pz_4) (dp := pz_4 + 1) (n := ts.length - pz_4) hx hb (hml.trans hl.1.symm) hown (hts (.methodLink RWordSet 31 arraycopyName) (hwMem mm_68)) (hts (.native arraycopyName) (hwMem mm_27)) (hts (.static arraycopyName) (hwMem mm_28)) (hts (.initialized "java/lang/System") (hwMem mm_29)) hK hZ 1 1 g1 g1 rfl rfl (by omega) (by omega) (by omega) (by omega) (Nat.le_of_ble_eq_true rfl) (Nat.le_of_ble_eq_true rfl) dWordSet_add_55 (fun X_14 H_15 lc_16 hZ hF hNw => ?_)
      have hFr := hwF.tr hFr hF (fun _ h => h) (fun M h => by first | exact False.elim h | ((try dsimp only at h ⊢); omega))
      have g0 := hF _ _ _ (by intro hNS; first | exact False.elim hNS | ((try dsimp only at hNS); omega)) g0
      have g1 := hNw
      refine lv_aload_n hx hb dWordSet_add_58 rfl (lv_at hl 1 rfl) ?_
      refine hw_get hx hb hts (hwInn inWordSet) hown hK hZ g0 rfl 0 (by decide) (hts (.fieldLink RWordSet 13 RWordSet "words" "[J") (hwMem mm_53)) (fun _ h => h) rfl dWordSet_add_59 ?_
      refine lv_iload_n hx hb dWordSet_add_62 rfl (lv_at hl 0 rfl) ?_
      refine lv_lload_n hx hb dWordSet_add_63 rfl (lv_at hl 2 rfl) ?_
      refine hw_last hx hb hK hZ 1 g1 rfl (j := pz_4) (by omega) (by omega) dWordSet_add_64 (fun X_17 H_18 lc_19 hZ hF hNw => ?_)
      have hFr := hwF.tr hFr hF (fun _ h => h) (fun M h => by first | exact False.elim h | ((try dsimp only at h ⊢); omega))
      have g0 := hF _ _ _ (by intro hNS; first | exact False.elim hNS | ((try dsimp only at hNS); omega)) g0
      have g1 := hNw
      refine lv_aload_n hx hb dWordSet_add_65 rfl (lv_at hl 1 rfl) ?_
      refine lv_dup hx hb dWordSet_add_66 rfl ?_
      refine hw_get hx hb hts (hwInn inWordSet) hown hK hZ g0 rfl 1 (by decide) (hts (.fieldLink RWordSet 19 RWordSet "count" "I") (hwMem mm_54)) (fun _ h => h) rfl dWordSet_add_67 ?_
      refine lv_iconst (v := nI 1) hx hb dWordSet_add_70 (by decide) ?_
      refine lv_iadd hx hb dWordSet_add_71 ?_
      refine hw_topi (nI_add ts.length 1) ?_
      refine hw_put (ty := .int) (fs' := [.ref q, .int (nI (ts.length + 1))]) hx hb hts (hwInn inWordSet) tyWordSet tyWordSet_ok nmWordSet hown hK hZ g0 rfl 1 (by decide) (hts (.fieldLink RWordSet 19 RWordSet "count" "I") (hwMem mm_54)) (fun _ h => h) rfl (by decide +kernel) rfl rfl (Nat.le_of_ble_eq_true rfl) rfl dWordSet_add_72 (fun X_20 H_21 lc_22 hZ hF hNw => ?_)
      have hFr := hwF.tr hFr hF (fun _ h => h) (fun M h => by first | exact False.elim h | ((try dsimp only at h ⊢); omega))
      have g0 := hNw
      have g1 := hF _ _ _ (by intro hNS; first | exact False.elim hNS | ((try dsimp only at hNS); omega)) g1
      exact hret hZ (by rw [insS_new (by omega) (not_mem_place hs xx_6 xx_7 (fun _ he => cq_13 ((eW_inj (hL2 _) hw).mpr he))), ins_place xx_6 xx_7 (by omega)]; exact ⟨hFr, q, _, by rw [ins_len (by omega)]; exact g0, g1, by rw [ins_len (by omega)]; omega, hM, lvec.ins hv (by omega), okWs.ins hk hw⟩) dWordSet_add_75
    · exact hret hZ (by rw [insS_mem (mem_of_getD (nn_getD hn0 ((eW_inj (hL2 _) hw).mp cq_13)) ((eW_inj (hL2 _) hw).mp cq_13))]; exact ⟨hFr, hT⟩) dWordSet_add_36
set_option maxHeartbeats 4000000 in
set_option maxRecDepth 100000 in
theorem c_Tm_read (l : Launch) (D : va_G) (K : Nat → ClassId) (X : hwW) (sz : Nat) (a : Nat) (k : Nat) (N : Nat) (ts : List (List Nat)) (t : Nat) (kt : Nat) (ws : List (List Nat)) (o : Nat) (s0 : Nat) (ks : Nat) (Ns : Nat) (ss : List (List Nat)) (g : Nat) (f0_ : tmAt K X a k N ts) (f1_ : txAt K X t kt ws o) (f2_ : seAt K X s0 ks Ns ss) (hkt : kt ≠ k) (hks : ks ≠ k) (hg : g < 3) (hwN : ws.length ≤ N) (hne : ∀ w ∈ ws, 1 ≤ w.length) (hs : ss.Pairwise (· < ·)) : Met l yTerms_read (.code yTerms_read cTerms_read 7 none :: hwG) ({ frames := 4, cells := 0, slots := 0, locals := 89 } : Room) (hwPc D vwCl (hwT K) [.ref a, .ref t, .int (nI g), .ref s0] X sz) (hwQv D vwCl X sz (fun Y => hwF X Y (fun M => M = 2 * k ∨ M = 2 * k + 1) ∧ tmAt K Y a k N (ws.map (trm g ss)))) 0 0 (va_A X.1 sz) := by
  refine hwMetv (cc := cTerms_read) (maxL := 7) (by decide) rfl (Nat.le_of_ble_eq_true rfl) (fun p e s m args below meth c ls A Q hx hb hml hown hts hname hret hK hO hZ hA hl => ?_)
  have hl : lv_has ls 7 [(0, .ref a), (1, .ref t), (2, .int (nI g)), (3, .ref s0)] := hl
  have hFr : hwF X X (fun M => M = 2 * k ∨ M = 2 * k + 1) := hwF.rf
  obtain ⟨q, f, g0, g1, hN, hM, hv, hk⟩ := f0_
  have hW2 := fun j => okWs.at (txAt.oks f1_) j
  have hW1 := fun j (hj : j < ws.length) => ne_getD hne hj
  refine lv_aload_n hx hb dTerms_read_0 rfl (lv_at hl 0 rfl) ?_
  refine lv_aload_n hx hb dTerms_read_1 rfl (lv_at hl 1 rfl) ?_
  refine hw_calli (va_runV (As := []) (rest := [.ref a]) ⟨hx, hb, hml, hown, hts⟩ (c_Tx_size l D K X s.heap.size (a := t) (k := kt) (ws := ws) (o := o) f1_) (cwV 0 hts (hwGood (hw_4 mm_70 mm_71 mm_72 mm_45 (hwAll mm_69))) rfl rfl rfl (by decide +kernel) ⟨Nat.le_of_ble_eq_true rfl, Nat.le_of_ble_eq_true rfl⟩) (hw_preV hK hO hZ (txAt.ob f1_) rfl) rfl rfl hl.1 rfl (lv_room (Nat.le_of_ble_eq_true rfl)) dTerms_read_2 ⟨(show 0 + 0 ≤ 0 by omega), (show 0 + 0 ≤ 0 by omega)⟩) hZ hA (fun r X_1 H_2 lc_3 hp hZ => ?_)
  obtain ⟨hr, hy⟩ := hp
  subst hy
  refine hw_topi hr ?_
  refine lv_aload_n hx hb dTerms_read_5 rfl (lv_at hl 0 rfl) ?_
  refine hw_get hx hb hts (hwInn inTerms) hown hK hZ g0 rfl 0 (by decide) (hts (.fieldLink RTerms 13 RTerms "terms" "[J") (hwMem mm_57)) (fun _ h => h) rfl dTerms_read_6 ?_
  refine hw_alen hx hb hK hZ 1 g1 rfl dTerms_read_9 ?_
  refine va_mmin hx hb (hml.trans hl.1.symm) hown (hts (.methodLink RTerms 29 Lib.Math.min.name) (hwMem mm_73)) (hts (.static Lib.Math.min.name) (hwMem mm_18)) (hts (.initialized "java/lang/Math") (hwMem mm_19)) (hts (.code Lib.Math.min.name Lib.Math.min.code 2 (some .int)) (hwMem mm_20)) (Nat.le_of_ble_eq_true rfl) (Nat.le_of_ble_eq_true rfl) (show 0 ≤ 0 by omega) (show 0 ≤ 0 by omega) dTerms_read_10 ?_
  refine hw_topi (hw_nmin (a := ws.length) (b := N) (by omega) (by omega)) ?_
  refine hw_topi (congrArg nI (Nat.min_eq_left (by omega))) ?_
  refine hw_put (ty := .int) (fs' := [.ref q, .int (nI ws.length)]) hx hb hts (hwInn inTerms) tyTerms tyTerms_ok nmTerms hown hK hZ g0 rfl 1 (by decide) (hts (.fieldLink RTerms 19 RTerms "count" "I") (hwMem mm_58)) (fun _ h => h) rfl (by decide +kernel) rfl rfl (Nat.le_of_ble_eq_true rfl) rfl dTerms_read_13 (fun X_4 H_5 lc_6 hZ hF hNw => ?_)
  have hFr := hwF.tr hFr hF (fun _ h => h) (fun M h => by first | exact False.elim h | ((try dsimp only at h ⊢); omega))
  have f1_ := txAt.fr hF (by intro hNS; first | exact False.elim hNS | ((try dsimp only at hNS); omega)) (by intro hNS; first | exact False.elim hNS | ((try dsimp only at hNS); omega)) f1_
  have f2_ := seAt.fr hF (by intro hNS; first | exact False.elim hNS | ((try dsimp only at hNS); omega)) (by intro hNS; first | exact False.elim hNS | ((try dsimp only at hNS); omega)) f2_
  have g0 := hNw
  have g1 := hF _ _ _ (by intro hNS; first | exact False.elim hNS | ((try dsimp only at hNS); omega)) g1
  refine lv_iconst (v := nI 0) hx hb dTerms_read_16 (by decide) ?_
  refine lv_istore (lv' := [(4, .int (nI 0)), (0, .ref a), (1, .ref t), (2, .int (nI g)), (3, .ref s0)]) hx hb dTerms_read_17 hl (by decide) rfl (fun ls hl => ?_)
  have loop19 : ∀ (fuel : Nat) (i : Nat) (h : Nat → Int64) (XL19 : hwW) (Hh : Heap) (lcs : List Loc) (ls : Array Slot), ws.length - i < fuel → (i ≤ ws.length) → (∀ p, p < i → h p = lN (eW (trm g ss (ws.getD p [])))) → (hwF X XL19 (fun M => M = 2 * k ∨ M = 2 * k + 1)) → (hwH XL19 a (2 * k) (.inr (2, [.ref q, .int (nI ws.length)]))) → (hwH XL19 q (2 * k + 1) (.inl (K 1, N, .inr (.inl h)))) → (txAt K XL19 t kt ws o) → (seAt K XL19 s0 ks Ns ss) → hwZ D vwCl A s.heap XL19 Hh lcs → lv_has ls 7 [(4, .int (nI i)), (0, .ref a), (1, .ref t), (2, .int (nI g)), (3, .ref s0)] → W p l e ({ frames := 4, cells := 0, slots := 0, locals := 89 } : Room) s m args below meth c Hh lcs 0 0 Q (F0 m 19 ls []) := by
    intro fuel; induction fuel with
    | zero => intro i h XL19 Hh lcs ls hfu; exact absurd hfu (Nat.not_lt_zero _)
    | succ fuel ih19 =>
      intro i h XL19 Hh lcs ls hfu19 hi hh hFr g0 g1 f1_ f2_ hZ hl
      refine lv_iload hx hb dTerms_read_19 (lv_at hl 0 rfl) ?_
      refine lv_aload_n hx hb dTerms_read_21 rfl (lv_at hl 1 rfl) ?_
      refine hw_get hx hb hts (hwInn inTerms) hown hK hZ g0 rfl 1 (by decide) (hts (.fieldLink RTerms 19 RTerms "count" "I") (hwMem mm_58)) (fun _ h => h) rfl dTerms_read_22 ?_
      refine hw_ic_ge (a := i) (b := ws.length) (tgt := 68) hx hb dTerms_read_25 (by decide) (by omega) (by omega) (fun cq_7 => ?_) (fun cq_7 => ?_)
      · exact hret hZ ⟨hFr, q, h, by rw [List.length_map]; exact g0, g1, by rw [List.length_map]; omega, hM, fun p hp => by rw [List.length_map] at hp; rw [getD_map hp]; exact hh p (by omega), fun v hv0 => by obtain ⟨u, hu, rfl⟩ := List.mem_map.mp hv0; exact okW_trm (txAt.oks f1_ u hu) g ss⟩ dTerms_read_68
      · refine lv_aload_n hx hb dTerms_read_28 rfl (lv_at hl 2 rfl) ?_
        refine lv_iload hx hb dTerms_read_29 (lv_at hl 0 rfl) ?_
        refine hw_calll (va_runV (As := [.int (nI i)]) (rest := []) ⟨hx, hb, hml, hown, hts⟩ (c_Tx_at l D K XL19 Hh.size (a := t) (k := kt) (ws := ws) (o := o) (j := i) f1_ (by omega)) (cwV 1 hts (hwGood (hw_4 mm_75 mm_76 mm_77 mm_45 (hwAll mm_74))) rfl rfl rfl (by decide +kernel) ⟨Nat.le_of_ble_eq_true rfl, Nat.le_of_ble_eq_true rfl⟩) (hw_preV hK hO hZ (txAt.ob f1_) rfl) rfl rfl hl.1 rfl (lv_room (Nat.le_of_ble_eq_true rfl)) dTerms_read_31 ⟨(show 0 + 0 ≤ 0 by omega), (show 0 + 0 ≤ 0 by omega)⟩) hZ hA (fun r X_8 H_9 lc_10 hp hZ => ?_)
        obtain ⟨hr, hy⟩ := hp
        subst hy
        refine hw_topl hr ?_
        refine lv_lstore (lv' := [(5, .long (lN (eW (ws.getD i [])))), (4, .int (nI i)), (0, .ref a), (1, .ref t), (2, .int (nI g)), (3, .ref s0)]) hx hb dTerms_read_34 hl (by decide) rfl (fun ls hl => ?_)
        refine lv_aload_n hx hb dTerms_read_36 rfl (lv_at hl 2 rfl) ?_
        refine hw_get hx hb hts (hwInn inTerms) hown hK hZ g0 rfl 0 (by decide) (hts (.fieldLink RTerms 13 RTerms "terms" "[J") (hwMem mm_57)) (fun _ h => h) rfl dTerms_read_37 ?_
        refine lv_iload hx hb dTerms_read_40 (lv_at hl 1 rfl) ?_
        refine lv_aload_n hx hb dTerms_read_42 rfl (lv_at hl 5 rfl) ?_
        refine lv_lload hx hb dTerms_read_43 (lv_at hl 0 rfl) ?_
        refine hw_calli (va_runV (As := [.long (lN (eW (ws.getD i [])))]) (rest := [.int (nI i), .ref q]) ⟨hx, hb, hml, hown, hts⟩ (c_Se_has l D K XL19 H_9.size (a := s0) (k := ks) (N := Ns) (ts := ss) (w := (ws.getD i [])) f2_ (by assumption) (hW2 i)) (cwV 1 hts (hwGood (hw_4 mm_79 mm_80 mm_81 mm_63 (hwAll mm_78))) rfl rfl rfl (by decide +kernel) ⟨Nat.le_of_ble_eq_true rfl, Nat.le_of_ble_eq_true rfl⟩) (hw_preV hK hO hZ (seAt.ob f2_) rfl) rfl rfl hl.1 rfl (lv_room (Nat.le_of_ble_eq_true rfl)) dTerms_read_45 ⟨(show 0 + 0 ≤ 0 by omega), (show 0 + 0 ≤ 0 by omega)⟩) hZ hA (fun r X_11 H_12 lc_13 hp hZ => ?_)
        obtain ⟨hr, hy⟩ := hp
        subst hy
        refine hw_topi hr ?_
        refine hw_bz_eq (tgt := 55) hx hb dTerms_read_48 (by decide) (fun cq_14 => ?_) (fun cq_14 => ?_)
        · refine lv_lload hx hb dTerms_read_55 (lv_at hl 0 rfl) ?_
          refine lv_iload_n hx hb dTerms_read_57 rfl (lv_at hl 4 rfl) ?_
          refine hw_calll (va_runS (As := [.long (lN (eW (ws.getD i []))), .int (nI g)]) (rest := [.int (nI i), .ref q]) ⟨hx, hb, hml, hown, hts⟩ (c_W_stem l D K XL19 H_12.size (w := (ws.getD i [])) (g := g) (hW2 i) (by omega) (hW1 i (by omega))) (va_cwS 2 hts (hwGood (hw_3 mm_84 mm_83 mm_3 (hwAll mm_82))) rfl rfl rfl (by decide +kernel) ⟨Nat.le_of_ble_eq_true rfl, Nat.le_of_ble_eq_true rfl⟩) (hw_preS hK hO hZ) rfl rfl hl.1 rfl (lv_room (Nat.le_of_ble_eq_true rfl)) dTerms_read_58 ⟨(show 0 + 0 ≤ 0 by omega), (show 0 + 0 ≤ 0 by omega)⟩) hZ hA (fun r X_15 H_16 lc_17 hp hZ => ?_)
          obtain ⟨hr, hy⟩ := hp
          subst hy
          refine hw_topl hr ?_
          refine hw_last hx hb hK hZ 1 g1 rfl (j := i) (by omega) (by omega) dTerms_read_61 (fun X_18 H_19 lc_20 hZ hF hNw => ?_)
          have hFr := hwF.tr hFr hF (fun _ h => h) (fun M h => by first | exact False.elim h | ((try dsimp only at h ⊢); omega))
          have g0 := hF _ _ _ (by intro hNS; first | exact False.elim hNS | ((try dsimp only at hNS); omega)) g0
          have g1 := hNw
          have f1_ := txAt.fr hF (by intro hNS; first | exact False.elim hNS | ((try dsimp only at hNS); omega)) (by intro hNS; first | exact False.elim hNS | ((try dsimp only at hNS); omega)) f1_
          have f2_ := seAt.fr hF (by intro hNS; first | exact False.elim hNS | ((try dsimp only at hNS); omega)) (by intro hNS; first | exact False.elim hNS | ((try dsimp only at hNS); omega)) f2_
          refine lv_iinc (v := nI (i + 1)) (lv' := [(4, .int (nI (i + 1))), (5, .long (lN (eW (ws.getD i [])))), (0, .ref a), (1, .ref t), (2, .int (nI g)), (3, .ref s0)]) hx hb dTerms_read_62 hl (k := 1) rfl (nI_add _ 1) (by decide) rfl (fun ls hl => ?_)
          refine lv_goto (tgt := 19) hx hb dTerms_read_65 (by decide) ?_
          exact ih19 (i + 1) (vp_updL h i (lN (eW (stemL g (ws.getD i []))))) _ _ _ _ (by omega) (by omega) (fun p hp => (Nat.lt_or_eq_of_le (Nat.le_of_lt_succ hp)).elim (fun z => by rw [pk_uLn (by omega)]; exact hh p z) (fun z => by subst z; rw [pk_uLs]; unfold trm; rw [if_neg (of_decide_eq_false cq_14)])) hFr g0 g1 f1_ f2_ hZ (lv_sub hl [0, 2, 3, 4, 5] rfl)
        · refine lv_lconst (v := lN 0) hx hb dTerms_read_51 rfl ?_
          refine lv_goto (tgt := 61) hx hb dTerms_read_52 (by decide) ?_
          refine hw_last hx hb hK hZ 1 g1 rfl (j := i) (by omega) (by omega) dTerms_read_61 (fun X_21 H_22 lc_23 hZ hF hNw => ?_)
          have hFr := hwF.tr hFr hF (fun _ h => h) (fun M h => by first | exact False.elim h | ((try dsimp only at h ⊢); omega))
          have g0 := hF _ _ _ (by intro hNS; first | exact False.elim hNS | ((try dsimp only at hNS); omega)) g0
          have g1 := hNw
          have f1_ := txAt.fr hF (by intro hNS; first | exact False.elim hNS | ((try dsimp only at hNS); omega)) (by intro hNS; first | exact False.elim hNS | ((try dsimp only at hNS); omega)) f1_
          have f2_ := seAt.fr hF (by intro hNS; first | exact False.elim hNS | ((try dsimp only at hNS); omega)) (by intro hNS; first | exact False.elim hNS | ((try dsimp only at hNS); omega)) f2_
          refine lv_iinc (v := nI (i + 1)) (lv' := [(4, .int (nI (i + 1))), (5, .long (lN (eW (ws.getD i [])))), (0, .ref a), (1, .ref t), (2, .int (nI g)), (3, .ref s0)]) hx hb dTerms_read_62 hl (k := 1) rfl (nI_add _ 1) (by decide) rfl (fun ls hl => ?_)
          refine lv_goto (tgt := 19) hx hb dTerms_read_65 (by decide) ?_
          exact ih19 (i + 1) (vp_updL h i (lN 0)) _ _ _ _ (by omega) (by omega) (fun p hp => (Nat.lt_or_eq_of_le (Nat.le_of_lt_succ hp)).elim (fun z => by rw [pk_uLn (by omega)]; exact hh p z) (fun z => by subst z; rw [pk_uLs]; unfold trm; rw [if_pos (of_decide_eq_true cq_14)]; rfl)) hFr g0 g1 f1_ f2_ hZ (lv_sub hl [0, 2, 3, 4, 5] rfl)
  exact loop19 (ws.length - 0 + 1) 0 f _ _ _ _ (by omega) (by omega) (fun p hp => absurd hp (Nat.not_lt_zero _)) hFr g0 g1 f1_ f2_ hZ (lv_sub hl [0, 1, 2, 3, 4] rfl)
set_option maxHeartbeats 4000000 in
set_option maxRecDepth 100000 in
theorem c_Tm_has (l : Launch) (D : va_G) (K : Nat → ClassId) (X : hwW) (sz : Nat) (a : Nat) (k : Nat) (N : Nat) (ts : List (List Nat)) (w : List Nat) (f0_ : tmAt K X a k N ts) (hw : okW w) : Met l yTerms_has (.code yTerms_has cTerms_has 4 (some .boolean) :: hwG) ({ frames := 1, cells := 0, slots := 0, locals := 21 } : Room) (hwPc D vwCl (hwT K) [.ref a, .long (lN (eW w))] X sz) (hwQi D vwCl X sz (fun r Y => r = bI (decide (w ∈ ts)) ∧ X = Y)) 0 0 (va_A X.1 sz) := by
  refine hwMetz (cc := cTerms_has) (maxL := 4) (by decide) rfl (Nat.le_of_ble_eq_true rfl) (fun p e s m args below meth c ls A Q hx hb hml hown hts hname hret hK hO hZ hA hl => ?_)
  have hl : lv_has ls 4 [(0, .ref a), (1, .long (lN (eW w)))] := hl
  have hT := f0_
  obtain ⟨q, f, g0, g1, hN, hM, hv, hk⟩ := f0_
  have hL2 := fun j => okWs.at hk j
  refine lv_iconst (v := nI 0) hx hb dTerms_has_0 (by decide) ?_
  refine lv_istore_n (lv' := [(3, .int (nI 0)), (0, .ref a), (1, .long (lN (eW w)))]) hx hb dTerms_has_1 rfl hl (by decide) rfl (fun ls hl => ?_)
  have loop2 : ∀ (fuel : Nat) (i : Nat) (Hh : Heap) (lcs : List Loc) (ls : Array Slot), ts.length - i < fuel → (i ≤ ts.length) → (∀ p, p < i → ts.getD p [] ≠ w) → hwZ D vwCl A s.heap X Hh lcs → lv_has ls 4 [(3, .int (nI i)), (0, .ref a), (1, .long (lN (eW w)))] → W p l e ({ frames := 1, cells := 0, slots := 0, locals := 21 } : Room) s m args below meth c Hh lcs 0 0 Q (F0 m 2 ls []) := by
    intro fuel; induction fuel with
    | zero => intro i Hh lcs ls hfu; exact absurd hfu (Nat.not_lt_zero _)
    | succ fuel ih2 =>
      intro i Hh lcs ls hfu2 hi hh hZ hl
      refine lv_iload_n hx hb dTerms_has_2 rfl (lv_at hl 0 rfl) ?_
      refine lv_aload_n hx hb dTerms_has_3 rfl (lv_at hl 1 rfl) ?_
      refine hw_get hx hb hts (hwInn inTerms) hown hK hZ g0 rfl 1 (by decide) (hts (.fieldLink RTerms 19 RTerms "count" "I") (hwMem mm_58)) (fun _ h => h) rfl dTerms_has_4 ?_
      refine hw_ic_ge (a := i) (b := ts.length) (tgt := 28) hx hb dTerms_has_7 (by decide) (by omega) (by omega) (fun cq_1 => ?_) (fun cq_1 => ?_)
      · refine lv_iconst (v := nI 0) hx hb dTerms_has_28 (by decide) ?_
        exact hret (by decide) hZ ⟨by rw [decide_eq_false (not_mem_all (fun p hp => hh p (by omega)))]; rfl, rfl⟩ dTerms_has_29
      · refine lv_aload_n hx hb dTerms_has_10 rfl (lv_at hl 1 rfl) ?_
        refine lv_iload_n hx hb dTerms_has_11 rfl (lv_at hl 0 rfl) ?_
        refine hw_calll (va_runV (As := [.int (nI i)]) (rest := []) ⟨hx, hb, hml, hown, hts⟩ (c_Tm_at l D K X Hh.size (a := a) (k := k) (N := N) (ts := ts) (j := i) hT (by omega)) (cwV 1 hts (hwGood (hw_4 mm_86 mm_87 mm_88 mm_89 (hwAll mm_85))) rfl rfl rfl (by decide +kernel) ⟨Nat.le_of_ble_eq_true rfl, Nat.le_of_ble_eq_true rfl⟩) (hw_preV hK hO hZ (⟨_, _, g0⟩) rfl) rfl rfl hl.1 rfl (lv_room (Nat.le_of_ble_eq_true rfl)) dTerms_has_12 ⟨(show 0 + 0 ≤ 0 by omega), (show 0 + 0 ≤ 0 by omega)⟩) hZ hA (fun r X_2 H_3 lc_4 hp hZ => ?_)
        obtain ⟨hr, hy⟩ := hp
        subst hy
        refine hw_topl hr ?_
        refine lv_lload_n hx hb dTerms_has_15 rfl (lv_at hl 2 rfl) ?_
        refine hw_lc_ne (a := eW (ts.getD i [])) (b := eW w) (tgt := 22) hx hb dTerms_has_16 dTerms_has_17 (by decide) (by first | exact eW_lt63 (by assumption) | exact eW_lt63 (hL2 _) | decide) (by first | exact eW_lt63 (by assumption) | exact eW_lt63 (hL2 _) | decide) (fun cq_5 => ?_) (fun cq_5 => ?_)
        · refine lv_iinc (v := nI (i + 1)) (lv' := [(3, .int (nI (i + 1))), (0, .ref a), (1, .long (lN (eW w)))]) hx hb dTerms_has_22 hl (k := 0) rfl (nI_add _ 1) (by decide) rfl (fun ls hl => ?_)
          refine lv_goto (tgt := 2) hx hb dTerms_has_25 (by decide) ?_
          exact ih2 (i + 1) _ _ _ (by omega) (by omega) (fun p hp => (Nat.lt_or_eq_of_le (Nat.le_of_lt_succ hp)).elim (fun z => by exact hh p z) (fun z => by subst z; exact fun he => cq_5 ((eW_inj (hL2 _) hw).mpr he)))  hZ (lv_sub hl [0, 1, 2] rfl)
        · refine lv_iconst (v := nI 1) hx hb dTerms_has_20 (by decide) ?_
          exact hret (by decide) hZ ⟨by rw [decide_eq_true (mem_of_getD (by omega) ((eW_inj (hL2 _) hw).mp cq_5))]; rfl, rfl⟩ dTerms_has_21
  exact loop2 (ts.length - 0 + 1) 0 _ _ _ (by omega) (by omega) (fun p hp => absurd hp (Nat.not_lt_zero _))  hZ (lv_sub hl [0, 1, 2] rfl)
set_option maxHeartbeats 4000000 in
set_option maxRecDepth 100000 in
theorem c_Tm_any (l : Launch) (D : va_G) (K : Nat → ClassId) (X : hwW) (sz : Nat) (a : Nat) (k : Nat) (N : Nat) (ts : List (List Nat)) (f0_ : tmAt K X a k N ts) : Met l yTerms_hasAny (.code yTerms_hasAny cTerms_hasAny 2 (some .boolean) :: hwG) ({ frames := 1, cells := 0, slots := 0, locals := 21 } : Room) (hwPc D vwCl (hwT K) [.ref a] X sz) (hwQi D vwCl X sz (fun r Y => r = bI (ts.any (fun t => decide (t ≠ []))) ∧ X = Y)) 0 0 (va_A X.1 sz) := by
  refine hwMetz (cc := cTerms_hasAny) (maxL := 2) (by decide) rfl (Nat.le_of_ble_eq_true rfl) (fun p e s m args below meth c ls A Q hx hb hml hown hts hname hret hK hO hZ hA hl => ?_)
  have hl : lv_has ls 2 [(0, .ref a)] := hl
  have hT := f0_
  obtain ⟨q, f, g0, g1, hN, hM, hv, hk⟩ := f0_
  have hL2 := fun j => okWs.at hk j
  refine lv_iconst (v := nI 0) hx hb dTerms_hasAny_0 (by decide) ?_
  refine lv_istore_n (lv' := [(1, .int (nI 0)), (0, .ref a)]) hx hb dTerms_hasAny_1 rfl hl (by decide) rfl (fun ls hl => ?_)
  have loop2 : ∀ (fuel : Nat) (i : Nat) (Hh : Heap) (lcs : List Loc) (ls : Array Slot), ts.length - i < fuel → (i ≤ ts.length) → (∀ p, p < i → ts.getD p [] = []) → hwZ D vwCl A s.heap X Hh lcs → lv_has ls 2 [(1, .int (nI i)), (0, .ref a)] → W p l e ({ frames := 1, cells := 0, slots := 0, locals := 21 } : Room) s m args below meth c Hh lcs 0 0 Q (F0 m 2 ls []) := by
    intro fuel; induction fuel with
    | zero => intro i Hh lcs ls hfu; exact absurd hfu (Nat.not_lt_zero _)
    | succ fuel ih2 =>
      intro i Hh lcs ls hfu2 hi hh hZ hl
      refine lv_iload_n hx hb dTerms_hasAny_2 rfl (lv_at hl 0 rfl) ?_
      refine lv_aload_n hx hb dTerms_hasAny_3 rfl (lv_at hl 1 rfl) ?_
      refine hw_get hx hb hts (hwInn inTerms) hown hK hZ g0 rfl 1 (by decide) (hts (.fieldLink RTerms 19 RTerms "count" "I") (hwMem mm_58)) (fun _ h => h) rfl dTerms_hasAny_4 ?_
      refine hw_ic_ge (a := i) (b := ts.length) (tgt := 28) hx hb dTerms_hasAny_7 (by decide) (by omega) (by omega) (fun cq_1 => ?_) (fun cq_1 => ?_)
      · refine lv_iconst (v := nI 0) hx hb dTerms_hasAny_28 (by decide) ?_
        exact hret (by decide) hZ ⟨by rw [any_false (fun p hp => hh p (by omega))]; rfl, rfl⟩ dTerms_hasAny_29
      · refine lv_aload_n hx hb dTerms_hasAny_10 rfl (lv_at hl 1 rfl) ?_
        refine lv_iload_n hx hb dTerms_hasAny_11 rfl (lv_at hl 0 rfl) ?_
        refine hw_calll (va_runV (As := [.int (nI i)]) (rest := []) ⟨hx, hb, hml, hown, hts⟩ (c_Tm_at l D K X Hh.size (a := a) (k := k) (N := N) (ts := ts) (j := i) hT (by omega)) (cwV 1 hts (hwGood (hw_4 mm_86 mm_87 mm_88 mm_89 (hwAll mm_85))) rfl rfl rfl (by decide +kernel) ⟨Nat.le_of_ble_eq_true rfl, Nat.le_of_ble_eq_true rfl⟩) (hw_preV hK hO hZ (⟨_, _, g0⟩) rfl) rfl rfl hl.1 rfl (lv_room (Nat.le_of_ble_eq_true rfl)) dTerms_hasAny_12 ⟨(show 0 + 0 ≤ 0 by omega), (show 0 + 0 ≤ 0 by omega)⟩) hZ hA (fun r X_2 H_3 lc_4 hp hZ => ?_)
        obtain ⟨hr, hy⟩ := hp
        subst hy
        refine hw_topl hr ?_
        refine lv_lconst (v := lN 0) hx hb dTerms_hasAny_15 rfl ?_
        refine hw_lc_eq (a := eW (ts.getD i [])) (b := 0) (tgt := 22) hx hb dTerms_hasAny_16 dTerms_hasAny_17 (by decide) (by first | exact eW_lt63 (by assumption) | exact eW_lt63 (hL2 _) | decide) (by first | exact eW_lt63 (by assumption) | exact eW_lt63 (hL2 _) | decide) (fun cq_5 => ?_) (fun cq_5 => ?_)
        · refine lv_iinc (v := nI (i + 1)) (lv' := [(1, .int (nI (i + 1))), (0, .ref a)]) hx hb dTerms_hasAny_22 hl (k := 0) rfl (nI_add _ 1) (by decide) rfl (fun ls hl => ?_)
          refine lv_goto (tgt := 2) hx hb dTerms_hasAny_25 (by decide) ?_
          exact ih2 (i + 1) _ _ _ (by omega) (by omega) (fun p hp => (Nat.lt_or_eq_of_le (Nat.le_of_lt_succ hp)).elim (fun z => by exact hh p z) (fun z => by subst z; exact (eW_zero (hL2 _)).mp cq_5))  hZ (lv_sub hl [0, 1] rfl)
        · refine lv_iconst (v := nI 1) hx hb dTerms_hasAny_20 (by decide) ?_
          exact hret (by decide) hZ ⟨by rw [any_true (mem_of_getD (by omega) rfl) (fun he => cq_5 ((eW_zero (hL2 _)).mpr he))]; rfl, rfl⟩ dTerms_hasAny_21
  exact loop2 (ts.length - 0 + 1) 0 _ _ _ (by omega) (by omega) (fun p hp => absurd hp (Nat.not_lt_zero _))  hZ (lv_sub hl [0, 1] rfl)
end
section
theorem dHits_isHit_0 : decode cHits_isHit 0 = .ok (.iload_n 1, 1) := by decide +kernel
theorem dHits_isHit_1 : decode cHits_isHit 1 = .ok (.ifCond .lt 21, 3) := by decide +kernel
theorem dHits_isHit_4 : decode cHits_isHit 4 = .ok (.iload_n 1, 1) := by decide +kernel
theorem dHits_isHit_5 : decode cHits_isHit 5 = .ok (.aload_n 0, 1) := by decide +kernel
theorem dHits_isHit_6 : decode cHits_isHit 6 = .ok (.getfield 21, 3) := by decide +kernel
theorem dHits_isHit_9 : decode cHits_isHit 9 = .ok (.if_icmp .ge 13, 3) := by decide +kernel
theorem dHits_isHit_12 : decode cHits_isHit 12 = .ok (.iload_n 1, 1) := by decide +kernel
theorem dHits_isHit_13 : decode cHits_isHit 13 = .ok (.bipush 30, 2) := by decide +kernel
theorem dHits_isHit_15 : decode cHits_isHit 15 = .ok (.if_icmp .ge 7, 3) := by decide +kernel
theorem dHits_isHit_18 : decode cHits_isHit 18 = .ok (.iconst 1, 1) := by decide +kernel
theorem dHits_isHit_19 : decode cHits_isHit 19 = .ok (.goto 4, 3) := by decide +kernel
theorem dHits_isHit_22 : decode cHits_isHit 22 = .ok (.iconst 0, 1) := by decide +kernel
theorem dHits_isHit_23 : decode cHits_isHit 23 = .ok (.ireturn, 1) := by decide +kernel
theorem dHits_size_0 : decode cHits_size 0 = .ok (.aload_n 0, 1) := by decide +kernel
theorem dHits_size_1 : decode cHits_size 1 = .ok (.getfield 21, 3) := by decide +kernel
theorem dHits_size_4 : decode cHits_size 4 = .ok (.ireturn, 1) := by decide +kernel
theorem dHits_clear_0 : decode cHits_clear 0 = .ok (.aload_n 0, 1) := by decide +kernel
theorem dHits_clear_1 : decode cHits_clear 1 = .ok (.iconst 0, 1) := by decide +kernel
theorem dHits_clear_2 : decode cHits_clear 2 = .ok (.putfield 21, 3) := by decide +kernel
theorem dHits_clear_5 : decode cHits_clear 5 = .ok (.return_, 1) := by decide +kernel
theorem dHits_numberAt_0 : decode cHits_numberAt 0 = .ok (.aload_n 0, 1) := by decide +kernel
theorem dHits_numberAt_1 : decode cHits_numberAt 1 = .ok (.iload_n 1, 1) := by decide +kernel
theorem dHits_numberAt_2 : decode cHits_numberAt 2 = .ok (.invokevirtual 25, 3) := by decide +kernel
theorem dHits_numberAt_5 : decode cHits_numberAt 5 = .ok (.ifCond .eq 12, 3) := by decide +kernel
theorem dHits_numberAt_8 : decode cHits_numberAt 8 = .ok (.aload_n 0, 1) := by decide +kernel
theorem dHits_numberAt_9 : decode cHits_numberAt 9 = .ok (.getfield 9, 3) := by decide +kernel
theorem dHits_numberAt_12 : decode cHits_numberAt 12 = .ok (.iload_n 1, 1) := by decide +kernel
theorem dHits_numberAt_13 : decode cHits_numberAt 13 = .ok (.iaload, 1) := by decide +kernel
theorem dHits_numberAt_14 : decode cHits_numberAt 14 = .ok (.goto 4, 3) := by decide +kernel
theorem dHits_numberAt_17 : decode cHits_numberAt 17 = .ok (.iconst 0, 1) := by decide +kernel
theorem dHits_numberAt_18 : decode cHits_numberAt 18 = .ok (.ireturn, 1) := by decide +kernel
theorem dHits_countAt_0 : decode cHits_countAt 0 = .ok (.aload_n 0, 1) := by decide +kernel
theorem dHits_countAt_1 : decode cHits_countAt 1 = .ok (.iload_n 1, 1) := by decide +kernel
theorem dHits_countAt_2 : decode cHits_countAt 2 = .ok (.invokevirtual 25, 3) := by decide +kernel
theorem dHits_countAt_5 : decode cHits_countAt 5 = .ok (.ifCond .eq 12, 3) := by decide +kernel
theorem dHits_countAt_8 : decode cHits_countAt 8 = .ok (.aload_n 0, 1) := by decide +kernel
theorem dHits_countAt_9 : decode cHits_countAt 9 = .ok (.getfield 15, 3) := by decide +kernel
theorem dHits_countAt_12 : decode cHits_countAt 12 = .ok (.iload_n 1, 1) := by decide +kernel
theorem dHits_countAt_13 : decode cHits_countAt 13 = .ok (.iaload, 1) := by decide +kernel
theorem dHits_countAt_14 : decode cHits_countAt 14 = .ok (.goto 4, 3) := by decide +kernel
theorem dHits_countAt_17 : decode cHits_countAt 17 = .ok (.iconst 0, 1) := by decide +kernel
theorem dHits_countAt_18 : decode cHits_countAt 18 = .ok (.ireturn, 1) := by decide +kernel
theorem dHits_sizeAt_0 : decode cHits_sizeAt 0 = .ok (.aload_n 0, 1) := by decide +kernel
theorem dHits_sizeAt_1 : decode cHits_sizeAt 1 = .ok (.iload_n 1, 1) := by decide +kernel
theorem dHits_sizeAt_2 : decode cHits_sizeAt 2 = .ok (.invokevirtual 25, 3) := by decide +kernel
theorem dHits_sizeAt_5 : decode cHits_sizeAt 5 = .ok (.ifCond .eq 12, 3) := by decide +kernel
theorem dHits_sizeAt_8 : decode cHits_sizeAt 8 = .ok (.aload_n 0, 1) := by decide +kernel
theorem dHits_sizeAt_9 : decode cHits_sizeAt 9 = .ok (.getfield 18, 3) := by decide +kernel
theorem dHits_sizeAt_12 : decode cHits_sizeAt 12 = .ok (.iload_n 1, 1) := by decide +kernel
theorem dHits_sizeAt_13 : decode cHits_sizeAt 13 = .ok (.iaload, 1) := by decide +kernel
theorem dHits_sizeAt_14 : decode cHits_sizeAt 14 = .ok (.goto 4, 3) := by decide +kernel
theorem dHits_sizeAt_17 : decode cHits_sizeAt 17 = .ok (.iconst 0, 1) := by decide +kernel
theorem dHits_sizeAt_18 : decode cHits_sizeAt 18 = .ok (.ireturn, 1) := by decide +kernel
theorem dHits_isGreater_0 : decode cHits_isGreater 0 = .ok (.iload_n 1, 1) := by decide +kernel
theorem dHits_isGreater_1 : decode cHits_isGreater 1 = .ok (.i2l, 1) := by decide +kernel
theorem dHits_isGreater_2 : decode cHits_isGreater 2 = .ok (.aload_n 0, 1) := by decide +kernel
theorem dHits_isGreater_3 : decode cHits_isGreater 3 = .ok (.iload_n 3, 1) := by decide +kernel
theorem dHits_isGreater_4 : decode cHits_isGreater 4 = .ok (.invokevirtual 33, 3) := by decide +kernel
theorem dHits_isGreater_7 : decode cHits_isGreater 7 = .ok (.i2l, 1) := by decide +kernel
theorem dHits_isGreater_8 : decode cHits_isGreater 8 = .ok (.lmul, 1) := by decide +kernel
theorem dHits_isGreater_9 : decode cHits_isGreater 9 = .ok (.aload_n 0, 1) := by decide +kernel
theorem dHits_isGreater_10 : decode cHits_isGreater 10 = .ok (.iload_n 3, 1) := by decide +kernel
theorem dHits_isGreater_11 : decode cHits_isGreater 11 = .ok (.invokevirtual 37, 3) := by decide +kernel
theorem dHits_isGreater_14 : decode cHits_isGreater 14 = .ok (.i2l, 1) := by decide +kernel
theorem dHits_isGreater_15 : decode cHits_isGreater 15 = .ok (.iload_n 2, 1) := by decide +kernel
theorem dHits_isGreater_16 : decode cHits_isGreater 16 = .ok (.i2l, 1) := by decide +kernel
theorem dHits_isGreater_17 : decode cHits_isGreater 17 = .ok (.lmul, 1) := by decide +kernel
theorem dHits_isGreater_18 : decode cHits_isGreater 18 = .ok (.lcmp, 1) := by decide +kernel
theorem dHits_isGreater_19 : decode cHits_isGreater 19 = .ok (.ifCond .le 7, 3) := by decide +kernel
theorem dHits_isGreater_22 : decode cHits_isGreater 22 = .ok (.iconst 1, 1) := by decide +kernel
theorem dHits_isGreater_23 : decode cHits_isGreater 23 = .ok (.goto 4, 3) := by decide +kernel
theorem dHits_isGreater_26 : decode cHits_isGreater 26 = .ok (.iconst 0, 1) := by decide +kernel
theorem dHits_isGreater_27 : decode cHits_isGreater 27 = .ok (.ireturn, 1) := by decide +kernel
theorem mm_90 : (.fieldLink RHits 21 RHits "count" "I" : Cond) ∈ hwG := hwIx 102 (by decide +kernel) (by decide +kernel)
theorem mm_91 : (.code yHits_isHit cHits_isHit 2 (some .boolean) : Cond) ∈ hwG := hwIx 423 (by decide +kernel) (by decide +kernel)
theorem mm_92 : (.methodLink RHits 25 yHits_isHit : Cond) ∈ hwG := hwIx 420 (by decide +kernel) (by decide +kernel)
theorem mm_93 : (.instanceMethod yHits_isHit : Cond) ∈ hwG := hwIx 422 (by decide +kernel) (by decide +kernel)
theorem mm_94 : (.selects RHits yHits_isHit yHits_isHit : Cond) ∈ hwG := hwIx 11 (by decide +kernel) (by decide +kernel)
theorem mm_95 : (.initialized RHits : Cond) ∈ hwG := hwIx 37 (by decide +kernel) (by decide +kernel)
theorem mm_96 : (.fieldLink RHits 9 RHits "numbers" "[I" : Cond) ∈ hwG := hwIx 99 (by decide +kernel) (by decide +kernel)
theorem mm_97 : (.fieldLink RHits 15 RHits "counts" "[I" : Cond) ∈ hwG := hwIx 100 (by decide +kernel) (by decide +kernel)
theorem mm_98 : (.fieldLink RHits 18 RHits "sizes" "[I" : Cond) ∈ hwG := hwIx 101 (by decide +kernel) (by decide +kernel)
theorem mm_99 : (.code yHits_sizeAt cHits_sizeAt 2 (some .int) : Cond) ∈ hwG := hwIx 419 (by decide +kernel) (by decide +kernel)
theorem mm_100 : (.methodLink RHits 33 yHits_sizeAt : Cond) ∈ hwG := hwIx 416 (by decide +kernel) (by decide +kernel)
theorem mm_101 : (.instanceMethod yHits_sizeAt : Cond) ∈ hwG := hwIx 417 (by decide +kernel) (by decide +kernel)
theorem mm_102 : (.selects RHits yHits_sizeAt yHits_sizeAt : Cond) ∈ hwG := hwIx 418 (by decide +kernel) (by decide +kernel)
theorem mm_103 : (.code yHits_countAt cHits_countAt 2 (some .int) : Cond) ∈ hwG := hwIx 427 (by decide +kernel) (by decide +kernel)
theorem mm_104 : (.methodLink RHits 37 yHits_countAt : Cond) ∈ hwG := hwIx 424 (by decide +kernel) (by decide +kernel)
theorem mm_105 : (.instanceMethod yHits_countAt : Cond) ∈ hwG := hwIx 425 (by decide +kernel) (by decide +kernel)
theorem mm_106 : (.selects RHits yHits_countAt yHits_countAt : Cond) ∈ hwG := hwIx 426 (by decide +kernel) (by decide +kernel)
set_option maxHeartbeats 4000000 in
set_option maxRecDepth 100000 in
theorem c_Hi_is (l : Launch) (D : va_G) (K : Nat → ClassId) (X : hwW) (sz : Nat) (a : Nat) (L : Nat) (q1 : Nat) (q2 : Nat) (q3 : Nat) (n : Nat) (j : Nat) (f0_ : hwH X a L (.inr (0, [.ref q1, .ref q2, .ref q3, .int (nI n)]))) (hn : n ≤ 30) (hj : j < 2147483648) : Met l yHits_isHit (.code yHits_isHit cHits_isHit 2 (some .boolean) :: hwG) ({ frames := 0, cells := 0, slots := 0, locals := 0 } : Room) (hwPc D vwCl (hwT K) [.ref a, .int (nI j)] X sz) (hwQi D vwCl X sz (fun r Y => r = bI (decide (j < n)) ∧ X = Y)) 0 0 (va_A X.1 sz) := by
  refine hwMetz (cc := cHits_isHit) (maxL := 2) (by decide) rfl (Nat.le_of_ble_eq_true rfl) (fun p e s m args below meth c ls A Q hx hb hml hown hts hname hret hK hO hZ hA hl => ?_)
  have hl : lv_has ls 2 [(0, .ref a), (1, .int (nI j))] := hl
  refine lv_iload_n hx hb dHits_isHit_0 rfl (lv_at hl 1 rfl) ?_
  refine hw_if_lt (a := j) (tgt := 22) hx hb dHits_isHit_1 (by decide) (by omega) (fun cq_1 => by exfalso; omega) (fun cq_1 => ?_)
  refine lv_iload_n hx hb dHits_isHit_4 rfl (lv_at hl 1 rfl) ?_
  refine lv_aload_n hx hb dHits_isHit_5 rfl (lv_at hl 0 rfl) ?_
  refine hw_get hx hb hts (hwInn inHits) hown hK hZ f0_ rfl 3 (by decide) (hts (.fieldLink RHits 21 RHits "count" "I") (hwMem mm_90)) (fun _ h => h) rfl dHits_isHit_6 ?_
  refine hw_ic_ge (a := j) (b := n) (tgt := 22) hx hb dHits_isHit_9 (by decide) (by omega) (by omega) (fun cq_2 => ?_) (fun cq_2 => ?_)
  · refine lv_iconst (v := nI 0) hx hb dHits_isHit_22 (by decide) ?_
    exact hret (by decide) hZ ⟨by rw [decide_eq_false (by omega : ¬ j < n)]; rfl, rfl⟩ dHits_isHit_23
  · refine lv_iload_n hx hb dHits_isHit_12 rfl (lv_at hl 1 rfl) ?_
    refine lv_bipush (v := nI 30) hx hb dHits_isHit_13 (by decide) ?_
    refine hw_ic_ge (a := j) (b := 30) (tgt := 22) hx hb dHits_isHit_15 (by decide) (by omega) (by omega) (fun cq_3 => by exfalso; omega) (fun cq_3 => ?_)
    refine lv_iconst (v := nI 1) hx hb dHits_isHit_18 (by decide) ?_
    refine lv_goto (tgt := 23) hx hb dHits_isHit_19 (by decide) ?_
    exact hret (by decide) hZ ⟨by rw [decide_eq_true (by omega : j < n)]; rfl, rfl⟩ dHits_isHit_23
set_option maxHeartbeats 4000000 in
set_option maxRecDepth 100000 in
theorem c_Hi_isN (l : Launch) (D : va_G) (K : Nat → ClassId) (X : hwW) (sz : Nat) (a : Nat) (L : Nat) (q1 : Nat) (q2 : Nat) (q3 : Nat) (n : Nat) (i : Int32) (f0_ : hwH X a L (.inr (0, [.ref q1, .ref q2, .ref q3, .int (nI n)]))) (hi : i < 0) : Met l yHits_isHit (.code yHits_isHit cHits_isHit 2 (some .boolean) :: hwG) ({ frames := 0, cells := 0, slots := 0, locals := 0 } : Room) (hwPc D vwCl (hwT K) [.ref a, .int i] X sz) (hwQi D vwCl X sz (fun r Y => r = bI false ∧ X = Y)) 0 0 (va_A X.1 sz) := by
  refine hwMetz (cc := cHits_isHit) (maxL := 2) (by decide) rfl (Nat.le_of_ble_eq_true rfl) (fun p e s m args below meth c ls A Q hx hb hml hown hts hname hret hK hO hZ hA hl => ?_)
  have hl : lv_has ls 2 [(0, .ref a), (1, .int i)] := hl
  refine lv_iload_n hx hb dHits_isHit_0 rfl (lv_at hl 1 rfl) ?_
  refine lv_if_lt (tgt := 22) hx hb dHits_isHit_1 (by decide) (fun cq_1 => ?_) (fun cq_1 => absurd hi cq_1)
  refine lv_iconst (v := nI 0) hx hb dHits_isHit_22 (by decide) ?_
  exact hret (by decide) hZ ⟨rfl, rfl⟩ dHits_isHit_23
set_option maxHeartbeats 4000000 in
set_option maxRecDepth 100000 in
theorem c_Hi_size (l : Launch) (D : va_G) (K : Nat → ClassId) (X : hwW) (sz : Nat) (a : Nat) (L : Nat) (q1 : Nat) (q2 : Nat) (q3 : Nat) (n : Nat) (f0_ : hwH X a L (.inr (0, [.ref q1, .ref q2, .ref q3, .int (nI n)]))) : Met l yHits_size (.code yHits_size cHits_size 1 (some .int) :: hwG) ({ frames := 0, cells := 0, slots := 0, locals := 0 } : Room) (hwPc D vwCl (hwT K) [.ref a] X sz) (hwQi D vwCl X sz (fun r Y => r = nI n ∧ X = Y)) 0 0 (va_A X.1 sz) := by
  refine hwMeti (cc := cHits_size) (maxL := 1) (by decide) rfl (Nat.le_of_ble_eq_true rfl) (fun p e s m args below meth c ls A Q hx hb hml hown hts hname hret hK hO hZ hA hl => ?_)
  have hl : lv_has ls 1 [(0, .ref a)] := hl
  refine lv_aload_n hx hb dHits_size_0 rfl (lv_at hl 0 rfl) ?_
  refine hw_get hx hb hts (hwInn inHits) hown hK hZ f0_ rfl 3 (by decide) (hts (.fieldLink RHits 21 RHits "count" "I") (hwMem mm_90)) (fun _ h => h) rfl dHits_size_1 ?_
  exact hret hZ ⟨rfl, rfl⟩ dHits_size_4
set_option maxHeartbeats 4000000 in
set_option maxRecDepth 100000 in
theorem c_Hi_clear (l : Launch) (D : va_G) (K : Nat → ClassId) (X : hwW) (sz : Nat) (a : Nat) (L : Nat) (q1 : Nat) (q2 : Nat) (q3 : Nat) (n : Nat) (f0_ : hwH X a L (.inr (0, [.ref q1, .ref q2, .ref q3, .int (nI n)]))) : Met l yHits_clear (.code yHits_clear cHits_clear 1 none :: hwG) ({ frames := 0, cells := 0, slots := 0, locals := 0 } : Room) (hwPc D vwCl (hwT K) [.ref a] X sz) (hwQv D vwCl X sz (fun Y => hwF X Y (fun M => M = L) ∧ hwH Y a L (.inr (0, [.ref q1, .ref q2, .ref q3, .int (nI 0)])))) 0 0 (va_A X.1 sz) := by
  refine hwMetv (cc := cHits_clear) (maxL := 1) (by decide) rfl (Nat.le_of_ble_eq_true rfl) (fun p e s m args below meth c ls A Q hx hb hml hown hts hname hret hK hO hZ hA hl => ?_)
  have hl : lv_has ls 1 [(0, .ref a)] := hl
  have hFr : hwF X X (fun M => M = L) := hwF.rf
  refine lv_aload_n hx hb dHits_clear_0 rfl (lv_at hl 0 rfl) ?_
  refine lv_iconst (v := nI 0) hx hb dHits_clear_1 (by decide) ?_
  refine hw_put (ty := .int) (fs' := [.ref q1, .ref q2, .ref q3, .int (nI 0)]) hx hb hts (hwInn inHits) tyHits tyHits_ok nmHits hown hK hZ f0_ rfl 3 (by decide) (hts (.fieldLink RHits 21 RHits "count" "I") (hwMem mm_90)) (fun _ h => h) rfl (by decide +kernel) rfl rfl (Nat.le_of_ble_eq_true rfl) rfl dHits_clear_2 (fun X_1 H_2 lc_3 hZ hF hNw => ?_)
  have hFr := hwF.tr hFr hF (fun _ h => h) (fun M h => by first | exact False.elim h | ((try dsimp only at h ⊢); omega))
  have f0_ := hNw
  exact hret hZ ⟨hFr, f0_⟩ dHits_clear_5
set_option maxHeartbeats 4000000 in
set_option maxRecDepth 100000 in
theorem c_Hi_num (l : Launch) (D : va_G) (K : Nat → ClassId) (X : hwW) (sz : Nat) (a : Nat) (L : Nat) (q1 : Nat) (q2 : Nat) (q3 : Nat) (n : Nat) (L1 : Nat) (f1 : Nat → Int32) (j : Nat) (f0_ : hwH X a L (.inr (0, [.ref q1, .ref q2, .ref q3, .int (nI n)]))) (f1_ : hwH X q1 L1 (.inl (K 0, 30, .inl f1))) (hn : n ≤ 30) (hj : j < 2147483648) : Met l yHits_numberAt (.code yHits_numberAt cHits_numberAt 2 (some .int) :: hwG) ({ frames := 1, cells := 0, slots := 0, locals := 21 } : Room) (hwPc D vwCl (hwT K) [.ref a, .int (nI j)] X sz) (hwQi D vwCl X sz (fun r Y => r = (if j < n then f1 j else nI 0) ∧ X = Y)) 0 0 (va_A X.1 sz) := by
  refine hwMeti (cc := cHits_numberAt) (maxL := 2) (by decide) rfl (Nat.le_of_ble_eq_true rfl) (fun p e s m args below meth c ls A Q hx hb hml hown hts hname hret hK hO hZ hA hl => ?_)
  have hl : lv_has ls 2 [(0, .ref a), (1, .int (nI j))] := hl
  refine lv_aload_n hx hb dHits_numberAt_0 rfl (lv_at hl 0 rfl) ?_
  refine lv_iload_n hx hb dHits_numberAt_1 rfl (lv_at hl 1 rfl) ?_
  refine hw_calli (va_runV (As := [.int (nI j)]) (rest := []) ⟨hx, hb, hml, hown, hts⟩ (c_Hi_is l D K X s.heap.size (a := a) (L := L) (q1 := q1) (q2 := q2) (q3 := q3) (n := n) (j := j) f0_ (by omega) (by omega)) (cwV 1 hts (hwGood (hw_4 mm_92 mm_93 mm_94 mm_95 (hwAll mm_91))) rfl rfl rfl (by decide +kernel) ⟨Nat.le_of_ble_eq_true rfl, Nat.le_of_ble_eq_true rfl⟩) (hw_preV hK hO hZ (⟨_, _, f0_⟩) rfl) rfl rfl hl.1 rfl (lv_room (Nat.le_of_ble_eq_true rfl)) dHits_numberAt_2 ⟨(show 0 + 0 ≤ 0 by omega), (show 0 + 0 ≤ 0 by omega)⟩) hZ hA (fun r X_1 H_2 lc_3 hp hZ => ?_)
  obtain ⟨hr, hy⟩ := hp
  subst hy
  refine hw_topi hr ?_
  refine hw_bz_eq (tgt := 17) hx hb dHits_numberAt_5 (by decide) (fun cq_4 => ?_) (fun cq_4 => ?_)
  · refine lv_iconst (v := nI 0) hx hb dHits_numberAt_17 (by decide) ?_
    exact hret hZ ⟨by rw [if_neg (of_decide_eq_false cq_4)], rfl⟩ dHits_numberAt_18
  · have hj2 := of_decide_eq_true cq_4
    refine lv_aload_n hx hb dHits_numberAt_8 rfl (lv_at hl 0 rfl) ?_
    refine hw_get hx hb hts (hwInn inHits) hown hK hZ f0_ rfl 0 (by decide) (hts (.fieldLink RHits 9 RHits "numbers" "[I") (hwMem mm_96)) (fun _ h => h) rfl dHits_numberAt_9 ?_
    refine lv_iload_n hx hb dHits_numberAt_12 rfl (lv_at hl 1 rfl) ?_
    refine hw_iald hx hb hK hZ 0 f1_ rfl (j := j) (by omega) (by omega) dHits_numberAt_13 ?_
    refine lv_goto (tgt := 18) hx hb dHits_numberAt_14 (by decide) ?_
    exact hret hZ ⟨by rw [if_pos hj2], rfl⟩ dHits_numberAt_18
set_option maxHeartbeats 4000000 in
set_option maxRecDepth 100000 in
theorem c_Hi_numN (l : Launch) (D : va_G) (K : Nat → ClassId) (X : hwW) (sz : Nat) (a : Nat) (L : Nat) (q1 : Nat) (q2 : Nat) (q3 : Nat) (n : Nat) (i : Int32) (f0_ : hwH X a L (.inr (0, [.ref q1, .ref q2, .ref q3, .int (nI n)]))) (hi : i < 0) : Met l yHits_numberAt (.code yHits_numberAt cHits_numberAt 2 (some .int) :: hwG) ({ frames := 1, cells := 0, slots := 0, locals := 21 } : Room) (hwPc D vwCl (hwT K) [.ref a, .int i] X sz) (hwQi D vwCl X sz (fun r Y => r = nI 0 ∧ X = Y)) 0 0 (va_A X.1 sz) := by
  refine hwMeti (cc := cHits_numberAt) (maxL := 2) (by decide) rfl (Nat.le_of_ble_eq_true rfl) (fun p e s m args below meth c ls A Q hx hb hml hown hts hname hret hK hO hZ hA hl => ?_)
  have hl : lv_has ls 2 [(0, .ref a), (1, .int i)] := hl
  refine lv_aload_n hx hb dHits_numberAt_0 rfl (lv_at hl 0 rfl) ?_
  refine lv_iload_n hx hb dHits_numberAt_1 rfl (lv_at hl 1 rfl) ?_
  refine hw_calli (va_runV (As := [.int i]) (rest := []) ⟨hx, hb, hml, hown, hts⟩ (c_Hi_isN l D K X s.heap.size (a := a) (L := L) (q1 := q1) (q2 := q2) (q3 := q3) (n := n) (i := i) f0_ (by assumption)) (cwV 1 hts (hwGood (hw_4 mm_92 mm_93 mm_94 mm_95 (hwAll mm_91))) rfl rfl rfl (by decide +kernel) ⟨Nat.le_of_ble_eq_true rfl, Nat.le_of_ble_eq_true rfl⟩) (hw_preV hK hO hZ (⟨_, _, f0_⟩) rfl) rfl rfl hl.1 rfl (lv_room (Nat.le_of_ble_eq_true rfl)) dHits_numberAt_2 ⟨(show 0 + 0 ≤ 0 by omega), (show 0 + 0 ≤ 0 by omega)⟩) hZ hA (fun r X_1 H_2 lc_3 hp hZ => ?_)
  obtain ⟨hr, hy⟩ := hp
  subst hy
  refine hw_topi hr ?_
  refine hw_bz_eqT (tgt := 17) hx hb dHits_numberAt_5 (by decide) rfl ?_
  refine lv_iconst (v := nI 0) hx hb dHits_numberAt_17 (by decide) ?_
  exact hret hZ ⟨rfl, rfl⟩ dHits_numberAt_18
set_option maxHeartbeats 4000000 in
set_option maxRecDepth 100000 in
theorem c_Hi_cnt (l : Launch) (D : va_G) (K : Nat → ClassId) (X : hwW) (sz : Nat) (a : Nat) (L : Nat) (q1 : Nat) (q2 : Nat) (q3 : Nat) (n : Nat) (L1 : Nat) (f1 : Nat → Int32) (j : Nat) (f0_ : hwH X a L (.inr (0, [.ref q1, .ref q2, .ref q3, .int (nI n)]))) (f1_ : hwH X q2 L1 (.inl (K 0, 30, .inl f1))) (hn : n ≤ 30) (hj : j < 2147483648) : Met l yHits_countAt (.code yHits_countAt cHits_countAt 2 (some .int) :: hwG) ({ frames := 1, cells := 0, slots := 0, locals := 21 } : Room) (hwPc D vwCl (hwT K) [.ref a, .int (nI j)] X sz) (hwQi D vwCl X sz (fun r Y => r = (if j < n then f1 j else nI 0) ∧ X = Y)) 0 0 (va_A X.1 sz) := by
  refine hwMeti (cc := cHits_countAt) (maxL := 2) (by decide) rfl (Nat.le_of_ble_eq_true rfl) (fun p e s m args below meth c ls A Q hx hb hml hown hts hname hret hK hO hZ hA hl => ?_)
  have hl : lv_has ls 2 [(0, .ref a), (1, .int (nI j))] := hl
  refine lv_aload_n hx hb dHits_countAt_0 rfl (lv_at hl 0 rfl) ?_
  refine lv_iload_n hx hb dHits_countAt_1 rfl (lv_at hl 1 rfl) ?_
  refine hw_calli (va_runV (As := [.int (nI j)]) (rest := []) ⟨hx, hb, hml, hown, hts⟩ (c_Hi_is l D K X s.heap.size (a := a) (L := L) (q1 := q1) (q2 := q2) (q3 := q3) (n := n) (j := j) f0_ (by omega) (by omega)) (cwV 1 hts (hwGood (hw_4 mm_92 mm_93 mm_94 mm_95 (hwAll mm_91))) rfl rfl rfl (by decide +kernel) ⟨Nat.le_of_ble_eq_true rfl, Nat.le_of_ble_eq_true rfl⟩) (hw_preV hK hO hZ (⟨_, _, f0_⟩) rfl) rfl rfl hl.1 rfl (lv_room (Nat.le_of_ble_eq_true rfl)) dHits_countAt_2 ⟨(show 0 + 0 ≤ 0 by omega), (show 0 + 0 ≤ 0 by omega)⟩) hZ hA (fun r X_1 H_2 lc_3 hp hZ => ?_)
  obtain ⟨hr, hy⟩ := hp
  subst hy
  refine hw_topi hr ?_
  refine hw_bz_eq (tgt := 17) hx hb dHits_countAt_5 (by decide) (fun cq_4 => ?_) (fun cq_4 => ?_)
  · refine lv_iconst (v := nI 0) hx hb dHits_countAt_17 (by decide) ?_
    exact hret hZ ⟨by rw [if_neg (of_decide_eq_false cq_4)], rfl⟩ dHits_countAt_18
  · have hj2 := of_decide_eq_true cq_4
    refine lv_aload_n hx hb dHits_countAt_8 rfl (lv_at hl 0 rfl) ?_
    refine hw_get hx hb hts (hwInn inHits) hown hK hZ f0_ rfl 1 (by decide) (hts (.fieldLink RHits 15 RHits "counts" "[I") (hwMem mm_97)) (fun _ h => h) rfl dHits_countAt_9 ?_
    refine lv_iload_n hx hb dHits_countAt_12 rfl (lv_at hl 1 rfl) ?_
    refine hw_iald hx hb hK hZ 0 f1_ rfl (j := j) (by omega) (by omega) dHits_countAt_13 ?_
    refine lv_goto (tgt := 18) hx hb dHits_countAt_14 (by decide) ?_
    exact hret hZ ⟨by rw [if_pos hj2], rfl⟩ dHits_countAt_18
set_option maxHeartbeats 4000000 in
set_option maxRecDepth 100000 in
theorem c_Hi_cntN (l : Launch) (D : va_G) (K : Nat → ClassId) (X : hwW) (sz : Nat) (a : Nat) (L : Nat) (q1 : Nat) (q2 : Nat) (q3 : Nat) (n : Nat) (i : Int32) (f0_ : hwH X a L (.inr (0, [.ref q1, .ref q2, .ref q3, .int (nI n)]))) (hi : i < 0) : Met l yHits_countAt (.code yHits_countAt cHits_countAt 2 (some .int) :: hwG) ({ frames := 1, cells := 0, slots := 0, locals := 21 } : Room) (hwPc D vwCl (hwT K) [.ref a, .int i] X sz) (hwQi D vwCl X sz (fun r Y => r = nI 0 ∧ X = Y)) 0 0 (va_A X.1 sz) := by
  refine hwMeti (cc := cHits_countAt) (maxL := 2) (by decide) rfl (Nat.le_of_ble_eq_true rfl) (fun p e s m args below meth c ls A Q hx hb hml hown hts hname hret hK hO hZ hA hl => ?_)
  have hl : lv_has ls 2 [(0, .ref a), (1, .int i)] := hl
  refine lv_aload_n hx hb dHits_countAt_0 rfl (lv_at hl 0 rfl) ?_
  refine lv_iload_n hx hb dHits_countAt_1 rfl (lv_at hl 1 rfl) ?_
  refine hw_calli (va_runV (As := [.int i]) (rest := []) ⟨hx, hb, hml, hown, hts⟩ (c_Hi_isN l D K X s.heap.size (a := a) (L := L) (q1 := q1) (q2 := q2) (q3 := q3) (n := n) (i := i) f0_ (by assumption)) (cwV 1 hts (hwGood (hw_4 mm_92 mm_93 mm_94 mm_95 (hwAll mm_91))) rfl rfl rfl (by decide +kernel) ⟨Nat.le_of_ble_eq_true rfl, Nat.le_of_ble_eq_true rfl⟩) (hw_preV hK hO hZ (⟨_, _, f0_⟩) rfl) rfl rfl hl.1 rfl (lv_room (Nat.le_of_ble_eq_true rfl)) dHits_countAt_2 ⟨(show 0 + 0 ≤ 0 by omega), (show 0 + 0 ≤ 0 by omega)⟩) hZ hA (fun r X_1 H_2 lc_3 hp hZ => ?_)
  obtain ⟨hr, hy⟩ := hp
  subst hy
  refine hw_topi hr ?_
  refine hw_bz_eqT (tgt := 17) hx hb dHits_countAt_5 (by decide) rfl ?_
  refine lv_iconst (v := nI 0) hx hb dHits_countAt_17 (by decide) ?_
  exact hret hZ ⟨rfl, rfl⟩ dHits_countAt_18
set_option maxHeartbeats 4000000 in
set_option maxRecDepth 100000 in
theorem c_Hi_siz (l : Launch) (D : va_G) (K : Nat → ClassId) (X : hwW) (sz : Nat) (a : Nat) (L : Nat) (q1 : Nat) (q2 : Nat) (q3 : Nat) (n : Nat) (L1 : Nat) (f1 : Nat → Int32) (j : Nat) (f0_ : hwH X a L (.inr (0, [.ref q1, .ref q2, .ref q3, .int (nI n)]))) (f1_ : hwH X q3 L1 (.inl (K 0, 30, .inl f1))) (hn : n ≤ 30) (hj : j < 2147483648) : Met l yHits_sizeAt (.code yHits_sizeAt cHits_sizeAt 2 (some .int) :: hwG) ({ frames := 1, cells := 0, slots := 0, locals := 21 } : Room) (hwPc D vwCl (hwT K) [.ref a, .int (nI j)] X sz) (hwQi D vwCl X sz (fun r Y => r = (if j < n then f1 j else nI 0) ∧ X = Y)) 0 0 (va_A X.1 sz) := by
  refine hwMeti (cc := cHits_sizeAt) (maxL := 2) (by decide) rfl (Nat.le_of_ble_eq_true rfl) (fun p e s m args below meth c ls A Q hx hb hml hown hts hname hret hK hO hZ hA hl => ?_)
  have hl : lv_has ls 2 [(0, .ref a), (1, .int (nI j))] := hl
  refine lv_aload_n hx hb dHits_sizeAt_0 rfl (lv_at hl 0 rfl) ?_
  refine lv_iload_n hx hb dHits_sizeAt_1 rfl (lv_at hl 1 rfl) ?_
  refine hw_calli (va_runV (As := [.int (nI j)]) (rest := []) ⟨hx, hb, hml, hown, hts⟩ (c_Hi_is l D K X s.heap.size (a := a) (L := L) (q1 := q1) (q2 := q2) (q3 := q3) (n := n) (j := j) f0_ (by omega) (by omega)) (cwV 1 hts (hwGood (hw_4 mm_92 mm_93 mm_94 mm_95 (hwAll mm_91))) rfl rfl rfl (by decide +kernel) ⟨Nat.le_of_ble_eq_true rfl, Nat.le_of_ble_eq_true rfl⟩) (hw_preV hK hO hZ (⟨_, _, f0_⟩) rfl) rfl rfl hl.1 rfl (lv_room (Nat.le_of_ble_eq_true rfl)) dHits_sizeAt_2 ⟨(show 0 + 0 ≤ 0 by omega), (show 0 + 0 ≤ 0 by omega)⟩) hZ hA (fun r X_1 H_2 lc_3 hp hZ => ?_)
  obtain ⟨hr, hy⟩ := hp
  subst hy
  refine hw_topi hr ?_
  refine hw_bz_eq (tgt := 17) hx hb dHits_sizeAt_5 (by decide) (fun cq_4 => ?_) (fun cq_4 => ?_)
  · refine lv_iconst (v := nI 0) hx hb dHits_sizeAt_17 (by decide) ?_
    exact hret hZ ⟨by rw [if_neg (of_decide_eq_false cq_4)], rfl⟩ dHits_sizeAt_18
  · have hj2 := of_decide_eq_true cq_4
    refine lv_aload_n hx hb dHits_sizeAt_8 rfl (lv_at hl 0 rfl) ?_
    refine hw_get hx hb hts (hwInn inHits) hown hK hZ f0_ rfl 2 (by decide) (hts (.fieldLink RHits 18 RHits "sizes" "[I") (hwMem mm_98)) (fun _ h => h) rfl dHits_sizeAt_9 ?_
    refine lv_iload_n hx hb dHits_sizeAt_12 rfl (lv_at hl 1 rfl) ?_
    refine hw_iald hx hb hK hZ 0 f1_ rfl (j := j) (by omega) (by omega) dHits_sizeAt_13 ?_
    refine lv_goto (tgt := 18) hx hb dHits_sizeAt_14 (by decide) ?_
    exact hret hZ ⟨by rw [if_pos hj2], rfl⟩ dHits_sizeAt_18
set_option maxHeartbeats 4000000 in
set_option maxRecDepth 100000 in
theorem c_Hi_sizN (l : Launch) (D : va_G) (K : Nat → ClassId) (X : hwW) (sz : Nat) (a : Nat) (L : Nat) (q1 : Nat) (q2 : Nat) (q3 : Nat) (n : Nat) (i : Int32) (f0_ : hwH X a L (.inr (0, [.ref q1, .ref q2, .ref q3, .int (nI n)]))) (hi : i < 0) : Met l yHits_sizeAt (.code yHits_sizeAt cHits_sizeAt 2 (some .int) :: hwG) ({ frames := 1, cells := 0, slots := 0, locals := 21 } : Room) (hwPc D vwCl (hwT K) [.ref a, .int i] X sz) (hwQi D vwCl X sz (fun r Y => r = nI 0 ∧ X = Y)) 0 0 (va_A X.1 sz) := by
  refine hwMeti (cc := cHits_sizeAt) (maxL := 2) (by decide) rfl (Nat.le_of_ble_eq_true rfl) (fun p e s m args below meth c ls A Q hx hb hml hown hts hname hret hK hO hZ hA hl => ?_)
  have hl : lv_has ls 2 [(0, .ref a), (1, .int i)] := hl
  refine lv_aload_n hx hb dHits_sizeAt_0 rfl (lv_at hl 0 rfl) ?_
  refine lv_iload_n hx hb dHits_sizeAt_1 rfl (lv_at hl 1 rfl) ?_
  refine hw_calli (va_runV (As := [.int i]) (rest := []) ⟨hx, hb, hml, hown, hts⟩ (c_Hi_isN l D K X s.heap.size (a := a) (L := L) (q1 := q1) (q2 := q2) (q3 := q3) (n := n) (i := i) f0_ (by assumption)) (cwV 1 hts (hwGood (hw_4 mm_92 mm_93 mm_94 mm_95 (hwAll mm_91))) rfl rfl rfl (by decide +kernel) ⟨Nat.le_of_ble_eq_true rfl, Nat.le_of_ble_eq_true rfl⟩) (hw_preV hK hO hZ (⟨_, _, f0_⟩) rfl) rfl rfl hl.1 rfl (lv_room (Nat.le_of_ble_eq_true rfl)) dHits_sizeAt_2 ⟨(show 0 + 0 ≤ 0 by omega), (show 0 + 0 ≤ 0 by omega)⟩) hZ hA (fun r X_1 H_2 lc_3 hp hZ => ?_)
  obtain ⟨hr, hy⟩ := hp
  subst hy
  refine hw_topi hr ?_
  refine hw_bz_eqT (tgt := 17) hx hb dHits_sizeAt_5 (by decide) rfl ?_
  refine lv_iconst (v := nI 0) hx hb dHits_sizeAt_17 (by decide) ?_
  exact hret hZ ⟨rfl, rfl⟩ dHits_sizeAt_18
set_option maxHeartbeats 4000000 in
set_option maxRecDepth 100000 in
theorem c_Hi_gr (l : Launch) (D : va_G) (K : Nat → ClassId) (X : hwW) (sz : Nat) (a : Nat) (L : Nat) (q1 : Nat) (q2 : Nat) (q3 : Nat) (n : Nat) (L2 : Nat) (f2 : Nat → Int32) (L3 : Nat) (f3 : Nat → Int32) (c0 : Nat) (z0 : Nat) (j : Nat) (cj : Nat) (zj : Nat) (f0_ : hwH X a L (.inr (0, [.ref q1, .ref q2, .ref q3, .int (nI n)]))) (f1_ : hwH X q2 L2 (.inl (K 0, 30, .inl f2))) (f2_ : hwH X q3 L3 (.inl (K 0, 30, .inl f3))) (hn : n ≤ 30) (hj : j < n) (h2 : f2 j = nI cj) (h3 : f3 j = nI zj) (hc : c0 ≤ 1000) (hz : z0 ≤ 1000) (hcj : cj ≤ 1000) (hzj : zj ≤ 1000) : Met l yHits_isGreater (.code yHits_isGreater cHits_isGreater 4 (some .boolean) :: hwG) ({ frames := 2, cells := 0, slots := 0, locals := 42 } : Room) (hwPc D vwCl (hwT K) [.ref a, .int (nI c0), .int (nI z0), .int (nI j)] X sz) (hwQi D vwCl X sz (fun r Y => r = bI (decide (cj * z0 < c0 * zj)) ∧ X = Y)) 0 0 (va_A X.1 sz) := by
  refine hwMetz (cc := cHits_isGreater) (maxL := 4) (by decide) rfl (Nat.le_of_ble_eq_true rfl) (fun p e s m args below meth c ls A Q hx hb hml hown hts hname hret hK hO hZ hA hl => ?_)
  have hl : lv_has ls 4 [(0, .ref a), (1, .int (nI c0)), (2, .int (nI z0)), (3, .int (nI j))] := hl
  refine lv_iload_n hx hb dHits_isGreater_0 rfl (lv_at hl 1 rfl) ?_
  refine lv_i2l hx hb dHits_isGreater_1 (nI_l (n := c0) (by omega)) ?_
  refine lv_aload_n hx hb dHits_isGreater_2 rfl (lv_at hl 0 rfl) ?_
  refine lv_iload_n hx hb dHits_isGreater_3 rfl (lv_at hl 3 rfl) ?_
  refine hw_calli (va_runV (As := [.int (nI j)]) (rest := [.long (lN c0)]) ⟨hx, hb, hml, hown, hts⟩ (c_Hi_siz l D K X s.heap.size (a := a) (L := L) (q1 := q1) (q2 := q2) (q3 := q3) (n := n) (L1 := L3) (f1 := f3) (j := j) f0_ f2_ (by omega) (by omega)) (cwV 1 hts (hwGood (hw_4 mm_100 mm_101 mm_102 mm_95 (hwAll mm_99))) rfl rfl rfl (by decide +kernel) ⟨Nat.le_of_ble_eq_true rfl, Nat.le_of_ble_eq_true rfl⟩) (hw_preV hK hO hZ (⟨_, _, f0_⟩) rfl) rfl rfl hl.1 rfl (lv_room (Nat.le_of_ble_eq_true rfl)) dHits_isGreater_4 ⟨(show 0 + 0 ≤ 0 by omega), (show 0 + 0 ≤ 0 by omega)⟩) hZ hA (fun r X_1 H_2 lc_3 hp hZ => ?_)
  obtain ⟨hr, hy⟩ := hp
  subst hy
  refine hw_topi hr ?_
  refine hw_topi ((if_pos hj).trans h3) ?_
  refine lv_i2l hx hb dHits_isGreater_7 (nI_l (n := zj) (by omega)) ?_
  refine lv_lmul hx hb dHits_isGreater_8 ?_
  refine hw_topl (lN_mul c0 zj) ?_
  refine lv_aload_n hx hb dHits_isGreater_9 rfl (lv_at hl 0 rfl) ?_
  refine lv_iload_n hx hb dHits_isGreater_10 rfl (lv_at hl 3 rfl) ?_
  refine hw_calli (va_runV (As := [.int (nI j)]) (rest := [.long (lN (c0 * zj))]) ⟨hx, hb, hml, hown, hts⟩ (c_Hi_cnt l D K X H_2.size (a := a) (L := L) (q1 := q1) (q2 := q2) (q3 := q3) (n := n) (L1 := L2) (f1 := f2) (j := j) f0_ f1_ (by omega) (by omega)) (cwV 1 hts (hwGood (hw_4 mm_104 mm_105 mm_106 mm_95 (hwAll mm_103))) rfl rfl rfl (by decide +kernel) ⟨Nat.le_of_ble_eq_true rfl, Nat.le_of_ble_eq_true rfl⟩) (hw_preV hK hO hZ (⟨_, _, f0_⟩) rfl) rfl rfl hl.1 rfl (lv_room (Nat.le_of_ble_eq_true rfl)) dHits_isGreater_11 ⟨(show 0 + 0 ≤ 0 by omega), (show 0 + 0 ≤ 0 by omega)⟩) hZ hA (fun r X_4 H_5 lc_6 hp hZ => ?_)
  obtain ⟨hr, hy⟩ := hp
  subst hy
  refine hw_topi hr ?_
  refine hw_topi ((if_pos hj).trans h2) ?_
  refine lv_i2l hx hb dHits_isGreater_14 (nI_l (n := cj) (by omega)) ?_
  refine lv_iload_n hx hb dHits_isGreater_15 rfl (lv_at hl 2 rfl) ?_
  refine lv_i2l hx hb dHits_isGreater_16 (nI_l (n := z0) (by omega)) ?_
  refine lv_lmul hx hb dHits_isGreater_17 ?_
  refine hw_topl (lN_mul cj z0) ?_
  refine hw_lc_le (a := c0 * zj) (b := cj * z0) (tgt := 26) hx hb dHits_isGreater_18 dHits_isGreater_19 (by decide) (hw_mul63 (by omega) (by omega)) (hw_mul63 (by omega) (by omega)) (fun cq_7 => ?_) (fun cq_7 => ?_)
  · refine lv_iconst (v := nI 0) hx hb dHits_isGreater_26 (by decide) ?_
    exact hret (by decide) hZ ⟨by rw [decide_eq_false (Nat.not_lt.mpr cq_7)]; rfl, rfl⟩ dHits_isGreater_27
  · refine lv_iconst (v := nI 1) hx hb dHits_isGreater_22 (by decide) ?_
    refine lv_goto (tgt := 27) hx hb dHits_isGreater_23 (by decide) ?_
    exact hret (by decide) hZ ⟨by rw [decide_eq_true cq_7]; rfl, rfl⟩ dHits_isGreater_27
end
section
theorem hw_5 {own C owner : String} {idx : Nat} {x y : MethodName} {ws : List Cond} (h1 : Cond.methodLink own idx x ∈ hwG) (h2 : Cond.sameMethod x.cls owner x.name x.desc ∈ hwG) (h3 : Cond.selects C x y ∈ hwG) (h4 : Cond.instanceMethod y ∈ hwG) (h5 : Cond.initialized y.cls ∈ hwG) (h : ∀ w ∈ ws, w ∈ hwG) : ∀ w ∈ va_wsU own idx C owner x y ws, w ∈ hwG := by
  intro w hw
  unfold va_wsU at hw
  rcases List.mem_append.mp hw with q | q
  · simp only [List.mem_cons, List.not_mem_nil, or_false] at q
    rcases q with rfl | rfl | rfl | rfl | rfl <;> assumption
  · exact h w q
/-- a phrase's TERMS stand at a place -/
def stL (ta tb : List (List Nat)) (n : Nat) : Bool := (List.range ta.length).all (fun i => decide (ta.getD i [] = [] ∨ ta.getD i [] = tb.getD (n + i) []))
def phL (ta tb : List (List Nat)) : Bool := (List.range (tb.length + 1 - ta.length)).any (fun n => stL ta tb n)
def nd (a b : Nat) : Nat := (a - b) + (b - a)
theorem nd_le (a b : Nat) : nd a b ≤ a + b := by unfold nd; omega
def beL (tb : List (List Nat)) (v : List Nat) (dd pl : Nat) : Bool := (List.range tb.length).any (fun p => decide (p ≠ pl ∧ nd p pl ≤ dd ∧ tb.getD p [] = v))
def neL (tb : List (List Nat)) (u v : List Nat) (dd : Nat) : Bool := (List.range tb.length).any (fun p => decide (tb.getD p [] = u ∧ beL tb v dd p = true))
theorem range_all {n : Nat} {P : Nat → Bool} (h : ∀ p, p < n → P p = true) : (List.range n).all P = true := List.all_eq_true.mpr (fun p hp => h p (List.mem_range.mp hp))
theorem range_all_f {n p : Nat} {P : Nat → Bool} (hp : p < n) (h : P p = false) : (List.range n).all P = false := List.all_eq_false.mpr ⟨p, List.mem_range.mpr hp, by simp [h]⟩
theorem range_any {n p : Nat} {P : Nat → Bool} (hp : p < n) (h : P p = true) : (List.range n).any P = true := List.any_eq_true.mpr ⟨p, List.mem_range.mpr hp, h⟩
theorem range_any_f {n : Nat} {P : Nat → Bool} (h : ∀ p, p < n → P p = false) : (List.range n).any P = false := List.any_eq_false.mpr (fun p hp => by simp [h p (List.mem_range.mp hp)])
theorem stL_true {ta tb : List (List Nat)} {n : Nat} (h : ∀ p, p < ta.length → ta.getD p [] = [] ∨ ta.getD p [] = tb.getD (n + p) []) : stL ta tb n = true := range_all (fun p hp => decide_eq_true (h p hp))
theorem stL_false {ta tb : List (List Nat)} {n p : Nat} (hp : p < ta.length) (h : ¬ (ta.getD p [] = [] ∨ ta.getD p [] = tb.getD (n + p) [])) : stL ta tb n = false := range_all_f hp (decide_eq_false h)
theorem phL_true {ta tb : List (List Nat)} {p : Nat} (hp : p < tb.length + 1 - ta.length) (h : stL ta tb p = true) : phL ta tb = true := range_any hp h
theorem phL_false {ta tb : List (List Nat)} (h : ∀ p, p < tb.length + 1 - ta.length → stL ta tb p = false) : phL ta tb = false := range_any_f h
theorem beL_true {tb : List (List Nat)} {v : List Nat} {dd pl p : Nat} (hp : p < tb.length) (h : p ≠ pl ∧ nd p pl ≤ dd ∧ tb.getD p [] = v) : beL tb v dd pl = true := range_any hp (decide_eq_true h)
theorem beL_false {tb : List (List Nat)} {v : List Nat} {dd pl : Nat} (h : ∀ p, p < tb.length → ¬ (p ≠ pl ∧ nd p pl ≤ dd ∧ tb.getD p [] = v)) : beL tb v dd pl = false := range_any_f (fun p hp => decide_eq_false (h p hp))
theorem neL_true {tb : List (List Nat)} {u v : List Nat} {dd p : Nat} (hp : p < tb.length) (h : tb.getD p [] = u ∧ beL tb v dd p = true) : neL tb u v dd = true := range_any hp (decide_eq_true h)
theorem neL_false {tb : List (List Nat)} {u v : List Nat} {dd : Nat} (h : ∀ p, p < tb.length → ¬ (tb.getD p [] = u ∧ beL tb v dd p = true)) : neL tb u v dd = false := range_any_f (fun p hp => decide_eq_false (h p hp))
theorem hw_nabs {a b : Nat} (ha : a < 2 ^ 30) (hb : b < 2 ^ 30) : (if 0 ≤ nI a - nI b then nI a - nI b else 0 - (nI a - nI b)) = nI (nd a b) := by
  rcases Nat.lt_or_ge a b with h | h
  · have h1 : ¬ (0 ≤ nI a - nI b) := by
      have := pk_sneg (a := a) hb h
      rw [Int32.le_iff_toInt_le]
      rw [Int32.lt_iff_toInt_lt] at this
      omega
    rw [if_neg h1]
    have e : nd a b = b - a := by unfold nd; omega
    rw [e, ← pk_sub (Nat.le_of_lt h), Int32.zero_sub, Int32.neg_sub]
  · have e : nd a b = a - b := by unfold nd; omega
    rw [pk_sub h, e, if_pos (nI_pos' (by omega))]
theorem dSearch_init_0 : decode cSearch_init 0 = .ok (.aload_n 0, 1) := by decide +kernel
theorem dSearch_init_1 : decode cSearch_init 1 = .ok (.invokespecial 1, 3) := by decide +kernel
theorem dSearch_init_4 : decode cSearch_init 4 = .ok (.return_, 1) := by decide +kernel
theorem dAllSearch_init_0 : decode cAllSearch_init 0 = .ok (.aload_n 0, 1) := by decide +kernel
theorem dAllSearch_init_1 : decode cAllSearch_init 1 = .ok (.invokespecial 1, 3) := by decide +kernel
theorem dAllSearch_init_4 : decode cAllSearch_init 4 = .ok (.aload_n 0, 1) := by decide +kernel
theorem dAllSearch_init_5 : decode cAllSearch_init 5 = .ok (.aload_n 1, 1) := by decide +kernel
theorem dAllSearch_init_6 : decode cAllSearch_init 6 = .ok (.putfield 7, 3) := by decide +kernel
theorem dAllSearch_init_9 : decode cAllSearch_init 9 = .ok (.return_, 1) := by decide +kernel
theorem dPhraseSearch_init_0 : decode cPhraseSearch_init 0 = .ok (.aload_n 0, 1) := by decide +kernel
theorem dPhraseSearch_init_1 : decode cPhraseSearch_init 1 = .ok (.invokespecial 1, 3) := by decide +kernel
theorem dPhraseSearch_init_4 : decode cPhraseSearch_init 4 = .ok (.aload_n 0, 1) := by decide +kernel
theorem dPhraseSearch_init_5 : decode cPhraseSearch_init 5 = .ok (.aload_n 1, 1) := by decide +kernel
theorem dPhraseSearch_init_6 : decode cPhraseSearch_init 6 = .ok (.putfield 7, 3) := by decide +kernel
theorem dPhraseSearch_init_9 : decode cPhraseSearch_init 9 = .ok (.return_, 1) := by decide +kernel
theorem dNearSearch_init_0 : decode cNearSearch_init 0 = .ok (.aload_n 0, 1) := by decide +kernel
theorem dNearSearch_init_1 : decode cNearSearch_init 1 = .ok (.invokespecial 1, 3) := by decide +kernel
theorem dNearSearch_init_4 : decode cNearSearch_init 4 = .ok (.aload_n 0, 1) := by decide +kernel
theorem dNearSearch_init_5 : decode cNearSearch_init 5 = .ok (.lload_n 1, 1) := by decide +kernel
theorem dNearSearch_init_6 : decode cNearSearch_init 6 = .ok (.putfield 7, 3) := by decide +kernel
theorem dNearSearch_init_9 : decode cNearSearch_init 9 = .ok (.aload_n 0, 1) := by decide +kernel
theorem dNearSearch_init_10 : decode cNearSearch_init 10 = .ok (.lload_n 3, 1) := by decide +kernel
theorem dNearSearch_init_11 : decode cNearSearch_init 11 = .ok (.putfield 13, 3) := by decide +kernel
theorem dNearSearch_init_14 : decode cNearSearch_init 14 = .ok (.aload_n 0, 1) := by decide +kernel
theorem dNearSearch_init_15 : decode cNearSearch_init 15 = .ok (.iload 5, 2) := by decide +kernel
theorem dNearSearch_init_17 : decode cNearSearch_init 17 = .ok (.putfield 16, 3) := by decide +kernel
theorem dNearSearch_init_20 : decode cNearSearch_init 20 = .ok (.return_, 1) := by decide +kernel
theorem dWildSearch_init_0 : decode cWildSearch_init 0 = .ok (.aload_n 0, 1) := by decide +kernel
theorem dWildSearch_init_1 : decode cWildSearch_init 1 = .ok (.invokespecial 1, 3) := by decide +kernel
theorem dWildSearch_init_4 : decode cWildSearch_init 4 = .ok (.aload_n 0, 1) := by decide +kernel
theorem dWildSearch_init_5 : decode cWildSearch_init 5 = .ok (.lload_n 1, 1) := by decide +kernel
theorem dWildSearch_init_6 : decode cWildSearch_init 6 = .ok (.putfield 7, 3) := by decide +kernel
theorem dWildSearch_init_9 : decode cWildSearch_init 9 = .ok (.aload_n 0, 1) := by decide +kernel
theorem dWildSearch_init_10 : decode cWildSearch_init 10 = .ok (.iload_n 3, 1) := by decide +kernel
theorem dWildSearch_init_11 : decode cWildSearch_init 11 = .ok (.putfield 13, 3) := by decide +kernel
theorem dWildSearch_init_14 : decode cWildSearch_init 14 = .ok (.return_, 1) := by decide +kernel
theorem dAllSearch_wants_0 : decode cAllSearch_wants 0 = .ok (.aload_n 0, 1) := by decide +kernel
theorem dAllSearch_wants_1 : decode cAllSearch_wants 1 = .ok (.getfield 7, 3) := by decide +kernel
theorem dAllSearch_wants_4 : decode cAllSearch_wants 4 = .ok (.lload_n 1, 1) := by decide +kernel
theorem dAllSearch_wants_5 : decode cAllSearch_wants 5 = .ok (.invokevirtual 23, 3) := by decide +kernel
theorem dAllSearch_wants_8 : decode cAllSearch_wants 8 = .ok (.ireturn, 1) := by decide +kernel
theorem dPhraseSearch_wants_0 : decode cPhraseSearch_wants 0 = .ok (.aload_n 0, 1) := by decide +kernel
theorem dPhraseSearch_wants_1 : decode cPhraseSearch_wants 1 = .ok (.getfield 7, 3) := by decide +kernel
theorem dPhraseSearch_wants_4 : decode cPhraseSearch_wants 4 = .ok (.lload_n 1, 1) := by decide +kernel
theorem dPhraseSearch_wants_5 : decode cPhraseSearch_wants 5 = .ok (.invokevirtual 23, 3) := by decide +kernel
theorem dPhraseSearch_wants_8 : decode cPhraseSearch_wants 8 = .ok (.ireturn, 1) := by decide +kernel
theorem dNearSearch_wants_0 : decode cNearSearch_wants 0 = .ok (.lload_n 1, 1) := by decide +kernel
theorem dNearSearch_wants_1 : decode cNearSearch_wants 1 = .ok (.aload_n 0, 1) := by decide +kernel
theorem dNearSearch_wants_2 : decode cNearSearch_wants 2 = .ok (.getfield 7, 3) := by decide +kernel
theorem dNearSearch_wants_5 : decode cNearSearch_wants 5 = .ok (.lcmp, 1) := by decide +kernel
theorem dNearSearch_wants_6 : decode cNearSearch_wants 6 = .ok (.ifCond .eq 12, 3) := by decide +kernel
theorem dNearSearch_wants_9 : decode cNearSearch_wants 9 = .ok (.lload_n 1, 1) := by decide +kernel
theorem dNearSearch_wants_10 : decode cNearSearch_wants 10 = .ok (.aload_n 0, 1) := by decide +kernel
theorem dNearSearch_wants_11 : decode cNearSearch_wants 11 = .ok (.getfield 13, 3) := by decide +kernel
theorem dNearSearch_wants_14 : decode cNearSearch_wants 14 = .ok (.lcmp, 1) := by decide +kernel
theorem dNearSearch_wants_15 : decode cNearSearch_wants 15 = .ok (.ifCond .ne 7, 3) := by decide +kernel
theorem dNearSearch_wants_18 : decode cNearSearch_wants 18 = .ok (.iconst 1, 1) := by decide +kernel
theorem dNearSearch_wants_19 : decode cNearSearch_wants 19 = .ok (.goto 4, 3) := by decide +kernel
theorem dNearSearch_wants_22 : decode cNearSearch_wants 22 = .ok (.iconst 0, 1) := by decide +kernel
theorem dNearSearch_wants_23 : decode cNearSearch_wants 23 = .ok (.ireturn, 1) := by decide +kernel
theorem dWildSearch_wants_0 : decode cWildSearch_wants 0 = .ok (.aload_n 0, 1) := by decide +kernel
theorem dWildSearch_wants_1 : decode cWildSearch_wants 1 = .ok (.getfield 13, 3) := by decide +kernel
theorem dWildSearch_wants_4 : decode cWildSearch_wants 4 = .ok (.ifCond .eq 14, 3) := by decide +kernel
theorem dWildSearch_wants_7 : decode cWildSearch_wants 7 = .ok (.lload_n 1, 1) := by decide +kernel
theorem dWildSearch_wants_8 : decode cWildSearch_wants 8 = .ok (.aload_n 0, 1) := by decide +kernel
theorem dWildSearch_wants_9 : decode cWildSearch_wants 9 = .ok (.getfield 7, 3) := by decide +kernel
theorem dWildSearch_wants_12 : decode cWildSearch_wants 12 = .ok (.invokestatic 21, 3) := by decide +kernel
theorem dWildSearch_wants_15 : decode cWildSearch_wants 15 = .ok (.goto 11, 3) := by decide +kernel
theorem dWildSearch_wants_18 : decode cWildSearch_wants 18 = .ok (.lload_n 1, 1) := by decide +kernel
theorem dWildSearch_wants_19 : decode cWildSearch_wants 19 = .ok (.aload_n 0, 1) := by decide +kernel
theorem dWildSearch_wants_20 : decode cWildSearch_wants 20 = .ok (.getfield 7, 3) := by decide +kernel
theorem dWildSearch_wants_23 : decode cWildSearch_wants 23 = .ok (.invokestatic 27, 3) := by decide +kernel
theorem dWildSearch_wants_26 : decode cWildSearch_wants 26 = .ok (.ireturn, 1) := by decide +kernel
theorem dSearch_countIn_0 : decode cSearch_countIn 0 = .ok (.iconst 0, 1) := by decide +kernel
theorem dSearch_countIn_1 : decode cSearch_countIn 1 = .ok (.istore_n 2, 1) := by decide +kernel
theorem dSearch_countIn_2 : decode cSearch_countIn 2 = .ok (.iconst 0, 1) := by decide +kernel
theorem dSearch_countIn_3 : decode cSearch_countIn 3 = .ok (.istore_n 3, 1) := by decide +kernel
theorem dSearch_countIn_4 : decode cSearch_countIn 4 = .ok (.iload_n 3, 1) := by decide +kernel
theorem dSearch_countIn_5 : decode cSearch_countIn 5 = .ok (.aload_n 1, 1) := by decide +kernel
theorem dSearch_countIn_6 : decode cSearch_countIn 6 = .ok (.invokevirtual 7, 3) := by decide +kernel
theorem dSearch_countIn_9 : decode cSearch_countIn 9 = .ok (.if_icmp .ge 34, 3) := by decide +kernel
theorem dSearch_countIn_12 : decode cSearch_countIn 12 = .ok (.aload_n 1, 1) := by decide +kernel
theorem dSearch_countIn_13 : decode cSearch_countIn 13 = .ok (.iload_n 3, 1) := by decide +kernel
theorem dSearch_countIn_14 : decode cSearch_countIn 14 = .ok (.invokevirtual 13, 3) := by decide +kernel
theorem dSearch_countIn_17 : decode cSearch_countIn 17 = .ok (.lconst 0, 1) := by decide +kernel
theorem dSearch_countIn_18 : decode cSearch_countIn 18 = .ok (.lcmp, 1) := by decide +kernel
theorem dSearch_countIn_19 : decode cSearch_countIn 19 = .ok (.ifCond .eq 18, 3) := by decide +kernel
theorem dSearch_countIn_22 : decode cSearch_countIn 22 = .ok (.aload_n 0, 1) := by decide +kernel
theorem dSearch_countIn_23 : decode cSearch_countIn 23 = .ok (.aload_n 1, 1) := by decide +kernel
theorem dSearch_countIn_24 : decode cSearch_countIn 24 = .ok (.iload_n 3, 1) := by decide +kernel
theorem dSearch_countIn_25 : decode cSearch_countIn 25 = .ok (.invokevirtual 13, 3) := by decide +kernel
theorem dSearch_countIn_28 : decode cSearch_countIn 28 = .ok (.invokevirtual 17, 3) := by decide +kernel
theorem dSearch_countIn_31 : decode cSearch_countIn 31 = .ok (.ifCond .eq 6, 3) := by decide +kernel
theorem dSearch_countIn_34 : decode cSearch_countIn 34 = .ok (.iinc 2 1, 3) := by decide +kernel
theorem dSearch_countIn_37 : decode cSearch_countIn 37 = .ok (.iinc 3 1, 3) := by decide +kernel
theorem dSearch_countIn_40 : decode cSearch_countIn 40 = .ok (.goto (-36), 3) := by decide +kernel
theorem dSearch_countIn_43 : decode cSearch_countIn 43 = .ok (.iload_n 2, 1) := by decide +kernel
theorem dSearch_countIn_44 : decode cSearch_countIn 44 = .ok (.ireturn, 1) := by decide +kernel
theorem dAllSearch_meets_0 : decode cAllSearch_meets 0 = .ok (.iconst 0, 1) := by decide +kernel
theorem dAllSearch_meets_1 : decode cAllSearch_meets 1 = .ok (.istore_n 2, 1) := by decide +kernel
theorem dAllSearch_meets_2 : decode cAllSearch_meets 2 = .ok (.iload_n 2, 1) := by decide +kernel
theorem dAllSearch_meets_3 : decode cAllSearch_meets 3 = .ok (.aload_n 0, 1) := by decide +kernel
theorem dAllSearch_meets_4 : decode cAllSearch_meets 4 = .ok (.getfield 7, 3) := by decide +kernel
theorem dAllSearch_meets_7 : decode cAllSearch_meets 7 = .ok (.invokevirtual 13, 3) := by decide +kernel
theorem dAllSearch_meets_10 : decode cAllSearch_meets 10 = .ok (.if_icmp .ge 39, 3) := by decide +kernel
theorem dAllSearch_meets_13 : decode cAllSearch_meets 13 = .ok (.aload_n 0, 1) := by decide +kernel
theorem dAllSearch_meets_14 : decode cAllSearch_meets 14 = .ok (.getfield 7, 3) := by decide +kernel
theorem dAllSearch_meets_17 : decode cAllSearch_meets 17 = .ok (.iload_n 2, 1) := by decide +kernel
theorem dAllSearch_meets_18 : decode cAllSearch_meets 18 = .ok (.invokevirtual 19, 3) := by decide +kernel
theorem dAllSearch_meets_21 : decode cAllSearch_meets 21 = .ok (.lconst 0, 1) := by decide +kernel
theorem dAllSearch_meets_22 : decode cAllSearch_meets 22 = .ok (.lcmp, 1) := by decide +kernel
theorem dAllSearch_meets_23 : decode cAllSearch_meets 23 = .ok (.ifCond .eq 20, 3) := by decide +kernel
theorem dAllSearch_meets_26 : decode cAllSearch_meets 26 = .ok (.aload_n 1, 1) := by decide +kernel
theorem dAllSearch_meets_27 : decode cAllSearch_meets 27 = .ok (.aload_n 0, 1) := by decide +kernel
theorem dAllSearch_meets_28 : decode cAllSearch_meets 28 = .ok (.getfield 7, 3) := by decide +kernel
theorem dAllSearch_meets_31 : decode cAllSearch_meets 31 = .ok (.iload_n 2, 1) := by decide +kernel
theorem dAllSearch_meets_32 : decode cAllSearch_meets 32 = .ok (.invokevirtual 19, 3) := by decide +kernel
theorem dAllSearch_meets_35 : decode cAllSearch_meets 35 = .ok (.invokevirtual 23, 3) := by decide +kernel
theorem dAllSearch_meets_38 : decode cAllSearch_meets 38 = .ok (.ifCond .ne 5, 3) := by decide +kernel
theorem dAllSearch_meets_41 : decode cAllSearch_meets 41 = .ok (.iconst 0, 1) := by decide +kernel
theorem dAllSearch_meets_42 : decode cAllSearch_meets 42 = .ok (.ireturn, 1) := by decide +kernel
theorem dAllSearch_meets_43 : decode cAllSearch_meets 43 = .ok (.iinc 2 1, 3) := by decide +kernel
theorem dAllSearch_meets_46 : decode cAllSearch_meets 46 = .ok (.goto (-44), 3) := by decide +kernel
theorem dAllSearch_meets_49 : decode cAllSearch_meets 49 = .ok (.iconst 1, 1) := by decide +kernel
theorem dAllSearch_meets_50 : decode cAllSearch_meets 50 = .ok (.ireturn, 1) := by decide +kernel
theorem dPhraseSearch_standsAt_0 : decode cPhraseSearch_standsAt 0 = .ok (.iconst 0, 1) := by decide +kernel
theorem dPhraseSearch_standsAt_1 : decode cPhraseSearch_standsAt 1 = .ok (.istore_n 3, 1) := by decide +kernel
theorem dPhraseSearch_standsAt_2 : decode cPhraseSearch_standsAt 2 = .ok (.iload_n 3, 1) := by decide +kernel
theorem dPhraseSearch_standsAt_3 : decode cPhraseSearch_standsAt 3 = .ok (.aload_n 0, 1) := by decide +kernel
theorem dPhraseSearch_standsAt_4 : decode cPhraseSearch_standsAt 4 = .ok (.getfield 7, 3) := by decide +kernel
theorem dPhraseSearch_standsAt_7 : decode cPhraseSearch_standsAt 7 = .ok (.invokevirtual 13, 3) := by decide +kernel
theorem dPhraseSearch_standsAt_10 : decode cPhraseSearch_standsAt 10 = .ok (.if_icmp .ge 43, 3) := by decide +kernel
theorem dPhraseSearch_standsAt_13 : decode cPhraseSearch_standsAt 13 = .ok (.aload_n 0, 1) := by decide +kernel
theorem dPhraseSearch_standsAt_14 : decode cPhraseSearch_standsAt 14 = .ok (.getfield 7, 3) := by decide +kernel
theorem dPhraseSearch_standsAt_17 : decode cPhraseSearch_standsAt 17 = .ok (.iload_n 3, 1) := by decide +kernel
theorem dPhraseSearch_standsAt_18 : decode cPhraseSearch_standsAt 18 = .ok (.invokevirtual 27, 3) := by decide +kernel
theorem dPhraseSearch_standsAt_21 : decode cPhraseSearch_standsAt 21 = .ok (.lconst 0, 1) := by decide +kernel
theorem dPhraseSearch_standsAt_22 : decode cPhraseSearch_standsAt 22 = .ok (.lcmp, 1) := by decide +kernel
theorem dPhraseSearch_standsAt_23 : decode cPhraseSearch_standsAt 23 = .ok (.ifCond .eq 24, 3) := by decide +kernel
theorem dPhraseSearch_standsAt_26 : decode cPhraseSearch_standsAt 26 = .ok (.aload_n 0, 1) := by decide +kernel
theorem dPhraseSearch_standsAt_27 : decode cPhraseSearch_standsAt 27 = .ok (.getfield 7, 3) := by decide +kernel
theorem dPhraseSearch_standsAt_30 : decode cPhraseSearch_standsAt 30 = .ok (.iload_n 3, 1) := by decide +kernel
theorem dPhraseSearch_standsAt_31 : decode cPhraseSearch_standsAt 31 = .ok (.invokevirtual 27, 3) := by decide +kernel
theorem dPhraseSearch_standsAt_34 : decode cPhraseSearch_standsAt 34 = .ok (.aload_n 1, 1) := by decide +kernel
theorem dPhraseSearch_standsAt_35 : decode cPhraseSearch_standsAt 35 = .ok (.iload_n 2, 1) := by decide +kernel
theorem dPhraseSearch_standsAt_36 : decode cPhraseSearch_standsAt 36 = .ok (.iload_n 3, 1) := by decide +kernel
theorem dPhraseSearch_standsAt_37 : decode cPhraseSearch_standsAt 37 = .ok (.iadd, 1) := by decide +kernel
theorem dPhraseSearch_standsAt_38 : decode cPhraseSearch_standsAt 38 = .ok (.invokevirtual 27, 3) := by decide +kernel
theorem dPhraseSearch_standsAt_41 : decode cPhraseSearch_standsAt 41 = .ok (.lcmp, 1) := by decide +kernel
theorem dPhraseSearch_standsAt_42 : decode cPhraseSearch_standsAt 42 = .ok (.ifCond .eq 5, 3) := by decide +kernel
theorem dPhraseSearch_standsAt_45 : decode cPhraseSearch_standsAt 45 = .ok (.iconst 0, 1) := by decide +kernel
theorem dPhraseSearch_standsAt_46 : decode cPhraseSearch_standsAt 46 = .ok (.ireturn, 1) := by decide +kernel
theorem dPhraseSearch_standsAt_47 : decode cPhraseSearch_standsAt 47 = .ok (.iinc 3 1, 3) := by decide +kernel
theorem dPhraseSearch_standsAt_50 : decode cPhraseSearch_standsAt 50 = .ok (.goto (-48), 3) := by decide +kernel
theorem dPhraseSearch_standsAt_53 : decode cPhraseSearch_standsAt 53 = .ok (.iconst 1, 1) := by decide +kernel
theorem dPhraseSearch_standsAt_54 : decode cPhraseSearch_standsAt 54 = .ok (.ireturn, 1) := by decide +kernel
theorem dPhraseSearch_meets_0 : decode cPhraseSearch_meets 0 = .ok (.iconst 0, 1) := by decide +kernel
theorem dPhraseSearch_meets_1 : decode cPhraseSearch_meets 1 = .ok (.istore_n 2, 1) := by decide +kernel
theorem dPhraseSearch_meets_2 : decode cPhraseSearch_meets 2 = .ok (.iload_n 2, 1) := by decide +kernel
theorem dPhraseSearch_meets_3 : decode cPhraseSearch_meets 3 = .ok (.aload_n 0, 1) := by decide +kernel
theorem dPhraseSearch_meets_4 : decode cPhraseSearch_meets 4 = .ok (.getfield 7, 3) := by decide +kernel
theorem dPhraseSearch_meets_7 : decode cPhraseSearch_meets 7 = .ok (.invokevirtual 13, 3) := by decide +kernel
theorem dPhraseSearch_meets_10 : decode cPhraseSearch_meets 10 = .ok (.iadd, 1) := by decide +kernel
theorem dPhraseSearch_meets_11 : decode cPhraseSearch_meets 11 = .ok (.aload_n 1, 1) := by decide +kernel
theorem dPhraseSearch_meets_12 : decode cPhraseSearch_meets 12 = .ok (.invokevirtual 13, 3) := by decide +kernel
theorem dPhraseSearch_meets_15 : decode cPhraseSearch_meets 15 = .ok (.if_icmp .gt 20, 3) := by decide +kernel
theorem dPhraseSearch_meets_18 : decode cPhraseSearch_meets 18 = .ok (.aload_n 0, 1) := by decide +kernel
theorem dPhraseSearch_meets_19 : decode cPhraseSearch_meets 19 = .ok (.aload_n 1, 1) := by decide +kernel
theorem dPhraseSearch_meets_20 : decode cPhraseSearch_meets 20 = .ok (.iload_n 2, 1) := by decide +kernel
theorem dPhraseSearch_meets_21 : decode cPhraseSearch_meets 21 = .ok (.invokevirtual 19, 3) := by decide +kernel
theorem dPhraseSearch_meets_24 : decode cPhraseSearch_meets 24 = .ok (.ifCond .eq 5, 3) := by decide +kernel
theorem dPhraseSearch_meets_27 : decode cPhraseSearch_meets 27 = .ok (.iconst 1, 1) := by decide +kernel
theorem dPhraseSearch_meets_28 : decode cPhraseSearch_meets 28 = .ok (.ireturn, 1) := by decide +kernel
theorem dPhraseSearch_meets_29 : decode cPhraseSearch_meets 29 = .ok (.iinc 2 1, 3) := by decide +kernel
theorem dPhraseSearch_meets_32 : decode cPhraseSearch_meets 32 = .ok (.goto (-30), 3) := by decide +kernel
theorem dPhraseSearch_meets_35 : decode cPhraseSearch_meets 35 = .ok (.iconst 0, 1) := by decide +kernel
theorem dPhraseSearch_meets_36 : decode cPhraseSearch_meets 36 = .ok (.ireturn, 1) := by decide +kernel
theorem dNearSearch_secondIsBeside_0 : decode cNearSearch_secondIsBeside 0 = .ok (.iconst 0, 1) := by decide +kernel
theorem dNearSearch_secondIsBeside_1 : decode cNearSearch_secondIsBeside 1 = .ok (.istore_n 3, 1) := by decide +kernel
theorem dNearSearch_secondIsBeside_2 : decode cNearSearch_secondIsBeside 2 = .ok (.iload_n 3, 1) := by decide +kernel
theorem dNearSearch_secondIsBeside_3 : decode cNearSearch_secondIsBeside 3 = .ok (.aload_n 1, 1) := by decide +kernel
theorem dNearSearch_secondIsBeside_4 : decode cNearSearch_secondIsBeside 4 = .ok (.invokevirtual 20, 3) := by decide +kernel
theorem dNearSearch_secondIsBeside_7 : decode cNearSearch_secondIsBeside 7 = .ok (.if_icmp .ge 54, 3) := by decide +kernel
theorem dNearSearch_secondIsBeside_10 : decode cNearSearch_secondIsBeside 10 = .ok (.iload_n 3, 1) := by decide +kernel
theorem dNearSearch_secondIsBeside_11 : decode cNearSearch_secondIsBeside 11 = .ok (.iload_n 2, 1) := by decide +kernel
theorem dNearSearch_secondIsBeside_12 : decode cNearSearch_secondIsBeside 12 = .ok (.if_icmp .eq 20, 3) := by decide +kernel
theorem dNearSearch_secondIsBeside_15 : decode cNearSearch_secondIsBeside 15 = .ok (.iload_n 3, 1) := by decide +kernel
theorem dNearSearch_secondIsBeside_16 : decode cNearSearch_secondIsBeside 16 = .ok (.iload_n 2, 1) := by decide +kernel
theorem dNearSearch_secondIsBeside_17 : decode cNearSearch_secondIsBeside 17 = .ok (.isub, 1) := by decide +kernel
theorem dNearSearch_secondIsBeside_18 : decode cNearSearch_secondIsBeside 18 = .ok (.invokestatic 34, 3) := by decide +kernel
theorem dNearSearch_secondIsBeside_21 : decode cNearSearch_secondIsBeside 21 = .ok (.aload_n 0, 1) := by decide +kernel
theorem dNearSearch_secondIsBeside_22 : decode cNearSearch_secondIsBeside 22 = .ok (.getfield 16, 3) := by decide +kernel
theorem dNearSearch_secondIsBeside_25 : decode cNearSearch_secondIsBeside 25 = .ok (.if_icmp .gt 7, 3) := by decide +kernel
theorem dNearSearch_secondIsBeside_28 : decode cNearSearch_secondIsBeside 28 = .ok (.iconst 1, 1) := by decide +kernel
theorem dNearSearch_secondIsBeside_29 : decode cNearSearch_secondIsBeside 29 = .ok (.goto 4, 3) := by decide +kernel
theorem dNearSearch_secondIsBeside_32 : decode cNearSearch_secondIsBeside 32 = .ok (.iconst 0, 1) := by decide +kernel
theorem dNearSearch_secondIsBeside_33 : decode cNearSearch_secondIsBeside 33 = .ok (.istore 4, 2) := by decide +kernel
theorem dNearSearch_secondIsBeside_35 : decode cNearSearch_secondIsBeside 35 = .ok (.iload 4, 2) := by decide +kernel
theorem dNearSearch_secondIsBeside_37 : decode cNearSearch_secondIsBeside 37 = .ok (.ifCond .eq 18, 3) := by decide +kernel
theorem dNearSearch_secondIsBeside_40 : decode cNearSearch_secondIsBeside 40 = .ok (.aload_n 1, 1) := by decide +kernel
theorem dNearSearch_secondIsBeside_41 : decode cNearSearch_secondIsBeside 41 = .ok (.iload_n 3, 1) := by decide +kernel
theorem dNearSearch_secondIsBeside_42 : decode cNearSearch_secondIsBeside 42 = .ok (.invokevirtual 26, 3) := by decide +kernel
theorem dNearSearch_secondIsBeside_45 : decode cNearSearch_secondIsBeside 45 = .ok (.aload_n 0, 1) := by decide +kernel
theorem dNearSearch_secondIsBeside_46 : decode cNearSearch_secondIsBeside 46 = .ok (.getfield 13, 3) := by decide +kernel
theorem dNearSearch_secondIsBeside_49 : decode cNearSearch_secondIsBeside 49 = .ok (.lcmp, 1) := by decide +kernel
theorem dNearSearch_secondIsBeside_50 : decode cNearSearch_secondIsBeside 50 = .ok (.ifCond .ne 5, 3) := by decide +kernel
theorem dNearSearch_secondIsBeside_53 : decode cNearSearch_secondIsBeside 53 = .ok (.iconst 1, 1) := by decide +kernel
theorem dNearSearch_secondIsBeside_54 : decode cNearSearch_secondIsBeside 54 = .ok (.ireturn, 1) := by decide +kernel
theorem dNearSearch_secondIsBeside_55 : decode cNearSearch_secondIsBeside 55 = .ok (.iinc 3 1, 3) := by decide +kernel
theorem dNearSearch_secondIsBeside_58 : decode cNearSearch_secondIsBeside 58 = .ok (.goto (-56), 3) := by decide +kernel
theorem dNearSearch_secondIsBeside_61 : decode cNearSearch_secondIsBeside 61 = .ok (.iconst 0, 1) := by decide +kernel
theorem dNearSearch_secondIsBeside_62 : decode cNearSearch_secondIsBeside 62 = .ok (.ireturn, 1) := by decide +kernel
theorem dNearSearch_meets_0 : decode cNearSearch_meets 0 = .ok (.iconst 0, 1) := by decide +kernel
theorem dNearSearch_meets_1 : decode cNearSearch_meets 1 = .ok (.istore_n 2, 1) := by decide +kernel
theorem dNearSearch_meets_2 : decode cNearSearch_meets 2 = .ok (.iload_n 2, 1) := by decide +kernel
theorem dNearSearch_meets_3 : decode cNearSearch_meets 3 = .ok (.aload_n 1, 1) := by decide +kernel
theorem dNearSearch_meets_4 : decode cNearSearch_meets 4 = .ok (.invokevirtual 20, 3) := by decide +kernel
theorem dNearSearch_meets_7 : decode cNearSearch_meets 7 = .ok (.if_icmp .ge 33, 3) := by decide +kernel
theorem dNearSearch_meets_10 : decode cNearSearch_meets 10 = .ok (.aload_n 1, 1) := by decide +kernel
theorem dNearSearch_meets_11 : decode cNearSearch_meets 11 = .ok (.iload_n 2, 1) := by decide +kernel
theorem dNearSearch_meets_12 : decode cNearSearch_meets 12 = .ok (.invokevirtual 26, 3) := by decide +kernel
theorem dNearSearch_meets_15 : decode cNearSearch_meets 15 = .ok (.aload_n 0, 1) := by decide +kernel
theorem dNearSearch_meets_16 : decode cNearSearch_meets 16 = .ok (.getfield 7, 3) := by decide +kernel
theorem dNearSearch_meets_19 : decode cNearSearch_meets 19 = .ok (.lcmp, 1) := by decide +kernel
theorem dNearSearch_meets_20 : decode cNearSearch_meets 20 = .ok (.ifCond .ne 14, 3) := by decide +kernel
theorem dNearSearch_meets_23 : decode cNearSearch_meets 23 = .ok (.aload_n 0, 1) := by decide +kernel
theorem dNearSearch_meets_24 : decode cNearSearch_meets 24 = .ok (.aload_n 1, 1) := by decide +kernel
theorem dNearSearch_meets_25 : decode cNearSearch_meets 25 = .ok (.iload_n 2, 1) := by decide +kernel
theorem dNearSearch_meets_26 : decode cNearSearch_meets 26 = .ok (.invokevirtual 30, 3) := by decide +kernel
theorem dNearSearch_meets_29 : decode cNearSearch_meets 29 = .ok (.ifCond .eq 5, 3) := by decide +kernel
theorem dNearSearch_meets_32 : decode cNearSearch_meets 32 = .ok (.iconst 1, 1) := by decide +kernel
theorem dNearSearch_meets_33 : decode cNearSearch_meets 33 = .ok (.ireturn, 1) := by decide +kernel
theorem dNearSearch_meets_34 : decode cNearSearch_meets 34 = .ok (.iinc 2 1, 3) := by decide +kernel
theorem dNearSearch_meets_37 : decode cNearSearch_meets 37 = .ok (.goto (-35), 3) := by decide +kernel
theorem dNearSearch_meets_40 : decode cNearSearch_meets 40 = .ok (.iconst 0, 1) := by decide +kernel
theorem dNearSearch_meets_41 : decode cNearSearch_meets 41 = .ok (.ireturn, 1) := by decide +kernel
theorem dWildSearch_meets_0 : decode cWildSearch_meets 0 = .ok (.aload_n 0, 1) := by decide +kernel
theorem dWildSearch_meets_1 : decode cWildSearch_meets 1 = .ok (.aload_n 1, 1) := by decide +kernel
theorem dWildSearch_meets_2 : decode cWildSearch_meets 2 = .ok (.invokevirtual 17, 3) := by decide +kernel
theorem dWildSearch_meets_5 : decode cWildSearch_meets 5 = .ok (.ifCond .le 7, 3) := by decide +kernel
theorem dWildSearch_meets_8 : decode cWildSearch_meets 8 = .ok (.iconst 1, 1) := by decide +kernel
theorem dWildSearch_meets_9 : decode cWildSearch_meets 9 = .ok (.goto 4, 3) := by decide +kernel
theorem dWildSearch_meets_12 : decode cWildSearch_meets 12 = .ok (.iconst 0, 1) := by decide +kernel
theorem dWildSearch_meets_13 : decode cWildSearch_meets 13 = .ok (.ireturn, 1) := by decide +kernel
theorem mm_107 : (.methodLink RSearch 1 objectInit : Cond) ∈ hwG := hwIx 321 (by decide +kernel) (by decide +kernel)
theorem mm_108 : (.code ySearch_init cSearch_init 1 none : Cond) ∈ hwG := hwIx 320 (by decide +kernel) (by decide +kernel)
theorem mm_109 : (.initialized RSearch : Cond) ∈ hwG := hwIx 44 (by decide +kernel) (by decide +kernel)
theorem mm_110 : (.instanceMethod ySearch_init : Cond) ∈ hwG := hwIx 319 (by decide +kernel) (by decide +kernel)
theorem mm_111 : (.fieldLink RAllSearch 7 RAllSearch "asked" "LWordIndex2$Terms;" : Cond) ∈ hwG := hwIx 322 (by decide +kernel) (by decide +kernel)
theorem mm_112 : (.fieldLink RPhraseSearch 7 RPhraseSearch "asked" "LWordIndex2$Terms;" : Cond) ∈ hwG := hwIx 441 (by decide +kernel) (by decide +kernel)
theorem mm_113 : (.fieldLink RNearSearch 7 RNearSearch "first" "J" : Cond) ∈ hwG := hwIx 455 (by decide +kernel) (by decide +kernel)
theorem mm_114 : (.fieldLink RNearSearch 13 RNearSearch "second" "J" : Cond) ∈ hwG := hwIx 456 (by decide +kernel) (by decide +kernel)
theorem mm_115 : (.fieldLink RNearSearch 16 RNearSearch "distance" "I" : Cond) ∈ hwG := hwIx 457 (by decide +kernel) (by decide +kernel)
theorem mm_116 : (.fieldLink RWildSearch 7 RWildSearch "word" "J" : Cond) ∈ hwG := hwIx 477 (by decide +kernel) (by decide +kernel)
theorem mm_117 : (.fieldLink RWildSearch 13 RWildSearch "end" "Z" : Cond) ∈ hwG := hwIx 478 (by decide +kernel) (by decide +kernel)
theorem mm_118 : (.code yTerms_has cTerms_has 4 (some .boolean) : Cond) ∈ hwG := hwIx 348 (by decide +kernel) (by decide +kernel)
theorem mm_119 : (.methodLink RAllSearch 23 yTerms_has : Cond) ∈ hwG := hwIx 345 (by decide +kernel) (by decide +kernel)
theorem mm_120 : (.instanceMethod yTerms_has : Cond) ∈ hwG := hwIx 346 (by decide +kernel) (by decide +kernel)
theorem mm_121 : (.selects RTerms yTerms_has yTerms_has : Cond) ∈ hwG := hwIx 347 (by decide +kernel) (by decide +kernel)
theorem mm_122 : (.methodLink RPhraseSearch 23 yTerms_has : Cond) ∈ hwG := hwIx 395 (by decide +kernel) (by decide +kernel)
theorem mm_123 : (.code yWord_beginsWith cWord_beginsWith 4 (some .boolean) : Cond) ∈ hwG := hwIx 405 (by decide +kernel) (by decide +kernel)
theorem mm_124 : (.static yWord_beginsWith : Cond) ∈ hwG := hwIx 404 (by decide +kernel) (by decide +kernel)
theorem mm_125 : (.methodLink RWildSearch 27 yWord_beginsWith : Cond) ∈ hwG := hwIx 403 (by decide +kernel) (by decide +kernel)
theorem mm_126 : (.code yWord_endsWith cWord_endsWith 5 (some .boolean) : Cond) ∈ hwG := hwIx 401 (by decide +kernel) (by decide +kernel)
theorem mm_127 : (.static yWord_endsWith : Cond) ∈ hwG := hwIx 400 (by decide +kernel) (by decide +kernel)
theorem mm_128 : (.methodLink RWildSearch 21 yWord_endsWith : Cond) ∈ hwG := hwIx 399 (by decide +kernel) (by decide +kernel)
theorem mm_129 : (.code yTerms_size cTerms_size 1 (some .int) : Cond) ∈ hwG := hwIx 343 (by decide +kernel) (by decide +kernel)
theorem mm_130 : (.methodLink RSearch 7 yTerms_size : Cond) ∈ hwG := hwIx 381 (by decide +kernel) (by decide +kernel)
theorem mm_131 : (.instanceMethod yTerms_size : Cond) ∈ hwG := hwIx 341 (by decide +kernel) (by decide +kernel)
theorem mm_132 : (.selects RTerms yTerms_size yTerms_size : Cond) ∈ hwG := hwIx 342 (by decide +kernel) (by decide +kernel)
theorem mm_133 : (.methodLink RSearch 13 yTerms_at : Cond) ∈ hwG := hwIx 382 (by decide +kernel) (by decide +kernel)
theorem mm_134 : (.code yAllSearch_wants cAllSearch_wants 3 (some .boolean) : Cond) ∈ hwG := hwIx 388 (by decide +kernel) (by decide +kernel)
theorem mm_135 : (.methodLink RSearch 17 xSearch_wants : Cond) ∈ hwG := hwIx 383 (by decide +kernel) (by decide +kernel)
theorem mm_136 : (.sameMethod RSearch RSearch "wants" "(J)Z" : Cond) ∈ hwG := hwIx 385 (by decide +kernel) (by decide +kernel)
theorem mm_137 : (.selects RAllSearch xSearch_wants yAllSearch_wants : Cond) ∈ hwG := hwIx 386 (by decide +kernel) (by decide +kernel)
theorem mm_138 : (.instanceMethod yAllSearch_wants : Cond) ∈ hwG := hwIx 387 (by decide +kernel) (by decide +kernel)
theorem mm_139 : (.initialized RAllSearch : Cond) ∈ hwG := hwIx 45 (by decide +kernel) (by decide +kernel)
theorem mm_140 : (.code yPhraseSearch_wants cPhraseSearch_wants 3 (some .boolean) : Cond) ∈ hwG := hwIx 394 (by decide +kernel) (by decide +kernel)
theorem mm_141 : (.selects RPhraseSearch xSearch_wants yPhraseSearch_wants : Cond) ∈ hwG := hwIx 392 (by decide +kernel) (by decide +kernel)
theorem mm_142 : (.instanceMethod yPhraseSearch_wants : Cond) ∈ hwG := hwIx 393 (by decide +kernel) (by decide +kernel)
theorem mm_143 : (.initialized RPhraseSearch : Cond) ∈ hwG := hwIx 46 (by decide +kernel) (by decide +kernel)
theorem mm_144 : (.code yNearSearch_wants cNearSearch_wants 3 (some .boolean) : Cond) ∈ hwG := hwIx 391 (by decide +kernel) (by decide +kernel)
theorem mm_145 : (.selects RNearSearch xSearch_wants yNearSearch_wants : Cond) ∈ hwG := hwIx 389 (by decide +kernel) (by decide +kernel)
theorem mm_146 : (.instanceMethod yNearSearch_wants : Cond) ∈ hwG := hwIx 390 (by decide +kernel) (by decide +kernel)
theorem mm_147 : (.initialized RNearSearch : Cond) ∈ hwG := hwIx 47 (by decide +kernel) (by decide +kernel)
theorem mm_148 : (.code yWildSearch_wants cWildSearch_wants 3 (some .boolean) : Cond) ∈ hwG := hwIx 398 (by decide +kernel) (by decide +kernel)
theorem mm_149 : (.selects RWildSearch xSearch_wants yWildSearch_wants : Cond) ∈ hwG := hwIx 396 (by decide +kernel) (by decide +kernel)
theorem mm_150 : (.instanceMethod yWildSearch_wants : Cond) ∈ hwG := hwIx 397 (by decide +kernel) (by decide +kernel)
theorem mm_151 : (.initialized RWildSearch : Cond) ∈ hwG := hwIx 48 (by decide +kernel) (by decide +kernel)
theorem mm_152 : (.methodLink RAllSearch 13 yTerms_size : Cond) ∈ hwG := hwIx 340 (by decide +kernel) (by decide +kernel)
theorem mm_153 : (.methodLink RAllSearch 19 yTerms_at : Cond) ∈ hwG := hwIx 344 (by decide +kernel) (by decide +kernel)
theorem mm_154 : (.methodLink RPhraseSearch 13 yTerms_size : Cond) ∈ hwG := hwIx 365 (by decide +kernel) (by decide +kernel)
theorem mm_155 : (.methodLink RPhraseSearch 27 yTerms_at : Cond) ∈ hwG := hwIx 371 (by decide +kernel) (by decide +kernel)
theorem mm_156 : (.code yPhraseSearch_standsAt cPhraseSearch_standsAt 4 (some .boolean) : Cond) ∈ hwG := hwIx 370 (by decide +kernel) (by decide +kernel)
theorem mm_157 : (.methodLink RPhraseSearch 19 yPhraseSearch_standsAt : Cond) ∈ hwG := hwIx 366 (by decide +kernel) (by decide +kernel)
theorem mm_158 : (.instanceMethod yPhraseSearch_standsAt : Cond) ∈ hwG := hwIx 368 (by decide +kernel) (by decide +kernel)
theorem mm_159 : (.selects RPhraseSearch yPhraseSearch_standsAt yPhraseSearch_standsAt : Cond) ∈ hwG := hwIx 9 (by decide +kernel) (by decide +kernel)
theorem mm_160 : (.methodLink RNearSearch 20 yTerms_size : Cond) ∈ hwG := hwIx 352 (by decide +kernel) (by decide +kernel)
theorem mm_161 : (.methodLink RNearSearch 34 Lib.Math.abs.name : Cond) ∈ hwG := hwIx 359 (by decide +kernel) (by decide +kernel)
theorem mm_162 : (.static Lib.Math.abs.name : Cond) ∈ hwG := hwIx 360 (by decide +kernel) (by decide +kernel)
theorem mm_163 : (.code Lib.Math.abs.name Lib.Math.abs.code 1 (some .int) : Cond) ∈ hwG := hwIx 361 (by decide +kernel) (by decide +kernel)
theorem mm_164 : (.methodLink RNearSearch 26 yTerms_at : Cond) ∈ hwG := hwIx 353 (by decide +kernel) (by decide +kernel)
theorem mm_165 : (.code yNearSearch_secondIsBeside cNearSearch_secondIsBeside 5 (some .boolean) : Cond) ∈ hwG := hwIx 358 (by decide +kernel) (by decide +kernel)
theorem mm_166 : (.methodLink RNearSearch 30 yNearSearch_secondIsBeside : Cond) ∈ hwG := hwIx 354 (by decide +kernel) (by decide +kernel)
theorem mm_167 : (.instanceMethod yNearSearch_secondIsBeside : Cond) ∈ hwG := hwIx 356 (by decide +kernel) (by decide +kernel)
theorem mm_168 : (.selects RNearSearch yNearSearch_secondIsBeside yNearSearch_secondIsBeside : Cond) ∈ hwG := hwIx 8 (by decide +kernel) (by decide +kernel)
theorem mm_169 : (.code ySearch_countIn cSearch_countIn 4 (some .int) : Cond) ∈ hwG := hwIx 380 (by decide +kernel) (by decide +kernel)
theorem mm_170 : (.methodLink RWildSearch 17 xWild_countIn : Cond) ∈ hwG := hwIx 375 (by decide +kernel) (by decide +kernel)
theorem mm_171 : (.sameMethod RWildSearch RSearch "countIn" "(LWordIndex2$Terms;)I" : Cond) ∈ hwG := hwIx 376 (by decide +kernel) (by decide +kernel)
theorem mm_172 : (.selects RWildSearch xWild_countIn ySearch_countIn : Cond) ∈ hwG := hwIx 378 (by decide +kernel) (by decide +kernel)
theorem mm_173 : (.instanceMethod ySearch_countIn : Cond) ∈ hwG := hwIx 379 (by decide +kernel) (by decide +kernel)
set_option maxHeartbeats 4000000 in
set_option maxRecDepth 100000 in
theorem c_Search_init_all (l : Launch) (D : va_G) (K : Nat → ClassId) (X : hwW) (sz : Nat) (o : Nat) (L : Nat) (f0_ : hwH X o L (.inr (6, [.null]))) : Met l ySearch_init (.code ySearch_init cSearch_init 1 none :: hwG) ({ frames := 1, cells := 0, slots := 0, locals := 20 } : Room) (hwPc D vwCl (hwT K) [.ref o] X sz) (hwQv D vwCl X sz (fun Y => X = Y)) 0 0 (va_A X.1 sz) := by
  refine hwMetv (cc := cSearch_init) (maxL := 1) (by decide) rfl (Nat.le_of_ble_eq_true rfl) (fun p e s m args below meth c ls A Q hx hb hml hown hts hname hret hK hO hZ hA hl => ?_)
  have hl : lv_has ls 1 [(0, .ref o)] := hl
  refine lv_aload_n hx hb dSearch_init_0 rfl (lv_at hl 0 rfl) ?_
  refine W.objInit hx hb hown (hts (.methodLink RSearch 1 objectInit) (hwMem mm_107)) (hts (.instanceMethod objectInit) (hwMem mm_31)) (hts (.code objectInit ⟨#[0xb1]⟩ 1 none) (hwMem mm_32)) rfl (by rw [hml]; exact hl.1) rfl dSearch_init_1 (Nat.le_of_ble_eq_true rfl) (Nat.le_of_ble_eq_true rfl) ?_
  refine W.eq (g2 := F0 m 4 ls []) rfl ?_
  exact hret hZ rfl dSearch_init_4
set_option maxHeartbeats 4000000 in
set_option maxRecDepth 100000 in
theorem c_Search_init_phr (l : Launch) (D : va_G) (K : Nat → ClassId) (X : hwW) (sz : Nat) (o : Nat) (L : Nat) (f0_ : hwH X o L (.inr (7, [.null]))) : Met l ySearch_init (.code ySearch_init cSearch_init 1 none :: hwG) ({ frames := 1, cells := 0, slots := 0, locals := 20 } : Room) (hwPc D vwCl (hwT K) [.ref o] X sz) (hwQv D vwCl X sz (fun Y => X = Y)) 0 0 (va_A X.1 sz) := by
  refine hwMetv (cc := cSearch_init) (maxL := 1) (by decide) rfl (Nat.le_of_ble_eq_true rfl) (fun p e s m args below meth c ls A Q hx hb hml hown hts hname hret hK hO hZ hA hl => ?_)
  have hl : lv_has ls 1 [(0, .ref o)] := hl
  refine lv_aload_n hx hb dSearch_init_0 rfl (lv_at hl 0 rfl) ?_
  refine W.objInit hx hb hown (hts (.methodLink RSearch 1 objectInit) (hwMem mm_107)) (hts (.instanceMethod objectInit) (hwMem mm_31)) (hts (.code objectInit ⟨#[0xb1]⟩ 1 none) (hwMem mm_32)) rfl (by rw [hml]; exact hl.1) rfl dSearch_init_1 (Nat.le_of_ble_eq_true rfl) (Nat.le_of_ble_eq_true rfl) ?_
  refine W.eq (g2 := F0 m 4 ls []) rfl ?_
  exact hret hZ rfl dSearch_init_4
set_option maxHeartbeats 4000000 in
set_option maxRecDepth 100000 in
theorem c_Search_init_nea (l : Launch) (D : va_G) (K : Nat → ClassId) (X : hwW) (sz : Nat) (o : Nat) (L : Nat) (f0_ : hwH X o L (.inr (8, [.long (lN 0), .long (lN 0), .int (nI 0)]))) : Met l ySearch_init (.code ySearch_init cSearch_init 1 none :: hwG) ({ frames := 1, cells := 0, slots := 0, locals := 20 } : Room) (hwPc D vwCl (hwT K) [.ref o] X sz) (hwQv D vwCl X sz (fun Y => X = Y)) 0 0 (va_A X.1 sz) := by
  refine hwMetv (cc := cSearch_init) (maxL := 1) (by decide) rfl (Nat.le_of_ble_eq_true rfl) (fun p e s m args below meth c ls A Q hx hb hml hown hts hname hret hK hO hZ hA hl => ?_)
  have hl : lv_has ls 1 [(0, .ref o)] := hl
  refine lv_aload_n hx hb dSearch_init_0 rfl (lv_at hl 0 rfl) ?_
  refine W.objInit hx hb hown (hts (.methodLink RSearch 1 objectInit) (hwMem mm_107)) (hts (.instanceMethod objectInit) (hwMem mm_31)) (hts (.code objectInit ⟨#[0xb1]⟩ 1 none) (hwMem mm_32)) rfl (by rw [hml]; exact hl.1) rfl dSearch_init_1 (Nat.le_of_ble_eq_true rfl) (Nat.le_of_ble_eq_true rfl) ?_
  refine W.eq (g2 := F0 m 4 ls []) rfl ?_
  exact hret hZ rfl dSearch_init_4
set_option maxHeartbeats 4000000 in
set_option maxRecDepth 100000 in
theorem c_Search_init_wil (l : Launch) (D : va_G) (K : Nat → ClassId) (X : hwW) (sz : Nat) (o : Nat) (L : Nat) (f0_ : hwH X o L (.inr (9, [.long (lN 0), .int (nI 0)]))) : Met l ySearch_init (.code ySearch_init cSearch_init 1 none :: hwG) ({ frames := 1, cells := 0, slots := 0, locals := 20 } : Room) (hwPc D vwCl (hwT K) [.ref o] X sz) (hwQv D vwCl X sz (fun Y => X = Y)) 0 0 (va_A X.1 sz) := by
  refine hwMetv (cc := cSearch_init) (maxL := 1) (by decide) rfl (Nat.le_of_ble_eq_true rfl) (fun p e s m args below meth c ls A Q hx hb hml hown hts hname hret hK hO hZ hA hl => ?_)
  have hl : lv_has ls 1 [(0, .ref o)] := hl
  refine lv_aload_n hx hb dSearch_init_0 rfl (lv_at hl 0 rfl) ?_
  refine W.objInit hx hb hown (hts (.methodLink RSearch 1 objectInit) (hwMem mm_107)) (hts (.instanceMethod objectInit) (hwMem mm_31)) (hts (.code objectInit ⟨#[0xb1]⟩ 1 none) (hwMem mm_32)) rfl (by rw [hml]; exact hl.1) rfl dSearch_init_1 (Nat.le_of_ble_eq_true rfl) (Nat.le_of_ble_eq_true rfl) ?_
  refine W.eq (g2 := F0 m 4 ls []) rfl ?_
  exact hret hZ rfl dSearch_init_4
set_option maxHeartbeats 4000000 in
set_option maxRecDepth 100000 in
theorem c_AllSearch_init (l : Launch) (D : va_G) (K : Nat → ClassId) (X : hwW) (sz : Nat) (o : Nat) (L : Nat) (a : Nat) (f0_ : hwH X o L (.inr (6, [.null]))) : Met l yAllSearch_init (.code yAllSearch_init cAllSearch_init 2 none :: hwG) ({ frames := 2, cells := 0, slots := 0, locals := 40 } : Room) (hwPc D vwCl (hwT K) [.ref o, .ref a] X sz) (hwQv D vwCl X sz (fun Y => hwF X Y (fun M => M = L) ∧ hwH Y o L (.inr (6, [.ref a])))) 0 0 (va_A X.1 sz) := by
  refine hwMetv (cc := cAllSearch_init) (maxL := 2) (by decide) rfl (Nat.le_of_ble_eq_true rfl) (fun p e s m args below meth c ls A Q hx hb hml hown hts hname hret hK hO hZ hA hl => ?_)
  have hl : lv_has ls 2 [(0, .ref o), (1, .ref a)] := hl
  have hFr : hwF X X (fun M => M = L) := hwF.rf
  refine lv_aload_n hx hb dAllSearch_init_0 rfl (lv_at hl 0 rfl) ?_
  refine hw_callv (va_runIN (As := []) (rest := []) ⟨hx, hb, hml, hown, hts⟩ (c_Search_init_all l D K X s.heap.size (o := o) (L := L) f0_) ⟨va_cnB 0 hts (hwGood (hwAll mm_108)) rfl rfl rfl (hO.2 _ (List.mem_of_getElem? (i := 4) rfl)) (hts (.initialized RSearch) (hwMem mm_109)) (by decide +kernel) ⟨Nat.le_of_ble_eq_true rfl, Nat.le_of_ble_eq_true rfl⟩, rfl, hts _ (hwMem mm_110)⟩ (hw_preS hK hO hZ) rfl rfl hl.1 rfl (lv_room (Nat.le_of_ble_eq_true rfl)) dAllSearch_init_1 ⟨(show 0 + 0 ≤ 0 by omega), (show 0 + 0 ≤ 0 by omega)⟩) hZ hA (fun X_1 H_2 lc_3 hp hZ => ?_)
  have hy := hp
  subst hy
  refine lv_aload_n hx hb dAllSearch_init_4 rfl (lv_at hl 0 rfl) ?_
  refine lv_aload_n hx hb dAllSearch_init_5 rfl (lv_at hl 1 rfl) ?_
  refine hw_putF (ty := (.object "WordIndex2$Terms")) (fs' := [.ref a]) hx hb hts (hwInn inAllSearch) tyAllSearch tyAllSearch_ok nmAllSearch hown hK hZ f0_ rfl 0 (by decide) (hts (.fieldLink RAllSearch 7 RAllSearch "asked" "LWordIndex2$Terms;") (hwMem mm_111)) (fun _ h => h) rfl hname rfl (by decide +kernel) rfl rfl (Nat.le_of_ble_eq_true rfl) rfl dAllSearch_init_6 (fun X_4 H_5 lc_6 hZ hF hNw => ?_)
  have hFr := hwF.tr hFr hF (fun _ h => h) (fun M h => by first | exact False.elim h | ((try dsimp only at h ⊢); omega))
  have f0_ := hNw
  exact hret hZ ⟨hFr, f0_⟩ dAllSearch_init_9
set_option maxHeartbeats 4000000 in
set_option maxRecDepth 100000 in
theorem c_PhraseSearch_init (l : Launch) (D : va_G) (K : Nat → ClassId) (X : hwW) (sz : Nat) (o : Nat) (L : Nat) (a : Nat) (f0_ : hwH X o L (.inr (7, [.null]))) : Met l yPhraseSearch_init (.code yPhraseSearch_init cPhraseSearch_init 2 none :: hwG) ({ frames := 2, cells := 0, slots := 0, locals := 40 } : Room) (hwPc D vwCl (hwT K) [.ref o, .ref a] X sz) (hwQv D vwCl X sz (fun Y => hwF X Y (fun M => M = L) ∧ hwH Y o L (.inr (7, [.ref a])))) 0 0 (va_A X.1 sz) := by
  refine hwMetv (cc := cPhraseSearch_init) (maxL := 2) (by decide) rfl (Nat.le_of_ble_eq_true rfl) (fun p e s m args below meth c ls A Q hx hb hml hown hts hname hret hK hO hZ hA hl => ?_)
  have hl : lv_has ls 2 [(0, .ref o), (1, .ref a)] := hl
  have hFr : hwF X X (fun M => M = L) := hwF.rf
  refine lv_aload_n hx hb dPhraseSearch_init_0 rfl (lv_at hl 0 rfl) ?_
  refine hw_callv (va_runIN (As := []) (rest := []) ⟨hx, hb, hml, hown, hts⟩ (c_Search_init_phr l D K X s.heap.size (o := o) (L := L) f0_) ⟨va_cnB 0 hts (hwGood (hwAll mm_108)) rfl rfl rfl (hO.2 _ (List.mem_of_getElem? (i := 8) rfl)) (hts (.initialized RSearch) (hwMem mm_109)) (by decide +kernel) ⟨Nat.le_of_ble_eq_true rfl, Nat.le_of_ble_eq_true rfl⟩, rfl, hts _ (hwMem mm_110)⟩ (hw_preS hK hO hZ) rfl rfl hl.1 rfl (lv_room (Nat.le_of_ble_eq_true rfl)) dPhraseSearch_init_1 ⟨(show 0 + 0 ≤ 0 by omega), (show 0 + 0 ≤ 0 by omega)⟩) hZ hA (fun X_1 H_2 lc_3 hp hZ => ?_)
  have hy := hp
  subst hy
  refine lv_aload_n hx hb dPhraseSearch_init_4 rfl (lv_at hl 0 rfl) ?_
  refine lv_aload_n hx hb dPhraseSearch_init_5 rfl (lv_at hl 1 rfl) ?_
  refine hw_putF (ty := (.object "WordIndex2$Terms")) (fs' := [.ref a]) hx hb hts (hwInn inPhraseSearch) tyPhraseSearch tyPhraseSearch_ok nmPhraseSearch hown hK hZ f0_ rfl 0 (by decide) (hts (.fieldLink RPhraseSearch 7 RPhraseSearch "asked" "LWordIndex2$Terms;") (hwMem mm_112)) (fun _ h => h) rfl hname rfl (by decide +kernel) rfl rfl (Nat.le_of_ble_eq_true rfl) rfl dPhraseSearch_init_6 (fun X_4 H_5 lc_6 hZ hF hNw => ?_)
  have hFr := hwF.tr hFr hF (fun _ h => h) (fun M h => by first | exact False.elim h | ((try dsimp only at h ⊢); omega))
  have f0_ := hNw
  exact hret hZ ⟨hFr, f0_⟩ dPhraseSearch_init_9
set_option maxHeartbeats 4000000 in
set_option maxRecDepth 100000 in
theorem c_NearSearch_init (l : Launch) (D : va_G) (K : Nat → ClassId) (X : hwW) (sz : Nat) (o : Nat) (L : Nat) (u : List Nat) (v : List Nat) (dd : Nat) (f0_ : hwH X o L (.inr (8, [.long (lN 0), .long (lN 0), .int (nI 0)]))) : Met l yNearSearch_init (.code yNearSearch_init cNearSearch_init 6 none :: hwG) ({ frames := 2, cells := 0, slots := 0, locals := 40 } : Room) (hwPc D vwCl (hwT K) [.ref o, .long (lN (eW u)), .long (lN (eW v)), .int (nI dd)] X sz) (hwQv D vwCl X sz (fun Y => hwF X Y (fun M => M = L) ∧ hwH Y o L (.inr (8, [.long (lN (eW u)), .long (lN (eW v)), .int (nI dd)])))) 0 0 (va_A X.1 sz) := by
  refine hwMetv (cc := cNearSearch_init) (maxL := 6) (by decide) rfl (Nat.le_of_ble_eq_true rfl) (fun p e s m args below meth c ls A Q hx hb hml hown hts hname hret hK hO hZ hA hl => ?_)
  have hl : lv_has ls 6 [(0, .ref o), (1, .long (lN (eW u))), (3, .long (lN (eW v))), (5, .int (nI dd))] := hl
  have hFr : hwF X X (fun M => M = L) := hwF.rf
  refine lv_aload_n hx hb dNearSearch_init_0 rfl (lv_at hl 0 rfl) ?_
  refine hw_callv (va_runIN (As := []) (rest := []) ⟨hx, hb, hml, hown, hts⟩ (c_Search_init_nea l D K X s.heap.size (o := o) (L := L) f0_) ⟨va_cnB 0 hts (hwGood (hwAll mm_108)) rfl rfl rfl (hO.2 _ (List.mem_of_getElem? (i := 9) rfl)) (hts (.initialized RSearch) (hwMem mm_109)) (by decide +kernel) ⟨Nat.le_of_ble_eq_true rfl, Nat.le_of_ble_eq_true rfl⟩, rfl, hts _ (hwMem mm_110)⟩ (hw_preS hK hO hZ) rfl rfl hl.1 rfl (lv_room (Nat.le_of_ble_eq_true rfl)) dNearSearch_init_1 ⟨(show 0 + 0 ≤ 0 by omega), (show 0 + 0 ≤ 0 by omega)⟩) hZ hA (fun X_1 H_2 lc_3 hp hZ => ?_)
  have hy := hp
  subst hy
  refine lv_aload_n hx hb dNearSearch_init_4 rfl (lv_at hl 0 rfl) ?_
  refine lv_lload_n hx hb dNearSearch_init_5 rfl (lv_at hl 1 rfl) ?_
  refine hw_putF (ty := .long) (fs' := [.long (lN (eW u)), .long (lN 0), .int (nI 0)]) hx hb hts (hwInn inNearSearch) tyNearSearch tyNearSearch_ok nmNearSearch hown hK hZ f0_ rfl 0 (by decide) (hts (.fieldLink RNearSearch 7 RNearSearch "first" "J") (hwMem mm_113)) (fun _ h => h) rfl hname rfl (by decide +kernel) rfl rfl (Nat.le_of_ble_eq_true rfl) rfl dNearSearch_init_6 (fun X_4 H_5 lc_6 hZ hF hNw => ?_)
  have hFr := hwF.tr hFr hF (fun _ h => h) (fun M h => by first | exact False.elim h | ((try dsimp only at h ⊢); omega))
  have f0_ := hNw
  refine lv_aload_n hx hb dNearSearch_init_9 rfl (lv_at hl 0 rfl) ?_
  refine lv_lload_n hx hb dNearSearch_init_10 rfl (lv_at hl 2 rfl) ?_
  refine hw_putF (ty := .long) (fs' := [.long (lN (eW u)), .long (lN (eW v)), .int (nI 0)]) hx hb hts (hwInn inNearSearch) tyNearSearch tyNearSearch_ok nmNearSearch hown hK hZ f0_ rfl 1 (by decide) (hts (.fieldLink RNearSearch 13 RNearSearch "second" "J") (hwMem mm_114)) (fun _ h => h) rfl hname rfl (by decide +kernel) rfl rfl (Nat.le_of_ble_eq_true rfl) rfl dNearSearch_init_11 (fun X_7 H_8 lc_9 hZ hF hNw => ?_)
  have hFr := hwF.tr hFr hF (fun _ h => h) (fun M h => by first | exact False.elim h | ((try dsimp only at h ⊢); omega))
  have f0_ := hNw
  refine lv_aload_n hx hb dNearSearch_init_14 rfl (lv_at hl 0 rfl) ?_
  refine lv_iload hx hb dNearSearch_init_15 (lv_at hl 3 rfl) ?_
  refine hw_putF (ty := .int) (fs' := [.long (lN (eW u)), .long (lN (eW v)), .int (nI dd)]) hx hb hts (hwInn inNearSearch) tyNearSearch tyNearSearch_ok nmNearSearch hown hK hZ f0_ rfl 2 (by decide) (hts (.fieldLink RNearSearch 16 RNearSearch "distance" "I") (hwMem mm_115)) (fun _ h => h) rfl hname rfl (by decide +kernel) rfl rfl (Nat.le_of_ble_eq_true rfl) rfl dNearSearch_init_17 (fun X_10 H_11 lc_12 hZ hF hNw => ?_)
  have hFr := hwF.tr hFr hF (fun _ h => h) (fun M h => by first | exact False.elim h | ((try dsimp only at h ⊢); omega))
  have f0_ := hNw
  exact hret hZ ⟨hFr, f0_⟩ dNearSearch_init_20
set_option maxHeartbeats 4000000 in
set_option maxRecDepth 100000 in
theorem c_WildSearch_init (l : Launch) (D : va_G) (K : Nat → ClassId) (X : hwW) (sz : Nat) (o : Nat) (L : Nat) (u : List Nat) (be : Bool) (f0_ : hwH X o L (.inr (9, [.long (lN 0), .int (nI 0)]))) : Met l yWildSearch_init (.code yWildSearch_init cWildSearch_init 4 none :: hwG) ({ frames := 2, cells := 0, slots := 0, locals := 40 } : Room) (hwPc D vwCl (hwT K) [.ref o, .long (lN (eW u)), .int (bI be)] X sz) (hwQv D vwCl X sz (fun Y => hwF X Y (fun M => M = L) ∧ hwH Y o L (.inr (9, [.long (lN (eW u)), .int (bI be)])))) 0 0 (va_A X.1 sz) := by
  refine hwMetv (cc := cWildSearch_init) (maxL := 4) (by decide) rfl (Nat.le_of_ble_eq_true rfl) (fun p e s m args below meth c ls A Q hx hb hml hown hts hname hret hK hO hZ hA hl => ?_)
  have hl : lv_has ls 4 [(0, .ref o), (1, .long (lN (eW u))), (3, .int (bI be))] := hl
  have hFr : hwF X X (fun M => M = L) := hwF.rf
  refine lv_aload_n hx hb dWildSearch_init_0 rfl (lv_at hl 0 rfl) ?_
  refine hw_callv (va_runIN (As := []) (rest := []) ⟨hx, hb, hml, hown, hts⟩ (c_Search_init_wil l D K X s.heap.size (o := o) (L := L) f0_) ⟨va_cnB 0 hts (hwGood (hwAll mm_108)) rfl rfl rfl (hO.2 _ (List.mem_of_getElem? (i := 10) rfl)) (hts (.initialized RSearch) (hwMem mm_109)) (by decide +kernel) ⟨Nat.le_of_ble_eq_true rfl, Nat.le_of_ble_eq_true rfl⟩, rfl, hts _ (hwMem mm_110)⟩ (hw_preS hK hO hZ) rfl rfl hl.1 rfl (lv_room (Nat.le_of_ble_eq_true rfl)) dWildSearch_init_1 ⟨(show 0 + 0 ≤ 0 by omega), (show 0 + 0 ≤ 0 by omega)⟩) hZ hA (fun X_1 H_2 lc_3 hp hZ => ?_)
  have hy := hp
  subst hy
  refine lv_aload_n hx hb dWildSearch_init_4 rfl (lv_at hl 0 rfl) ?_
  refine lv_lload_n hx hb dWildSearch_init_5 rfl (lv_at hl 1 rfl) ?_
  refine hw_putF (ty := .long) (fs' := [.long (lN (eW u)), .int (nI 0)]) hx hb hts (hwInn inWildSearch) tyWildSearch tyWildSearch_ok nmWildSearch hown hK hZ f0_ rfl 0 (by decide) (hts (.fieldLink RWildSearch 7 RWildSearch "word" "J") (hwMem mm_116)) (fun _ h => h) rfl hname rfl (by decide +kernel) rfl rfl (Nat.le_of_ble_eq_true rfl) rfl dWildSearch_init_6 (fun X_4 H_5 lc_6 hZ hF hNw => ?_)
  have hFr := hwF.tr hFr hF (fun _ h => h) (fun M h => by first | exact False.elim h | ((try dsimp only at h ⊢); omega))
  have f0_ := hNw
  refine lv_aload_n hx hb dWildSearch_init_9 rfl (lv_at hl 0 rfl) ?_
  refine lv_iload_n hx hb dWildSearch_init_10 rfl (lv_at hl 2 rfl) ?_
  refine hw_putF (ty := .boolean) (fs' := [.long (lN (eW u)), .int (bI be)]) hx hb hts (hwInn inWildSearch) tyWildSearch tyWildSearch_ok nmWildSearch hown hK hZ f0_ rfl 1 (by decide) (hts (.fieldLink RWildSearch 13 RWildSearch "end" "Z") (hwMem mm_117)) (fun _ h => h) rfl hname rfl (by decide +kernel) (hw_nb _) (hw_fb _) (Nat.le_of_ble_eq_true rfl) rfl dWildSearch_init_11 (fun X_7 H_8 lc_9 hZ hF hNw => ?_)
  have hFr := hwF.tr hFr hF (fun _ h => h) (fun M h => by first | exact False.elim h | ((try dsimp only at h ⊢); omega))
  have f0_ := hNw
  exact hret hZ ⟨hFr, f0_⟩ dWildSearch_init_14
set_option maxHeartbeats 4000000 in
set_option maxRecDepth 100000 in
theorem c_All_wants (l : Launch) (D : va_G) (K : Nat → ClassId) (X : hwW) (sz : Nat) (o : Nat) (L : Nat) (a : Nat) (ka : Nat) (Na : Nat) (ta : List (List Nat)) (w : List Nat) (f0_ : hwH X o L (.inr (6, [.ref a]))) (f1_ : tmAt K X a ka Na ta) (hw : okW w) : Met l yAllSearch_wants (.code yAllSearch_wants cAllSearch_wants 3 (some .boolean) :: hwG) ({ frames := 2, cells := 0, slots := 0, locals := 44 } : Room) (hwPc D vwCl (hwT K) [.ref o, .long (lN (eW w))] X sz) (hwQi D vwCl X sz (fun r Y => r = bI (decide (w ∈ ta)) ∧ X = Y)) 0 0 (va_A X.1 sz) := by
  refine hwMetz (cc := cAllSearch_wants) (maxL := 3) (by decide) rfl (Nat.le_of_ble_eq_true rfl) (fun p e s m args below meth c ls A Q hx hb hml hown hts hname hret hK hO hZ hA hl => ?_)
  have hl : lv_has ls 3 [(0, .ref o), (1, .long (lN (eW w)))] := hl
  have hA2 := fun j => okWs.at (tmAt.oks f1_) j
  refine lv_aload_n hx hb dAllSearch_wants_0 rfl (lv_at hl 0 rfl) ?_
  refine hw_get hx hb hts (hwInn inAllSearch) hown hK hZ f0_ rfl 0 (by decide) (hts (.fieldLink RAllSearch 7 RAllSearch "asked" "LWordIndex2$Terms;") (hwMem mm_111)) (fun _ h => h) rfl dAllSearch_wants_1 ?_
  refine lv_lload_n hx hb dAllSearch_wants_4 rfl (lv_at hl 1 rfl) ?_
  refine hw_calli (va_runV (As := [.long (lN (eW w))]) (rest := []) ⟨hx, hb, hml, hown, hts⟩ (c_Tm_has l D K X s.heap.size (a := a) (k := ka) (N := Na) (ts := ta) (w := w) f1_ (by assumption)) (cwV 1 hts (hwGood (hw_4 mm_119 mm_120 mm_121 mm_89 (hwAll mm_118))) rfl rfl rfl (by decide +kernel) ⟨Nat.le_of_ble_eq_true rfl, Nat.le_of_ble_eq_true rfl⟩) (hw_preV hK hO hZ (tmAt.ob f1_) rfl) rfl rfl hl.1 rfl (lv_room (Nat.le_of_ble_eq_true rfl)) dAllSearch_wants_5 ⟨(show 0 + 0 ≤ 0 by omega), (show 0 + 0 ≤ 0 by omega)⟩) hZ hA (fun r X_1 H_2 lc_3 hp hZ => ?_)
  obtain ⟨hr, hy⟩ := hp
  subst hy
  refine hw_topi hr ?_
  exact hret (hw_nb _) hZ ⟨rfl, rfl⟩ dAllSearch_wants_8
set_option maxHeartbeats 4000000 in
set_option maxRecDepth 100000 in
theorem c_Phr_wants (l : Launch) (D : va_G) (K : Nat → ClassId) (X : hwW) (sz : Nat) (o : Nat) (L : Nat) (a : Nat) (ka : Nat) (Na : Nat) (ta : List (List Nat)) (w : List Nat) (f0_ : hwH X o L (.inr (7, [.ref a]))) (f1_ : tmAt K X a ka Na ta) (hw : okW w) : Met l yPhraseSearch_wants (.code yPhraseSearch_wants cPhraseSearch_wants 3 (some .boolean) :: hwG) ({ frames := 2, cells := 0, slots := 0, locals := 44 } : Room) (hwPc D vwCl (hwT K) [.ref o, .long (lN (eW w))] X sz) (hwQi D vwCl X sz (fun r Y => r = bI (decide (w ∈ ta)) ∧ X = Y)) 0 0 (va_A X.1 sz) := by
  refine hwMetz (cc := cPhraseSearch_wants) (maxL := 3) (by decide) rfl (Nat.le_of_ble_eq_true rfl) (fun p e s m args below meth c ls A Q hx hb hml hown hts hname hret hK hO hZ hA hl => ?_)
  have hl : lv_has ls 3 [(0, .ref o), (1, .long (lN (eW w)))] := hl
  have hA2 := fun j => okWs.at (tmAt.oks f1_) j
  refine lv_aload_n hx hb dPhraseSearch_wants_0 rfl (lv_at hl 0 rfl) ?_
  refine hw_get hx hb hts (hwInn inPhraseSearch) hown hK hZ f0_ rfl 0 (by decide) (hts (.fieldLink RPhraseSearch 7 RPhraseSearch "asked" "LWordIndex2$Terms;") (hwMem mm_112)) (fun _ h => h) rfl dPhraseSearch_wants_1 ?_
  refine lv_lload_n hx hb dPhraseSearch_wants_4 rfl (lv_at hl 1 rfl) ?_
  refine hw_calli (va_runV (As := [.long (lN (eW w))]) (rest := []) ⟨hx, hb, hml, hown, hts⟩ (c_Tm_has l D K X s.heap.size (a := a) (k := ka) (N := Na) (ts := ta) (w := w) f1_ (by assumption)) (cwV 1 hts (hwGood (hw_4 mm_122 mm_120 mm_121 mm_89 (hwAll mm_118))) rfl rfl rfl (by decide +kernel) ⟨Nat.le_of_ble_eq_true rfl, Nat.le_of_ble_eq_true rfl⟩) (hw_preV hK hO hZ (tmAt.ob f1_) rfl) rfl rfl hl.1 rfl (lv_room (Nat.le_of_ble_eq_true rfl)) dPhraseSearch_wants_5 ⟨(show 0 + 0 ≤ 0 by omega), (show 0 + 0 ≤ 0 by omega)⟩) hZ hA (fun r X_1 H_2 lc_3 hp hZ => ?_)
  obtain ⟨hr, hy⟩ := hp
  subst hy
  refine hw_topi hr ?_
  exact hret (hw_nb _) hZ ⟨rfl, rfl⟩ dPhraseSearch_wants_8
set_option maxHeartbeats 4000000 in
set_option maxRecDepth 100000 in
theorem c_Nea_wants (l : Launch) (D : va_G) (K : Nat → ClassId) (X : hwW) (sz : Nat) (o : Nat) (L : Nat) (u : List Nat) (v : List Nat) (dd : Nat) (w : List Nat) (f0_ : hwH X o L (.inr (8, [.long (lN (eW u)), .long (lN (eW v)), .int (nI dd)]))) (hu : okW u) (hv : okW v) (hdd : dd < 2147483648) (hw : okW w) : Met l yNearSearch_wants (.code yNearSearch_wants cNearSearch_wants 3 (some .boolean) :: hwG) ({ frames := 0, cells := 0, slots := 0, locals := 0 } : Room) (hwPc D vwCl (hwT K) [.ref o, .long (lN (eW w))] X sz) (hwQi D vwCl X sz (fun r Y => r = bI (decide (w = u ∨ w = v)) ∧ X = Y)) 0 0 (va_A X.1 sz) := by
  refine hwMetz (cc := cNearSearch_wants) (maxL := 3) (by decide) rfl (Nat.le_of_ble_eq_true rfl) (fun p e s m args below meth c ls A Q hx hb hml hown hts hname hret hK hO hZ hA hl => ?_)
  have hl : lv_has ls 3 [(0, .ref o), (1, .long (lN (eW w)))] := hl
  refine lv_lload_n hx hb dNearSearch_wants_0 rfl (lv_at hl 1 rfl) ?_
  refine lv_aload_n hx hb dNearSearch_wants_1 rfl (lv_at hl 0 rfl) ?_
  refine hw_get hx hb hts (hwInn inNearSearch) hown hK hZ f0_ rfl 0 (by decide) (hts (.fieldLink RNearSearch 7 RNearSearch "first" "J") (hwMem mm_113)) (fun _ h => h) rfl dNearSearch_wants_2 ?_
  refine hw_lc_eq (a := eW w) (b := eW u) (tgt := 18) hx hb dNearSearch_wants_5 dNearSearch_wants_6 (by decide) (by first | exact eW_lt63 (by assumption) | exact eW_lt63 (hA2 _) | exact eW_lt63 (hB2 _) | decide) (by first | exact eW_lt63 (by assumption) | exact eW_lt63 (hA2 _) | exact eW_lt63 (hB2 _) | decide) (fun cq_1 => ?_) (fun cq_1 => ?_)
  · refine lv_iconst (v := nI 1) hx hb dNearSearch_wants_18 (by decide) ?_
    refine lv_goto (tgt := 23) hx hb dNearSearch_wants_19 (by decide) ?_
    exact hret (by decide) hZ ⟨by rw [decide_eq_true (by first | exact Or.inl ((eW_inj hw hu).mp cq_1) | exact Or.inr ((eW_inj hw hv).mp cq_1))]; rfl, rfl⟩ dNearSearch_wants_23
  · refine lv_lload_n hx hb dNearSearch_wants_9 rfl (lv_at hl 1 rfl) ?_
    refine lv_aload_n hx hb dNearSearch_wants_10 rfl (lv_at hl 0 rfl) ?_
    refine hw_get hx hb hts (hwInn inNearSearch) hown hK hZ f0_ rfl 1 (by decide) (hts (.fieldLink RNearSearch 13 RNearSearch "second" "J") (hwMem mm_114)) (fun _ h => h) rfl dNearSearch_wants_11 ?_
    refine hw_lc_ne (a := eW w) (b := eW v) (tgt := 22) hx hb dNearSearch_wants_14 dNearSearch_wants_15 (by decide) (by first | exact eW_lt63 (by assumption) | exact eW_lt63 (hA2 _) | exact eW_lt63 (hB2 _) | decide) (by first | exact eW_lt63 (by assumption) | exact eW_lt63 (hA2 _) | exact eW_lt63 (hB2 _) | decide) (fun cq_2 => ?_) (fun cq_2 => ?_)
    · refine lv_iconst (v := nI 0) hx hb dNearSearch_wants_22 (by decide) ?_
      exact hret (by decide) hZ ⟨by rw [decide_eq_false (fun h => h.elim (fun h => cq_1 ((eW_inj hw hu).mpr h)) (fun h => cq_2 ((eW_inj hw hv).mpr h)))]; rfl, rfl⟩ dNearSearch_wants_23
    · refine lv_iconst (v := nI 1) hx hb dNearSearch_wants_18 (by decide) ?_
      refine lv_goto (tgt := 23) hx hb dNearSearch_wants_19 (by decide) ?_
      exact hret (by decide) hZ ⟨by rw [decide_eq_true (by first | exact Or.inl ((eW_inj hw hu).mp cq_2) | exact Or.inr ((eW_inj hw hv).mp cq_2))]; rfl, rfl⟩ dNearSearch_wants_23
set_option maxHeartbeats 4000000 in
set_option maxRecDepth 100000 in
theorem c_Wil_wants (l : Launch) (D : va_G) (K : Nat → ClassId) (X : hwW) (sz : Nat) (o : Nat) (L : Nat) (u : List Nat) (be : Bool) (w : List Nat) (f0_ : hwH X o L (.inr (9, [.long (lN (eW u)), .int (bI be)]))) (hu : okW u) (hw : okW w) : Met l yWildSearch_wants (.code yWildSearch_wants cWildSearch_wants 3 (some .boolean) :: hwG) ({ frames := 4, cells := 0, slots := 0, locals := 88 } : Room) (hwPc D vwCl (hwT K) [.ref o, .long (lN (eW w))] X sz) (hwQi D vwCl X sz (fun r Y => r = bI (bif be then endL w u else begL w u) ∧ X = Y)) 0 0 (va_A X.1 sz) := by
  refine hwMetz (cc := cWildSearch_wants) (maxL := 3) (by decide) rfl (Nat.le_of_ble_eq_true rfl) (fun p e s m args below meth c ls A Q hx hb hml hown hts hname hret hK hO hZ hA hl => ?_)
  have hl : lv_has ls 3 [(0, .ref o), (1, .long (lN (eW w)))] := hl
  refine lv_aload_n hx hb dWildSearch_wants_0 rfl (lv_at hl 0 rfl) ?_
  refine hw_get hx hb hts (hwInn inWildSearch) hown hK hZ f0_ rfl 1 (by decide) (hts (.fieldLink RWildSearch 13 RWildSearch "end" "Z") (hwMem mm_117)) (fun _ h => h) rfl dWildSearch_wants_1 ?_
  refine hw_bz_eq (tgt := 18) hx hb dWildSearch_wants_4 (by decide) (fun cq_1 => ?_) (fun cq_1 => ?_)
  · refine lv_lload_n hx hb dWildSearch_wants_18 rfl (lv_at hl 1 rfl) ?_
    refine lv_aload_n hx hb dWildSearch_wants_19 rfl (lv_at hl 0 rfl) ?_
    refine hw_get hx hb hts (hwInn inWildSearch) hown hK hZ f0_ rfl 0 (by decide) (hts (.fieldLink RWildSearch 7 RWildSearch "word" "J") (hwMem mm_116)) (fun _ h => h) rfl dWildSearch_wants_20 ?_
    refine hw_calli (va_runS (As := [.long (lN (eW w)), .long (lN (eW u))]) (rest := []) ⟨hx, hb, hml, hown, hts⟩ (c_W_begins l D K X s.heap.size (w := w) (b := u) (by assumption) (by assumption)) (va_cwS 2 hts (hwGood (hw_3 mm_125 mm_124 mm_3 (hwAll mm_123))) rfl rfl rfl (by decide +kernel) ⟨Nat.le_of_ble_eq_true rfl, Nat.le_of_ble_eq_true rfl⟩) (hw_preS hK hO hZ) rfl rfl hl.1 rfl (lv_room (Nat.le_of_ble_eq_true rfl)) dWildSearch_wants_23 ⟨(show 0 + 0 ≤ 0 by omega), (show 0 + 0 ≤ 0 by omega)⟩) hZ hA (fun r X_2 H_3 lc_4 hp hZ => ?_)
    obtain ⟨hr, hy⟩ := hp
    subst hy
    refine hw_topi hr ?_
    exact hret (hw_nb _) hZ ⟨by simp_all, rfl⟩ dWildSearch_wants_26
  · refine lv_lload_n hx hb dWildSearch_wants_7 rfl (lv_at hl 1 rfl) ?_
    refine lv_aload_n hx hb dWildSearch_wants_8 rfl (lv_at hl 0 rfl) ?_
    refine hw_get hx hb hts (hwInn inWildSearch) hown hK hZ f0_ rfl 0 (by decide) (hts (.fieldLink RWildSearch 7 RWildSearch "word" "J") (hwMem mm_116)) (fun _ h => h) rfl dWildSearch_wants_9 ?_
    refine hw_calli (va_runS (As := [.long (lN (eW w)), .long (lN (eW u))]) (rest := []) ⟨hx, hb, hml, hown, hts⟩ (c_W_ends l D K X s.heap.size (w := w) (b := u) (by assumption) (by assumption)) (va_cwS 2 hts (hwGood (hw_3 mm_128 mm_127 mm_3 (hwAll mm_126))) rfl rfl rfl (by decide +kernel) ⟨Nat.le_of_ble_eq_true rfl, Nat.le_of_ble_eq_true rfl⟩) (hw_preS hK hO hZ) rfl rfl hl.1 rfl (lv_room (Nat.le_of_ble_eq_true rfl)) dWildSearch_wants_12 ⟨(show 0 + 0 ≤ 0 by omega), (show 0 + 0 ≤ 0 by omega)⟩) hZ hA (fun r X_5 H_6 lc_7 hp hZ => ?_)
    obtain ⟨hr, hy⟩ := hp
    subst hy
    refine hw_topi hr ?_
    refine lv_goto (tgt := 26) hx hb dWildSearch_wants_15 (by decide) ?_
    exact hret (hw_nb _) hZ ⟨by simp_all, rfl⟩ dWildSearch_wants_26
set_option maxHeartbeats 4000000 in
set_option maxRecDepth 100000 in
theorem c_All_count (l : Launch) (D : va_G) (K : Nat → ClassId) (X : hwW) (sz : Nat) (o : Nat) (L : Nat) (a : Nat) (ka : Nat) (Na : Nat) (ta : List (List Nat)) (b : Nat) (kb : Nat) (Nb : Nat) (tb : List (List Nat)) (f0_ : hwH X o L (.inr (6, [.ref a]))) (f1_ : tmAt K X a ka Na ta) (f2_ : tmAt K X b kb Nb tb) : Met l ySearch_countIn (.code ySearch_countIn cSearch_countIn 4 (some .int) :: hwG) ({ frames := 5, cells := 0, slots := 0, locals := 110 } : Room) (hwPc D vwCl (hwT K) [.ref o, .ref b] X sz) (hwQi D vwCl X sz (fun r Y => r = nI (tb.countP (fun w => decide (w ≠ []) && (decide (w ∈ ta)))) ∧ X = Y ∧ tb.countP (fun w => decide (w ≠ []) && (decide (w ∈ ta))) ≤ tb.length)) 0 0 (va_A X.1 sz) := by
  refine hwMeti (cc := cSearch_countIn) (maxL := 4) (by decide) rfl (Nat.le_of_ble_eq_true rfl) (fun p e s m args below meth c ls A Q hx hb hml hown hts hname hret hK hO hZ hA hl => ?_)
  have hl : lv_has ls 4 [(0, .ref o), (1, .ref b)] := hl
  have hA2 := fun j => okWs.at (tmAt.oks f1_) j
  have hB2 := fun j => okWs.at (tmAt.oks f2_) j
  have hBN := tmAt.len f2_
  refine lv_iconst (v := nI 0) hx hb dSearch_countIn_0 (by decide) ?_
  refine lv_istore_n (lv' := [(2, .int (nI 0)), (0, .ref o), (1, .ref b)]) hx hb dSearch_countIn_1 rfl hl (by decide) rfl (fun ls hl => ?_)
  refine lv_iconst (v := nI 0) hx hb dSearch_countIn_2 (by decide) ?_
  refine lv_istore_n (lv' := [(3, .int (nI 0)), (2, .int (nI 0)), (0, .ref o), (1, .ref b)]) hx hb dSearch_countIn_3 rfl hl (by decide) rfl (fun ls hl => ?_)
  have loop4 : ∀ (fuel : Nat) (i : Nat) (n : Nat) (Hh : Heap) (lcs : List Loc) (ls : Array Slot), tb.length - i < fuel → (i ≤ tb.length) → (n = (tb.take i).countP (fun w => decide (w ≠ []) && (decide (w ∈ ta)))) → hwZ D vwCl A s.heap X Hh lcs → lv_has ls 4 [(3, .int (nI i)), (2, .int (nI n)), (0, .ref o), (1, .ref b)] → W p l e ({ frames := 5, cells := 0, slots := 0, locals := 110 } : Room) s m args below meth c Hh lcs 0 0 Q (F0 m 4 ls []) := by
    intro fuel; induction fuel with
    | zero => intro i n Hh lcs ls hfu; exact absurd hfu (Nat.not_lt_zero _)
    | succ fuel ih4 =>
      intro i n Hh lcs ls hfu4 hi hc hZ hl
      have hnl := Nat.le_trans (Nat.le_of_eq hc) (Nat.le_trans List.countP_le_length (List.length_take_le _ _))
      refine lv_iload_n hx hb dSearch_countIn_4 rfl (lv_at hl 0 rfl) ?_
      refine lv_aload_n hx hb dSearch_countIn_5 rfl (lv_at hl 3 rfl) ?_
      refine hw_calli (va_runV (As := []) (rest := [.int (nI i)]) ⟨hx, hb, hml, hown, hts⟩ (c_Tm_size l D K X Hh.size (a := b) (k := kb) (N := Nb) (ts := tb) f2_) (cwV 0 hts (hwGood (hw_4 mm_130 mm_131 mm_132 mm_89 (hwAll mm_129))) rfl rfl rfl (by decide +kernel) ⟨Nat.le_of_ble_eq_true rfl, Nat.le_of_ble_eq_true rfl⟩) (hw_preV hK hO hZ (tmAt.ob f2_) rfl) rfl rfl hl.1 rfl (lv_room (Nat.le_of_ble_eq_true rfl)) dSearch_countIn_6 ⟨(show 0 + 0 ≤ 0 by omega), (show 0 + 0 ≤ 0 by omega)⟩) hZ hA (fun r X_1 H_2 lc_3 hp hZ => ?_)
      obtain ⟨hr, hy⟩ := hp
      subst hy
      refine hw_topi hr ?_
      refine hw_ic_ge (a := i) (b := tb.length) (tgt := 43) hx hb dSearch_countIn_9 (by decide) (by omega) (by omega) (fun cq_4 => ?_) (fun cq_4 => ?_)
      · refine lv_iload_n hx hb dSearch_countIn_43 rfl (lv_at hl 1 rfl) ?_
        exact hret hZ ⟨by rw [hc, List.take_of_length_le (by omega)], rfl, List.countP_le_length⟩ dSearch_countIn_44
      · refine lv_aload_n hx hb dSearch_countIn_12 rfl (lv_at hl 3 rfl) ?_
        refine lv_iload_n hx hb dSearch_countIn_13 rfl (lv_at hl 0 rfl) ?_
        refine hw_calll (va_runV (As := [.int (nI i)]) (rest := []) ⟨hx, hb, hml, hown, hts⟩ (c_Tm_at l D K X H_2.size (a := b) (k := kb) (N := Nb) (ts := tb) (j := i) f2_ (by omega)) (cwV 1 hts (hwGood (hw_4 mm_133 mm_87 mm_88 mm_89 (hwAll mm_85))) rfl rfl rfl (by decide +kernel) ⟨Nat.le_of_ble_eq_true rfl, Nat.le_of_ble_eq_true rfl⟩) (hw_preV hK hO hZ (tmAt.ob f2_) rfl) rfl rfl hl.1 rfl (lv_room (Nat.le_of_ble_eq_true rfl)) dSearch_countIn_14 ⟨(show 0 + 0 ≤ 0 by omega), (show 0 + 0 ≤ 0 by omega)⟩) hZ hA (fun r X_5 H_6 lc_7 hp hZ => ?_)
        obtain ⟨hr, hy⟩ := hp
        subst hy
        refine hw_topl hr ?_
        refine lv_lconst (v := lN 0) hx hb dSearch_countIn_17 rfl ?_
        refine hw_lc_eq (a := eW (tb.getD i [])) (b := 0) (tgt := 37) hx hb dSearch_countIn_18 dSearch_countIn_19 (by decide) (by first | exact eW_lt63 (by assumption) | exact eW_lt63 (hA2 _) | exact eW_lt63 (hB2 _) | decide) (by first | exact eW_lt63 (by assumption) | exact eW_lt63 (hA2 _) | exact eW_lt63 (hB2 _) | decide) (fun cq_8 => ?_) (fun cq_8 => ?_)
        · refine lv_iinc (v := nI (i + 1)) (lv' := [(3, .int (nI (i + 1))), (2, .int (nI n)), (0, .ref o), (1, .ref b)]) hx hb dSearch_countIn_37 hl (k := 0) rfl (nI_add _ 1) (by decide) rfl (fun ls hl => ?_)
          refine lv_goto (tgt := 4) hx hb dSearch_countIn_40 (by decide) ?_
          exact ih4 (i + 1) n _ _ _ (by omega) (by omega) (cnt_stepF (by omega) hc (cntP_f1 ((eW_zero (hB2 _)).mp cq_8)))  hZ (lv_sub hl [0, 1, 2, 3] rfl)
        · refine lv_aload_n hx hb dSearch_countIn_22 rfl (lv_at hl 2 rfl) ?_
          refine lv_aload_n hx hb dSearch_countIn_23 rfl (lv_at hl 3 rfl) ?_
          refine lv_iload_n hx hb dSearch_countIn_24 rfl (lv_at hl 0 rfl) ?_
          refine hw_calll (va_runV (As := [.int (nI i)]) (rest := [.ref o]) ⟨hx, hb, hml, hown, hts⟩ (c_Tm_at l D K X H_6.size (a := b) (k := kb) (N := Nb) (ts := tb) (j := i) f2_ (by omega)) (cwV 1 hts (hwGood (hw_4 mm_133 mm_87 mm_88 mm_89 (hwAll mm_85))) rfl rfl rfl (by decide +kernel) ⟨Nat.le_of_ble_eq_true rfl, Nat.le_of_ble_eq_true rfl⟩) (hw_preV hK hO hZ (tmAt.ob f2_) rfl) rfl rfl hl.1 rfl (lv_room (Nat.le_of_ble_eq_true rfl)) dSearch_countIn_25 ⟨(show 0 + 0 ≤ 0 by omega), (show 0 + 0 ≤ 0 by omega)⟩) hZ hA (fun r X_9 H_10 lc_11 hp hZ => ?_)
          obtain ⟨hr, hy⟩ := hp
          subst hy
          refine hw_topl hr ?_
          refine hw_calli (va_runU (As := [.long (lN (eW (tb.getD i [])))]) (rest := []) ⟨hx, hb, hml, hown, hts⟩ (c_All_wants l D K X H_10.size (o := o) (L := L) (a := a) (ka := ka) (Na := Na) (ta := ta) (w := (tb.getD i [])) f0_ f1_ (hB2 i)) (va_cwA (owner := RSearch) 1 hts (hwGood (hw_5 mm_135 mm_136 mm_137 mm_138 mm_139 (hwAll mm_134))) rfl rfl rfl (hO.2 _ (List.mem_of_getElem? (i := 7) rfl)) (by decide +kernel) ⟨Nat.le_of_ble_eq_true rfl, Nat.le_of_ble_eq_true rfl⟩) (hw_preV hK hO hZ (⟨_, _, f0_⟩) rfl) rfl rfl hl.1 rfl (lv_room (Nat.le_of_ble_eq_true rfl)) dSearch_countIn_28 ⟨(show 0 + 0 ≤ 0 by omega), (show 0 + 0 ≤ 0 by omega)⟩) hZ hA (fun r X_12 H_13 lc_14 hp hZ => ?_)
          obtain ⟨hr, hy⟩ := hp
          subst hy
          refine hw_topi hr ?_
          refine hw_bz_eq (tgt := 37) hx hb dSearch_countIn_31 (by decide) (fun cq_15 => ?_) (fun cq_15 => ?_)
          · refine lv_iinc (v := nI (i + 1)) (lv' := [(3, .int (nI (i + 1))), (2, .int (nI n)), (0, .ref o), (1, .ref b)]) hx hb dSearch_countIn_37 hl (k := 0) rfl (nI_add _ 1) (by decide) rfl (fun ls hl => ?_)
            refine lv_goto (tgt := 4) hx hb dSearch_countIn_40 (by decide) ?_
            exact ih4 (i + 1) n _ _ _ (by omega) (by omega) (cnt_stepF (by omega) hc (cntP_f2 cq_15))  hZ (lv_sub hl [0, 1, 2, 3] rfl)
          · refine lv_iinc (v := nI (n + 1)) (lv' := [(2, .int (nI (n + 1))), (3, .int (nI i)), (0, .ref o), (1, .ref b)]) hx hb dSearch_countIn_34 hl (k := 1) rfl (nI_add _ 1) (by decide) rfl (fun ls hl => ?_)
            refine lv_iinc (v := nI (i + 1)) (lv' := [(3, .int (nI (i + 1))), (2, .int (nI (n + 1))), (0, .ref o), (1, .ref b)]) hx hb dSearch_countIn_37 hl (k := 1) rfl (nI_add _ 1) (by decide) rfl (fun ls hl => ?_)
            refine lv_goto (tgt := 4) hx hb dSearch_countIn_40 (by decide) ?_
            exact ih4 (i + 1) (n + 1) _ _ _ (by omega) (by omega) (cnt_stepT (by omega) hc (cntP_t (fun h => cq_8 ((eW_zero (hB2 _)).mpr h)) cq_15))  hZ (lv_sub hl [0, 1, 2, 3] rfl)
  exact loop4 (tb.length - 0 + 1) 0 0 _ _ _ (by omega) (by omega) (by rw [List.take_zero]; rfl)  hZ (lv_sub hl [0, 1, 2, 3] rfl)
set_option maxHeartbeats 4000000 in
set_option maxRecDepth 100000 in
theorem c_Phr_count (l : Launch) (D : va_G) (K : Nat → ClassId) (X : hwW) (sz : Nat) (o : Nat) (L : Nat) (a : Nat) (ka : Nat) (Na : Nat) (ta : List (List Nat)) (b : Nat) (kb : Nat) (Nb : Nat) (tb : List (List Nat)) (f0_ : hwH X o L (.inr (7, [.ref a]))) (f1_ : tmAt K X a ka Na ta) (f2_ : tmAt K X b kb Nb tb) : Met l ySearch_countIn (.code ySearch_countIn cSearch_countIn 4 (some .int) :: hwG) ({ frames := 5, cells := 0, slots := 0, locals := 110 } : Room) (hwPc D vwCl (hwT K) [.ref o, .ref b] X sz) (hwQi D vwCl X sz (fun r Y => r = nI (tb.countP (fun w => decide (w ≠ []) && (decide (w ∈ ta)))) ∧ X = Y ∧ tb.countP (fun w => decide (w ≠ []) && (decide (w ∈ ta))) ≤ tb.length)) 0 0 (va_A X.1 sz) := by
  refine hwMeti (cc := cSearch_countIn) (maxL := 4) (by decide) rfl (Nat.le_of_ble_eq_true rfl) (fun p e s m args below meth c ls A Q hx hb hml hown hts hname hret hK hO hZ hA hl => ?_)
  have hl : lv_has ls 4 [(0, .ref o), (1, .ref b)] := hl
  have hA2 := fun j => okWs.at (tmAt.oks f1_) j
  have hB2 := fun j => okWs.at (tmAt.oks f2_) j
  have hBN := tmAt.len f2_
  refine lv_iconst (v := nI 0) hx hb dSearch_countIn_0 (by decide) ?_
  refine lv_istore_n (lv' := [(2, .int (nI 0)), (0, .ref o), (1, .ref b)]) hx hb dSearch_countIn_1 rfl hl (by decide) rfl (fun ls hl => ?_)
  refine lv_iconst (v := nI 0) hx hb dSearch_countIn_2 (by decide) ?_
  refine lv_istore_n (lv' := [(3, .int (nI 0)), (2, .int (nI 0)), (0, .ref o), (1, .ref b)]) hx hb dSearch_countIn_3 rfl hl (by decide) rfl (fun ls hl => ?_)
  have loop4 : ∀ (fuel : Nat) (i : Nat) (n : Nat) (Hh : Heap) (lcs : List Loc) (ls : Array Slot), tb.length - i < fuel → (i ≤ tb.length) → (n = (tb.take i).countP (fun w => decide (w ≠ []) && (decide (w ∈ ta)))) → hwZ D vwCl A s.heap X Hh lcs → lv_has ls 4 [(3, .int (nI i)), (2, .int (nI n)), (0, .ref o), (1, .ref b)] → W p l e ({ frames := 5, cells := 0, slots := 0, locals := 110 } : Room) s m args below meth c Hh lcs 0 0 Q (F0 m 4 ls []) := by
    intro fuel; induction fuel with
    | zero => intro i n Hh lcs ls hfu; exact absurd hfu (Nat.not_lt_zero _)
    | succ fuel ih4 =>
      intro i n Hh lcs ls hfu4 hi hc hZ hl
      have hnl := Nat.le_trans (Nat.le_of_eq hc) (Nat.le_trans List.countP_le_length (List.length_take_le _ _))
      refine lv_iload_n hx hb dSearch_countIn_4 rfl (lv_at hl 0 rfl) ?_
      refine lv_aload_n hx hb dSearch_countIn_5 rfl (lv_at hl 3 rfl) ?_
      refine hw_calli (va_runV (As := []) (rest := [.int (nI i)]) ⟨hx, hb, hml, hown, hts⟩ (c_Tm_size l D K X Hh.size (a := b) (k := kb) (N := Nb) (ts := tb) f2_) (cwV 0 hts (hwGood (hw_4 mm_130 mm_131 mm_132 mm_89 (hwAll mm_129))) rfl rfl rfl (by decide +kernel) ⟨Nat.le_of_ble_eq_true rfl, Nat.le_of_ble_eq_true rfl⟩) (hw_preV hK hO hZ (tmAt.ob f2_) rfl) rfl rfl hl.1 rfl (lv_room (Nat.le_of_ble_eq_true rfl)) dSearch_countIn_6 ⟨(show 0 + 0 ≤ 0 by omega), (show 0 + 0 ≤ 0 by omega)⟩) hZ hA (fun r X_1 H_2 lc_3 hp hZ => ?_)
      obtain ⟨hr, hy⟩ := hp
      subst hy
      refine hw_topi hr ?_
      refine hw_ic_ge (a := i) (b := tb.length) (tgt := 43) hx hb dSearch_countIn_9 (by decide) (by omega) (by omega) (fun cq_4 => ?_) (fun cq_4 => ?_)
      · refine lv_iload_n hx hb dSearch_countIn_43 rfl (lv_at hl 1 rfl) ?_
        exact hret hZ ⟨by rw [hc, List.take_of_length_le (by omega)], rfl, List.countP_le_length⟩ dSearch_countIn_44
      · refine lv_aload_n hx hb dSearch_countIn_12 rfl (lv_at hl 3 rfl) ?_
        refine lv_iload_n hx hb dSearch_countIn_13 rfl (lv_at hl 0 rfl) ?_
        refine hw_calll (va_runV (As := [.int (nI i)]) (rest := []) ⟨hx, hb, hml, hown, hts⟩ (c_Tm_at l D K X H_2.size (a := b) (k := kb) (N := Nb) (ts := tb) (j := i) f2_ (by omega)) (cwV 1 hts (hwGood (hw_4 mm_133 mm_87 mm_88 mm_89 (hwAll mm_85))) rfl rfl rfl (by decide +kernel) ⟨Nat.le_of_ble_eq_true rfl, Nat.le_of_ble_eq_true rfl⟩) (hw_preV hK hO hZ (tmAt.ob f2_) rfl) rfl rfl hl.1 rfl (lv_room (Nat.le_of_ble_eq_true rfl)) dSearch_countIn_14 ⟨(show 0 + 0 ≤ 0 by omega), (show 0 + 0 ≤ 0 by omega)⟩) hZ hA (fun r X_5 H_6 lc_7 hp hZ => ?_)
        obtain ⟨hr, hy⟩ := hp
        subst hy
        refine hw_topl hr ?_
        refine lv_lconst (v := lN 0) hx hb dSearch_countIn_17 rfl ?_
        refine hw_lc_eq (a := eW (tb.getD i [])) (b := 0) (tgt := 37) hx hb dSearch_countIn_18 dSearch_countIn_19 (by decide) (by first | exact eW_lt63 (by assumption) | exact eW_lt63 (hA2 _) | exact eW_lt63 (hB2 _) | decide) (by first | exact eW_lt63 (by assumption) | exact eW_lt63 (hA2 _) | exact eW_lt63 (hB2 _) | decide) (fun cq_8 => ?_) (fun cq_8 => ?_)
        · refine lv_iinc (v := nI (i + 1)) (lv' := [(3, .int (nI (i + 1))), (2, .int (nI n)), (0, .ref o), (1, .ref b)]) hx hb dSearch_countIn_37 hl (k := 0) rfl (nI_add _ 1) (by decide) rfl (fun ls hl => ?_)
          refine lv_goto (tgt := 4) hx hb dSearch_countIn_40 (by decide) ?_
          exact ih4 (i + 1) n _ _ _ (by omega) (by omega) (cnt_stepF (by omega) hc (cntP_f1 ((eW_zero (hB2 _)).mp cq_8)))  hZ (lv_sub hl [0, 1, 2, 3] rfl)
        · refine lv_aload_n hx hb dSearch_countIn_22 rfl (lv_at hl 2 rfl) ?_
          refine lv_aload_n hx hb dSearch_countIn_23 rfl (lv_at hl 3 rfl) ?_
          refine lv_iload_n hx hb dSearch_countIn_24 rfl (lv_at hl 0 rfl) ?_
          refine hw_calll (va_runV (As := [.int (nI i)]) (rest := [.ref o]) ⟨hx, hb, hml, hown, hts⟩ (c_Tm_at l D K X H_6.size (a := b) (k := kb) (N := Nb) (ts := tb) (j := i) f2_ (by omega)) (cwV 1 hts (hwGood (hw_4 mm_133 mm_87 mm_88 mm_89 (hwAll mm_85))) rfl rfl rfl (by decide +kernel) ⟨Nat.le_of_ble_eq_true rfl, Nat.le_of_ble_eq_true rfl⟩) (hw_preV hK hO hZ (tmAt.ob f2_) rfl) rfl rfl hl.1 rfl (lv_room (Nat.le_of_ble_eq_true rfl)) dSearch_countIn_25 ⟨(show 0 + 0 ≤ 0 by omega), (show 0 + 0 ≤ 0 by omega)⟩) hZ hA (fun r X_9 H_10 lc_11 hp hZ => ?_)
          obtain ⟨hr, hy⟩ := hp
          subst hy
          refine hw_topl hr ?_
          refine hw_calli (va_runU (As := [.long (lN (eW (tb.getD i [])))]) (rest := []) ⟨hx, hb, hml, hown, hts⟩ (c_Phr_wants l D K X H_10.size (o := o) (L := L) (a := a) (ka := ka) (Na := Na) (ta := ta) (w := (tb.getD i [])) f0_ f1_ (hB2 i)) (va_cwA (owner := RSearch) 1 hts (hwGood (hw_5 mm_135 mm_136 mm_141 mm_142 mm_143 (hwAll mm_140))) rfl rfl rfl (hO.2 _ (List.mem_of_getElem? (i := 7) rfl)) (by decide +kernel) ⟨Nat.le_of_ble_eq_true rfl, Nat.le_of_ble_eq_true rfl⟩) (hw_preV hK hO hZ (⟨_, _, f0_⟩) rfl) rfl rfl hl.1 rfl (lv_room (Nat.le_of_ble_eq_true rfl)) dSearch_countIn_28 ⟨(show 0 + 0 ≤ 0 by omega), (show 0 + 0 ≤ 0 by omega)⟩) hZ hA (fun r X_12 H_13 lc_14 hp hZ => ?_)
          obtain ⟨hr, hy⟩ := hp
          subst hy
          refine hw_topi hr ?_
          refine hw_bz_eq (tgt := 37) hx hb dSearch_countIn_31 (by decide) (fun cq_15 => ?_) (fun cq_15 => ?_)
          · refine lv_iinc (v := nI (i + 1)) (lv' := [(3, .int (nI (i + 1))), (2, .int (nI n)), (0, .ref o), (1, .ref b)]) hx hb dSearch_countIn_37 hl (k := 0) rfl (nI_add _ 1) (by decide) rfl (fun ls hl => ?_)
            refine lv_goto (tgt := 4) hx hb dSearch_countIn_40 (by decide) ?_
            exact ih4 (i + 1) n _ _ _ (by omega) (by omega) (cnt_stepF (by omega) hc (cntP_f2 cq_15))  hZ (lv_sub hl [0, 1, 2, 3] rfl)
          · refine lv_iinc (v := nI (n + 1)) (lv' := [(2, .int (nI (n + 1))), (3, .int (nI i)), (0, .ref o), (1, .ref b)]) hx hb dSearch_countIn_34 hl (k := 1) rfl (nI_add _ 1) (by decide) rfl (fun ls hl => ?_)
            refine lv_iinc (v := nI (i + 1)) (lv' := [(3, .int (nI (i + 1))), (2, .int (nI (n + 1))), (0, .ref o), (1, .ref b)]) hx hb dSearch_countIn_37 hl (k := 1) rfl (nI_add _ 1) (by decide) rfl (fun ls hl => ?_)
            refine lv_goto (tgt := 4) hx hb dSearch_countIn_40 (by decide) ?_
            exact ih4 (i + 1) (n + 1) _ _ _ (by omega) (by omega) (cnt_stepT (by omega) hc (cntP_t (fun h => cq_8 ((eW_zero (hB2 _)).mpr h)) cq_15))  hZ (lv_sub hl [0, 1, 2, 3] rfl)
  exact loop4 (tb.length - 0 + 1) 0 0 _ _ _ (by omega) (by omega) (by rw [List.take_zero]; rfl)  hZ (lv_sub hl [0, 1, 2, 3] rfl)
set_option maxHeartbeats 4000000 in
set_option maxRecDepth 100000 in
theorem c_Nea_count (l : Launch) (D : va_G) (K : Nat → ClassId) (X : hwW) (sz : Nat) (o : Nat) (L : Nat) (u : List Nat) (v : List Nat) (dd : Nat) (b : Nat) (kb : Nat) (Nb : Nat) (tb : List (List Nat)) (f0_ : hwH X o L (.inr (8, [.long (lN (eW u)), .long (lN (eW v)), .int (nI dd)]))) (f1_ : tmAt K X b kb Nb tb) (hu : okW u) (hv : okW v) (hdd : dd < 2147483648) : Met l ySearch_countIn (.code ySearch_countIn cSearch_countIn 4 (some .int) :: hwG) ({ frames := 5, cells := 0, slots := 0, locals := 110 } : Room) (hwPc D vwCl (hwT K) [.ref o, .ref b] X sz) (hwQi D vwCl X sz (fun r Y => r = nI (tb.countP (fun w => decide (w ≠ []) && (decide (w = u ∨ w = v)))) ∧ X = Y ∧ tb.countP (fun w => decide (w ≠ []) && (decide (w = u ∨ w = v))) ≤ tb.length)) 0 0 (va_A X.1 sz) := by
  refine hwMeti (cc := cSearch_countIn) (maxL := 4) (by decide) rfl (Nat.le_of_ble_eq_true rfl) (fun p e s m args below meth c ls A Q hx hb hml hown hts hname hret hK hO hZ hA hl => ?_)
  have hl : lv_has ls 4 [(0, .ref o), (1, .ref b)] := hl
  have hB2 := fun j => okWs.at (tmAt.oks f1_) j
  have hBN := tmAt.len f1_
  refine lv_iconst (v := nI 0) hx hb dSearch_countIn_0 (by decide) ?_
  refine lv_istore_n (lv' := [(2, .int (nI 0)), (0, .ref o), (1, .ref b)]) hx hb dSearch_countIn_1 rfl hl (by decide) rfl (fun ls hl => ?_)
  refine lv_iconst (v := nI 0) hx hb dSearch_countIn_2 (by decide) ?_
  refine lv_istore_n (lv' := [(3, .int (nI 0)), (2, .int (nI 0)), (0, .ref o), (1, .ref b)]) hx hb dSearch_countIn_3 rfl hl (by decide) rfl (fun ls hl => ?_)
  have loop4 : ∀ (fuel : Nat) (i : Nat) (n : Nat) (Hh : Heap) (lcs : List Loc) (ls : Array Slot), tb.length - i < fuel → (i ≤ tb.length) → (n = (tb.take i).countP (fun w => decide (w ≠ []) && (decide (w = u ∨ w = v)))) → hwZ D vwCl A s.heap X Hh lcs → lv_has ls 4 [(3, .int (nI i)), (2, .int (nI n)), (0, .ref o), (1, .ref b)] → W p l e ({ frames := 5, cells := 0, slots := 0, locals := 110 } : Room) s m args below meth c Hh lcs 0 0 Q (F0 m 4 ls []) := by
    intro fuel; induction fuel with
    | zero => intro i n Hh lcs ls hfu; exact absurd hfu (Nat.not_lt_zero _)
    | succ fuel ih4 =>
      intro i n Hh lcs ls hfu4 hi hc hZ hl
      have hnl := Nat.le_trans (Nat.le_of_eq hc) (Nat.le_trans List.countP_le_length (List.length_take_le _ _))
      refine lv_iload_n hx hb dSearch_countIn_4 rfl (lv_at hl 0 rfl) ?_
      refine lv_aload_n hx hb dSearch_countIn_5 rfl (lv_at hl 3 rfl) ?_
      refine hw_calli (va_runV (As := []) (rest := [.int (nI i)]) ⟨hx, hb, hml, hown, hts⟩ (c_Tm_size l D K X Hh.size (a := b) (k := kb) (N := Nb) (ts := tb) f1_) (cwV 0 hts (hwGood (hw_4 mm_130 mm_131 mm_132 mm_89 (hwAll mm_129))) rfl rfl rfl (by decide +kernel) ⟨Nat.le_of_ble_eq_true rfl, Nat.le_of_ble_eq_true rfl⟩) (hw_preV hK hO hZ (tmAt.ob f1_) rfl) rfl rfl hl.1 rfl (lv_room (Nat.le_of_ble_eq_true rfl)) dSearch_countIn_6 ⟨(show 0 + 0 ≤ 0 by omega), (show 0 + 0 ≤ 0 by omega)⟩) hZ hA (fun r X_1 H_2 lc_3 hp hZ => ?_)
      obtain ⟨hr, hy⟩ := hp
      subst hy
      refine hw_topi hr ?_
      refine hw_ic_ge (a := i) (b := tb.length) (tgt := 43) hx hb dSearch_countIn_9 (by decide) (by omega) (by omega) (fun cq_4 => ?_) (fun cq_4 => ?_)
      · refine lv_iload_n hx hb dSearch_countIn_43 rfl (lv_at hl 1 rfl) ?_
        exact hret hZ ⟨by rw [hc, List.take_of_length_le (by omega)], rfl, List.countP_le_length⟩ dSearch_countIn_44
      · refine lv_aload_n hx hb dSearch_countIn_12 rfl (lv_at hl 3 rfl) ?_
        refine lv_iload_n hx hb dSearch_countIn_13 rfl (lv_at hl 0 rfl) ?_
        refine hw_calll (va_runV (As := [.int (nI i)]) (rest := []) ⟨hx, hb, hml, hown, hts⟩ (c_Tm_at l D K X H_2.size (a := b) (k := kb) (N := Nb) (ts := tb) (j := i) f1_ (by omega)) (cwV 1 hts (hwGood (hw_4 mm_133 mm_87 mm_88 mm_89 (hwAll mm_85))) rfl rfl rfl (by decide +kernel) ⟨Nat.le_of_ble_eq_true rfl, Nat.le_of_ble_eq_true rfl⟩) (hw_preV hK hO hZ (tmAt.ob f1_) rfl) rfl rfl hl.1 rfl (lv_room (Nat.le_of_ble_eq_true rfl)) dSearch_countIn_14 ⟨(show 0 + 0 ≤ 0 by omega), (show 0 + 0 ≤ 0 by omega)⟩) hZ hA (fun r X_5 H_6 lc_7 hp hZ => ?_)
        obtain ⟨hr, hy⟩ := hp
        subst hy
        refine hw_topl hr ?_
        refine lv_lconst (v := lN 0) hx hb dSearch_countIn_17 rfl ?_
        refine hw_lc_eq (a := eW (tb.getD i [])) (b := 0) (tgt := 37) hx hb dSearch_countIn_18 dSearch_countIn_19 (by decide) (by first | exact eW_lt63 (by assumption) | exact eW_lt63 (hA2 _) | exact eW_lt63 (hB2 _) | decide) (by first | exact eW_lt63 (by assumption) | exact eW_lt63 (hA2 _) | exact eW_lt63 (hB2 _) | decide) (fun cq_8 => ?_) (fun cq_8 => ?_)
        · refine lv_iinc (v := nI (i + 1)) (lv' := [(3, .int (nI (i + 1))), (2, .int (nI n)), (0, .ref o), (1, .ref b)]) hx hb dSearch_countIn_37 hl (k := 0) rfl (nI_add _ 1) (by decide) rfl (fun ls hl => ?_)
          refine lv_goto (tgt := 4) hx hb dSearch_countIn_40 (by decide) ?_
          exact ih4 (i + 1) n _ _ _ (by omega) (by omega) (cnt_stepF (by omega) hc (cntP_f1 ((eW_zero (hB2 _)).mp cq_8)))  hZ (lv_sub hl [0, 1, 2, 3] rfl)
        · refine lv_aload_n hx hb dSearch_countIn_22 rfl (lv_at hl 2 rfl) ?_
          refine lv_aload_n hx hb dSearch_countIn_23 rfl (lv_at hl 3 rfl) ?_
          refine lv_iload_n hx hb dSearch_countIn_24 rfl (lv_at hl 0 rfl) ?_
          refine hw_calll (va_runV (As := [.int (nI i)]) (rest := [.ref o]) ⟨hx, hb, hml, hown, hts⟩ (c_Tm_at l D K X H_6.size (a := b) (k := kb) (N := Nb) (ts := tb) (j := i) f1_ (by omega)) (cwV 1 hts (hwGood (hw_4 mm_133 mm_87 mm_88 mm_89 (hwAll mm_85))) rfl rfl rfl (by decide +kernel) ⟨Nat.le_of_ble_eq_true rfl, Nat.le_of_ble_eq_true rfl⟩) (hw_preV hK hO hZ (tmAt.ob f1_) rfl) rfl rfl hl.1 rfl (lv_room (Nat.le_of_ble_eq_true rfl)) dSearch_countIn_25 ⟨(show 0 + 0 ≤ 0 by omega), (show 0 + 0 ≤ 0 by omega)⟩) hZ hA (fun r X_9 H_10 lc_11 hp hZ => ?_)
          obtain ⟨hr, hy⟩ := hp
          subst hy
          refine hw_topl hr ?_
          refine hw_calli (va_runU (As := [.long (lN (eW (tb.getD i [])))]) (rest := []) ⟨hx, hb, hml, hown, hts⟩ (c_Nea_wants l D K X H_10.size (o := o) (L := L) (u := u) (v := v) (dd := dd) (w := (tb.getD i [])) f0_ (by assumption) (by assumption) (by omega) (hB2 i)) (va_cwA (owner := RSearch) 1 hts (hwGood (hw_5 mm_135 mm_136 mm_145 mm_146 mm_147 (hwAll mm_144))) rfl rfl rfl (hO.2 _ (List.mem_of_getElem? (i := 7) rfl)) (by decide +kernel) ⟨Nat.le_of_ble_eq_true rfl, Nat.le_of_ble_eq_true rfl⟩) (hw_preV hK hO hZ (⟨_, _, f0_⟩) rfl) rfl rfl hl.1 rfl (lv_room (Nat.le_of_ble_eq_true rfl)) dSearch_countIn_28 ⟨(show 0 + 0 ≤ 0 by omega), (show 0 + 0 ≤ 0 by omega)⟩) hZ hA (fun r X_12 H_13 lc_14 hp hZ => ?_)
          obtain ⟨hr, hy⟩ := hp
          subst hy
          refine hw_topi hr ?_
          refine hw_bz_eq (tgt := 37) hx hb dSearch_countIn_31 (by decide) (fun cq_15 => ?_) (fun cq_15 => ?_)
          · refine lv_iinc (v := nI (i + 1)) (lv' := [(3, .int (nI (i + 1))), (2, .int (nI n)), (0, .ref o), (1, .ref b)]) hx hb dSearch_countIn_37 hl (k := 0) rfl (nI_add _ 1) (by decide) rfl (fun ls hl => ?_)
            refine lv_goto (tgt := 4) hx hb dSearch_countIn_40 (by decide) ?_
            exact ih4 (i + 1) n _ _ _ (by omega) (by omega) (cnt_stepF (by omega) hc (cntP_f2 cq_15))  hZ (lv_sub hl [0, 1, 2, 3] rfl)
          · refine lv_iinc (v := nI (n + 1)) (lv' := [(2, .int (nI (n + 1))), (3, .int (nI i)), (0, .ref o), (1, .ref b)]) hx hb dSearch_countIn_34 hl (k := 1) rfl (nI_add _ 1) (by decide) rfl (fun ls hl => ?_)
            refine lv_iinc (v := nI (i + 1)) (lv' := [(3, .int (nI (i + 1))), (2, .int (nI (n + 1))), (0, .ref o), (1, .ref b)]) hx hb dSearch_countIn_37 hl (k := 1) rfl (nI_add _ 1) (by decide) rfl (fun ls hl => ?_)
            refine lv_goto (tgt := 4) hx hb dSearch_countIn_40 (by decide) ?_
            exact ih4 (i + 1) (n + 1) _ _ _ (by omega) (by omega) (cnt_stepT (by omega) hc (cntP_t (fun h => cq_8 ((eW_zero (hB2 _)).mpr h)) cq_15))  hZ (lv_sub hl [0, 1, 2, 3] rfl)
  exact loop4 (tb.length - 0 + 1) 0 0 _ _ _ (by omega) (by omega) (by rw [List.take_zero]; rfl)  hZ (lv_sub hl [0, 1, 2, 3] rfl)
set_option maxHeartbeats 4000000 in
set_option maxRecDepth 100000 in
theorem c_Wil_count (l : Launch) (D : va_G) (K : Nat → ClassId) (X : hwW) (sz : Nat) (o : Nat) (L : Nat) (u : List Nat) (be : Bool) (b : Nat) (kb : Nat) (Nb : Nat) (tb : List (List Nat)) (f0_ : hwH X o L (.inr (9, [.long (lN (eW u)), .int (bI be)]))) (f1_ : tmAt K X b kb Nb tb) (hu : okW u) : Met l ySearch_countIn (.code ySearch_countIn cSearch_countIn 4 (some .int) :: hwG) ({ frames := 5, cells := 0, slots := 0, locals := 110 } : Room) (hwPc D vwCl (hwT K) [.ref o, .ref b] X sz) (hwQi D vwCl X sz (fun r Y => r = nI (tb.countP (fun w => decide (w ≠ []) && (bif be then endL w u else begL w u))) ∧ X = Y ∧ tb.countP (fun w => decide (w ≠ []) && (bif be then endL w u else begL w u)) ≤ tb.length)) 0 0 (va_A X.1 sz) := by
  refine hwMeti (cc := cSearch_countIn) (maxL := 4) (by decide) rfl (Nat.le_of_ble_eq_true rfl) (fun p e s m args below meth c ls A Q hx hb hml hown hts hname hret hK hO hZ hA hl => ?_)
  have hl : lv_has ls 4 [(0, .ref o), (1, .ref b)] := hl
  have hB2 := fun j => okWs.at (tmAt.oks f1_) j
  have hBN := tmAt.len f1_
  refine lv_iconst (v := nI 0) hx hb dSearch_countIn_0 (by decide) ?_
  refine lv_istore_n (lv' := [(2, .int (nI 0)), (0, .ref o), (1, .ref b)]) hx hb dSearch_countIn_1 rfl hl (by decide) rfl (fun ls hl => ?_)
  refine lv_iconst (v := nI 0) hx hb dSearch_countIn_2 (by decide) ?_
  refine lv_istore_n (lv' := [(3, .int (nI 0)), (2, .int (nI 0)), (0, .ref o), (1, .ref b)]) hx hb dSearch_countIn_3 rfl hl (by decide) rfl (fun ls hl => ?_)
  have loop4 : ∀ (fuel : Nat) (i : Nat) (n : Nat) (Hh : Heap) (lcs : List Loc) (ls : Array Slot), tb.length - i < fuel → (i ≤ tb.length) → (n = (tb.take i).countP (fun w => decide (w ≠ []) && (bif be then endL w u else begL w u))) → hwZ D vwCl A s.heap X Hh lcs → lv_has ls 4 [(3, .int (nI i)), (2, .int (nI n)), (0, .ref o), (1, .ref b)] → W p l e ({ frames := 5, cells := 0, slots := 0, locals := 110 } : Room) s m args below meth c Hh lcs 0 0 Q (F0 m 4 ls []) := by
    intro fuel; induction fuel with
    | zero => intro i n Hh lcs ls hfu; exact absurd hfu (Nat.not_lt_zero _)
    | succ fuel ih4 =>
      intro i n Hh lcs ls hfu4 hi hc hZ hl
      have hnl := Nat.le_trans (Nat.le_of_eq hc) (Nat.le_trans List.countP_le_length (List.length_take_le _ _))
      refine lv_iload_n hx hb dSearch_countIn_4 rfl (lv_at hl 0 rfl) ?_
      refine lv_aload_n hx hb dSearch_countIn_5 rfl (lv_at hl 3 rfl) ?_
      refine hw_calli (va_runV (As := []) (rest := [.int (nI i)]) ⟨hx, hb, hml, hown, hts⟩ (c_Tm_size l D K X Hh.size (a := b) (k := kb) (N := Nb) (ts := tb) f1_) (cwV 0 hts (hwGood (hw_4 mm_130 mm_131 mm_132 mm_89 (hwAll mm_129))) rfl rfl rfl (by decide +kernel) ⟨Nat.le_of_ble_eq_true rfl, Nat.le_of_ble_eq_true rfl⟩) (hw_preV hK hO hZ (tmAt.ob f1_) rfl) rfl rfl hl.1 rfl (lv_room (Nat.le_of_ble_eq_true rfl)) dSearch_countIn_6 ⟨(show 0 + 0 ≤ 0 by omega), (show 0 + 0 ≤ 0 by omega)⟩) hZ hA (fun r X_1 H_2 lc_3 hp hZ => ?_)
      obtain ⟨hr, hy⟩ := hp
      subst hy
      refine hw_topi hr ?_
      refine hw_ic_ge (a := i) (b := tb.length) (tgt := 43) hx hb dSearch_countIn_9 (by decide) (by omega) (by omega) (fun cq_4 => ?_) (fun cq_4 => ?_)
      · refine lv_iload_n hx hb dSearch_countIn_43 rfl (lv_at hl 1 rfl) ?_
        exact hret hZ ⟨by rw [hc, List.take_of_length_le (by omega)], rfl, List.countP_le_length⟩ dSearch_countIn_44
      · refine lv_aload_n hx hb dSearch_countIn_12 rfl (lv_at hl 3 rfl) ?_
        refine lv_iload_n hx hb dSearch_countIn_13 rfl (lv_at hl 0 rfl) ?_
        refine hw_calll (va_runV (As := [.int (nI i)]) (rest := []) ⟨hx, hb, hml, hown, hts⟩ (c_Tm_at l D K X H_2.size (a := b) (k := kb) (N := Nb) (ts := tb) (j := i) f1_ (by omega)) (cwV 1 hts (hwGood (hw_4 mm_133 mm_87 mm_88 mm_89 (hwAll mm_85))) rfl rfl rfl (by decide +kernel) ⟨Nat.le_of_ble_eq_true rfl, Nat.le_of_ble_eq_true rfl⟩) (hw_preV hK hO hZ (tmAt.ob f1_) rfl) rfl rfl hl.1 rfl (lv_room (Nat.le_of_ble_eq_true rfl)) dSearch_countIn_14 ⟨(show 0 + 0 ≤ 0 by omega), (show 0 + 0 ≤ 0 by omega)⟩) hZ hA (fun r X_5 H_6 lc_7 hp hZ => ?_)
        obtain ⟨hr, hy⟩ := hp
        subst hy
        refine hw_topl hr ?_
        refine lv_lconst (v := lN 0) hx hb dSearch_countIn_17 rfl ?_
        refine hw_lc_eq (a := eW (tb.getD i [])) (b := 0) (tgt := 37) hx hb dSearch_countIn_18 dSearch_countIn_19 (by decide) (by first | exact eW_lt63 (by assumption) | exact eW_lt63 (hA2 _) | exact eW_lt63 (hB2 _) | decide) (by first | exact eW_lt63 (by assumption) | exact eW_lt63 (hA2 _) | exact eW_lt63 (hB2 _) | decide) (fun cq_8 => ?_) (fun cq_8 => ?_)
        · refine lv_iinc (v := nI (i + 1)) (lv' := [(3, .int (nI (i + 1))), (2, .int (nI n)), (0, .ref o), (1, .ref b)]) hx hb dSearch_countIn_37 hl (k := 0) rfl (nI_add _ 1) (by decide) rfl (fun ls hl => ?_)
          refine lv_goto (tgt := 4) hx hb dSearch_countIn_40 (by decide) ?_
          exact ih4 (i + 1) n _ _ _ (by omega) (by omega) (cnt_stepF (by omega) hc (cntP_f1 ((eW_zero (hB2 _)).mp cq_8)))  hZ (lv_sub hl [0, 1, 2, 3] rfl)
        · refine lv_aload_n hx hb dSearch_countIn_22 rfl (lv_at hl 2 rfl) ?_
          refine lv_aload_n hx hb dSearch_countIn_23 rfl (lv_at hl 3 rfl) ?_
          refine lv_iload_n hx hb dSearch_countIn_24 rfl (lv_at hl 0 rfl) ?_
          refine hw_calll (va_runV (As := [.int (nI i)]) (rest := [.ref o]) ⟨hx, hb, hml, hown, hts⟩ (c_Tm_at l D K X H_6.size (a := b) (k := kb) (N := Nb) (ts := tb) (j := i) f1_ (by omega)) (cwV 1 hts (hwGood (hw_4 mm_133 mm_87 mm_88 mm_89 (hwAll mm_85))) rfl rfl rfl (by decide +kernel) ⟨Nat.le_of_ble_eq_true rfl, Nat.le_of_ble_eq_true rfl⟩) (hw_preV hK hO hZ (tmAt.ob f1_) rfl) rfl rfl hl.1 rfl (lv_room (Nat.le_of_ble_eq_true rfl)) dSearch_countIn_25 ⟨(show 0 + 0 ≤ 0 by omega), (show 0 + 0 ≤ 0 by omega)⟩) hZ hA (fun r X_9 H_10 lc_11 hp hZ => ?_)
          obtain ⟨hr, hy⟩ := hp
          subst hy
          refine hw_topl hr ?_
          refine hw_calli (va_runU (As := [.long (lN (eW (tb.getD i [])))]) (rest := []) ⟨hx, hb, hml, hown, hts⟩ (c_Wil_wants l D K X H_10.size (o := o) (L := L) (u := u) (be := be) (w := (tb.getD i [])) f0_ (by assumption) (hB2 i)) (va_cwA (owner := RSearch) 1 hts (hwGood (hw_5 mm_135 mm_136 mm_149 mm_150 mm_151 (hwAll mm_148))) rfl rfl rfl (hO.2 _ (List.mem_of_getElem? (i := 7) rfl)) (by decide +kernel) ⟨Nat.le_of_ble_eq_true rfl, Nat.le_of_ble_eq_true rfl⟩) (hw_preV hK hO hZ (⟨_, _, f0_⟩) rfl) rfl rfl hl.1 rfl (lv_room (Nat.le_of_ble_eq_true rfl)) dSearch_countIn_28 ⟨(show 0 + 0 ≤ 0 by omega), (show 0 + 0 ≤ 0 by omega)⟩) hZ hA (fun r X_12 H_13 lc_14 hp hZ => ?_)
          obtain ⟨hr, hy⟩ := hp
          subst hy
          refine hw_topi hr ?_
          refine hw_bz_eq (tgt := 37) hx hb dSearch_countIn_31 (by decide) (fun cq_15 => ?_) (fun cq_15 => ?_)
          · refine lv_iinc (v := nI (i + 1)) (lv' := [(3, .int (nI (i + 1))), (2, .int (nI n)), (0, .ref o), (1, .ref b)]) hx hb dSearch_countIn_37 hl (k := 0) rfl (nI_add _ 1) (by decide) rfl (fun ls hl => ?_)
            refine lv_goto (tgt := 4) hx hb dSearch_countIn_40 (by decide) ?_
            exact ih4 (i + 1) n _ _ _ (by omega) (by omega) (cnt_stepF (by omega) hc (cntP_f2 cq_15))  hZ (lv_sub hl [0, 1, 2, 3] rfl)
          · refine lv_iinc (v := nI (n + 1)) (lv' := [(2, .int (nI (n + 1))), (3, .int (nI i)), (0, .ref o), (1, .ref b)]) hx hb dSearch_countIn_34 hl (k := 1) rfl (nI_add _ 1) (by decide) rfl (fun ls hl => ?_)
            refine lv_iinc (v := nI (i + 1)) (lv' := [(3, .int (nI (i + 1))), (2, .int (nI (n + 1))), (0, .ref o), (1, .ref b)]) hx hb dSearch_countIn_37 hl (k := 1) rfl (nI_add _ 1) (by decide) rfl (fun ls hl => ?_)
            refine lv_goto (tgt := 4) hx hb dSearch_countIn_40 (by decide) ?_
            exact ih4 (i + 1) (n + 1) _ _ _ (by omega) (by omega) (cnt_stepT (by omega) hc (cntP_t (fun h => cq_8 ((eW_zero (hB2 _)).mpr h)) cq_15))  hZ (lv_sub hl [0, 1, 2, 3] rfl)
  exact loop4 (tb.length - 0 + 1) 0 0 _ _ _ (by omega) (by omega) (by rw [List.take_zero]; rfl)  hZ (lv_sub hl [0, 1, 2, 3] rfl)
set_option maxHeartbeats 4000000 in
set_option maxRecDepth 100000 in
theorem c_All_meets (l : Launch) (D : va_G) (K : Nat → ClassId) (X : hwW) (sz : Nat) (o : Nat) (L : Nat) (a : Nat) (ka : Nat) (Na : Nat) (ta : List (List Nat)) (b : Nat) (kb : Nat) (Nb : Nat) (tb : List (List Nat)) (f0_ : hwH X o L (.inr (6, [.ref a]))) (f1_ : tmAt K X a ka Na ta) (f2_ : tmAt K X b kb Nb tb) : Met l yAllSearch_meets (.code yAllSearch_meets cAllSearch_meets 3 (some .boolean) :: hwG) ({ frames := 2, cells := 0, slots := 0, locals := 44 } : Room) (hwPc D vwCl (hwT K) [.ref o, .ref b] X sz) (hwQi D vwCl X sz (fun r Y => r = bI (ta.all (fun t => decide (t = [] ∨ t ∈ tb))) ∧ X = Y)) 0 0 (va_A X.1 sz) := by
  refine hwMetz (cc := cAllSearch_meets) (maxL := 3) (by decide) rfl (Nat.le_of_ble_eq_true rfl) (fun p e s m args below meth c ls A Q hx hb hml hown hts hname hret hK hO hZ hA hl => ?_)
  have hl : lv_has ls 3 [(0, .ref o), (1, .ref b)] := hl
  have hA2 := fun j => okWs.at (tmAt.oks f1_) j
  have hB2 := fun j => okWs.at (tmAt.oks f2_) j
  have hBN := tmAt.len f2_
  have hAN := tmAt.len f1_
  refine lv_iconst (v := nI 0) hx hb dAllSearch_meets_0 (by decide) ?_
  refine lv_istore_n (lv' := [(2, .int (nI 0)), (0, .ref o), (1, .ref b)]) hx hb dAllSearch_meets_1 rfl hl (by decide) rfl (fun ls hl => ?_)
  have loop2 : ∀ (fuel : Nat) (i : Nat) (Hh : Heap) (lcs : List Loc) (ls : Array Slot), ta.length - i < fuel → (i ≤ ta.length) → (∀ p, p < i → ta.getD p [] = [] ∨ ta.getD p [] ∈ tb) → hwZ D vwCl A s.heap X Hh lcs → lv_has ls 3 [(2, .int (nI i)), (0, .ref o), (1, .ref b)] → W p l e ({ frames := 2, cells := 0, slots := 0, locals := 44 } : Room) s m args below meth c Hh lcs 0 0 Q (F0 m 2 ls []) := by
    intro fuel; induction fuel with
    | zero => intro i Hh lcs ls hfu; exact absurd hfu (Nat.not_lt_zero _)
    | succ fuel ih2 =>
      intro i Hh lcs ls hfu2 hi hh hZ hl
      refine lv_iload_n hx hb dAllSearch_meets_2 rfl (lv_at hl 0 rfl) ?_
      refine lv_aload_n hx hb dAllSearch_meets_3 rfl (lv_at hl 1 rfl) ?_
      refine hw_get hx hb hts (hwInn inAllSearch) hown hK hZ f0_ rfl 0 (by decide) (hts (.fieldLink RAllSearch 7 RAllSearch "asked" "LWordIndex2$Terms;") (hwMem mm_111)) (fun _ h => h) rfl dAllSearch_meets_4 ?_
      refine hw_calli (va_runV (As := []) (rest := [.int (nI i)]) ⟨hx, hb, hml, hown, hts⟩ (c_Tm_size l D K X Hh.size (a := a) (k := ka) (N := Na) (ts := ta) f1_) (cwV 0 hts (hwGood (hw_4 mm_152 mm_131 mm_132 mm_89 (hwAll mm_129))) rfl rfl rfl (by decide +kernel) ⟨Nat.le_of_ble_eq_true rfl, Nat.le_of_ble_eq_true rfl⟩) (hw_preV hK hO hZ (tmAt.ob f1_) rfl) rfl rfl hl.1 rfl (lv_room (Nat.le_of_ble_eq_true rfl)) dAllSearch_meets_7 ⟨(show 0 + 0 ≤ 0 by omega), (show 0 + 0 ≤ 0 by omega)⟩) hZ hA (fun r X_1 H_2 lc_3 hp hZ => ?_)
      obtain ⟨hr, hy⟩ := hp
      subst hy
      refine hw_topi hr ?_
      refine hw_ic_ge (a := i) (b := ta.length) (tgt := 49) hx hb dAllSearch_meets_10 (by decide) (by omega) (by omega) (fun cq_4 => ?_) (fun cq_4 => ?_)
      · refine lv_iconst (v := nI 1) hx hb dAllSearch_meets_49 (by decide) ?_
        exact hret (by decide) hZ ⟨by rw [all_true (fun p hp => hh p (by omega))]; rfl, rfl⟩ dAllSearch_meets_50
      · refine lv_aload_n hx hb dAllSearch_meets_13 rfl (lv_at hl 1 rfl) ?_
        refine hw_get hx hb hts (hwInn inAllSearch) hown hK hZ f0_ rfl 0 (by decide) (hts (.fieldLink RAllSearch 7 RAllSearch "asked" "LWordIndex2$Terms;") (hwMem mm_111)) (fun _ h => h) rfl dAllSearch_meets_14 ?_
        refine lv_iload_n hx hb dAllSearch_meets_17 rfl (lv_at hl 0 rfl) ?_
        refine hw_calll (va_runV (As := [.int (nI i)]) (rest := []) ⟨hx, hb, hml, hown, hts⟩ (c_Tm_at l D K X H_2.size (a := a) (k := ka) (N := Na) (ts := ta) (j := i) f1_ (by omega)) (cwV 1 hts (hwGood (hw_4 mm_153 mm_87 mm_88 mm_89 (hwAll mm_85))) rfl rfl rfl (by decide +kernel) ⟨Nat.le_of_ble_eq_true rfl, Nat.le_of_ble_eq_true rfl⟩) (hw_preV hK hO hZ (tmAt.ob f1_) rfl) rfl rfl hl.1 rfl (lv_room (Nat.le_of_ble_eq_true rfl)) dAllSearch_meets_18 ⟨(show 0 + 0 ≤ 0 by omega), (show 0 + 0 ≤ 0 by omega)⟩) hZ hA (fun r X_5 H_6 lc_7 hp hZ => ?_)
        obtain ⟨hr, hy⟩ := hp
        subst hy
        refine hw_topl hr ?_
        refine lv_lconst (v := lN 0) hx hb dAllSearch_meets_21 rfl ?_
        refine hw_lc_eq (a := eW (ta.getD i [])) (b := 0) (tgt := 43) hx hb dAllSearch_meets_22 dAllSearch_meets_23 (by decide) (by first | exact eW_lt63 (by assumption) | exact eW_lt63 (hA2 _) | exact eW_lt63 (hB2 _) | decide) (by first | exact eW_lt63 (by assumption) | exact eW_lt63 (hA2 _) | exact eW_lt63 (hB2 _) | decide) (fun cq_8 => ?_) (fun cq_8 => ?_)
        · refine lv_iinc (v := nI (i + 1)) (lv' := [(2, .int (nI (i + 1))), (0, .ref o), (1, .ref b)]) hx hb dAllSearch_meets_43 hl (k := 0) rfl (nI_add _ 1) (by decide) rfl (fun ls hl => ?_)
          refine lv_goto (tgt := 2) hx hb dAllSearch_meets_46 (by decide) ?_
          exact ih2 (i + 1) _ _ _ (by omega) (by omega) (fun p hp => (Nat.lt_or_eq_of_le (Nat.le_of_lt_succ hp)).elim (fun z => by exact hh p z) (fun z => by subst z; first | exact Or.inl ((eW_zero (hA2 _)).mp cq_8) | exact Or.inr (of_decide_eq_true cq_8)))  hZ (lv_sub hl [0, 1, 2] rfl)
        · refine lv_aload_n hx hb dAllSearch_meets_26 rfl (lv_at hl 2 rfl) ?_
          refine lv_aload_n hx hb dAllSearch_meets_27 rfl (lv_at hl 1 rfl) ?_
          refine hw_get hx hb hts (hwInn inAllSearch) hown hK hZ f0_ rfl 0 (by decide) (hts (.fieldLink RAllSearch 7 RAllSearch "asked" "LWordIndex2$Terms;") (hwMem mm_111)) (fun _ h => h) rfl dAllSearch_meets_28 ?_
          refine lv_iload_n hx hb dAllSearch_meets_31 rfl (lv_at hl 0 rfl) ?_
          refine hw_calll (va_runV (As := [.int (nI i)]) (rest := [.ref b]) ⟨hx, hb, hml, hown, hts⟩ (c_Tm_at l D K X H_6.size (a := a) (k := ka) (N := Na) (ts := ta) (j := i) f1_ (by omega)) (cwV 1 hts (hwGood (hw_4 mm_153 mm_87 mm_88 mm_89 (hwAll mm_85))) rfl rfl rfl (by decide +kernel) ⟨Nat.le_of_ble_eq_true rfl, Nat.le_of_ble_eq_true rfl⟩) (hw_preV hK hO hZ (tmAt.ob f1_) rfl) rfl rfl hl.1 rfl (lv_room (Nat.le_of_ble_eq_true rfl)) dAllSearch_meets_32 ⟨(show 0 + 0 ≤ 0 by omega), (show 0 + 0 ≤ 0 by omega)⟩) hZ hA (fun r X_9 H_10 lc_11 hp hZ => ?_)
          obtain ⟨hr, hy⟩ := hp
          subst hy
          refine hw_topl hr ?_
          refine hw_calli (va_runV (As := [.long (lN (eW (ta.getD i [])))]) (rest := []) ⟨hx, hb, hml, hown, hts⟩ (c_Tm_has l D K X H_10.size (a := b) (k := kb) (N := Nb) (ts := tb) (w := (ta.getD i [])) f2_ (hA2 i)) (cwV 1 hts (hwGood (hw_4 mm_119 mm_120 mm_121 mm_89 (hwAll mm_118))) rfl rfl rfl (by decide +kernel) ⟨Nat.le_of_ble_eq_true rfl, Nat.le_of_ble_eq_true rfl⟩) (hw_preV hK hO hZ (tmAt.ob f2_) rfl) rfl rfl hl.1 rfl (lv_room (Nat.le_of_ble_eq_true rfl)) dAllSearch_meets_35 ⟨(show 0 + 0 ≤ 0 by omega), (show 0 + 0 ≤ 0 by omega)⟩) hZ hA (fun r X_12 H_13 lc_14 hp hZ => ?_)
          obtain ⟨hr, hy⟩ := hp
          subst hy
          refine hw_topi hr ?_
          refine hw_bz_ne (tgt := 43) hx hb dAllSearch_meets_38 (by decide) (fun cq_15 => ?_) (fun cq_15 => ?_)
          · refine lv_iinc (v := nI (i + 1)) (lv' := [(2, .int (nI (i + 1))), (0, .ref o), (1, .ref b)]) hx hb dAllSearch_meets_43 hl (k := 0) rfl (nI_add _ 1) (by decide) rfl (fun ls hl => ?_)
            refine lv_goto (tgt := 2) hx hb dAllSearch_meets_46 (by decide) ?_
            exact ih2 (i + 1) _ _ _ (by omega) (by omega) (fun p hp => (Nat.lt_or_eq_of_le (Nat.le_of_lt_succ hp)).elim (fun z => by exact hh p z) (fun z => by subst z; first | exact Or.inl ((eW_zero (hA2 _)).mp cq_15) | exact Or.inr (of_decide_eq_true cq_15)))  hZ (lv_sub hl [0, 1, 2] rfl)
          · refine lv_iconst (v := nI 0) hx hb dAllSearch_meets_41 (by decide) ?_
            exact hret (by decide) hZ ⟨by rw [all_false (p := i) (by omega) (fun h => h.elim (fun h => cq_8 ((eW_zero (hA2 _)).mpr h)) (of_decide_eq_false cq_15))]; rfl, rfl⟩ dAllSearch_meets_42
  exact loop2 (ta.length - 0 + 1) 0 _ _ _ (by omega) (by omega) (fun p hp => absurd hp (Nat.not_lt_zero _))  hZ (lv_sub hl [0, 1, 2] rfl)
set_option maxHeartbeats 4000000 in
set_option maxRecDepth 100000 in
theorem c_Phr_stands (l : Launch) (D : va_G) (K : Nat → ClassId) (X : hwW) (sz : Nat) (o : Nat) (L : Nat) (a : Nat) (ka : Nat) (Na : Nat) (ta : List (List Nat)) (b : Nat) (kb : Nat) (Nb : Nat) (tb : List (List Nat)) (z0 : Nat) (f0_ : hwH X o L (.inr (7, [.ref a]))) (f1_ : tmAt K X a ka Na ta) (f2_ : tmAt K X b kb Nb tb) (hz0 : z0 ≤ 3000) : Met l yPhraseSearch_standsAt (.code yPhraseSearch_standsAt cPhraseSearch_standsAt 4 (some .boolean) :: hwG) ({ frames := 1, cells := 0, slots := 0, locals := 21 } : Room) (hwPc D vwCl (hwT K) [.ref o, .ref b, .int (nI z0)] X sz) (hwQi D vwCl X sz (fun r Y => r = bI (stL ta tb z0) ∧ X = Y)) 0 0 (va_A X.1 sz) := by
  refine hwMetz (cc := cPhraseSearch_standsAt) (maxL := 4) (by decide) rfl (Nat.le_of_ble_eq_true rfl) (fun p e s m args below meth c ls A Q hx hb hml hown hts hname hret hK hO hZ hA hl => ?_)
  have hl : lv_has ls 4 [(0, .ref o), (1, .ref b), (2, .int (nI z0))] := hl
  have hA2 := fun j => okWs.at (tmAt.oks f1_) j
  have hB2 := fun j => okWs.at (tmAt.oks f2_) j
  have hBN := tmAt.len f2_
  have hAN := tmAt.len f1_
  refine lv_iconst (v := nI 0) hx hb dPhraseSearch_standsAt_0 (by decide) ?_
  refine lv_istore_n (lv' := [(3, .int (nI 0)), (0, .ref o), (1, .ref b), (2, .int (nI z0))]) hx hb dPhraseSearch_standsAt_1 rfl hl (by decide) rfl (fun ls hl => ?_)
  have loop2 : ∀ (fuel : Nat) (i : Nat) (Hh : Heap) (lcs : List Loc) (ls : Array Slot), ta.length - i < fuel → (i ≤ ta.length) → (∀ p, p < i → ta.getD p [] = [] ∨ ta.getD p [] = tb.getD (z0 + p) []) → hwZ D vwCl A s.heap X Hh lcs → lv_has ls 4 [(3, .int (nI i)), (0, .ref o), (1, .ref b), (2, .int (nI z0))] → W p l e ({ frames := 1, cells := 0, slots := 0, locals := 21 } : Room) s m args below meth c Hh lcs 0 0 Q (F0 m 2 ls []) := by
    intro fuel; induction fuel with
    | zero => intro i Hh lcs ls hfu; exact absurd hfu (Nat.not_lt_zero _)
    | succ fuel ih2 =>
      intro i Hh lcs ls hfu2 hi hh hZ hl
      refine lv_iload_n hx hb dPhraseSearch_standsAt_2 rfl (lv_at hl 0 rfl) ?_
      refine lv_aload_n hx hb dPhraseSearch_standsAt_3 rfl (lv_at hl 1 rfl) ?_
      refine hw_get hx hb hts (hwInn inPhraseSearch) hown hK hZ f0_ rfl 0 (by decide) (hts (.fieldLink RPhraseSearch 7 RPhraseSearch "asked" "LWordIndex2$Terms;") (hwMem mm_112)) (fun _ h => h) rfl dPhraseSearch_standsAt_4 ?_
      refine hw_calli (va_runV (As := []) (rest := [.int (nI i)]) ⟨hx, hb, hml, hown, hts⟩ (c_Tm_size l D K X Hh.size (a := a) (k := ka) (N := Na) (ts := ta) f1_) (cwV 0 hts (hwGood (hw_4 mm_154 mm_131 mm_132 mm_89 (hwAll mm_129))) rfl rfl rfl (by decide +kernel) ⟨Nat.le_of_ble_eq_true rfl, Nat.le_of_ble_eq_true rfl⟩) (hw_preV hK hO hZ (tmAt.ob f1_) rfl) rfl rfl hl.1 rfl (lv_room (Nat.le_of_ble_eq_true rfl)) dPhraseSearch_standsAt_7 ⟨(show 0 + 0 ≤ 0 by omega), (show 0 + 0 ≤ 0 by omega)⟩) hZ hA (fun r X_1 H_2 lc_3 hp hZ => ?_)
      obtain ⟨hr, hy⟩ := hp
      subst hy
      refine hw_topi hr ?_
      refine hw_ic_ge (a := i) (b := ta.length) (tgt := 53) hx hb dPhraseSearch_standsAt_10 (by decide) (by omega) (by omega) (fun cq_4 => ?_) (fun cq_4 => ?_)
      · refine lv_iconst (v := nI 1) hx hb dPhraseSearch_standsAt_53 (by decide) ?_
        exact hret (by decide) hZ ⟨by rw [stL_true (fun p hp => hh p (by omega))]; rfl, rfl⟩ dPhraseSearch_standsAt_54
      · refine lv_aload_n hx hb dPhraseSearch_standsAt_13 rfl (lv_at hl 1 rfl) ?_
        refine hw_get hx hb hts (hwInn inPhraseSearch) hown hK hZ f0_ rfl 0 (by decide) (hts (.fieldLink RPhraseSearch 7 RPhraseSearch "asked" "LWordIndex2$Terms;") (hwMem mm_112)) (fun _ h => h) rfl dPhraseSearch_standsAt_14 ?_
        refine lv_iload_n hx hb dPhraseSearch_standsAt_17 rfl (lv_at hl 0 rfl) ?_
        refine hw_calll (va_runV (As := [.int (nI i)]) (rest := []) ⟨hx, hb, hml, hown, hts⟩ (c_Tm_at l D K X H_2.size (a := a) (k := ka) (N := Na) (ts := ta) (j := i) f1_ (by omega)) (cwV 1 hts (hwGood (hw_4 mm_155 mm_87 mm_88 mm_89 (hwAll mm_85))) rfl rfl rfl (by decide +kernel) ⟨Nat.le_of_ble_eq_true rfl, Nat.le_of_ble_eq_true rfl⟩) (hw_preV hK hO hZ (tmAt.ob f1_) rfl) rfl rfl hl.1 rfl (lv_room (Nat.le_of_ble_eq_true rfl)) dPhraseSearch_standsAt_18 ⟨(show 0 + 0 ≤ 0 by omega), (show 0 + 0 ≤ 0 by omega)⟩) hZ hA (fun r X_5 H_6 lc_7 hp hZ => ?_)
        obtain ⟨hr, hy⟩ := hp
        subst hy
        refine hw_topl hr ?_
        refine lv_lconst (v := lN 0) hx hb dPhraseSearch_standsAt_21 rfl ?_
        refine hw_lc_eq (a := eW (ta.getD i [])) (b := 0) (tgt := 47) hx hb dPhraseSearch_standsAt_22 dPhraseSearch_standsAt_23 (by decide) (by first | exact eW_lt63 (by assumption) | exact eW_lt63 (hA2 _) | exact eW_lt63 (hB2 _) | decide) (by first | exact eW_lt63 (by assumption) | exact eW_lt63 (hA2 _) | exact eW_lt63 (hB2 _) | decide) (fun cq_8 => ?_) (fun cq_8 => ?_)
        · refine lv_iinc (v := nI (i + 1)) (lv' := [(3, .int (nI (i + 1))), (0, .ref o), (1, .ref b), (2, .int (nI z0))]) hx hb dPhraseSearch_standsAt_47 hl (k := 0) rfl (nI_add _ 1) (by decide) rfl (fun ls hl => ?_)
          refine lv_goto (tgt := 2) hx hb dPhraseSearch_standsAt_50 (by decide) ?_
          exact ih2 (i + 1) _ _ _ (by omega) (by omega) (fun p hp => (Nat.lt_or_eq_of_le (Nat.le_of_lt_succ hp)).elim (fun z => hh p z) (fun z => by subst z; first | exact Or.inl ((eW_zero (hA2 _)).mp cq_8) | exact Or.inr ((eW_inj (hA2 _) (hB2 _)).mp cq_8)))  hZ (lv_sub hl [0, 1, 2, 3] rfl)
        · refine lv_aload_n hx hb dPhraseSearch_standsAt_26 rfl (lv_at hl 1 rfl) ?_
          refine hw_get hx hb hts (hwInn inPhraseSearch) hown hK hZ f0_ rfl 0 (by decide) (hts (.fieldLink RPhraseSearch 7 RPhraseSearch "asked" "LWordIndex2$Terms;") (hwMem mm_112)) (fun _ h => h) rfl dPhraseSearch_standsAt_27 ?_
          refine lv_iload_n hx hb dPhraseSearch_standsAt_30 rfl (lv_at hl 0 rfl) ?_
          refine hw_calll (va_runV (As := [.int (nI i)]) (rest := []) ⟨hx, hb, hml, hown, hts⟩ (c_Tm_at l D K X H_6.size (a := a) (k := ka) (N := Na) (ts := ta) (j := i) f1_ (by omega)) (cwV 1 hts (hwGood (hw_4 mm_155 mm_87 mm_88 mm_89 (hwAll mm_85))) rfl rfl rfl (by decide +kernel) ⟨Nat.le_of_ble_eq_true rfl, Nat.le_of_ble_eq_true rfl⟩) (hw_preV hK hO hZ (tmAt.ob f1_) rfl) rfl rfl hl.1 rfl (lv_room (Nat.le_of_ble_eq_true rfl)) dPhraseSearch_standsAt_31 ⟨(show 0 + 0 ≤ 0 by omega), (show 0 + 0 ≤ 0 by omega)⟩) hZ hA (fun r X_9 H_10 lc_11 hp hZ => ?_)
          obtain ⟨hr, hy⟩ := hp
          subst hy
          refine hw_topl hr ?_
          refine lv_aload_n hx hb dPhraseSearch_standsAt_34 rfl (lv_at hl 2 rfl) ?_
          refine lv_iload_n hx hb dPhraseSearch_standsAt_35 rfl (lv_at hl 3 rfl) ?_
          refine lv_iload_n hx hb dPhraseSearch_standsAt_36 rfl (lv_at hl 0 rfl) ?_
          refine lv_iadd hx hb dPhraseSearch_standsAt_37 ?_
          refine hw_topi (nI_add z0 i) ?_
          refine hw_calll (va_runV (As := [.int (nI (z0 + i))]) (rest := [.long (lN (eW (ta.getD i [])))]) ⟨hx, hb, hml, hown, hts⟩ (c_Tm_at l D K X H_10.size (a := b) (k := kb) (N := Nb) (ts := tb) (j := z0 + i) f2_ (by omega)) (cwV 1 hts (hwGood (hw_4 mm_155 mm_87 mm_88 mm_89 (hwAll mm_85))) rfl rfl rfl (by decide +kernel) ⟨Nat.le_of_ble_eq_true rfl, Nat.le_of_ble_eq_true rfl⟩) (hw_preV hK hO hZ (tmAt.ob f2_) rfl) rfl rfl hl.1 rfl (lv_room (Nat.le_of_ble_eq_true rfl)) dPhraseSearch_standsAt_38 ⟨(show 0 + 0 ≤ 0 by omega), (show 0 + 0 ≤ 0 by omega)⟩) hZ hA (fun r X_12 H_13 lc_14 hp hZ => ?_)
          obtain ⟨hr, hy⟩ := hp
          subst hy
          refine hw_topl hr ?_
          refine hw_lc_eq (a := eW (ta.getD i [])) (b := eW (tb.getD (z0 + i) [])) (tgt := 47) hx hb dPhraseSearch_standsAt_41 dPhraseSearch_standsAt_42 (by decide) (by first | exact eW_lt63 (by assumption) | exact eW_lt63 (hA2 _) | exact eW_lt63 (hB2 _) | decide) (by first | exact eW_lt63 (by assumption) | exact eW_lt63 (hA2 _) | exact eW_lt63 (hB2 _) | decide) (fun cq_15 => ?_) (fun cq_15 => ?_)
          · refine lv_iinc (v := nI (i + 1)) (lv' := [(3, .int (nI (i + 1))), (0, .ref o), (1, .ref b), (2, .int (nI z0))]) hx hb dPhraseSearch_standsAt_47 hl (k := 0) rfl (nI_add _ 1) (by decide) rfl (fun ls hl => ?_)
            refine lv_goto (tgt := 2) hx hb dPhraseSearch_standsAt_50 (by decide) ?_
            exact ih2 (i + 1) _ _ _ (by omega) (by omega) (fun p hp => (Nat.lt_or_eq_of_le (Nat.le_of_lt_succ hp)).elim (fun z => hh p z) (fun z => by subst z; first | exact Or.inl ((eW_zero (hA2 _)).mp cq_15) | exact Or.inr ((eW_inj (hA2 _) (hB2 _)).mp cq_15)))  hZ (lv_sub hl [0, 1, 2, 3] rfl)
          · refine lv_iconst (v := nI 0) hx hb dPhraseSearch_standsAt_45 (by decide) ?_
            exact hret (by decide) hZ ⟨by rw [stL_false (p := i) (by omega) (fun h => h.elim (fun h => cq_8 ((eW_zero (hA2 _)).mpr h)) (fun h => cq_15 ((eW_inj (hA2 _) (hB2 _)).mpr h)))]; rfl, rfl⟩ dPhraseSearch_standsAt_46
  exact loop2 (ta.length - 0 + 1) 0 _ _ _ (by omega) (by omega) (fun p hp => absurd hp (Nat.not_lt_zero _))  hZ (lv_sub hl [0, 1, 2, 3] rfl)
set_option maxHeartbeats 4000000 in
set_option maxRecDepth 100000 in
theorem c_Phr_meets (l : Launch) (D : va_G) (K : Nat → ClassId) (X : hwW) (sz : Nat) (o : Nat) (L : Nat) (a : Nat) (ka : Nat) (Na : Nat) (ta : List (List Nat)) (b : Nat) (kb : Nat) (Nb : Nat) (tb : List (List Nat)) (f0_ : hwH X o L (.inr (7, [.ref a]))) (f1_ : tmAt K X a ka Na ta) (f2_ : tmAt K X b kb Nb tb) : Met l yPhraseSearch_meets (.code yPhraseSearch_meets cPhraseSearch_meets 3 (some .boolean) :: hwG) ({ frames := 2, cells := 0, slots := 0, locals := 44 } : Room) (hwPc D vwCl (hwT K) [.ref o, .ref b] X sz) (hwQi D vwCl X sz (fun r Y => r = bI (phL ta tb) ∧ X = Y)) 0 0 (va_A X.1 sz) := by
  refine hwMetz (cc := cPhraseSearch_meets) (maxL := 3) (by decide) rfl (Nat.le_of_ble_eq_true rfl) (fun p e s m args below meth c ls A Q hx hb hml hown hts hname hret hK hO hZ hA hl => ?_)
  have hl : lv_has ls 3 [(0, .ref o), (1, .ref b)] := hl
  have hA2 := fun j => okWs.at (tmAt.oks f1_) j
  have hB2 := fun j => okWs.at (tmAt.oks f2_) j
  have hBN := tmAt.len f2_
  have hAN := tmAt.len f1_
  refine lv_iconst (v := nI 0) hx hb dPhraseSearch_meets_0 (by decide) ?_
  refine lv_istore_n (lv' := [(2, .int (nI 0)), (0, .ref o), (1, .ref b)]) hx hb dPhraseSearch_meets_1 rfl hl (by decide) rfl (fun ls hl => ?_)
  have loop2 : ∀ (fuel : Nat) (i : Nat) (Hh : Heap) (lcs : List Loc) (ls : Array Slot), tb.length + 1 - i < fuel → (i ≤ tb.length + 1) → (∀ p, p < i → stL ta tb p = false) → hwZ D vwCl A s.heap X Hh lcs → lv_has ls 3 [(2, .int (nI i)), (0, .ref o), (1, .ref b)] → W p l e ({ frames := 2, cells := 0, slots := 0, locals := 44 } : Room) s m args below meth c Hh lcs 0 0 Q (F0 m 2 ls []) := by
    intro fuel; induction fuel with
    | zero => intro i Hh lcs ls hfu; exact absurd hfu (Nat.not_lt_zero _)
    | succ fuel ih2 =>
      intro i Hh lcs ls hfu2 hi hh hZ hl
      refine lv_iload_n hx hb dPhraseSearch_meets_2 rfl (lv_at hl 0 rfl) ?_
      refine lv_aload_n hx hb dPhraseSearch_meets_3 rfl (lv_at hl 1 rfl) ?_
      refine hw_get hx hb hts (hwInn inPhraseSearch) hown hK hZ f0_ rfl 0 (by decide) (hts (.fieldLink RPhraseSearch 7 RPhraseSearch "asked" "LWordIndex2$Terms;") (hwMem mm_112)) (fun _ h => h) rfl dPhraseSearch_meets_4 ?_
      refine hw_calli (va_runV (As := []) (rest := [.int (nI i)]) ⟨hx, hb, hml, hown, hts⟩ (c_Tm_size l D K X Hh.size (a := a) (k := ka) (N := Na) (ts := ta) f1_) (cwV 0 hts (hwGood (hw_4 mm_154 mm_131 mm_132 mm_89 (hwAll mm_129))) rfl rfl rfl (by decide +kernel) ⟨Nat.le_of_ble_eq_true rfl, Nat.le_of_ble_eq_true rfl⟩) (hw_preV hK hO hZ (tmAt.ob f1_) rfl) rfl rfl hl.1 rfl (lv_room (Nat.le_of_ble_eq_true rfl)) dPhraseSearch_meets_7 ⟨(show 0 + 0 ≤ 0 by omega), (show 0 + 0 ≤ 0 by omega)⟩) hZ hA (fun r X_1 H_2 lc_3 hp hZ => ?_)
      obtain ⟨hr, hy⟩ := hp
      subst hy
      refine hw_topi hr ?_
      refine lv_iadd hx hb dPhraseSearch_meets_10 ?_
      refine hw_topi (nI_add i ta.length) ?_
      refine lv_aload_n hx hb dPhraseSearch_meets_11 rfl (lv_at hl 2 rfl) ?_
      refine hw_calli (va_runV (As := []) (rest := [.int (nI (i + ta.length))]) ⟨hx, hb, hml, hown, hts⟩ (c_Tm_size l D K X H_2.size (a := b) (k := kb) (N := Nb) (ts := tb) f2_) (cwV 0 hts (hwGood (hw_4 mm_154 mm_131 mm_132 mm_89 (hwAll mm_129))) rfl rfl rfl (by decide +kernel) ⟨Nat.le_of_ble_eq_true rfl, Nat.le_of_ble_eq_true rfl⟩) (hw_preV hK hO hZ (tmAt.ob f2_) rfl) rfl rfl hl.1 rfl (lv_room (Nat.le_of_ble_eq_true rfl)) dPhraseSearch_meets_12 ⟨(show 0 + 0 ≤ 0 by omega), (show 0 + 0 ≤ 0 by omega)⟩) hZ hA (fun r X_4 H_5 lc_6 hp hZ => ?_)
      obtain ⟨hr, hy⟩ := hp
      subst hy
      refine hw_topi hr ?_
      refine hw_ic_gt (a := i + ta.length) (b := tb.length) (tgt := 35) hx hb dPhraseSearch_meets_15 (by decide) (by omega) (by omega) (fun cq_7 => ?_) (fun cq_7 => ?_)
      · refine lv_iconst (v := nI 0) hx hb dPhraseSearch_meets_35 (by decide) ?_
        exact hret (by decide) hZ ⟨by rw [phL_false (fun p hp => hh p (by omega))]; rfl, rfl⟩ dPhraseSearch_meets_36
      · refine lv_aload_n hx hb dPhraseSearch_meets_18 rfl (lv_at hl 1 rfl) ?_
        refine lv_aload_n hx hb dPhraseSearch_meets_19 rfl (lv_at hl 2 rfl) ?_
        refine lv_iload_n hx hb dPhraseSearch_meets_20 rfl (lv_at hl 0 rfl) ?_
        refine hw_calli (va_runV (As := [.ref b, .int (nI i)]) (rest := []) ⟨hx, hb, hml, hown, hts⟩ (c_Phr_stands l D K X H_5.size (o := o) (L := L) (a := a) (ka := ka) (Na := Na) (ta := ta) (b := b) (kb := kb) (Nb := Nb) (tb := tb) (z0 := i) f0_ f1_ f2_ (by omega)) (cwV 2 hts (hwGood (hw_4 mm_157 mm_158 mm_159 mm_143 (hwAll mm_156))) rfl rfl rfl (by decide +kernel) ⟨Nat.le_of_ble_eq_true rfl, Nat.le_of_ble_eq_true rfl⟩) (hw_preV hK hO hZ (⟨_, _, f0_⟩) rfl) rfl rfl hl.1 rfl (lv_room (Nat.le_of_ble_eq_true rfl)) dPhraseSearch_meets_21 ⟨(show 0 + 0 ≤ 0 by omega), (show 0 + 0 ≤ 0 by omega)⟩) hZ hA (fun r X_8 H_9 lc_10 hp hZ => ?_)
        obtain ⟨hr, hy⟩ := hp
        subst hy
        refine hw_topi hr ?_
        refine hw_bz_eq (tgt := 29) hx hb dPhraseSearch_meets_24 (by decide) (fun cq_11 => ?_) (fun cq_11 => ?_)
        · refine lv_iinc (v := nI (i + 1)) (lv' := [(2, .int (nI (i + 1))), (0, .ref o), (1, .ref b)]) hx hb dPhraseSearch_meets_29 hl (k := 0) rfl (nI_add _ 1) (by decide) rfl (fun ls hl => ?_)
          refine lv_goto (tgt := 2) hx hb dPhraseSearch_meets_32 (by decide) ?_
          exact ih2 (i + 1) _ _ _ (by omega) (by omega) (fun p hp => (Nat.lt_or_eq_of_le (Nat.le_of_lt_succ hp)).elim (fun z => hh p z) (fun z => by subst z; exact cq_11))  hZ (lv_sub hl [0, 1, 2] rfl)
        · refine lv_iconst (v := nI 1) hx hb dPhraseSearch_meets_27 (by decide) ?_
          exact hret (by decide) hZ ⟨by rw [phL_true (p := i) (by omega) cq_11]; rfl, rfl⟩ dPhraseSearch_meets_28
  exact loop2 (tb.length + 1 - 0 + 1) 0 _ _ _ (by omega) (by omega) (fun p hp => absurd hp (Nat.not_lt_zero _))  hZ (lv_sub hl [0, 1, 2] rfl)
set_option maxHeartbeats 4000000 in
set_option maxRecDepth 100000 in
theorem c_Nea_beside (l : Launch) (D : va_G) (K : Nat → ClassId) (X : hwW) (sz : Nat) (o : Nat) (L : Nat) (u : List Nat) (v : List Nat) (dd : Nat) (b : Nat) (kb : Nat) (Nb : Nat) (tb : List (List Nat)) (pl : Nat) (f0_ : hwH X o L (.inr (8, [.long (lN (eW u)), .long (lN (eW v)), .int (nI dd)]))) (f1_ : tmAt K X b kb Nb tb) (hu : okW u) (hv : okW v) (hdd : dd < 2147483648) (hpl : pl ≤ 3000) : Met l yNearSearch_secondIsBeside (.code yNearSearch_secondIsBeside cNearSearch_secondIsBeside 5 (some .boolean) :: hwG) ({ frames := 1, cells := 0, slots := 0, locals := 22 } : Room) (hwPc D vwCl (hwT K) [.ref o, .ref b, .int (nI pl)] X sz) (hwQi D vwCl X sz (fun r Y => r = bI (beL tb v dd pl) ∧ X = Y)) 0 0 (va_A X.1 sz) := by
  refine hwMetz (cc := cNearSearch_secondIsBeside) (maxL := 5) (by decide) rfl (Nat.le_of_ble_eq_true rfl) (fun p e s m args below meth c ls A Q hx hb hml hown hts hname hret hK hO hZ hA hl => ?_)
  have hl : lv_has ls 5 [(0, .ref o), (1, .ref b), (2, .int (nI pl))] := hl
  have hB2 := fun j => okWs.at (tmAt.oks f1_) j
  have hBN := tmAt.len f1_
  refine lv_iconst (v := nI 0) hx hb dNearSearch_secondIsBeside_0 (by decide) ?_
  refine lv_istore_n (lv' := [(3, .int (nI 0)), (0, .ref o), (1, .ref b), (2, .int (nI pl))]) hx hb dNearSearch_secondIsBeside_1 rfl hl (by decide) rfl (fun ls hl => ?_)
  have loop2 : ∀ (fuel : Nat) (i : Nat) (Hh : Heap) (lcs : List Loc) (ls : Array Slot), tb.length - i < fuel → (i ≤ tb.length) → (∀ p, p < i → ¬ (p ≠ pl ∧ nd p pl ≤ dd ∧ tb.getD p [] = v)) → hwZ D vwCl A s.heap X Hh lcs → lv_has ls 5 [(3, .int (nI i)), (0, .ref o), (1, .ref b), (2, .int (nI pl))] → W p l e ({ frames := 1, cells := 0, slots := 0, locals := 22 } : Room) s m args below meth c Hh lcs 0 0 Q (F0 m 2 ls []) := by
    intro fuel; induction fuel with
    | zero => intro i Hh lcs ls hfu; exact absurd hfu (Nat.not_lt_zero _)
    | succ fuel ih2 =>
      intro i Hh lcs ls hfu2 hi hh hZ hl
      refine lv_iload_n hx hb dNearSearch_secondIsBeside_2 rfl (lv_at hl 0 rfl) ?_
      refine lv_aload_n hx hb dNearSearch_secondIsBeside_3 rfl (lv_at hl 2 rfl) ?_
      refine hw_calli (va_runV (As := []) (rest := [.int (nI i)]) ⟨hx, hb, hml, hown, hts⟩ (c_Tm_size l D K X Hh.size (a := b) (k := kb) (N := Nb) (ts := tb) f1_) (cwV 0 hts (hwGood (hw_4 mm_160 mm_131 mm_132 mm_89 (hwAll mm_129))) rfl rfl rfl (by decide +kernel) ⟨Nat.le_of_ble_eq_true rfl, Nat.le_of_ble_eq_true rfl⟩) (hw_preV hK hO hZ (tmAt.ob f1_) rfl) rfl rfl hl.1 rfl (lv_room (Nat.le_of_ble_eq_true rfl)) dNearSearch_secondIsBeside_4 ⟨(show 0 + 0 ≤ 0 by omega), (show 0 + 0 ≤ 0 by omega)⟩) hZ hA (fun r X_1 H_2 lc_3 hp hZ => ?_)
      obtain ⟨hr, hy⟩ := hp
      subst hy
      refine hw_topi hr ?_
      refine hw_ic_ge (a := i) (b := tb.length) (tgt := 61) hx hb dNearSearch_secondIsBeside_7 (by decide) (by omega) (by omega) (fun cq_4 => ?_) (fun cq_4 => ?_)
      · refine lv_iconst (v := nI 0) hx hb dNearSearch_secondIsBeside_61 (by decide) ?_
        exact hret (by decide) hZ ⟨by rw [beL_false (fun p hp => hh p (by omega))]; rfl, rfl⟩ dNearSearch_secondIsBeside_62
      · refine lv_iload_n hx hb dNearSearch_secondIsBeside_10 rfl (lv_at hl 0 rfl) ?_
        refine lv_iload_n hx hb dNearSearch_secondIsBeside_11 rfl (lv_at hl 3 rfl) ?_
        refine hw_ic_eq (a := i) (b := pl) (tgt := 32) hx hb dNearSearch_secondIsBeside_12 (by decide) (by omega) (by omega) (fun cq_5 => ?_) (fun cq_5 => ?_)
        · refine lv_iconst (v := nI 0) hx hb dNearSearch_secondIsBeside_32 (by decide) ?_
          refine lv_istore (lv' := [(4, .int (nI 0)), (3, .int (nI i)), (0, .ref o), (1, .ref b), (2, .int (nI pl))]) hx hb dNearSearch_secondIsBeside_33 hl (by decide) rfl (fun ls hl => ?_)
          refine lv_iload hx hb dNearSearch_secondIsBeside_35 (lv_at hl 0 rfl) ?_
          refine hw_if_eq (a := 0) (tgt := 55) hx hb dNearSearch_secondIsBeside_37 (by decide) (by omega) (fun cq_6 => ?_) (fun cq_6 => by exfalso; omega)
          refine lv_iinc (v := nI (i + 1)) (lv' := [(3, .int (nI (i + 1))), (4, .int (nI 0)), (0, .ref o), (1, .ref b), (2, .int (nI pl))]) hx hb dNearSearch_secondIsBeside_55 hl (k := 1) rfl (nI_add _ 1) (by decide) rfl (fun ls hl => ?_)
          refine lv_goto (tgt := 2) hx hb dNearSearch_secondIsBeside_58 (by decide) ?_
          exact ih2 (i + 1) _ _ _ (by omega) (by omega) (fun p hp => (Nat.lt_or_eq_of_le (Nat.le_of_lt_succ hp)).elim (fun z => hh p z) (fun z => by subst z; exact (fun h => h.1 cq_5)))  hZ (lv_sub hl [0, 2, 3, 4] rfl)
        · refine lv_iload_n hx hb dNearSearch_secondIsBeside_15 rfl (lv_at hl 0 rfl) ?_
          refine lv_iload_n hx hb dNearSearch_secondIsBeside_16 rfl (lv_at hl 3 rfl) ?_
          refine lv_isub hx hb dNearSearch_secondIsBeside_17 ?_
          refine va_mabs hx hb (hml.trans hl.1.symm) hown (hts (.methodLink RNearSearch 34 Lib.Math.abs.name) (hwMem mm_161)) (hts (.static Lib.Math.abs.name) (hwMem mm_162)) (hts (.initialized "java/lang/Math") (hwMem mm_19)) (hts (.code Lib.Math.abs.name Lib.Math.abs.code 1 (some .int)) (hwMem mm_163)) (Nat.le_of_ble_eq_true rfl) (Nat.le_of_ble_eq_true rfl) (show 0 ≤ 0 by omega) (show 0 ≤ 0 by omega) dNearSearch_secondIsBeside_18 ?_
          refine hw_topi (hw_nabs (a := i) (b := pl) (by omega) (by omega)) ?_
          have hnd := nd_le i pl
          refine lv_aload_n hx hb dNearSearch_secondIsBeside_21 rfl (lv_at hl 1 rfl) ?_
          refine hw_get hx hb hts (hwInn inNearSearch) hown hK hZ f0_ rfl 2 (by decide) (hts (.fieldLink RNearSearch 16 RNearSearch "distance" "I") (hwMem mm_115)) (fun _ h => h) rfl dNearSearch_secondIsBeside_22 ?_
          refine hw_ic_gt (a := nd i pl) (b := dd) (tgt := 32) hx hb dNearSearch_secondIsBeside_25 (by decide) (by omega) (by omega) (fun cq_7 => ?_) (fun cq_7 => ?_)
          · refine lv_iconst (v := nI 0) hx hb dNearSearch_secondIsBeside_32 (by decide) ?_
            refine lv_istore (lv' := [(4, .int (nI 0)), (3, .int (nI i)), (0, .ref o), (1, .ref b), (2, .int (nI pl))]) hx hb dNearSearch_secondIsBeside_33 hl (by decide) rfl (fun ls hl => ?_)
            refine lv_iload hx hb dNearSearch_secondIsBeside_35 (lv_at hl 0 rfl) ?_
            refine hw_if_eq (a := 0) (tgt := 55) hx hb dNearSearch_secondIsBeside_37 (by decide) (by omega) (fun cq_8 => ?_) (fun cq_8 => by exfalso; omega)
            refine lv_iinc (v := nI (i + 1)) (lv' := [(3, .int (nI (i + 1))), (4, .int (nI 0)), (0, .ref o), (1, .ref b), (2, .int (nI pl))]) hx hb dNearSearch_secondIsBeside_55 hl (k := 1) rfl (nI_add _ 1) (by decide) rfl (fun ls hl => ?_)
            refine lv_goto (tgt := 2) hx hb dNearSearch_secondIsBeside_58 (by decide) ?_
            exact ih2 (i + 1) _ _ _ (by omega) (by omega) (fun p hp => (Nat.lt_or_eq_of_le (Nat.le_of_lt_succ hp)).elim (fun z => hh p z) (fun z => by subst z; exact (fun h => absurd h.2.1 (by omega))))  hZ (lv_sub hl [0, 2, 3, 4] rfl)
          · refine lv_iconst (v := nI 1) hx hb dNearSearch_secondIsBeside_28 (by decide) ?_
            refine lv_goto (tgt := 33) hx hb dNearSearch_secondIsBeside_29 (by decide) ?_
            refine lv_istore (lv' := [(4, .int (nI 1)), (3, .int (nI i)), (0, .ref o), (1, .ref b), (2, .int (nI pl))]) hx hb dNearSearch_secondIsBeside_33 hl (by decide) rfl (fun ls hl => ?_)
            refine lv_iload hx hb dNearSearch_secondIsBeside_35 (lv_at hl 0 rfl) ?_
            refine hw_if_eq (a := 1) (tgt := 55) hx hb dNearSearch_secondIsBeside_37 (by decide) (by omega) (fun cq_9 => by exfalso; omega) (fun cq_9 => ?_)
            refine lv_aload_n hx hb dNearSearch_secondIsBeside_40 rfl (lv_at hl 3 rfl) ?_
            refine lv_iload_n hx hb dNearSearch_secondIsBeside_41 rfl (lv_at hl 1 rfl) ?_
            refine hw_calll (va_runV (As := [.int (nI i)]) (rest := []) ⟨hx, hb, hml, hown, hts⟩ (c_Tm_at l D K X H_2.size (a := b) (k := kb) (N := Nb) (ts := tb) (j := i) f1_ (by omega)) (cwV 1 hts (hwGood (hw_4 mm_164 mm_87 mm_88 mm_89 (hwAll mm_85))) rfl rfl rfl (by decide +kernel) ⟨Nat.le_of_ble_eq_true rfl, Nat.le_of_ble_eq_true rfl⟩) (hw_preV hK hO hZ (tmAt.ob f1_) rfl) rfl rfl hl.1 rfl (lv_room (Nat.le_of_ble_eq_true rfl)) dNearSearch_secondIsBeside_42 ⟨(show 0 + 0 ≤ 0 by omega), (show 0 + 0 ≤ 0 by omega)⟩) hZ hA (fun r X_10 H_11 lc_12 hp hZ => ?_)
            obtain ⟨hr, hy⟩ := hp
            subst hy
            refine hw_topl hr ?_
            refine lv_aload_n hx hb dNearSearch_secondIsBeside_45 rfl (lv_at hl 2 rfl) ?_
            refine hw_get hx hb hts (hwInn inNearSearch) hown hK hZ f0_ rfl 1 (by decide) (hts (.fieldLink RNearSearch 13 RNearSearch "second" "J") (hwMem mm_114)) (fun _ h => h) rfl dNearSearch_secondIsBeside_46 ?_
            refine hw_lc_ne (a := eW (tb.getD i [])) (b := eW v) (tgt := 55) hx hb dNearSearch_secondIsBeside_49 dNearSearch_secondIsBeside_50 (by decide) (by first | exact eW_lt63 (by assumption) | exact eW_lt63 (hA2 _) | exact eW_lt63 (hB2 _) | decide) (by first | exact eW_lt63 (by assumption) | exact eW_lt63 (hA2 _) | exact eW_lt63 (hB2 _) | decide) (fun cq_13 => ?_) (fun cq_13 => ?_)
            · refine lv_iinc (v := nI (i + 1)) (lv' := [(3, .int (nI (i + 1))), (4, .int (nI 1)), (0, .ref o), (1, .ref b), (2, .int (nI pl))]) hx hb dNearSearch_secondIsBeside_55 hl (k := 1) rfl (nI_add _ 1) (by decide) rfl (fun ls hl => ?_)
              refine lv_goto (tgt := 2) hx hb dNearSearch_secondIsBeside_58 (by decide) ?_
              exact ih2 (i + 1) _ _ _ (by omega) (by omega) (fun p hp => (Nat.lt_or_eq_of_le (Nat.le_of_lt_succ hp)).elim (fun z => hh p z) (fun z => by subst z; exact (fun h => cq_13 ((eW_inj (hB2 _) hv).mpr h.2.2))))  hZ (lv_sub hl [0, 2, 3, 4] rfl)
            · refine lv_iconst (v := nI 1) hx hb dNearSearch_secondIsBeside_53 (by decide) ?_
              exact hret (by decide) hZ ⟨by rw [beL_true (p := i) (by omega) ⟨cq_5, cq_7, (eW_inj (hB2 _) hv).mp cq_13⟩]; rfl, rfl⟩ dNearSearch_secondIsBeside_54
  exact loop2 (tb.length - 0 + 1) 0 _ _ _ (by omega) (by omega) (fun p hp => absurd hp (Nat.not_lt_zero _))  hZ (lv_sub hl [0, 1, 2, 3] rfl)
set_option maxHeartbeats 4000000 in
set_option maxRecDepth 100000 in
theorem c_Nea_meets (l : Launch) (D : va_G) (K : Nat → ClassId) (X : hwW) (sz : Nat) (o : Nat) (L : Nat) (u : List Nat) (v : List Nat) (dd : Nat) (b : Nat) (kb : Nat) (Nb : Nat) (tb : List (List Nat)) (f0_ : hwH X o L (.inr (8, [.long (lN (eW u)), .long (lN (eW v)), .int (nI dd)]))) (f1_ : tmAt K X b kb Nb tb) (hu : okW u) (hv : okW v) (hdd : dd < 2147483648) : Met l yNearSearch_meets (.code yNearSearch_meets cNearSearch_meets 3 (some .boolean) :: hwG) ({ frames := 2, cells := 0, slots := 0, locals := 46 } : Room) (hwPc D vwCl (hwT K) [.ref o, .ref b] X sz) (hwQi D vwCl X sz (fun r Y => r = bI (neL tb u v dd) ∧ X = Y)) 0 0 (va_A X.1 sz) := by
  refine hwMetz (cc := cNearSearch_meets) (maxL := 3) (by decide) rfl (Nat.le_of_ble_eq_true rfl) (fun p e s m args below meth c ls A Q hx hb hml hown hts hname hret hK hO hZ hA hl => ?_)
  have hl : lv_has ls 3 [(0, .ref o), (1, .ref b)] := hl
  have hB2 := fun j => okWs.at (tmAt.oks f1_) j
  have hBN := tmAt.len f1_
  refine lv_iconst (v := nI 0) hx hb dNearSearch_meets_0 (by decide) ?_
  refine lv_istore_n (lv' := [(2, .int (nI 0)), (0, .ref o), (1, .ref b)]) hx hb dNearSearch_meets_1 rfl hl (by decide) rfl (fun ls hl => ?_)
  have loop2 : ∀ (fuel : Nat) (i : Nat) (Hh : Heap) (lcs : List Loc) (ls : Array Slot), tb.length - i < fuel → (i ≤ tb.length) → (∀ p, p < i → ¬ (tb.getD p [] = u ∧ beL tb v dd p = true)) → hwZ D vwCl A s.heap X Hh lcs → lv_has ls 3 [(2, .int (nI i)), (0, .ref o), (1, .ref b)] → W p l e ({ frames := 2, cells := 0, slots := 0, locals := 46 } : Room) s m args below meth c Hh lcs 0 0 Q (F0 m 2 ls []) := by
    intro fuel; induction fuel with
    | zero => intro i Hh lcs ls hfu; exact absurd hfu (Nat.not_lt_zero _)
    | succ fuel ih2 =>
      intro i Hh lcs ls hfu2 hi hh hZ hl
      refine lv_iload_n hx hb dNearSearch_meets_2 rfl (lv_at hl 0 rfl) ?_
      refine lv_aload_n hx hb dNearSearch_meets_3 rfl (lv_at hl 2 rfl) ?_
      refine hw_calli (va_runV (As := []) (rest := [.int (nI i)]) ⟨hx, hb, hml, hown, hts⟩ (c_Tm_size l D K X Hh.size (a := b) (k := kb) (N := Nb) (ts := tb) f1_) (cwV 0 hts (hwGood (hw_4 mm_160 mm_131 mm_132 mm_89 (hwAll mm_129))) rfl rfl rfl (by decide +kernel) ⟨Nat.le_of_ble_eq_true rfl, Nat.le_of_ble_eq_true rfl⟩) (hw_preV hK hO hZ (tmAt.ob f1_) rfl) rfl rfl hl.1 rfl (lv_room (Nat.le_of_ble_eq_true rfl)) dNearSearch_meets_4 ⟨(show 0 + 0 ≤ 0 by omega), (show 0 + 0 ≤ 0 by omega)⟩) hZ hA (fun r X_1 H_2 lc_3 hp hZ => ?_)
      obtain ⟨hr, hy⟩ := hp
      subst hy
      refine hw_topi hr ?_
      refine hw_ic_ge (a := i) (b := tb.length) (tgt := 40) hx hb dNearSearch_meets_7 (by decide) (by omega) (by omega) (fun cq_4 => ?_) (fun cq_4 => ?_)
      · refine lv_iconst (v := nI 0) hx hb dNearSearch_meets_40 (by decide) ?_
        exact hret (by decide) hZ ⟨by rw [neL_false (fun p hp => hh p (by omega))]; rfl, rfl⟩ dNearSearch_meets_41
      · refine lv_aload_n hx hb dNearSearch_meets_10 rfl (lv_at hl 2 rfl) ?_
        refine lv_iload_n hx hb dNearSearch_meets_11 rfl (lv_at hl 0 rfl) ?_
        refine hw_calll (va_runV (As := [.int (nI i)]) (rest := []) ⟨hx, hb, hml, hown, hts⟩ (c_Tm_at l D K X H_2.size (a := b) (k := kb) (N := Nb) (ts := tb) (j := i) f1_ (by omega)) (cwV 1 hts (hwGood (hw_4 mm_164 mm_87 mm_88 mm_89 (hwAll mm_85))) rfl rfl rfl (by decide +kernel) ⟨Nat.le_of_ble_eq_true rfl, Nat.le_of_ble_eq_true rfl⟩) (hw_preV hK hO hZ (tmAt.ob f1_) rfl) rfl rfl hl.1 rfl (lv_room (Nat.le_of_ble_eq_true rfl)) dNearSearch_meets_12 ⟨(show 0 + 0 ≤ 0 by omega), (show 0 + 0 ≤ 0 by omega)⟩) hZ hA (fun r X_5 H_6 lc_7 hp hZ => ?_)
        obtain ⟨hr, hy⟩ := hp
        subst hy
        refine hw_topl hr ?_
        refine lv_aload_n hx hb dNearSearch_meets_15 rfl (lv_at hl 1 rfl) ?_
        refine hw_get hx hb hts (hwInn inNearSearch) hown hK hZ f0_ rfl 0 (by decide) (hts (.fieldLink RNearSearch 7 RNearSearch "first" "J") (hwMem mm_113)) (fun _ h => h) rfl dNearSearch_meets_16 ?_
        refine hw_lc_ne (a := eW (tb.getD i [])) (b := eW u) (tgt := 34) hx hb dNearSearch_meets_19 dNearSearch_meets_20 (by decide) (by first | exact eW_lt63 (by assumption) | exact eW_lt63 (hA2 _) | exact eW_lt63 (hB2 _) | decide) (by first | exact eW_lt63 (by assumption) | exact eW_lt63 (hA2 _) | exact eW_lt63 (hB2 _) | decide) (fun cq_8 => ?_) (fun cq_8 => ?_)
        · refine lv_iinc (v := nI (i + 1)) (lv' := [(2, .int (nI (i + 1))), (0, .ref o), (1, .ref b)]) hx hb dNearSearch_meets_34 hl (k := 0) rfl (nI_add _ 1) (by decide) rfl (fun ls hl => ?_)
          refine lv_goto (tgt := 2) hx hb dNearSearch_meets_37 (by decide) ?_
          exact ih2 (i + 1) _ _ _ (by omega) (by omega) (fun p hp => (Nat.lt_or_eq_of_le (Nat.le_of_lt_succ hp)).elim (fun z => hh p z) (fun z => by subst z; exact (fun h => cq_8 ((eW_inj (hB2 _) hu).mpr h.1))))  hZ (lv_sub hl [0, 1, 2] rfl)
        · refine lv_aload_n hx hb dNearSearch_meets_23 rfl (lv_at hl 1 rfl) ?_
          refine lv_aload_n hx hb dNearSearch_meets_24 rfl (lv_at hl 2 rfl) ?_
          refine lv_iload_n hx hb dNearSearch_meets_25 rfl (lv_at hl 0 rfl) ?_
          refine hw_calli (va_runV (As := [.ref b, .int (nI i)]) (rest := []) ⟨hx, hb, hml, hown, hts⟩ (c_Nea_beside l D K X H_6.size (o := o) (L := L) (u := u) (v := v) (dd := dd) (b := b) (kb := kb) (Nb := Nb) (tb := tb) (pl := i) f0_ f1_ (by assumption) (by assumption) (by omega) (by omega)) (cwV 2 hts (hwGood (hw_4 mm_166 mm_167 mm_168 mm_147 (hwAll mm_165))) rfl rfl rfl (by decide +kernel) ⟨Nat.le_of_ble_eq_true rfl, Nat.le_of_ble_eq_true rfl⟩) (hw_preV hK hO hZ (⟨_, _, f0_⟩) rfl) rfl rfl hl.1 rfl (lv_room (Nat.le_of_ble_eq_true rfl)) dNearSearch_meets_26 ⟨(show 0 + 0 ≤ 0 by omega), (show 0 + 0 ≤ 0 by omega)⟩) hZ hA (fun r X_9 H_10 lc_11 hp hZ => ?_)
          obtain ⟨hr, hy⟩ := hp
          subst hy
          refine hw_topi hr ?_
          refine hw_bz_eq (tgt := 34) hx hb dNearSearch_meets_29 (by decide) (fun cq_12 => ?_) (fun cq_12 => ?_)
          · refine lv_iinc (v := nI (i + 1)) (lv' := [(2, .int (nI (i + 1))), (0, .ref o), (1, .ref b)]) hx hb dNearSearch_meets_34 hl (k := 0) rfl (nI_add _ 1) (by decide) rfl (fun ls hl => ?_)
            refine lv_goto (tgt := 2) hx hb dNearSearch_meets_37 (by decide) ?_
            exact ih2 (i + 1) _ _ _ (by omega) (by omega) (fun p hp => (Nat.lt_or_eq_of_le (Nat.le_of_lt_succ hp)).elim (fun z => hh p z) (fun z => by subst z; exact (fun h => by rw [cq_12] at h; exact absurd h.2 (by decide))))  hZ (lv_sub hl [0, 1, 2] rfl)
          · refine lv_iconst (v := nI 1) hx hb dNearSearch_meets_32 (by decide) ?_
            exact hret (by decide) hZ ⟨by rw [neL_true (p := i) (by omega) ⟨(eW_inj (hB2 _) hu).mp cq_8, cq_12⟩]; rfl, rfl⟩ dNearSearch_meets_33
  exact loop2 (tb.length - 0 + 1) 0 _ _ _ (by omega) (by omega) (fun p hp => absurd hp (Nat.not_lt_zero _))  hZ (lv_sub hl [0, 1, 2] rfl)
set_option maxHeartbeats 4000000 in
set_option maxRecDepth 100000 in
theorem c_Wil_meets (l : Launch) (D : va_G) (K : Nat → ClassId) (X : hwW) (sz : Nat) (o : Nat) (L : Nat) (u : List Nat) (be : Bool) (b : Nat) (kb : Nat) (Nb : Nat) (tb : List (List Nat)) (f0_ : hwH X o L (.inr (9, [.long (lN (eW u)), .int (bI be)]))) (f1_ : tmAt K X b kb Nb tb) (hu : okW u) : Met l yWildSearch_meets (.code yWildSearch_meets cWildSearch_meets 2 (some .boolean) :: hwG) ({ frames := 6, cells := 0, slots := 0, locals := 133 } : Room) (hwPc D vwCl (hwT K) [.ref o, .ref b] X sz) (hwQi D vwCl X sz (fun r Y => r = bI (decide (0 < tb.countP (fun w => decide (w ≠ []) && (bif be then endL w u else begL w u)))) ∧ X = Y)) 0 0 (va_A X.1 sz) := by
  refine hwMetz (cc := cWildSearch_meets) (maxL := 2) (by decide) rfl (Nat.le_of_ble_eq_true rfl) (fun p e s m args below meth c ls A Q hx hb hml hown hts hname hret hK hO hZ hA hl => ?_)
  have hl : lv_has ls 2 [(0, .ref o), (1, .ref b)] := hl
  have hB2 := fun j => okWs.at (tmAt.oks f1_) j
  have hBN := tmAt.len f1_
  refine lv_aload_n hx hb dWildSearch_meets_0 rfl (lv_at hl 0 rfl) ?_
  refine lv_aload_n hx hb dWildSearch_meets_1 rfl (lv_at hl 1 rfl) ?_
  refine hw_calli (va_runU (As := [.ref b]) (rest := []) ⟨hx, hb, hml, hown, hts⟩ (c_Wil_count l D K X s.heap.size (o := o) (L := L) (u := u) (be := be) (b := b) (kb := kb) (Nb := Nb) (tb := tb) f0_ f1_ (by assumption)) (va_cwU (owner := RSearch) 1 hts (hwGood (hw_5 mm_170 mm_171 mm_172 mm_173 mm_109 (hwAll mm_169))) rfl rfl rfl rfl (by decide +kernel) ⟨Nat.le_of_ble_eq_true rfl, Nat.le_of_ble_eq_true rfl⟩) (hw_preV hK hO hZ (⟨_, _, f0_⟩) rfl) rfl rfl hl.1 rfl (lv_room (Nat.le_of_ble_eq_true rfl)) dWildSearch_meets_2 ⟨(show 0 + 0 ≤ 0 by omega), (show 0 + 0 ≤ 0 by omega)⟩) hZ hA (fun r X_1 H_2 lc_3 hp hZ => ?_)
  obtain ⟨hr, hy, xx_4⟩ := hp
  subst hy
  refine hw_topi hr ?_
  refine hw_if_le (a := tb.countP (fun w => decide (w ≠ []) && (bif be then endL w u else begL w u))) (tgt := 12) hx hb dWildSearch_meets_5 (by decide) (by omega) (fun cq_5 => ?_) (fun cq_5 => ?_)
  · refine lv_iconst (v := nI 0) hx hb dWildSearch_meets_12 (by decide) ?_
    exact hret (by decide) hZ ⟨by rw [decide_eq_false (Nat.not_lt.mpr cq_5)]; rfl, rfl⟩ dWildSearch_meets_13
  · refine lv_iconst (v := nI 1) hx hb dWildSearch_meets_8 (by decide) ?_
    refine lv_goto (tgt := 13) hx hb dWildSearch_meets_9 (by decide) ?_
    exact hret (by decide) hZ ⟨by rw [decide_eq_true cq_5]; rfl, rfl⟩ dWildSearch_meets_13
end
section
/-! hits: (record, COUNT, words), by rank -/
def ivec (f : Nat → Int32) (g : Nat × Nat × Nat → Nat) (hs : List (Nat × Nat × Nat)) : Prop := ∀ p, p < hs.length → f p = nI (g (hs.getD p (0, 0, 0)))
def okH (hs : List (Nat × Nat × Nat)) : Prop := ∀ h ∈ hs, h.1 ≤ 1000 ∧ h.2.1 ≤ 1000 ∧ h.2.2 ≤ 1000
theorem okH.at {hs : List (Nat × Nat × Nat)} (h : okH hs) (p : Nat) : (hs.getD p (0, 0, 0)).1 ≤ 1000 ∧ (hs.getD p (0, 0, 0)).2.1 ≤ 1000 ∧ (hs.getD p (0, 0, 0)).2.2 ≤ 1000 := by
  by_cases q : p < hs.length
  · have e : hs.getD p (0, 0, 0) = hs[p] := by simp [List.getD, q]
    rw [e]; exact h _ (List.getElem_mem q)
  · have e : hs.getD p (0, 0, 0) = (0, 0, 0) := by simp [List.getD, Nat.le_of_not_lt q]
    rw [e]; exact ⟨Nat.zero_le _, Nat.zero_le _, Nat.zero_le _⟩
theorem ivec.nil {f : Nat → Int32} {g : Nat × Nat × Nat → Nat} : ivec f g [] := fun _ h => absurd h (Nat.not_lt_zero _)
def gr (x h : Nat × Nat × Nat) : Bool := decide (h.2.1 * x.2.2 < x.2.1 * h.2.2)
def plH (x : Nat × Nat × Nat) (hs : List (Nat × Nat × Nat)) : Nat → Nat
  | 0 => 0
  | n + 1 => if gr x (hs.getD n (0, 0, 0)) then plH x hs n else n + 1
def insH (x : Nat × Nat × Nat) (hs : List (Nat × Nat × Nat)) : List (Nat × Nat × Nat) := hs.take (plH x hs hs.length) ++ x :: hs.drop (plH x hs hs.length)
theorem plH_t {x : Nat × Nat × Nat} {hs : List (Nat × Nat × Nat)} {n : Nat} (h0 : 0 < n) (h : gr x (hs.getD (n - 1) (0, 0, 0)) = true) : plH x hs n = plH x hs (n - 1) := by
  obtain ⟨k, rfl⟩ : ∃ k, n = k + 1 := ⟨n - 1, by omega⟩
  show (if gr x (hs.getD k (0, 0, 0)) then plH x hs k else k + 1) = _
  rw [show k + 1 - 1 = k from rfl] at h
  rw [h]; rfl
theorem plH_f {x : Nat × Nat × Nat} {hs : List (Nat × Nat × Nat)} {n : Nat} (h0 : 0 < n) (h : gr x (hs.getD (n - 1) (0, 0, 0)) = false) : plH x hs n = n := by
  obtain ⟨k, rfl⟩ : ∃ k, n = k + 1 := ⟨n - 1, by omega⟩
  show (if gr x (hs.getD k (0, 0, 0)) then plH x hs k else k + 1) = _
  rw [show k + 1 - 1 = k from rfl] at h
  rw [h]; rfl
theorem plH_le (x : Nat × Nat × Nat) (hs : List (Nat × Nat × Nat)) : ∀ n, plH x hs n ≤ n
  | 0 => Nat.le_refl _
  | n + 1 => by
    show (if gr x (hs.getD n (0, 0, 0)) then plH x hs n else n + 1) ≤ n + 1
    have := plH_le x hs n
    split <;> omega
theorem insH_at {x : Nat × Nat × Nat} {hs : List (Nat × Nat × Nat)} {p : Nat} (h : plH x hs hs.length = p) : insH x hs = hs.take p ++ x :: hs.drop p := by unfold insH; rw [h]
def shv (f : Nat → Int32) (g : Nat × Nat × Nat → Nat) (hs : List (Nat × Nat × Nat)) (p : Nat) : Prop := (∀ j, j < p → f j = nI (g (hs.getD j (0, 0, 0)))) ∧ ∀ j, p ≤ j → j < hs.length → f (j + 1) = nI (g (hs.getD j (0, 0, 0)))
theorem shv.start {f : Nat → Int32} {g : Nat × Nat × Nat → Nat} {hs : List (Nat × Nat × Nat)} (h : ivec f g hs) : shv f g hs hs.length := ⟨h, fun j h1 h2 => absurd h2 (by omega)⟩
theorem shv.step {f : Nat → Int32} {g : Nat × Nat × Nat → Nat} {hs : List (Nat × Nat × Nat)} {p : Nat} (h : shv f g hs p) (hp : 0 < p) : shv (upd f p (f (p - 1))) g hs (p - 1) := by
  refine ⟨fun j hj => ?_, fun j h1 h2 => ?_⟩
  · rw [pk_un (by omega)]; exact h.1 j (by omega)
  · rcases Nat.lt_or_ge j p with q | q
    · have e : j = p - 1 := by omega
      subst e
      rw [show p - 1 + 1 = p by omega, pk_us]
      exact h.1 (p - 1) (by omega)
    · rw [pk_un (by omega)]; exact h.2 j q h2
theorem insH_len {x : Nat × Nat × Nat} {hs : List (Nat × Nat × Nat)} {p : Nat} (h : p ≤ hs.length) : (hs.take p ++ x :: hs.drop p).length = hs.length + 1 := by
  simp [List.length_take, List.length_drop]; omega
theorem shv.done {f : Nat → Int32} {g : Nat × Nat × Nat → Nat} {hs : List (Nat × Nat × Nat)} {p : Nat} {x : Nat × Nat × Nat} (h : shv f g hs p) (hp : p ≤ hs.length) : ivec (upd f p (nI (g x))) g (hs.take p ++ x :: hs.drop p) := by
  intro j hj
  rw [insH_len hp] at hj
  have hl : (hs.take p).length = p := by rw [List.length_take]; omega
  rcases Nat.lt_trichotomy j p with q | q | q
  · rw [pk_un (by omega), h.1 j q]
    congr 2
    simp [List.getD, List.getElem?_append, hl, q, List.getElem?_take]
    rw [List.getElem?_eq_getElem (by omega)]; rfl
  · subst q
    rw [pk_us]
    congr 2
    simp [List.getD, List.getElem?_append, hl]
  · obtain ⟨d, rfl⟩ : ∃ d, j = p + 1 + d := ⟨j - (p + 1), by omega⟩
    have e2 : ¬ p + 1 + d < p := by omega
    have e3 : p + 1 + d - p = d + 1 := by omega
    have := h.2 (p + d) (by omega) (by omega)
    rw [pk_un (by omega), show p + 1 + d = p + d + 1 by omega, this]
    congr 2
    simp [List.getD, List.getElem?_append, hl, show ¬ p + d + 1 < p by omega, show p + d + 1 - p = d + 1 by omega]
theorem okH.ins {hs : List (Nat × Nat × Nat)} {x : Nat × Nat × Nat} {p : Nat} (h : okH hs) (hx : x.1 ≤ 1000 ∧ x.2.1 ≤ 1000 ∧ x.2.2 ≤ 1000) : okH (hs.take p ++ x :: hs.drop p) := by
  intro v hv
  rcases List.mem_append.mp hv with q | q
  · exact h v (List.mem_of_mem_take q)
  · rcases List.mem_cons.mp q with q | q
    · rw [q]; exact hx
    · exact h v (List.mem_of_mem_drop q)
def hiAt (K : Nat → ClassId) (X : hwW) (a : Nat) (hs : List (Nat × Nat × Nat)) : Prop := ∃ (q1 q2 q3 : Nat) (f1 f2 f3 : Nat → Int32), hwH X a 60 (.inr (0, [.ref q1, .ref q2, .ref q3, .int (nI hs.length)])) ∧ hwH X q1 61 (.inl (K 0, 30, .inl f1)) ∧ hwH X q2 62 (.inl (K 0, 30, .inl f2)) ∧ hwH X q3 63 (.inl (K 0, 30, .inl f3)) ∧ hs.length ≤ 30 ∧ ivec f1 (fun h => h.1) hs ∧ ivec f2 (fun h => h.2.1) hs ∧ ivec f3 (fun h => h.2.2) hs ∧ okH hs
theorem hiAt.fr {K : Nat → ClassId} {X Y : hwW} {S : Nat → Prop} {a : Nat} {hs : List (Nat × Nat × Nat)} (hF : hwF X Y S) (h0 : ¬ S 60) (h1 : ¬ S 61) (h2 : ¬ S 62) (h3 : ¬ S 63) (h : hiAt K X a hs) : hiAt K Y a hs := by
  obtain ⟨q1, q2, q3, f1, f2, f3, g0, g1, g2, g3, r⟩ := h
  exact ⟨q1, q2, q3, f1, f2, f3, hF _ _ _ h0 g0, hF _ _ _ h1 g1, hF _ _ _ h2 g2, hF _ _ _ h3 g3, r⟩
theorem hiAt.ob {K : Nat → ClassId} {X : hwW} {a : Nat} {hs : List (Nat × Nat × Nat)} (h : hiAt K X a hs) : ∃ (L : Nat) (fs : List Value), hwH X a L (.inr (0, fs)) := by
  obtain ⟨q1, q2, q3, f1, f2, f3, g0, -⟩ := h
  exact ⟨_, _, g0⟩
/-! a record: labels 100 + 20 * i .. 119 + 20 * i -/
def itAt (K : Nat → ClassId) (X : hwW) (a i : Nat) (th : Bool) (tx : Nat → List (List Nat) × Nat) : Prop := ∃ (q : Nat) (f : Nat → Option Nat), hwH X a (100 + 20 * i) (.inr (1, [.ref q, .int (bI th)])) ∧ hwH X q (101 + 20 * i) (.inl (K 5, 4, .inr (.inr (.inr (.inr f))))) ∧ ∀ j, j < 4 → ∃ t : Nat, f j = some t ∧ txAt K X t (55 + 10 * i + j) (tx j).1 (tx j).2
theorem itAt.fr {K : Nat → ClassId} {X Y : hwW} {S : Nat → Prop} {a i : Nat} {th : Bool} {tx : Nat → List (List Nat) × Nat} (hF : hwF X Y S) (hS : ∀ M, 100 + 20 * i ≤ M → M < 120 + 20 * i → ¬ S M) (h : itAt K X a i th tx) : itAt K Y a i th tx := by
  obtain ⟨q, f, g0, g1, g2⟩ := h
  refine ⟨q, f, hF _ _ _ (hS _ (by omega) (by omega)) g0, hF _ _ _ (hS _ (by omega) (by omega)) g1, fun j hj => ?_⟩
  obtain ⟨t, e, g⟩ := g2 j hj
  exact ⟨t, e, g.fr hF (hS _ (by omega) (by omega)) (hS _ (by omega) (by omega))⟩
theorem itAt.ob {K : Nat → ClassId} {X : hwW} {a i : Nat} {th : Bool} {tx : Nat → List (List Nat) × Nat} (h : itAt K X a i th tx) : ∃ (L : Nat) (fs : List Value), hwH X a L (.inr (1, fs)) := by
  obtain ⟨q, f, g0, -⟩ := h
  exact ⟨_, _, g0⟩
abbrev hwIt : Type := List (Bool × (Nat → List (List Nat) × Nat))
def hwIt0 : Bool × (Nat → List (List Nat) × Nat) := (false, fun _ => ([], 0))
def itsAt (K : Nat → ClassId) (X : hwW) (f : Nat → Option Nat) (its : hwIt) : Prop := ∀ i, i < its.length → ∃ b : Nat, f i = some b ∧ itAt K X b i (its.getD i hwIt0).1 (its.getD i hwIt0).2
theorem itsAt.fr {K : Nat → ClassId} {X Y : hwW} {S : Nat → Prop} {f : Nat → Option Nat} {its : hwIt} (hF : hwF X Y S) (hS : ∀ M, 100 ≤ M → M < 100 + 20 * its.length → ¬ S M) (h : itsAt K X f its) : itsAt K Y f its := fun i hi => by
  obtain ⟨b, e, g⟩ := h i hi
  exact ⟨b, e, g.fr hF (fun M h1 h2 => hS M (by omega) (by omega))⟩
theorem dHits_init_0 : decode cHits_init 0 = .ok (.aload_n 0, 1) := by decide +kernel
theorem dHits_init_1 : decode cHits_init 1 = .ok (.invokespecial 3, 3) := by decide +kernel
theorem dHits_init_4 : decode cHits_init 4 = .ok (.aload_n 0, 1) := by decide +kernel
theorem dHits_init_5 : decode cHits_init 5 = .ok (.bipush 30, 2) := by decide +kernel
theorem dHits_init_7 : decode cHits_init 7 = .ok (.newarray .int, 2) := by decide +kernel
theorem dHits_init_9 : decode cHits_init 9 = .ok (.putfield 9, 3) := by decide +kernel
theorem dHits_init_12 : decode cHits_init 12 = .ok (.aload_n 0, 1) := by decide +kernel
theorem dHits_init_13 : decode cHits_init 13 = .ok (.bipush 30, 2) := by decide +kernel
theorem dHits_init_15 : decode cHits_init 15 = .ok (.newarray .int, 2) := by decide +kernel
theorem dHits_init_17 : decode cHits_init 17 = .ok (.putfield 15, 3) := by decide +kernel
theorem dHits_init_20 : decode cHits_init 20 = .ok (.aload_n 0, 1) := by decide +kernel
theorem dHits_init_21 : decode cHits_init 21 = .ok (.bipush 30, 2) := by decide +kernel
theorem dHits_init_23 : decode cHits_init 23 = .ok (.newarray .int, 2) := by decide +kernel
theorem dHits_init_25 : decode cHits_init 25 = .ok (.putfield 18, 3) := by decide +kernel
theorem dHits_init_28 : decode cHits_init 28 = .ok (.return_, 1) := by decide +kernel
theorem dHits_add_0 : decode cHits_add 0 = .ok (.aload_n 0, 1) := by decide +kernel
theorem dHits_add_1 : decode cHits_add 1 = .ok (.getfield 21, 3) := by decide +kernel
theorem dHits_add_4 : decode cHits_add 4 = .ok (.bipush 30, 2) := by decide +kernel
theorem dHits_add_6 : decode cHits_add 6 = .ok (.if_icmp .lt 4, 3) := by decide +kernel
theorem dHits_add_9 : decode cHits_add 9 = .ok (.return_, 1) := by decide +kernel
theorem dHits_add_10 : decode cHits_add 10 = .ok (.aload_n 0, 1) := by decide +kernel
theorem dHits_add_11 : decode cHits_add 11 = .ok (.getfield 21, 3) := by decide +kernel
theorem dHits_add_14 : decode cHits_add 14 = .ok (.istore 4, 2) := by decide +kernel
theorem dHits_add_16 : decode cHits_add 16 = .ok (.iload 4, 2) := by decide +kernel
theorem dHits_add_18 : decode cHits_add 18 = .ok (.ifCond .le 70, 3) := by decide +kernel
theorem dHits_add_21 : decode cHits_add 21 = .ok (.aload_n 0, 1) := by decide +kernel
theorem dHits_add_22 : decode cHits_add 22 = .ok (.iload_n 2, 1) := by decide +kernel
theorem dHits_add_23 : decode cHits_add 23 = .ok (.iload_n 3, 1) := by decide +kernel
theorem dHits_add_24 : decode cHits_add 24 = .ok (.iload 4, 2) := by decide +kernel
theorem dHits_add_26 : decode cHits_add 26 = .ok (.iconst 1, 1) := by decide +kernel
theorem dHits_add_27 : decode cHits_add 27 = .ok (.isub, 1) := by decide +kernel
theorem dHits_add_28 : decode cHits_add 28 = .ok (.invokevirtual 29, 3) := by decide +kernel
theorem dHits_add_31 : decode cHits_add 31 = .ok (.ifCond .eq 57, 3) := by decide +kernel
theorem dHits_add_34 : decode cHits_add 34 = .ok (.aload_n 0, 1) := by decide +kernel
theorem dHits_add_35 : decode cHits_add 35 = .ok (.getfield 9, 3) := by decide +kernel
theorem dHits_add_38 : decode cHits_add 38 = .ok (.iload 4, 2) := by decide +kernel
theorem dHits_add_40 : decode cHits_add 40 = .ok (.aload_n 0, 1) := by decide +kernel
theorem dHits_add_41 : decode cHits_add 41 = .ok (.getfield 9, 3) := by decide +kernel
theorem dHits_add_44 : decode cHits_add 44 = .ok (.iload 4, 2) := by decide +kernel
theorem dHits_add_46 : decode cHits_add 46 = .ok (.iconst 1, 1) := by decide +kernel
theorem dHits_add_47 : decode cHits_add 47 = .ok (.isub, 1) := by decide +kernel
theorem dHits_add_48 : decode cHits_add 48 = .ok (.iaload, 1) := by decide +kernel
theorem dHits_add_49 : decode cHits_add 49 = .ok (.iastore, 1) := by decide +kernel
theorem dHits_add_50 : decode cHits_add 50 = .ok (.aload_n 0, 1) := by decide +kernel
theorem dHits_add_51 : decode cHits_add 51 = .ok (.getfield 15, 3) := by decide +kernel
theorem dHits_add_54 : decode cHits_add 54 = .ok (.iload 4, 2) := by decide +kernel
theorem dHits_add_56 : decode cHits_add 56 = .ok (.aload_n 0, 1) := by decide +kernel
theorem dHits_add_57 : decode cHits_add 57 = .ok (.getfield 15, 3) := by decide +kernel
theorem dHits_add_60 : decode cHits_add 60 = .ok (.iload 4, 2) := by decide +kernel
theorem dHits_add_62 : decode cHits_add 62 = .ok (.iconst 1, 1) := by decide +kernel
theorem dHits_add_63 : decode cHits_add 63 = .ok (.isub, 1) := by decide +kernel
theorem dHits_add_64 : decode cHits_add 64 = .ok (.iaload, 1) := by decide +kernel
theorem dHits_add_65 : decode cHits_add 65 = .ok (.iastore, 1) := by decide +kernel
theorem dHits_add_66 : decode cHits_add 66 = .ok (.aload_n 0, 1) := by decide +kernel
theorem dHits_add_67 : decode cHits_add 67 = .ok (.getfield 18, 3) := by decide +kernel
theorem dHits_add_70 : decode cHits_add 70 = .ok (.iload 4, 2) := by decide +kernel
theorem dHits_add_72 : decode cHits_add 72 = .ok (.aload_n 0, 1) := by decide +kernel
theorem dHits_add_73 : decode cHits_add 73 = .ok (.getfield 18, 3) := by decide +kernel
theorem dHits_add_76 : decode cHits_add 76 = .ok (.iload 4, 2) := by decide +kernel
theorem dHits_add_78 : decode cHits_add 78 = .ok (.iconst 1, 1) := by decide +kernel
theorem dHits_add_79 : decode cHits_add 79 = .ok (.isub, 1) := by decide +kernel
theorem dHits_add_80 : decode cHits_add 80 = .ok (.iaload, 1) := by decide +kernel
theorem dHits_add_81 : decode cHits_add 81 = .ok (.iastore, 1) := by decide +kernel
theorem dHits_add_82 : decode cHits_add 82 = .ok (.iinc 4 (-1), 3) := by decide +kernel
theorem dHits_add_85 : decode cHits_add 85 = .ok (.goto (-69), 3) := by decide +kernel
theorem dHits_add_88 : decode cHits_add 88 = .ok (.aload_n 0, 1) := by decide +kernel
theorem dHits_add_89 : decode cHits_add 89 = .ok (.getfield 9, 3) := by decide +kernel
theorem dHits_add_92 : decode cHits_add 92 = .ok (.iload 4, 2) := by decide +kernel
theorem dHits_add_94 : decode cHits_add 94 = .ok (.iload_n 1, 1) := by decide +kernel
theorem dHits_add_95 : decode cHits_add 95 = .ok (.iastore, 1) := by decide +kernel
theorem dHits_add_96 : decode cHits_add 96 = .ok (.aload_n 0, 1) := by decide +kernel
theorem dHits_add_97 : decode cHits_add 97 = .ok (.getfield 15, 3) := by decide +kernel
theorem dHits_add_100 : decode cHits_add 100 = .ok (.iload 4, 2) := by decide +kernel
theorem dHits_add_102 : decode cHits_add 102 = .ok (.iload_n 2, 1) := by decide +kernel
theorem dHits_add_103 : decode cHits_add 103 = .ok (.iastore, 1) := by decide +kernel
theorem dHits_add_104 : decode cHits_add 104 = .ok (.aload_n 0, 1) := by decide +kernel
theorem dHits_add_105 : decode cHits_add 105 = .ok (.getfield 18, 3) := by decide +kernel
theorem dHits_add_108 : decode cHits_add 108 = .ok (.iload 4, 2) := by decide +kernel
theorem dHits_add_110 : decode cHits_add 110 = .ok (.iload_n 3, 1) := by decide +kernel
theorem dHits_add_111 : decode cHits_add 111 = .ok (.iastore, 1) := by decide +kernel
theorem dHits_add_112 : decode cHits_add 112 = .ok (.aload_n 0, 1) := by decide +kernel
theorem dHits_add_113 : decode cHits_add 113 = .ok (.dup, 1) := by decide +kernel
theorem dHits_add_114 : decode cHits_add 114 = .ok (.getfield 21, 3) := by decide +kernel
theorem dHits_add_117 : decode cHits_add 117 = .ok (.iconst 1, 1) := by decide +kernel
theorem dHits_add_118 : decode cHits_add 118 = .ok (.iadd, 1) := by decide +kernel
theorem dHits_add_119 : decode cHits_add 119 = .ok (.putfield 21, 3) := by decide +kernel
theorem dHits_add_122 : decode cHits_add 122 = .ok (.return_, 1) := by decide +kernel
theorem dItem_init_0 : decode cItem_init 0 = .ok (.aload_n 0, 1) := by decide +kernel
theorem dItem_init_1 : decode cItem_init 1 = .ok (.invokespecial 3, 3) := by decide +kernel
theorem dItem_init_4 : decode cItem_init 4 = .ok (.aload_n 0, 1) := by decide +kernel
theorem dItem_init_5 : decode cItem_init 5 = .ok (.iconst 4, 1) := by decide +kernel
theorem dItem_init_6 : decode cItem_init 6 = .ok (.anewarray 9, 3) := by decide +kernel
theorem dItem_init_9 : decode cItem_init 9 = .ok (.putfield 11, 3) := by decide +kernel
theorem dItem_init_12 : decode cItem_init 12 = .ok (.aload_n 0, 1) := by decide +kernel
theorem dItem_init_13 : decode cItem_init 13 = .ok (.iconst 1, 1) := by decide +kernel
theorem dItem_init_14 : decode cItem_init 14 = .ok (.putfield 17, 3) := by decide +kernel
theorem dItem_init_17 : decode cItem_init 17 = .ok (.iconst 0, 1) := by decide +kernel
theorem dItem_init_18 : decode cItem_init 18 = .ok (.istore_n 1, 1) := by decide +kernel
theorem dItem_init_19 : decode cItem_init 19 = .ok (.iload_n 1, 1) := by decide +kernel
theorem dItem_init_20 : decode cItem_init 20 = .ok (.aload_n 0, 1) := by decide +kernel
theorem dItem_init_21 : decode cItem_init 21 = .ok (.getfield 11, 3) := by decide +kernel
theorem dItem_init_24 : decode cItem_init 24 = .ok (.arraylength, 1) := by decide +kernel
theorem dItem_init_25 : decode cItem_init 25 = .ok (.if_icmp .ge 22, 3) := by decide +kernel
theorem dItem_init_28 : decode cItem_init 28 = .ok (.aload_n 0, 1) := by decide +kernel
theorem dItem_init_29 : decode cItem_init 29 = .ok (.getfield 11, 3) := by decide +kernel
theorem dItem_init_32 : decode cItem_init 32 = .ok (.iload_n 1, 1) := by decide +kernel
theorem dItem_init_33 : decode cItem_init 33 = .ok (.new 9, 3) := by decide +kernel
theorem dItem_init_36 : decode cItem_init 36 = .ok (.dup, 1) := by decide +kernel
theorem dItem_init_37 : decode cItem_init 37 = .ok (.invokespecial 21, 3) := by decide +kernel
theorem dItem_init_40 : decode cItem_init 40 = .ok (.aastore, 1) := by decide +kernel
theorem dItem_init_41 : decode cItem_init 41 = .ok (.iinc 1 1, 3) := by decide +kernel
theorem dItem_init_44 : decode cItem_init 44 = .ok (.goto (-25), 3) := by decide +kernel
theorem dItem_init_47 : decode cItem_init 47 = .ok (.return_, 1) := by decide +kernel
theorem mm_174 : (.methodLink RHits 3 objectInit : Cond) ∈ hwG := hwIx 98 (by decide +kernel) (by decide +kernel)
theorem mm_175 : (.arrayClass .int : Cond) ∈ hwG := hwIx 75 (by decide +kernel) (by decide +kernel)
theorem mm_176 : (.code yHits_isGreater cHits_isGreater 4 (some .boolean) : Cond) ∈ hwG := hwIx 415 (by decide +kernel) (by decide +kernel)
theorem mm_177 : (.methodLink RHits 29 yHits_isGreater : Cond) ∈ hwG := hwIx 412 (by decide +kernel) (by decide +kernel)
theorem mm_178 : (.instanceMethod yHits_isGreater : Cond) ∈ hwG := hwIx 414 (by decide +kernel) (by decide +kernel)
theorem mm_179 : (.selects RHits yHits_isGreater yHits_isGreater : Cond) ∈ hwG := hwIx 10 (by decide +kernel) (by decide +kernel)
theorem mm_180 : (.methodLink RItem 3 objectInit : Cond) ∈ hwG := hwIx 171 (by decide +kernel) (by decide +kernel)
theorem mm_181 : (.classLink RItem 9 RText : Cond) ∈ hwG := hwIx 172 (by decide +kernel) (by decide +kernel)
theorem mm_182 : (.fieldLink RItem 11 RItem "texts" "[LWordIndex2$Text;" : Cond) ∈ hwG := hwIx 175 (by decide +kernel) (by decide +kernel)
theorem mm_183 : (.fieldLink RItem 17 RItem "there" "Z" : Cond) ∈ hwG := hwIx 176 (by decide +kernel) (by decide +kernel)
theorem mm_184 : (.instantiable RText 3 : Cond) ∈ hwG := hwIx 60 (by decide +kernel) (by decide +kernel)
theorem mm_185 : (.code yText_init cText_init 1 none : Cond) ∈ hwG := hwIx 63 (by decide +kernel) (by decide +kernel)
theorem mm_186 : (.instanceMethod yText_init : Cond) ∈ hwG := hwIx 62 (by decide +kernel) (by decide +kernel)
set_option maxHeartbeats 4000000 in
set_option maxRecDepth 100000 in
theorem c_Hi_init (l : Launch) (D : va_G) (K : Nat → ClassId) (X : hwW) (sz : Nat) (a : Nat) (f0_ : hwH X a 60 (.inr (0, [.null, .null, .null, .int (nI 0)]))) : Met l yHits_init (.code yHits_init cHits_init 1 none :: hwG) ({ frames := 1, cells := 3, slots := 90, locals := 20 } : Room) (hwPc D vwCl (hwT K) [.ref a] X sz) (hwQv D vwCl X sz (fun Y => hwF X Y (fun M => 60 ≤ M ∧ M ≤ 63) ∧ hiAt K Y a [])) 3 90 (va_A X.1 sz) := by
  refine hwMetv (cc := cHits_init) (maxL := 1) (by decide) rfl (Nat.le_of_ble_eq_true rfl) (fun p e s m args below meth c ls A Q hx hb hml hown hts hname hret hK hO hZ hA hl => ?_)
  have hl : lv_has ls 1 [(0, .ref a)] := hl
  have hFr : hwF X X (fun M => 60 ≤ M ∧ M ≤ 63) := hwF.rf
  refine lv_aload_n hx hb dHits_init_0 rfl (lv_at hl 0 rfl) ?_
  refine W.objInit hx hb hown (hts (.methodLink RHits 3 objectInit) (hwMem mm_174)) (hts (.instanceMethod objectInit) (hwMem mm_31)) (hts (.code objectInit ⟨#[0xb1]⟩ 1 none) (hwMem mm_32)) rfl (by rw [hml]; exact hl.1) rfl dHits_init_1 (Nat.le_of_ble_eq_true rfl) (Nat.le_of_ble_eq_true rfl) ?_
  refine W.eq (g2 := F0 m 4 ls []) rfl ?_
  refine lv_aload_n hx hb dHits_init_4 rfl (lv_at hl 0 rfl) ?_
  refine lv_bipush (v := nI 30) hx hb dHits_init_5 (by decide) ?_
  refine hw_newa (atype := .int) (ty := .int) (a0 := (30, .inl (fun _ => 0))) (N := 30) hx hb (hts (.arrayClass .int) (hwMem mm_175)) rfl hK hZ hA 0 rfl (fun _ _ => rfl) (fun _ => rfl) (by omega) (by show _ * _ ≤ _; first | decide | (simp only [componentBytes]; omega)) (show 0 + 1 ≤ 3 by omega) (show 0 + 30 ≤ 90 by omega) dHits_init_7 61 (fun qq_1 X_2 H_3 hZ hF hNw => ?_)
  have hFr := hwF.tr hFr hF (fun _ h => h) (fun M h => by first | exact False.elim h | ((try dsimp only at h ⊢); omega))
  have f0_ := hF _ _ _ (by intro hNS; first | exact False.elim hNS | ((try dsimp only at hNS); omega)) f0_
  have ff_5 := hNw
  refine hw_putF (ty := (.array .int)) (fs' := [.ref qq_1, .null, .null, .int (nI 0)]) hx hb hts (hwInn inHits) tyHits tyHits_ok nmHits hown hK hZ f0_ rfl 0 (by decide) (hts (.fieldLink RHits 9 RHits "numbers" "[I") (hwMem mm_96)) (fun _ h => h) rfl hname rfl (by decide +kernel) rfl rfl (Nat.le_of_ble_eq_true rfl) rfl dHits_init_9 (fun X_6 H_7 lc_8 hZ hF hNw => ?_)
  have hFr := hwF.tr hFr hF (fun _ h => h) (fun M h => by first | exact False.elim h | ((try dsimp only at h ⊢); omega))
  have f0_ := hNw
  have ff_5 := hF _ _ _ (by intro hNS; first | exact False.elim hNS | ((try dsimp only at hNS); omega)) ff_5
  refine lv_aload_n hx hb dHits_init_12 rfl (lv_at hl 0 rfl) ?_
  refine lv_bipush (v := nI 30) hx hb dHits_init_13 (by decide) ?_
  refine hw_newa (atype := .int) (ty := .int) (a0 := (30, .inl (fun _ => 0))) (N := 30) hx hb (hts (.arrayClass .int) (hwMem mm_175)) rfl hK hZ hA 0 rfl (fun _ _ => rfl) (fun _ => rfl) (by omega) (by show _ * _ ≤ _; first | decide | (simp only [componentBytes]; omega)) (show 1 + 1 ≤ 3 by omega) (show (0 + 30) + 30 ≤ 90 by omega) dHits_init_15 62 (fun qq_9 X_10 H_11 hZ hF hNw => ?_)
  have hFr := hwF.tr hFr hF (fun _ h => h) (fun M h => by first | exact False.elim h | ((try dsimp only at h ⊢); omega))
  have f0_ := hF _ _ _ (by intro hNS; first | exact False.elim hNS | ((try dsimp only at hNS); omega)) f0_
  have ff_5 := hF _ _ _ (by intro hNS; first | exact False.elim hNS | ((try dsimp only at hNS); omega)) ff_5
  have ff_13 := hNw
  refine hw_putF (ty := (.array .int)) (fs' := [.ref qq_1, .ref qq_9, .null, .int (nI 0)]) hx hb hts (hwInn inHits) tyHits tyHits_ok nmHits hown hK hZ f0_ rfl 1 (by decide) (hts (.fieldLink RHits 15 RHits "counts" "[I") (hwMem mm_97)) (fun _ h => h) rfl hname rfl (by decide +kernel) rfl rfl (Nat.le_of_ble_eq_true rfl) rfl dHits_init_17 (fun X_14 H_15 lc_16 hZ hF hNw => ?_)
  have hFr := hwF.tr hFr hF (fun _ h => h) (fun M h => by first | exact False.elim h | ((try dsimp only at h ⊢); omega))
  have f0_ := hNw
  have ff_5 := hF _ _ _ (by intro hNS; first | exact False.elim hNS | ((try dsimp only at hNS); omega)) ff_5
  have ff_13 := hF _ _ _ (by intro hNS; first | exact False.elim hNS | ((try dsimp only at hNS); omega)) ff_13
  refine lv_aload_n hx hb dHits_init_20 rfl (lv_at hl 0 rfl) ?_
  refine lv_bipush (v := nI 30) hx hb dHits_init_21 (by decide) ?_
  refine hw_newa (atype := .int) (ty := .int) (a0 := (30, .inl (fun _ => 0))) (N := 30) hx hb (hts (.arrayClass .int) (hwMem mm_175)) rfl hK hZ hA 0 rfl (fun _ _ => rfl) (fun _ => rfl) (by omega) (by show _ * _ ≤ _; first | decide | (simp only [componentBytes]; omega)) (show 2 + 1 ≤ 3 by omega) (show (0 + 30 + 30) + 30 ≤ 90 by omega) dHits_init_23 63 (fun qq_17 X_18 H_19 hZ hF hNw => ?_)
  have hFr := hwF.tr hFr hF (fun _ h => h) (fun M h => by first | exact False.elim h | ((try dsimp only at h ⊢); omega))
  have f0_ := hF _ _ _ (by intro hNS; first | exact False.elim hNS | ((try dsimp only at hNS); omega)) f0_
  have ff_5 := hF _ _ _ (by intro hNS; first | exact False.elim hNS | ((try dsimp only at hNS); omega)) ff_5
  have ff_13 := hF _ _ _ (by intro hNS; first | exact False.elim hNS | ((try dsimp only at hNS); omega)) ff_13
  have ff_21 := hNw
  refine hw_putF (ty := (.array .int)) (fs' := [.ref qq_1, .ref qq_9, .ref qq_17, .int (nI 0)]) hx hb hts (hwInn inHits) tyHits tyHits_ok nmHits hown hK hZ f0_ rfl 2 (by decide) (hts (.fieldLink RHits 18 RHits "sizes" "[I") (hwMem mm_98)) (fun _ h => h) rfl hname rfl (by decide +kernel) rfl rfl (Nat.le_of_ble_eq_true rfl) rfl dHits_init_25 (fun X_22 H_23 lc_24 hZ hF hNw => ?_)
  have hFr := hwF.tr hFr hF (fun _ h => h) (fun M h => by first | exact False.elim h | ((try dsimp only at h ⊢); omega))
  have f0_ := hNw
  have ff_5 := hF _ _ _ (by intro hNS; first | exact False.elim hNS | ((try dsimp only at hNS); omega)) ff_5
  have ff_13 := hF _ _ _ (by intro hNS; first | exact False.elim hNS | ((try dsimp only at hNS); omega)) ff_13
  have ff_21 := hF _ _ _ (by intro hNS; first | exact False.elim hNS | ((try dsimp only at hNS); omega)) ff_21
  refine W.widen (k := 3) (n := 90) (by omega) (by omega) ?_
  exact hret hZ ⟨hFr, _, _, _, _, _, _, f0_, ff_5, ff_13, ff_21, Nat.zero_le _, ivec.nil, ivec.nil, ivec.nil, fun _ h => absurd h List.not_mem_nil⟩ dHits_init_28
set_option maxHeartbeats 4000000 in
set_option maxRecDepth 100000 in
theorem c_Hi_add (l : Launch) (D : va_G) (K : Nat → ClassId) (X : hwW) (sz : Nat) (a : Nat) (hs : List (Nat × Nat × Nat)) (x0 : Nat) (c0 : Nat) (z0 : Nat) (f0_ : hiAt K X a hs) (h1k : x0 ≤ 1000) (h2k : c0 ≤ 1000) (h3k : z0 ≤ 1000) : Met l yHits_add (.code yHits_add cHits_add 5 none :: hwG) ({ frames := 3, cells := 0, slots := 0, locals := 65 } : Room) (hwPc D vwCl (hwT K) [.ref a, .int (nI x0), .int (nI c0), .int (nI z0)] X sz) (hwQv D vwCl X sz (fun Y => hwF X Y (fun M => 60 ≤ M ∧ M ≤ 63) ∧ hiAt K Y a (if 30 ≤ hs.length then hs else insH (x0, c0, z0) hs))) 0 0 (va_A X.1 sz) := by
  refine hwMetv (cc := cHits_add) (maxL := 5) (by decide) rfl (Nat.le_of_ble_eq_true rfl) (fun p e s m args below meth c ls A Q hx hb hml hown hts hname hret hK hO hZ hA hl => ?_)
  have hl : lv_has ls 5 [(0, .ref a), (1, .int (nI x0)), (2, .int (nI c0)), (3, .int (nI z0))] := hl
  have hFr : hwF X X (fun M => 60 ≤ M ∧ M ≤ 63) := hwF.rf
  have hT := f0_
  obtain ⟨q1, q2, q3, f1, f2, f3, g0, g1, g2, g3, hn30, hv1, hv2, hv3, hB⟩ := f0_
  have hBd := okH.at hB
  refine lv_aload_n hx hb dHits_add_0 rfl (lv_at hl 0 rfl) ?_
  refine hw_get hx hb hts (hwInn inHits) hown hK hZ g0 rfl 3 (by decide) (hts (.fieldLink RHits 21 RHits "count" "I") (hwMem mm_90)) (fun _ h => h) rfl dHits_add_1 ?_
  refine lv_bipush (v := nI 30) hx hb dHits_add_4 (by decide) ?_
  refine hw_ic_lt (a := hs.length) (b := 30) (tgt := 10) hx hb dHits_add_6 (by decide) (by omega) (by omega) (fun cq_1 => ?_) (fun cq_1 => ?_)
  · refine lv_aload_n hx hb dHits_add_10 rfl (lv_at hl 0 rfl) ?_
    refine hw_get hx hb hts (hwInn inHits) hown hK hZ g0 rfl 3 (by decide) (hts (.fieldLink RHits 21 RHits "count" "I") (hwMem mm_90)) (fun _ h => h) rfl dHits_add_11 ?_
    refine lv_istore (lv' := [(4, .int (nI hs.length)), (0, .ref a), (1, .int (nI x0)), (2, .int (nI c0)), (3, .int (nI z0))]) hx hb dHits_add_14 hl (by decide) rfl (fun ls hl => ?_)
    have loop16 : ∀ (fuel : Nat) (p0 : Nat) (y1 : Nat → Int32) (y2 : Nat → Int32) (y3 : Nat → Int32) (XL16 : hwW) (Hh : Heap) (lcs : List Loc) (ls : Array Slot), p0 < fuel → (p0 ≤ hs.length) → (plH (x0, c0, z0) hs p0 = plH (x0, c0, z0) hs hs.length) → (shv y1 (fun h => h.1) hs p0) → (shv y2 (fun h => h.2.1) hs p0) → (shv y3 (fun h => h.2.2) hs p0) → (hwF X XL16 (fun M => 60 ≤ M ∧ M ≤ 63)) → (hwH XL16 a 60 (.inr (0, [.ref q1, .ref q2, .ref q3, .int (nI hs.length)]))) → (hwH XL16 q1 61 (.inl (K 0, 30, .inl y1))) → (hwH XL16 q2 62 (.inl (K 0, 30, .inl y2))) → (hwH XL16 q3 63 (.inl (K 0, 30, .inl y3))) → hwZ D vwCl A s.heap XL16 Hh lcs → lv_has ls 5 [(4, .int (nI p0)), (0, .ref a), (1, .int (nI x0)), (2, .int (nI c0)), (3, .int (nI z0))] → W p l e ({ frames := 3, cells := 0, slots := 0, locals := 65 } : Room) s m args below meth c Hh lcs 0 0 Q (F0 m 16 ls []) := by
      intro fuel; induction fuel with
      | zero => intro p0 y1 y2 y3 XL16 Hh lcs ls hfu; exact absurd hfu (Nat.not_lt_zero _)
      | succ fuel ih16 =>
        intro p0 y1 y2 y3 XL16 Hh lcs ls hfu16 hp0 hpl hs1 hs2 hs3 hFr g0 g1 g2 g3 hZ hl
        refine lv_iload hx hb dHits_add_16 (lv_at hl 0 rfl) ?_
        refine hw_if_le (a := p0) (tgt := 88) hx hb dHits_add_18 (by decide) (by omega) (fun cq_2 => ?_) (fun cq_2 => ?_)
        · refine lv_aload_n hx hb dHits_add_88 rfl (lv_at hl 1 rfl) ?_
          refine hw_get hx hb hts (hwInn inHits) hown hK hZ g0 rfl 0 (by decide) (hts (.fieldLink RHits 9 RHits "numbers" "[I") (hwMem mm_96)) (fun _ h => h) rfl dHits_add_89 ?_
          refine lv_iload hx hb dHits_add_92 (lv_at hl 0 rfl) ?_
          refine lv_iload_n hx hb dHits_add_94 rfl (lv_at hl 2 rfl) ?_
          refine hw_iast hx hb hK hZ 0 g1 rfl (j := p0) (by omega) (by omega) dHits_add_95 (fun X_3 H_4 lc_5 hZ hF hNw => ?_)
          have hFr := hwF.tr hFr hF (fun _ h => h) (fun M h => by first | exact False.elim h | ((try dsimp only at h ⊢); omega))
          have g0 := hF _ _ _ (by intro hNS; first | exact False.elim hNS | ((try dsimp only at hNS); omega)) g0
          have g1 := hNw
          have g2 := hF _ _ _ (by intro hNS; first | exact False.elim hNS | ((try dsimp only at hNS); omega)) g2
          have g3 := hF _ _ _ (by intro hNS; first | exact False.elim hNS | ((try dsimp only at hNS); omega)) g3
          refine lv_aload_n hx hb dHits_add_96 rfl (lv_at hl 1 rfl) ?_
          refine hw_get hx hb hts (hwInn inHits) hown hK hZ g0 rfl 1 (by decide) (hts (.fieldLink RHits 15 RHits "counts" "[I") (hwMem mm_97)) (fun _ h => h) rfl dHits_add_97 ?_
          refine lv_iload hx hb dHits_add_100 (lv_at hl 0 rfl) ?_
          refine lv_iload_n hx hb dHits_add_102 rfl (lv_at hl 3 rfl) ?_
          refine hw_iast hx hb hK hZ 0 g2 rfl (j := p0) (by omega) (by omega) dHits_add_103 (fun X_6 H_7 lc_8 hZ hF hNw => ?_)
          have hFr := hwF.tr hFr hF (fun _ h => h) (fun M h => by first | exact False.elim h | ((try dsimp only at h ⊢); omega))
          have g0 := hF _ _ _ (by intro hNS; first | exact False.elim hNS | ((try dsimp only at hNS); omega)) g0
          have g1 := hF _ _ _ (by intro hNS; first | exact False.elim hNS | ((try dsimp only at hNS); omega)) g1
          have g2 := hNw
          have g3 := hF _ _ _ (by intro hNS; first | exact False.elim hNS | ((try dsimp only at hNS); omega)) g3
          refine lv_aload_n hx hb dHits_add_104 rfl (lv_at hl 1 rfl) ?_
          refine hw_get hx hb hts (hwInn inHits) hown hK hZ g0 rfl 2 (by decide) (hts (.fieldLink RHits 18 RHits "sizes" "[I") (hwMem mm_98)) (fun _ h => h) rfl dHits_add_105 ?_
          refine lv_iload hx hb dHits_add_108 (lv_at hl 0 rfl) ?_
          refine lv_iload_n hx hb dHits_add_110 rfl (lv_at hl 4 rfl) ?_
          refine hw_iast hx hb hK hZ 0 g3 rfl (j := p0) (by omega) (by omega) dHits_add_111 (fun X_9 H_10 lc_11 hZ hF hNw => ?_)
          have hFr := hwF.tr hFr hF (fun _ h => h) (fun M h => by first | exact False.elim h | ((try dsimp only at h ⊢); omega))
          have g0 := hF _ _ _ (by intro hNS; first | exact False.elim hNS | ((try dsimp only at hNS); omega)) g0
          have g1 := hF _ _ _ (by intro hNS; first | exact False.elim hNS | ((try dsimp only at hNS); omega)) g1
          have g2 := hF _ _ _ (by intro hNS; first | exact False.elim hNS | ((try dsimp only at hNS); omega)) g2
          have g3 := hNw
          refine lv_aload_n hx hb dHits_add_112 rfl (lv_at hl 1 rfl) ?_
          refine lv_dup hx hb dHits_add_113 rfl ?_
          refine hw_get hx hb hts (hwInn inHits) hown hK hZ g0 rfl 3 (by decide) (hts (.fieldLink RHits 21 RHits "count" "I") (hwMem mm_90)) (fun _ h => h) rfl dHits_add_114 ?_
          refine lv_iconst (v := nI 1) hx hb dHits_add_117 (by decide) ?_
          refine lv_iadd hx hb dHits_add_118 ?_
          refine hw_topi (nI_add hs.length 1) ?_
          refine hw_put (ty := .int) (fs' := [.ref q1, .ref q2, .ref q3, .int (nI (hs.length + 1))]) hx hb hts (hwInn inHits) tyHits tyHits_ok nmHits hown hK hZ g0 rfl 3 (by decide) (hts (.fieldLink RHits 21 RHits "count" "I") (hwMem mm_90)) (fun _ h => h) rfl (by decide +kernel) rfl rfl (Nat.le_of_ble_eq_true rfl) rfl dHits_add_119 (fun X_12 H_13 lc_14 hZ hF hNw => ?_)
          have hFr := hwF.tr hFr hF (fun _ h => h) (fun M h => by first | exact False.elim h | ((try dsimp only at h ⊢); omega))
          have g0 := hNw
          have g1 := hF _ _ _ (by intro hNS; first | exact False.elim hNS | ((try dsimp only at hNS); omega)) g1
          have g2 := hF _ _ _ (by intro hNS; first | exact False.elim hNS | ((try dsimp only at hNS); omega)) g2
          have g3 := hF _ _ _ (by intro hNS; first | exact False.elim hNS | ((try dsimp only at hNS); omega)) g3
          exact hret hZ (by rw [if_neg (by omega), insH_at (hpl.symm.trans (show plH (x0, c0, z0) hs p0 = p0 by rw [show p0 = 0 by omega]; rfl))]; exact ⟨hFr, q1, q2, q3, _, _, _, by rw [insH_len (by omega)]; exact g0, g1, g2, g3, by rw [insH_len (by omega)]; omega, shv.done (x := (x0, c0, z0)) hs1 (by omega), shv.done (x := (x0, c0, z0)) hs2 (by omega), shv.done (x := (x0, c0, z0)) hs3 (by omega), okH.ins hB ⟨h1k, h2k, h3k⟩⟩) dHits_add_122
        · refine lv_aload_n hx hb dHits_add_21 rfl (lv_at hl 1 rfl) ?_
          refine lv_iload_n hx hb dHits_add_22 rfl (lv_at hl 3 rfl) ?_
          refine lv_iload_n hx hb dHits_add_23 rfl (lv_at hl 4 rfl) ?_
          refine lv_iload hx hb dHits_add_24 (lv_at hl 0 rfl) ?_
          refine lv_iconst (v := nI 1) hx hb dHits_add_26 (by decide) ?_
          refine lv_isub hx hb dHits_add_27 ?_
          refine hw_topi (pk_sub (a := p0) (b := 1) (by omega)) ?_
          refine hw_calli (va_runV (As := [.int (nI c0), .int (nI z0), .int (nI (p0 - 1))]) (rest := []) ⟨hx, hb, hml, hown, hts⟩ (c_Hi_gr l D K XL16 Hh.size (a := a) (L := 60) (q1 := q1) (q2 := q2) (q3 := q3) (n := hs.length) (L2 := 62) (f2 := y2) (L3 := 63) (f3 := y3) (c0 := c0) (z0 := z0) (j := p0 - 1) (cj := (hs.getD (p0 - 1) (0, 0, 0)).2.1) (zj := (hs.getD (p0 - 1) (0, 0, 0)).2.2) g0 g2 g3 (by omega) (by omega) (hs2.1 (p0 - 1) (by omega)) (hs3.1 (p0 - 1) (by omega)) (by omega) (by omega) (hBd (p0 - 1)).2.1 (hBd (p0 - 1)).2.2) (cwV 3 hts (hwGood (hw_4 mm_177 mm_178 mm_179 mm_95 (hwAll mm_176))) rfl rfl rfl (by decide +kernel) ⟨Nat.le_of_ble_eq_true rfl, Nat.le_of_ble_eq_true rfl⟩) (hw_preV hK hO hZ (⟨_, _, g0⟩) rfl) rfl rfl hl.1 rfl (lv_room (Nat.le_of_ble_eq_true rfl)) dHits_add_28 ⟨(show 0 + 0 ≤ 0 by omega), (show 0 + 0 ≤ 0 by omega)⟩) hZ hA (fun r X_15 H_16 lc_17 hp hZ => ?_)
          obtain ⟨hr, hy⟩ := hp
          subst hy
          refine hw_topi hr ?_
          refine hw_bz_eq (tgt := 88) hx hb dHits_add_31 (by decide) (fun cq_18 => ?_) (fun cq_18 => ?_)
          · refine lv_aload_n hx hb dHits_add_88 rfl (lv_at hl 1 rfl) ?_
            refine hw_get hx hb hts (hwInn inHits) hown hK hZ g0 rfl 0 (by decide) (hts (.fieldLink RHits 9 RHits "numbers" "[I") (hwMem mm_96)) (fun _ h => h) rfl dHits_add_89 ?_
            refine lv_iload hx hb dHits_add_92 (lv_at hl 0 rfl) ?_
            refine lv_iload_n hx hb dHits_add_94 rfl (lv_at hl 2 rfl) ?_
            refine hw_iast hx hb hK hZ 0 g1 rfl (j := p0) (by omega) (by omega) dHits_add_95 (fun X_19 H_20 lc_21 hZ hF hNw => ?_)
            have hFr := hwF.tr hFr hF (fun _ h => h) (fun M h => by first | exact False.elim h | ((try dsimp only at h ⊢); omega))
            have g0 := hF _ _ _ (by intro hNS; first | exact False.elim hNS | ((try dsimp only at hNS); omega)) g0
            have g1 := hNw
            have g2 := hF _ _ _ (by intro hNS; first | exact False.elim hNS | ((try dsimp only at hNS); omega)) g2
            have g3 := hF _ _ _ (by intro hNS; first | exact False.elim hNS | ((try dsimp only at hNS); omega)) g3
            refine lv_aload_n hx hb dHits_add_96 rfl (lv_at hl 1 rfl) ?_
            refine hw_get hx hb hts (hwInn inHits) hown hK hZ g0 rfl 1 (by decide) (hts (.fieldLink RHits 15 RHits "counts" "[I") (hwMem mm_97)) (fun _ h => h) rfl dHits_add_97 ?_
            refine lv_iload hx hb dHits_add_100 (lv_at hl 0 rfl) ?_
            refine lv_iload_n hx hb dHits_add_102 rfl (lv_at hl 3 rfl) ?_
            refine hw_iast hx hb hK hZ 0 g2 rfl (j := p0) (by omega) (by omega) dHits_add_103 (fun X_22 H_23 lc_24 hZ hF hNw => ?_)
            have hFr := hwF.tr hFr hF (fun _ h => h) (fun M h => by first | exact False.elim h | ((try dsimp only at h ⊢); omega))
            have g0 := hF _ _ _ (by intro hNS; first | exact False.elim hNS | ((try dsimp only at hNS); omega)) g0
            have g1 := hF _ _ _ (by intro hNS; first | exact False.elim hNS | ((try dsimp only at hNS); omega)) g1
            have g2 := hNw
            have g3 := hF _ _ _ (by intro hNS; first | exact False.elim hNS | ((try dsimp only at hNS); omega)) g3
            refine lv_aload_n hx hb dHits_add_104 rfl (lv_at hl 1 rfl) ?_
            refine hw_get hx hb hts (hwInn inHits) hown hK hZ g0 rfl 2 (by decide) (hts (.fieldLink RHits 18 RHits "sizes" "[I") (hwMem mm_98)) (fun _ h => h) rfl dHits_add_105 ?_
            refine lv_iload hx hb dHits_add_108 (lv_at hl 0 rfl) ?_
            refine lv_iload_n hx hb dHits_add_110 rfl (lv_at hl 4 rfl) ?_
            refine hw_iast hx hb hK hZ 0 g3 rfl (j := p0) (by omega) (by omega) dHits_add_111 (fun X_25 H_26 lc_27 hZ hF hNw => ?_)
            have hFr := hwF.tr hFr hF (fun _ h => h) (fun M h => by first | exact False.elim h | ((try dsimp only at h ⊢); omega))
            have g0 := hF _ _ _ (by intro hNS; first | exact False.elim hNS | ((try dsimp only at hNS); omega)) g0
            have g1 := hF _ _ _ (by intro hNS; first | exact False.elim hNS | ((try dsimp only at hNS); omega)) g1
            have g2 := hF _ _ _ (by intro hNS; first | exact False.elim hNS | ((try dsimp only at hNS); omega)) g2
            have g3 := hNw
            refine lv_aload_n hx hb dHits_add_112 rfl (lv_at hl 1 rfl) ?_
            refine lv_dup hx hb dHits_add_113 rfl ?_
            refine hw_get hx hb hts (hwInn inHits) hown hK hZ g0 rfl 3 (by decide) (hts (.fieldLink RHits 21 RHits "count" "I") (hwMem mm_90)) (fun _ h => h) rfl dHits_add_114 ?_
            refine lv_iconst (v := nI 1) hx hb dHits_add_117 (by decide) ?_
            refine lv_iadd hx hb dHits_add_118 ?_
            refine hw_topi (nI_add hs.length 1) ?_
            refine hw_put (ty := .int) (fs' := [.ref q1, .ref q2, .ref q3, .int (nI (hs.length + 1))]) hx hb hts (hwInn inHits) tyHits tyHits_ok nmHits hown hK hZ g0 rfl 3 (by decide) (hts (.fieldLink RHits 21 RHits "count" "I") (hwMem mm_90)) (fun _ h => h) rfl (by decide +kernel) rfl rfl (Nat.le_of_ble_eq_true rfl) rfl dHits_add_119 (fun X_28 H_29 lc_30 hZ hF hNw => ?_)
            have hFr := hwF.tr hFr hF (fun _ h => h) (fun M h => by first | exact False.elim h | ((try dsimp only at h ⊢); omega))
            have g0 := hNw
            have g1 := hF _ _ _ (by intro hNS; first | exact False.elim hNS | ((try dsimp only at hNS); omega)) g1
            have g2 := hF _ _ _ (by intro hNS; first | exact False.elim hNS | ((try dsimp only at hNS); omega)) g2
            have g3 := hF _ _ _ (by intro hNS; first | exact False.elim hNS | ((try dsimp only at hNS); omega)) g3
            exact hret hZ (by rw [if_neg (by omega), insH_at (hpl.symm.trans (plH_f (x := (x0, c0, z0)) (hs := hs) (n := p0) (by omega) cq_18))]; exact ⟨hFr, q1, q2, q3, _, _, _, by rw [insH_len (by omega)]; exact g0, g1, g2, g3, by rw [insH_len (by omega)]; omega, shv.done (x := (x0, c0, z0)) hs1 (by omega), shv.done (x := (x0, c0, z0)) hs2 (by omega), shv.done (x := (x0, c0, z0)) hs3 (by omega), okH.ins hB ⟨h1k, h2k, h3k⟩⟩) dHits_add_122
          · refine lv_aload_n hx hb dHits_add_34 rfl (lv_at hl 1 rfl) ?_
            refine hw_get hx hb hts (hwInn inHits) hown hK hZ g0 rfl 0 (by decide) (hts (.fieldLink RHits 9 RHits "numbers" "[I") (hwMem mm_96)) (fun _ h => h) rfl dHits_add_35 ?_
            refine lv_iload hx hb dHits_add_38 (lv_at hl 0 rfl) ?_
            refine lv_aload_n hx hb dHits_add_40 rfl (lv_at hl 1 rfl) ?_
            refine hw_get hx hb hts (hwInn inHits) hown hK hZ g0 rfl 0 (by decide) (hts (.fieldLink RHits 9 RHits "numbers" "[I") (hwMem mm_96)) (fun _ h => h) rfl dHits_add_41 ?_
            refine lv_iload hx hb dHits_add_44 (lv_at hl 0 rfl) ?_
            refine lv_iconst (v := nI 1) hx hb dHits_add_46 (by decide) ?_
            refine lv_isub hx hb dHits_add_47 ?_
            refine hw_topi (pk_sub (a := p0) (b := 1) (by omega)) ?_
            refine hw_iald hx hb hK hZ 0 g1 rfl (j := p0 - 1) (by omega) (by omega) dHits_add_48 ?_
            refine hw_iast hx hb hK hZ 0 g1 rfl (j := p0) (by omega) (by omega) dHits_add_49 (fun X_31 H_32 lc_33 hZ hF hNw => ?_)
            have hFr := hwF.tr hFr hF (fun _ h => h) (fun M h => by first | exact False.elim h | ((try dsimp only at h ⊢); omega))
            have g0 := hF _ _ _ (by intro hNS; first | exact False.elim hNS | ((try dsimp only at hNS); omega)) g0
            have g1 := hNw
            have g2 := hF _ _ _ (by intro hNS; first | exact False.elim hNS | ((try dsimp only at hNS); omega)) g2
            have g3 := hF _ _ _ (by intro hNS; first | exact False.elim hNS | ((try dsimp only at hNS); omega)) g3
            refine lv_aload_n hx hb dHits_add_50 rfl (lv_at hl 1 rfl) ?_
            refine hw_get hx hb hts (hwInn inHits) hown hK hZ g0 rfl 1 (by decide) (hts (.fieldLink RHits 15 RHits "counts" "[I") (hwMem mm_97)) (fun _ h => h) rfl dHits_add_51 ?_
            refine lv_iload hx hb dHits_add_54 (lv_at hl 0 rfl) ?_
            refine lv_aload_n hx hb dHits_add_56 rfl (lv_at hl 1 rfl) ?_
            refine hw_get hx hb hts (hwInn inHits) hown hK hZ g0 rfl 1 (by decide) (hts (.fieldLink RHits 15 RHits "counts" "[I") (hwMem mm_97)) (fun _ h => h) rfl dHits_add_57 ?_
            refine lv_iload hx hb dHits_add_60 (lv_at hl 0 rfl) ?_
            refine lv_iconst (v := nI 1) hx hb dHits_add_62 (by decide) ?_
            refine lv_isub hx hb dHits_add_63 ?_
            refine hw_topi (pk_sub (a := p0) (b := 1) (by omega)) ?_
            refine hw_iald hx hb hK hZ 0 g2 rfl (j := p0 - 1) (by omega) (by omega) dHits_add_64 ?_
            refine hw_iast hx hb hK hZ 0 g2 rfl (j := p0) (by omega) (by omega) dHits_add_65 (fun X_34 H_35 lc_36 hZ hF hNw => ?_)
            have hFr := hwF.tr hFr hF (fun _ h => h) (fun M h => by first | exact False.elim h | ((try dsimp only at h ⊢); omega))
            have g0 := hF _ _ _ (by intro hNS; first | exact False.elim hNS | ((try dsimp only at hNS); omega)) g0
            have g1 := hF _ _ _ (by intro hNS; first | exact False.elim hNS | ((try dsimp only at hNS); omega)) g1
            have g2 := hNw
            have g3 := hF _ _ _ (by intro hNS; first | exact False.elim hNS | ((try dsimp only at hNS); omega)) g3
            refine lv_aload_n hx hb dHits_add_66 rfl (lv_at hl 1 rfl) ?_
            refine hw_get hx hb hts (hwInn inHits) hown hK hZ g0 rfl 2 (by decide) (hts (.fieldLink RHits 18 RHits "sizes" "[I") (hwMem mm_98)) (fun _ h => h) rfl dHits_add_67 ?_
            refine lv_iload hx hb dHits_add_70 (lv_at hl 0 rfl) ?_
            refine lv_aload_n hx hb dHits_add_72 rfl (lv_at hl 1 rfl) ?_
            refine hw_get hx hb hts (hwInn inHits) hown hK hZ g0 rfl 2 (by decide) (hts (.fieldLink RHits 18 RHits "sizes" "[I") (hwMem mm_98)) (fun _ h => h) rfl dHits_add_73 ?_
            refine lv_iload hx hb dHits_add_76 (lv_at hl 0 rfl) ?_
            refine lv_iconst (v := nI 1) hx hb dHits_add_78 (by decide) ?_
            refine lv_isub hx hb dHits_add_79 ?_
            refine hw_topi (pk_sub (a := p0) (b := 1) (by omega)) ?_
            refine hw_iald hx hb hK hZ 0 g3 rfl (j := p0 - 1) (by omega) (by omega) dHits_add_80 ?_
            refine hw_iast hx hb hK hZ 0 g3 rfl (j := p0) (by omega) (by omega) dHits_add_81 (fun X_37 H_38 lc_39 hZ hF hNw => ?_)
            have hFr := hwF.tr hFr hF (fun _ h => h) (fun M h => by first | exact False.elim h | ((try dsimp only at h ⊢); omega))
            have g0 := hF _ _ _ (by intro hNS; first | exact False.elim hNS | ((try dsimp only at hNS); omega)) g0
            have g1 := hF _ _ _ (by intro hNS; first | exact False.elim hNS | ((try dsimp only at hNS); omega)) g1
            have g2 := hF _ _ _ (by intro hNS; first | exact False.elim hNS | ((try dsimp only at hNS); omega)) g2
            have g3 := hNw
            refine lv_iinc (v := nI (p0 - 1)) (lv' := [(4, .int (nI (p0 - 1))), (0, .ref a), (1, .int (nI x0)), (2, .int (nI c0)), (3, .int (nI z0))]) hx hb dHits_add_82 hl (k := 0) rfl (hw_dec (k := 1) (by omega) (by decide)) (by decide) rfl (fun ls hl => ?_)
            refine lv_goto (tgt := 16) hx hb dHits_add_85 (by decide) ?_
            exact ih16 (p0 - 1) (upd y1 p0 (y1 (p0 - 1))) (upd y2 p0 (y2 (p0 - 1))) (upd y3 p0 (y3 (p0 - 1))) _ _ _ _ (by omega) (by omega) ((plH_t (x := (x0, c0, z0)) (hs := hs) (n := p0) (by omega) cq_18).symm.trans hpl) (hs1.step (by omega)) (hs2.step (by omega)) (hs3.step (by omega)) hFr g0 g1 g2 g3 hZ (lv_sub hl [0, 1, 2, 3, 4] rfl)
    exact loop16 (hs.length + 1) hs.length f1 f2 f3 _ _ _ _ (by omega) (by omega) rfl (shv.start hv1) (shv.start hv2) (shv.start hv3) hFr g0 g1 g2 g3 hZ (lv_sub hl [0, 1, 2, 3, 4] rfl)
  · exact hret hZ (by rw [if_pos (by omega)]; exact ⟨hFr, hT⟩) dHits_add_9
set_option maxHeartbeats 4000000 in
set_option maxRecDepth 100000 in
theorem c_It_init (l : Launch) (D : va_G) (K : Nat → ClassId) (X : hwW) (sz : Nat) (a : Nat) (i : Nat) (f0_ : hwH X a (100 + 20 * i) (.inr (1, [.null, .int (nI 0)]))) : Met l yItem_init (.code yItem_init cItem_init 2 none :: hwG) ({ frames := 2, cells := 9, slots := 32, locals := 40 } : Room) (hwPc D vwCl (hwT K) [.ref a] X sz) (hwQv D vwCl X sz (fun Y => hwF X Y (fun M => 100 + 20 * i ≤ M ∧ M < 120 + 20 * i) ∧ itAt K Y a i true (fun _ => ([], 0)))) 9 32 (va_A X.1 sz) := by
  refine hwMetv (cc := cItem_init) (maxL := 2) (by decide) rfl (Nat.le_of_ble_eq_true rfl) (fun p e s m args below meth c ls A Q hx hb hml hown hts hname hret hK hO hZ hA hl => ?_)
  have hl : lv_has ls 2 [(0, .ref a)] := hl
  have hFr : hwF X X (fun M => 100 + 20 * i ≤ M ∧ M < 120 + 20 * i) := hwF.rf
  refine lv_aload_n hx hb dItem_init_0 rfl (lv_at hl 0 rfl) ?_
  refine W.objInit hx hb hown (hts (.methodLink RItem 3 objectInit) (hwMem mm_180)) (hts (.instanceMethod objectInit) (hwMem mm_31)) (hts (.code objectInit ⟨#[0xb1]⟩ 1 none) (hwMem mm_32)) rfl (by rw [hml]; exact hl.1) rfl dItem_init_1 (Nat.le_of_ble_eq_true rfl) (Nat.le_of_ble_eq_true rfl) ?_
  refine W.eq (g2 := F0 m 4 ls []) rfl ?_
  refine lv_aload_n hx hb dItem_init_4 rfl (lv_at hl 0 rfl) ?_
  refine lv_iconst (v := nI 4) hx hb dItem_init_5 (by decide) ?_
  refine hw_newq (N := 4) hx hb hown (hts (.classLink RItem 9 RText) (hwMem mm_181)) hO hK hZ hA 5 rfl (by omega) (by omega) (show 0 + 1 ≤ 9 by omega) (show 0 + 4 ≤ 32 by omega) dItem_init_6 (101 + 20 * i) (fun qq_1 X_2 H_3 hZ hF hNw => ?_)
  have hFr := hwF.tr hFr hF (fun _ h => h) (fun M h => by first | exact False.elim h | ((try dsimp only at h ⊢); omega))
  have f0_ := hF _ _ _ (by intro hNS; first | exact False.elim hNS | ((try dsimp only at hNS); omega)) f0_
  have ff_5 := hNw
  refine hw_putF (ty := (.array (.object "WordIndex2$Text"))) (fs' := [.ref qq_1, .int (nI 0)]) hx hb hts (hwInn inItem) tyItem tyItem_ok nmItem hown hK hZ f0_ rfl 0 (by decide) (hts (.fieldLink RItem 11 RItem "texts" "[LWordIndex2$Text;") (hwMem mm_182)) (fun _ h => h) rfl hname rfl (by decide +kernel) rfl rfl (Nat.le_of_ble_eq_true rfl) rfl dItem_init_9 (fun X_6 H_7 lc_8 hZ hF hNw => ?_)
  have hFr := hwF.tr hFr hF (fun _ h => h) (fun M h => by first | exact False.elim h | ((try dsimp only at h ⊢); omega))
  have f0_ := hNw
  have ff_5 := hF _ _ _ (by intro hNS; first | exact False.elim hNS | ((try dsimp only at hNS); omega)) ff_5
  refine lv_aload_n hx hb dItem_init_12 rfl (lv_at hl 0 rfl) ?_
  refine lv_iconst (v := nI 1) hx hb dItem_init_13 (by decide) ?_
  refine hw_put (ty := .boolean) (fs' := [.ref qq_1, .int (nI 1)]) hx hb hts (hwInn inItem) tyItem tyItem_ok nmItem hown hK hZ f0_ rfl 1 (by decide) (hts (.fieldLink RItem 17 RItem "there" "Z") (hwMem mm_183)) (fun _ h => h) rfl (by decide +kernel) (by decide) (by decide) (Nat.le_of_ble_eq_true rfl) rfl dItem_init_14 (fun X_9 H_10 lc_11 hZ hF hNw => ?_)
  have hFr := hwF.tr hFr hF (fun _ h => h) (fun M h => by first | exact False.elim h | ((try dsimp only at h ⊢); omega))
  have f0_ := hNw
  have ff_5 := hF _ _ _ (by intro hNS; first | exact False.elim hNS | ((try dsimp only at hNS); omega)) ff_5
  refine lv_iconst (v := nI 0) hx hb dItem_init_17 (by decide) ?_
  refine lv_istore_n (lv' := [(1, .int (nI 0)), (0, .ref a)]) hx hb dItem_init_18 rfl hl (by decide) rfl (fun ls hl => ?_)
  refine lv_iload_n hx hb dItem_init_19 rfl (lv_at hl 0 rfl) ?_
  refine lv_aload_n hx hb dItem_init_20 rfl (lv_at hl 1 rfl) ?_
  refine hw_get hx hb hts (hwInn inItem) hown hK hZ f0_ rfl 0 (by decide) (hts (.fieldLink RItem 11 RItem "texts" "[LWordIndex2$Text;") (hwMem mm_182)) (fun _ h => h) rfl dItem_init_21 ?_
  refine hw_alen hx hb hK hZ 5 ff_5 rfl dItem_init_24 ?_
  refine hw_ic_ge (a := 0) (b := 4) (tgt := 47) hx hb dItem_init_25 (by decide) (by omega) (by omega) (fun cq_12 => by exfalso; omega) (fun cq_12 => ?_)
  refine lv_aload_n hx hb dItem_init_28 rfl (lv_at hl 1 rfl) ?_
  refine hw_get hx hb hts (hwInn inItem) hown hK hZ f0_ rfl 0 (by decide) (hts (.fieldLink RItem 11 RItem "texts" "[LWordIndex2$Text;") (hwMem mm_182)) (fun _ h => h) rfl dItem_init_29 ?_
  refine lv_iload_n hx hb dItem_init_32 rfl (lv_at hl 0 rfl) ?_
  refine hw_new (ci := 3) (fs := [.null, .int (nI 0), .int (nI 0)]) hx hb hts (hwInn inText) tyText tyText_ok hown (hts (.classLink RItem 9 RText) (hwMem mm_181)) (hts (.instantiable RText 3) (hwMem mm_184)) (hts (.initialized RText) (hwMem mm_45)) hK hZ hA rfl (fun j hj => by rcases (show j = 0 ∨ j = 1 ∨ j = 2 by omega) with rfl | rfl | rfl <;> rfl) (show 1 + 1 ≤ 9 by omega) (show (0 + 4) + 3 ≤ 32 by omega) dItem_init_33 (2 * (55 + 10 * i + 0)) (fun qq_13 X_14 H_15 hZ hF hNw => ?_)
  have hFr := hwF.tr hFr hF (fun _ h => h) (fun M h => by first | exact False.elim h | ((try dsimp only at h ⊢); omega))
  have f0_ := hF _ _ _ (by intro hNS; first | exact False.elim hNS | ((try dsimp only at hNS); omega)) f0_
  have ff_5 := hF _ _ _ (by intro hNS; first | exact False.elim hNS | ((try dsimp only at hNS); omega)) ff_5
  have ff_17 := hNw
  refine lv_dup hx hb dItem_init_36 rfl ?_
  refine hw_callv (va_runIN (As := []) (rest := [.ref qq_13, .int (nI 0), .ref qq_1]) ⟨hx, hb, hml, hown, hts⟩ (c_Tx_init l D K X_14 H_15.size (a := qq_13) (k := (55 + 10 * i + 0)) ff_17) ⟨va_cnB 0 hts (hwGood (hwAll mm_185)) rfl rfl rfl (hO.2 _ (List.mem_of_getElem? (i := 2) rfl)) (hts (.initialized RText) (hwMem mm_45)) (by decide +kernel) ⟨Nat.le_of_ble_eq_true rfl, Nat.le_of_ble_eq_true rfl⟩, rfl, hts _ (hwMem mm_186)⟩ (hw_preS hK hO hZ) rfl rfl hl.1 rfl (lv_room (Nat.le_of_ble_eq_true rfl)) dItem_init_37 ⟨(show 2 + 1 ≤ 9 by omega), (show (0 + 4 + 3) + 4 ≤ 32 by omega)⟩) hZ hA (fun X_18 H_19 lc_20 hp hZ => ?_)
  obtain ⟨hF, hN_21⟩ := hp
  have hFr := hwF.tr hFr hF (fun _ h => h) (fun M h => by first | exact False.elim h | ((try dsimp only at h ⊢); omega))
  have f0_ := hF _ _ _ (by intro hNS; first | exact False.elim hNS | ((try dsimp only at hNS); omega)) f0_
  have ff_5 := hF _ _ _ (by intro hNS; first | exact False.elim hNS | ((try dsimp only at hNS); omega)) ff_5
  have ff_22 := hN_21
  obtain ⟨_, _, hob⟩ := txAt.ob ff_22
  refine hw_astq hx hb hK hZ 5 3 ff_5 rfl hob rfl (j := 0) (by omega) (by omega) dItem_init_40 (fun X_23 H_24 lc_25 hZ hF hNw => ?_)
  have hFr := hwF.tr hFr hF (fun _ h => h) (fun M h => by first | exact False.elim h | ((try dsimp only at h ⊢); omega))
  have f0_ := hF _ _ _ (by intro hNS; first | exact False.elim hNS | ((try dsimp only at hNS); omega)) f0_
  have ff_5 := hNw
  have ff_22 := txAt.fr hF (by intro hNS; first | exact False.elim hNS | ((try dsimp only at hNS); omega)) (by intro hNS; first | exact False.elim hNS | ((try dsimp only at hNS); omega)) ff_22
  refine lv_iinc (v := nI 1) (lv' := [(1, .int (nI 1)), (0, .ref a)]) hx hb dItem_init_41 hl (k := 0) rfl (by decide) (by decide) rfl (fun ls hl => ?_)
  refine lv_goto (tgt := 19) hx hb dItem_init_44 (by decide) ?_
  refine lv_iload_n hx hb dItem_init_19 rfl (lv_at hl 0 rfl) ?_
  refine lv_aload_n hx hb dItem_init_20 rfl (lv_at hl 1 rfl) ?_
  refine hw_get hx hb hts (hwInn inItem) hown hK hZ f0_ rfl 0 (by decide) (hts (.fieldLink RItem 11 RItem "texts" "[LWordIndex2$Text;") (hwMem mm_182)) (fun _ h => h) rfl dItem_init_21 ?_
  refine hw_alen hx hb hK hZ 5 ff_5 rfl dItem_init_24 ?_
  refine hw_ic_ge (a := 1) (b := 4) (tgt := 47) hx hb dItem_init_25 (by decide) (by omega) (by omega) (fun cq_26 => by exfalso; omega) (fun cq_26 => ?_)
  refine lv_aload_n hx hb dItem_init_28 rfl (lv_at hl 1 rfl) ?_
  refine hw_get hx hb hts (hwInn inItem) hown hK hZ f0_ rfl 0 (by decide) (hts (.fieldLink RItem 11 RItem "texts" "[LWordIndex2$Text;") (hwMem mm_182)) (fun _ h => h) rfl dItem_init_29 ?_
  refine lv_iload_n hx hb dItem_init_32 rfl (lv_at hl 0 rfl) ?_
  refine hw_new (ci := 3) (fs := [.null, .int (nI 0), .int (nI 0)]) hx hb hts (hwInn inText) tyText tyText_ok hown (hts (.classLink RItem 9 RText) (hwMem mm_181)) (hts (.instantiable RText 3) (hwMem mm_184)) (hts (.initialized RText) (hwMem mm_45)) hK hZ hA rfl (fun j hj => by rcases (show j = 0 ∨ j = 1 ∨ j = 2 by omega) with rfl | rfl | rfl <;> rfl) (show 3 + 1 ≤ 9 by omega) (show (0 + 4 + 3 + 4) + 3 ≤ 32 by omega) dItem_init_33 (2 * (55 + 10 * i + 1)) (fun qq_27 X_28 H_29 hZ hF hNw => ?_)
  have hFr := hwF.tr hFr hF (fun _ h => h) (fun M h => by first | exact False.elim h | ((try dsimp only at h ⊢); omega))
  have f0_ := hF _ _ _ (by intro hNS; first | exact False.elim hNS | ((try dsimp only at hNS); omega)) f0_
  have ff_5 := hF _ _ _ (by intro hNS; first | exact False.elim hNS | ((try dsimp only at hNS); omega)) ff_5
  have ff_22 := txAt.fr hF (by intro hNS; first | exact False.elim hNS | ((try dsimp only at hNS); omega)) (by intro hNS; first | exact False.elim hNS | ((try dsimp only at hNS); omega)) ff_22
  have ff_31 := hNw
  refine lv_dup hx hb dItem_init_36 rfl ?_
  refine hw_callv (va_runIN (As := []) (rest := [.ref qq_27, .int (nI 1), .ref qq_1]) ⟨hx, hb, hml, hown, hts⟩ (c_Tx_init l D K X_28 H_29.size (a := qq_27) (k := (55 + 10 * i + 1)) ff_31) ⟨va_cnB 0 hts (hwGood (hwAll mm_185)) rfl rfl rfl (hO.2 _ (List.mem_of_getElem? (i := 2) rfl)) (hts (.initialized RText) (hwMem mm_45)) (by decide +kernel) ⟨Nat.le_of_ble_eq_true rfl, Nat.le_of_ble_eq_true rfl⟩, rfl, hts _ (hwMem mm_186)⟩ (hw_preS hK hO hZ) rfl rfl hl.1 rfl (lv_room (Nat.le_of_ble_eq_true rfl)) dItem_init_37 ⟨(show 4 + 1 ≤ 9 by omega), (show (0 + 4 + 3 + 4 + 3) + 4 ≤ 32 by omega)⟩) hZ hA (fun X_32 H_33 lc_34 hp hZ => ?_)
  obtain ⟨hF, hN_35⟩ := hp
  have hFr := hwF.tr hFr hF (fun _ h => h) (fun M h => by first | exact False.elim h | ((try dsimp only at h ⊢); omega))
  have f0_ := hF _ _ _ (by intro hNS; first | exact False.elim hNS | ((try dsimp only at hNS); omega)) f0_
  have ff_5 := hF _ _ _ (by intro hNS; first | exact False.elim hNS | ((try dsimp only at hNS); omega)) ff_5
  have ff_22 := txAt.fr hF (by intro hNS; first | exact False.elim hNS | ((try dsimp only at hNS); omega)) (by intro hNS; first | exact False.elim hNS | ((try dsimp only at hNS); omega)) ff_22
  have ff_36 := hN_35
  obtain ⟨_, _, hob⟩ := txAt.ob ff_36
  refine hw_astq hx hb hK hZ 5 3 ff_5 rfl hob rfl (j := 1) (by omega) (by omega) dItem_init_40 (fun X_37 H_38 lc_39 hZ hF hNw => ?_)
  have hFr := hwF.tr hFr hF (fun _ h => h) (fun M h => by first | exact False.elim h | ((try dsimp only at h ⊢); omega))
  have f0_ := hF _ _ _ (by intro hNS; first | exact False.elim hNS | ((try dsimp only at hNS); omega)) f0_
  have ff_5 := hNw
  have ff_22 := txAt.fr hF (by intro hNS; first | exact False.elim hNS | ((try dsimp only at hNS); omega)) (by intro hNS; first | exact False.elim hNS | ((try dsimp only at hNS); omega)) ff_22
  have ff_36 := txAt.fr hF (by intro hNS; first | exact False.elim hNS | ((try dsimp only at hNS); omega)) (by intro hNS; first | exact False.elim hNS | ((try dsimp only at hNS); omega)) ff_36
  refine lv_iinc (v := nI 2) (lv' := [(1, .int (nI 2)), (0, .ref a)]) hx hb dItem_init_41 hl (k := 0) rfl (by decide) (by decide) rfl (fun ls hl => ?_)
  refine lv_goto (tgt := 19) hx hb dItem_init_44 (by decide) ?_
  refine lv_iload_n hx hb dItem_init_19 rfl (lv_at hl 0 rfl) ?_
  refine lv_aload_n hx hb dItem_init_20 rfl (lv_at hl 1 rfl) ?_
  refine hw_get hx hb hts (hwInn inItem) hown hK hZ f0_ rfl 0 (by decide) (hts (.fieldLink RItem 11 RItem "texts" "[LWordIndex2$Text;") (hwMem mm_182)) (fun _ h => h) rfl dItem_init_21 ?_
  refine hw_alen hx hb hK hZ 5 ff_5 rfl dItem_init_24 ?_
  refine hw_ic_ge (a := 2) (b := 4) (tgt := 47) hx hb dItem_init_25 (by decide) (by omega) (by omega) (fun cq_40 => by exfalso; omega) (fun cq_40 => ?_)
  refine lv_aload_n hx hb dItem_init_28 rfl (lv_at hl 1 rfl) ?_
  refine hw_get hx hb hts (hwInn inItem) hown hK hZ f0_ rfl 0 (by decide) (hts (.fieldLink RItem 11 RItem "texts" "[LWordIndex2$Text;") (hwMem mm_182)) (fun _ h => h) rfl dItem_init_29 ?_
  refine lv_iload_n hx hb dItem_init_32 rfl (lv_at hl 0 rfl) ?_
  refine hw_new (ci := 3) (fs := [.null, .int (nI 0), .int (nI 0)]) hx hb hts (hwInn inText) tyText tyText_ok hown (hts (.classLink RItem 9 RText) (hwMem mm_181)) (hts (.instantiable RText 3) (hwMem mm_184)) (hts (.initialized RText) (hwMem mm_45)) hK hZ hA rfl (fun j hj => by rcases (show j = 0 ∨ j = 1 ∨ j = 2 by omega) with rfl | rfl | rfl <;> rfl) (show 5 + 1 ≤ 9 by omega) (show (0 + 4 + 3 + 4 + 3 + 4) + 3 ≤ 32 by omega) dItem_init_33 (2 * (55 + 10 * i + 2)) (fun qq_41 X_42 H_43 hZ hF hNw => ?_)
  have hFr := hwF.tr hFr hF (fun _ h => h) (fun M h => by first | exact False.elim h | ((try dsimp only at h ⊢); omega))
  have f0_ := hF _ _ _ (by intro hNS; first | exact False.elim hNS | ((try dsimp only at hNS); omega)) f0_
  have ff_5 := hF _ _ _ (by intro hNS; first | exact False.elim hNS | ((try dsimp only at hNS); omega)) ff_5
  have ff_22 := txAt.fr hF (by intro hNS; first | exact False.elim hNS | ((try dsimp only at hNS); omega)) (by intro hNS; first | exact False.elim hNS | ((try dsimp only at hNS); omega)) ff_22
  have ff_36 := txAt.fr hF (by intro hNS; first | exact False.elim hNS | ((try dsimp only at hNS); omega)) (by intro hNS; first | exact False.elim hNS | ((try dsimp only at hNS); omega)) ff_36
  have ff_45 := hNw
  refine lv_dup hx hb dItem_init_36 rfl ?_
  refine hw_callv (va_runIN (As := []) (rest := [.ref qq_41, .int (nI 2), .ref qq_1]) ⟨hx, hb, hml, hown, hts⟩ (c_Tx_init l D K X_42 H_43.size (a := qq_41) (k := (55 + 10 * i + 2)) ff_45) ⟨va_cnB 0 hts (hwGood (hwAll mm_185)) rfl rfl rfl (hO.2 _ (List.mem_of_getElem? (i := 2) rfl)) (hts (.initialized RText) (hwMem mm_45)) (by decide +kernel) ⟨Nat.le_of_ble_eq_true rfl, Nat.le_of_ble_eq_true rfl⟩, rfl, hts _ (hwMem mm_186)⟩ (hw_preS hK hO hZ) rfl rfl hl.1 rfl (lv_room (Nat.le_of_ble_eq_true rfl)) dItem_init_37 ⟨(show 6 + 1 ≤ 9 by omega), (show (0 + 4 + 3 + 4 + 3 + 4 + 3) + 4 ≤ 32 by omega)⟩) hZ hA (fun X_46 H_47 lc_48 hp hZ => ?_)
  obtain ⟨hF, hN_49⟩ := hp
  have hFr := hwF.tr hFr hF (fun _ h => h) (fun M h => by first | exact False.elim h | ((try dsimp only at h ⊢); omega))
  have f0_ := hF _ _ _ (by intro hNS; first | exact False.elim hNS | ((try dsimp only at hNS); omega)) f0_
  have ff_5 := hF _ _ _ (by intro hNS; first | exact False.elim hNS | ((try dsimp only at hNS); omega)) ff_5
  have ff_22 := txAt.fr hF (by intro hNS; first | exact False.elim hNS | ((try dsimp only at hNS); omega)) (by intro hNS; first | exact False.elim hNS | ((try dsimp only at hNS); omega)) ff_22
  have ff_36 := txAt.fr hF (by intro hNS; first | exact False.elim hNS | ((try dsimp only at hNS); omega)) (by intro hNS; first | exact False.elim hNS | ((try dsimp only at hNS); omega)) ff_36
  have ff_50 := hN_49
  obtain ⟨_, _, hob⟩ := txAt.ob ff_50
  refine hw_astq hx hb hK hZ 5 3 ff_5 rfl hob rfl (j := 2) (by omega) (by omega) dItem_init_40 (fun X_51 H_52 lc_53 hZ hF hNw => ?_)
  have hFr := hwF.tr hFr hF (fun _ h => h) (fun M h => by first | exact False.elim h | ((try dsimp only at h ⊢); omega))
  have f0_ := hF _ _ _ (by intro hNS; first | exact False.elim hNS | ((try dsimp only at hNS); omega)) f0_
  have ff_5 := hNw
  have ff_22 := txAt.fr hF (by intro hNS; first | exact False.elim hNS | ((try dsimp only at hNS); omega)) (by intro hNS; first | exact False.elim hNS | ((try dsimp only at hNS); omega)) ff_22
  have ff_36 := txAt.fr hF (by intro hNS; first | exact False.elim hNS | ((try dsimp only at hNS); omega)) (by intro hNS; first | exact False.elim hNS | ((try dsimp only at hNS); omega)) ff_36
  have ff_50 := txAt.fr hF (by intro hNS; first | exact False.elim hNS | ((try dsimp only at hNS); omega)) (by intro hNS; first | exact False.elim hNS | ((try dsimp only at hNS); omega)) ff_50
  refine lv_iinc (v := nI 3) (lv' := [(1, .int (nI 3)), (0, .ref a)]) hx hb dItem_init_41 hl (k := 0) rfl (by decide) (by decide) rfl (fun ls hl => ?_)
  refine lv_goto (tgt := 19) hx hb dItem_init_44 (by decide) ?_
  refine lv_iload_n hx hb dItem_init_19 rfl (lv_at hl 0 rfl) ?_
  refine lv_aload_n hx hb dItem_init_20 rfl (lv_at hl 1 rfl) ?_
  refine hw_get hx hb hts (hwInn inItem) hown hK hZ f0_ rfl 0 (by decide) (hts (.fieldLink RItem 11 RItem "texts" "[LWordIndex2$Text;") (hwMem mm_182)) (fun _ h => h) rfl dItem_init_21 ?_
  refine hw_alen hx hb hK hZ 5 ff_5 rfl dItem_init_24 ?_
  refine hw_ic_ge (a := 3) (b := 4) (tgt := 47) hx hb dItem_init_25 (by decide) (by omega) (by omega) (fun cq_54 => by exfalso; omega) (fun cq_54 => ?_)
  refine lv_aload_n hx hb dItem_init_28 rfl (lv_at hl 1 rfl) ?_
  refine hw_get hx hb hts (hwInn inItem) hown hK hZ f0_ rfl 0 (by decide) (hts (.fieldLink RItem 11 RItem "texts" "[LWordIndex2$Text;") (hwMem mm_182)) (fun _ h => h) rfl dItem_init_29 ?_
  refine lv_iload_n hx hb dItem_init_32 rfl (lv_at hl 0 rfl) ?_
  refine hw_new (ci := 3) (fs := [.null, .int (nI 0), .int (nI 0)]) hx hb hts (hwInn inText) tyText tyText_ok hown (hts (.classLink RItem 9 RText) (hwMem mm_181)) (hts (.instantiable RText 3) (hwMem mm_184)) (hts (.initialized RText) (hwMem mm_45)) hK hZ hA rfl (fun j hj => by rcases (show j = 0 ∨ j = 1 ∨ j = 2 by omega) with rfl | rfl | rfl <;> rfl) (show 7 + 1 ≤ 9 by omega) (show (0 + 4 + 3 + 4 + 3 + 4 + 3 + 4) + 3 ≤ 32 by omega) dItem_init_33 (2 * (55 + 10 * i + 3)) (fun qq_55 X_56 H_57 hZ hF hNw => ?_)
  have hFr := hwF.tr hFr hF (fun _ h => h) (fun M h => by first | exact False.elim h | ((try dsimp only at h ⊢); omega))
  have f0_ := hF _ _ _ (by intro hNS; first | exact False.elim hNS | ((try dsimp only at hNS); omega)) f0_
  have ff_5 := hF _ _ _ (by intro hNS; first | exact False.elim hNS | ((try dsimp only at hNS); omega)) ff_5
  have ff_22 := txAt.fr hF (by intro hNS; first | exact False.elim hNS | ((try dsimp only at hNS); omega)) (by intro hNS; first | exact False.elim hNS | ((try dsimp only at hNS); omega)) ff_22
  have ff_36 := txAt.fr hF (by intro hNS; first | exact False.elim hNS | ((try dsimp only at hNS); omega)) (by intro hNS; first | exact False.elim hNS | ((try dsimp only at hNS); omega)) ff_36
  have ff_50 := txAt.fr hF (by intro hNS; first | exact False.elim hNS | ((try dsimp only at hNS); omega)) (by intro hNS; first | exact False.elim hNS | ((try dsimp only at hNS); omega)) ff_50
  have ff_59 := hNw
  refine lv_dup hx hb dItem_init_36 rfl ?_
  refine hw_callv (va_runIN (As := []) (rest := [.ref qq_55, .int (nI 3), .ref qq_1]) ⟨hx, hb, hml, hown, hts⟩ (c_Tx_init l D K X_56 H_57.size (a := qq_55) (k := (55 + 10 * i + 3)) ff_59) ⟨va_cnB 0 hts (hwGood (hwAll mm_185)) rfl rfl rfl (hO.2 _ (List.mem_of_getElem? (i := 2) rfl)) (hts (.initialized RText) (hwMem mm_45)) (by decide +kernel) ⟨Nat.le_of_ble_eq_true rfl, Nat.le_of_ble_eq_true rfl⟩, rfl, hts _ (hwMem mm_186)⟩ (hw_preS hK hO hZ) rfl rfl hl.1 rfl (lv_room (Nat.le_of_ble_eq_true rfl)) dItem_init_37 ⟨(show 8 + 1 ≤ 9 by omega), (show (0 + 4 + 3 + 4 + 3 + 4 + 3 + 4 + 3) + 4 ≤ 32 by omega)⟩) hZ hA (fun X_60 H_61 lc_62 hp hZ => ?_)
  obtain ⟨hF, hN_63⟩ := hp
  have hFr := hwF.tr hFr hF (fun _ h => h) (fun M h => by first | exact False.elim h | ((try dsimp only at h ⊢); omega))
  have f0_ := hF _ _ _ (by intro hNS; first | exact False.elim hNS | ((try dsimp only at hNS); omega)) f0_
  have ff_5 := hF _ _ _ (by intro hNS; first | exact False.elim hNS | ((try dsimp only at hNS); omega)) ff_5
  have ff_22 := txAt.fr hF (by intro hNS; first | exact False.elim hNS | ((try dsimp only at hNS); omega)) (by intro hNS; first | exact False.elim hNS | ((try dsimp only at hNS); omega)) ff_22
  have ff_36 := txAt.fr hF (by intro hNS; first | exact False.elim hNS | ((try dsimp only at hNS); omega)) (by intro hNS; first | exact False.elim hNS | ((try dsimp only at hNS); omega)) ff_36
  have ff_50 := txAt.fr hF (by intro hNS; first | exact False.elim hNS | ((try dsimp only at hNS); omega)) (by intro hNS; first | exact False.elim hNS | ((try dsimp only at hNS); omega)) ff_50
  have ff_64 := hN_63
  obtain ⟨_, _, hob⟩ := txAt.ob ff_64
  refine hw_astq hx hb hK hZ 5 3 ff_5 rfl hob rfl (j := 3) (by omega) (by omega) dItem_init_40 (fun X_65 H_66 lc_67 hZ hF hNw => ?_)
  have hFr := hwF.tr hFr hF (fun _ h => h) (fun M h => by first | exact False.elim h | ((try dsimp only at h ⊢); omega))
  have f0_ := hF _ _ _ (by intro hNS; first | exact False.elim hNS | ((try dsimp only at hNS); omega)) f0_
  have ff_5 := hNw
  have ff_22 := txAt.fr hF (by intro hNS; first | exact False.elim hNS | ((try dsimp only at hNS); omega)) (by intro hNS; first | exact False.elim hNS | ((try dsimp only at hNS); omega)) ff_22
  have ff_36 := txAt.fr hF (by intro hNS; first | exact False.elim hNS | ((try dsimp only at hNS); omega)) (by intro hNS; first | exact False.elim hNS | ((try dsimp only at hNS); omega)) ff_36
  have ff_50 := txAt.fr hF (by intro hNS; first | exact False.elim hNS | ((try dsimp only at hNS); omega)) (by intro hNS; first | exact False.elim hNS | ((try dsimp only at hNS); omega)) ff_50
  have ff_64 := txAt.fr hF (by intro hNS; first | exact False.elim hNS | ((try dsimp only at hNS); omega)) (by intro hNS; first | exact False.elim hNS | ((try dsimp only at hNS); omega)) ff_64
  refine lv_iinc (v := nI 4) (lv' := [(1, .int (nI 4)), (0, .ref a)]) hx hb dItem_init_41 hl (k := 0) rfl (by decide) (by decide) rfl (fun ls hl => ?_)
  refine lv_goto (tgt := 19) hx hb dItem_init_44 (by decide) ?_
  refine lv_iload_n hx hb dItem_init_19 rfl (lv_at hl 0 rfl) ?_
  refine lv_aload_n hx hb dItem_init_20 rfl (lv_at hl 1 rfl) ?_
  refine hw_get hx hb hts (hwInn inItem) hown hK hZ f0_ rfl 0 (by decide) (hts (.fieldLink RItem 11 RItem "texts" "[LWordIndex2$Text;") (hwMem mm_182)) (fun _ h => h) rfl dItem_init_21 ?_
  refine hw_alen hx hb hK hZ 5 ff_5 rfl dItem_init_24 ?_
  refine hw_ic_ge (a := 4) (b := 4) (tgt := 47) hx hb dItem_init_25 (by decide) (by omega) (by omega) (fun cq_68 => ?_) (fun cq_68 => by exfalso; omega)
  refine W.widen (k := 9) (n := 32) (by omega) (by omega) ?_
  exact hret hZ ⟨hFr, qq_1, _, f0_, ff_5, fun j hj => match j, hj with | 0, _ => ⟨_, rfl, ff_22⟩ | 1, _ => ⟨_, rfl, ff_36⟩ | 2, _ => ⟨_, rfl, ff_50⟩ | 3, _ => ⟨_, rfl, ff_64⟩ | _ + 4, h => absurd h (by omega)⟩ dItem_init_47
end
section
/-- the way to a field's text: record i, kind j -/
def piAt (X : hwW) (fi : Nat → Option Nat) (i : Nat) (th : Bool) : Prop := ∃ (b q : Nat), fi i = some b ∧ hwH X b (100 + 20 * i) (.inr (1, [.ref q, .int (bI th)]))
def ptAt (K : Nat → ClassId) (X : hwW) (fi : Nat → Option Nat) (i j : Nat) (th : Bool) (t : Nat) : Prop := ∃ (b q : Nat) (f : Nat → Option Nat), fi i = some b ∧ hwH X b (100 + 20 * i) (.inr (1, [.ref q, .int (bI th)])) ∧ hwH X q (101 + 20 * i) (.inl (K 5, 4, .inr (.inr (.inr (.inr f))))) ∧ f j = some t
theorem itsAt.pi {K : Nat → ClassId} {X : hwW} {fi : Nat → Option Nat} {its : hwIt} (h : itsAt K X fi its) {i : Nat} (hi : i < its.length) : piAt X fi i (its.getD i hwIt0).1 := by
  obtain ⟨b, e, q, f, g0, -⟩ := h i hi
  exact ⟨b, q, e, g0⟩
theorem itsAt.pt {K : Nat → ClassId} {X : hwW} {fi : Nat → Option Nat} {its : hwIt} (h : itsAt K X fi its) {i j : Nat} (hi : i < its.length) (hj : j < 4) : ∃ t : Nat, ptAt K X fi i j (its.getD i hwIt0).1 t ∧ txAt K X t (55 + 10 * i + j) ((its.getD i hwIt0).2 j).1 ((its.getD i hwIt0).2 j).2 := by
  obtain ⟨b, e, q, f, g0, g1, g2⟩ := h i hi
  obtain ⟨t, e2, g⟩ := g2 j hj
  exact ⟨t, ⟨b, q, f, e, g0, g1, e2⟩, g⟩
theorem hwIt_set_ne {its : hwIt} {i k : Nat} {v : Bool × (Nat → List (List Nat) × Nat)} (h : k ≠ i) : (its.set i v).getD k hwIt0 = its.getD k hwIt0 := by
  simp [List.getD, List.getElem?_set_ne (Ne.symm h)]
theorem hwIt_set_eq {its : hwIt} {i : Nat} {v : Bool × (Nat → List (List Nat) × Nat)} (h : i < its.length) : (its.set i v).getD i hwIt0 = v := by
  simp [List.getD, h]
theorem itsAt.upd {K : Nat → ClassId} {D : va_G} {cl : List vw_C} {A : Nat → Prop} {H0 H : Heap} {X Y : hwW} {locs : List Loc} (hZ : hwZ D cl A H0 X H locs) {fi : Nat → Option Nat} {its : hwIt} (h : itsAt K X fi its) {i j t : Nat} {th : Bool} (hi : i < its.length) (hj : j < 4) (hp : ptAt K X fi i j th t) (hF : hwF X Y (fun M => M = 2 * (55 + 10 * i + j) ∨ M = 2 * (55 + 10 * i + j) + 1)) {ws : List (List Nat)} {oo : Nat} (hn : txAt K Y t (55 + 10 * i + j) ws oo) : itsAt K Y fi (its.set i ((its.getD i hwIt0).1, va_up (its.getD i hwIt0).2 j (ws, oo))) := by
  intro k hk
  rw [List.length_set] at hk
  by_cases hki : k = i
  · subst hki
    rw [hwIt_set_eq hk]
    obtain ⟨b, e, q, f, g0, g1, g2⟩ := h k hk
    obtain ⟨b1, q1, f1, e1, p0, p1, p2⟩ := hp
    have hb : b = b1 := Option.some.inj (e.symm.trans e1)
    subst hb
    have h1 := (hwH.one hZ g0 p0).1
    have hq : q = q1 := by
      injection h1 with h1
      injection h1 with h2 h3
      injection h3 with h4 h5
      injection h4
    subst hq
    have h2 := (hwH.one hZ g1 p1).1
    have hf : f = f1 := by
      injection h2 with h2
      injection h2 with h3 h4
      injection h4 with h5 h6
      injection h6 with h6
      injection h6 with h6
      injection h6 with h6
      injection h6
    subst hf
    refine ⟨b, e, q, f, hF _ _ _ (by intro hNS; (try dsimp only at hNS); omega) g0, hF _ _ _ (by intro hNS; (try dsimp only at hNS); omega) g1, fun j2 hj2 => ?_⟩
    by_cases hjj : j2 = j
    · subst hjj
      refine ⟨t, p2, ?_⟩
      show txAt K Y t (55 + 10 * k + j2) (va_up (its.getD k hwIt0).2 j2 (ws, oo) j2).1 (va_up (its.getD k hwIt0).2 j2 (ws, oo) j2).2
      rw [va_up_self]
      exact hn
    · obtain ⟨t2, e2, g⟩ := g2 j2 hj2
      refine ⟨t2, e2, ?_⟩
      show txAt K Y t2 (55 + 10 * k + j2) (va_up (its.getD k hwIt0).2 j (ws, oo) j2).1 (va_up (its.getD k hwIt0).2 j (ws, oo) j2).2
      rw [va_up_ne _ _ hjj]
      exact g.fr hF (by intro hNS; (try dsimp only at hNS); omega) (by intro hNS; (try dsimp only at hNS); omega)
  · rw [hwIt_set_ne hki]
    obtain ⟨b, e, g⟩ := h k hk
    refine ⟨b, e, g.fr hF (fun M h1 h2 hNS => ?_)⟩
    (try dsimp only at hNS)
    omega
/-- a record that is REMOVED -/
theorem itsAt.rem {K : Nat → ClassId} {X Y : hwW} {fi : Nat → Option Nat} {its : hwIt} (h : itsAt K X fi its) {i b q : Nat} (hi : i < its.length) (hb : fi i = some b) {f : Nat → Option Nat} (hg1 : hwH X q (101 + 20 * i) (.inl (K 5, 4, .inr (.inr (.inr (.inr f)))))) (hg2 : ∀ j, j < 4 → ∃ t : Nat, f j = some t ∧ txAt K X t (55 + 10 * i + j) ((its.getD i hwIt0).2 j).1 ((its.getD i hwIt0).2 j).2) (hF : hwF X Y (fun M => M = 100 + 20 * i)) (hn : hwH Y b (100 + 20 * i) (.inr (1, [.ref q, .int (nI 0)]))) : itsAt K Y fi (its.set i (false, (its.getD i hwIt0).2)) := by
  intro k hk
  rw [List.length_set] at hk
  by_cases hki : k = i
  · subst hki
    rw [hwIt_set_eq hk]
    refine ⟨b, hb, q, f, hn, hF _ _ _ (by intro hNS; (try dsimp only at hNS); omega) hg1, fun j hj => ?_⟩
    obtain ⟨t, e, g⟩ := hg2 j hj
    exact ⟨t, e, g.fr hF (by intro hNS; (try dsimp only at hNS); omega) (by intro hNS; (try dsimp only at hNS); omega)⟩
  · rw [hwIt_set_ne hki]
    obtain ⟨b2, e, g⟩ := h k hk
    refine ⟨b2, e, g.fr hF (fun M h1 h2 hNS => ?_)⟩
    (try dsimp only at hNS)
    omega
theorem hwIt_app_lo {its : hwIt} {i : Nat} {v : Bool × (Nat → List (List Nat) × Nat)} (h : i < its.length) : (its ++ [v]).getD i hwIt0 = its.getD i hwIt0 := by simp [List.getD, List.getElem?_append_left h]
theorem hwIt_app_hi {its : hwIt} {v : Bool × (Nat → List (List Nat) × Nat)} : (its ++ [v]).getD its.length hwIt0 = v := by simp [List.getD]
theorem itsAt.push {K : Nat → ClassId} {X : hwW} {fi : Nat → Option Nat} {its : hwIt} (h : itsAt K X fi its) {b : Nat} {v : Bool × (Nat → List (List Nat) × Nat)} (hn : itAt K X b its.length v.1 v.2) : itsAt K X (va_up fi its.length (some b)) (its ++ [v]) := by
  intro k hk
  have hk2 : k < its.length + 1 := by simpa using hk
  by_cases e : k = its.length
  · subst e
    rw [hwIt_app_hi]
    exact ⟨b, va_up_self _ _ _, hn⟩
  · have hl : k < its.length := by omega
    rw [hwIt_app_lo hl]
    obtain ⟨b2, e2, g⟩ := h k hl
    exact ⟨b2, by rw [va_up_ne _ _ e]; exact e2, g⟩
def badK (kind : Int32) : Prop := kind < 0 ∨ nI 4 ≤ kind
def badN (n : Nat) (x : Int32) : Prop := x < nI 1 ∨ nI n < x
theorem hw_nn4 {n : Nat} {x : Int32} (hn : n < 2 ^ 31) (h : nI n ≤ x) : ¬ x < 0 := by
  intro q
  rw [Int32.lt_iff_toInt_lt] at q
  rw [Int32.le_iff_toInt_le, nI_toInt hn] at h
  have e : (0 : Int32).toInt = 0 := rfl
  omega
theorem hw_nlt {a b : Int32} (h : a ≤ b) : ¬ b < a := by
  intro q
  rw [Int32.lt_iff_toInt_lt] at q
  rw [Int32.le_iff_toInt_le] at h
  omega
theorem hw_nle {a b : Int32} (h : a < b) : ¬ b ≤ a := by
  intro q
  rw [Int32.le_iff_toInt_le] at q
  rw [Int32.lt_iff_toInt_lt] at h
  omega
theorem hw_n1 {n : Nat} {x : Int32} (hn : n < 2 ^ 31) (h : nI n < x) : ¬ x < nI 1 := by
  intro q
  rw [Int32.lt_iff_toInt_lt, nI_toInt (by decide)] at q
  rw [Int32.lt_iff_toInt_lt, nI_toInt hn] at h
  omega
theorem getH_out {hs : List (Nat × Nat × Nat)} {j : Nat} (h : hs.length ≤ j) : hs.getD j (0, 0, 0) = (0, 0, 0) := by simp [List.getD, h]
theorem dIx_isKind_0 : decode cIx_isKind 0 = .ok (.iload_n 0, 1) := by decide +kernel
theorem dIx_isKind_1 : decode cIx_isKind 1 = .ok (.ifCond .lt 12, 3) := by decide +kernel
theorem dIx_isKind_4 : decode cIx_isKind 4 = .ok (.iload_n 0, 1) := by decide +kernel
theorem dIx_isKind_5 : decode cIx_isKind 5 = .ok (.iconst 4, 1) := by decide +kernel
theorem dIx_isKind_6 : decode cIx_isKind 6 = .ok (.if_icmp .ge 7, 3) := by decide +kernel
theorem dIx_isKind_9 : decode cIx_isKind 9 = .ok (.iconst 1, 1) := by decide +kernel
theorem dIx_isKind_10 : decode cIx_isKind 10 = .ok (.goto 4, 3) := by decide +kernel
theorem dIx_isKind_13 : decode cIx_isKind 13 = .ok (.iconst 0, 1) := by decide +kernel
theorem dIx_isKind_14 : decode cIx_isKind 14 = .ok (.ireturn, 1) := by decide +kernel
theorem dItem_textAt_0 : decode cItem_textAt 0 = .ok (.iload_n 1, 1) := by decide +kernel
theorem dItem_textAt_1 : decode cItem_textAt 1 = .ok (.ifCond .lt 12, 3) := by decide +kernel
theorem dItem_textAt_4 : decode cItem_textAt 4 = .ok (.iload_n 1, 1) := by decide +kernel
theorem dItem_textAt_5 : decode cItem_textAt 5 = .ok (.aload_n 0, 1) := by decide +kernel
theorem dItem_textAt_6 : decode cItem_textAt 6 = .ok (.getfield 11, 3) := by decide +kernel
theorem dItem_textAt_9 : decode cItem_textAt 9 = .ok (.arraylength, 1) := by decide +kernel
theorem dItem_textAt_10 : decode cItem_textAt 10 = .ok (.if_icmp .lt 7, 3) := by decide +kernel
theorem dItem_textAt_13 : decode cItem_textAt 13 = .ok (.aconst_null, 1) := by decide +kernel
theorem dItem_textAt_14 : decode cItem_textAt 14 = .ok (.goto 9, 3) := by decide +kernel
theorem dItem_textAt_17 : decode cItem_textAt 17 = .ok (.aload_n 0, 1) := by decide +kernel
theorem dItem_textAt_18 : decode cItem_textAt 18 = .ok (.getfield 11, 3) := by decide +kernel
theorem dItem_textAt_21 : decode cItem_textAt 21 = .ok (.iload_n 1, 1) := by decide +kernel
theorem dItem_textAt_22 : decode cItem_textAt 22 = .ok (.aaload, 1) := by decide +kernel
theorem dItem_textAt_23 : decode cItem_textAt 23 = .ok (.areturn, 1) := by decide +kernel
theorem dIx_itemThere_0 : decode cIx_itemThere 0 = .ok (.iload_n 1, 1) := by decide +kernel
theorem dIx_itemThere_1 : decode cIx_itemThere 1 = .ok (.iconst 1, 1) := by decide +kernel
theorem dIx_itemThere_2 : decode cIx_itemThere 2 = .ok (.if_icmp .lt 20, 3) := by decide +kernel
theorem dIx_itemThere_5 : decode cIx_itemThere 5 = .ok (.iload_n 1, 1) := by decide +kernel
theorem dIx_itemThere_6 : decode cIx_itemThere 6 = .ok (.aload_n 0, 1) := by decide +kernel
theorem dIx_itemThere_7 : decode cIx_itemThere 7 = .ok (.getfield 58, 3) := by decide +kernel
theorem dIx_itemThere_10 : decode cIx_itemThere 10 = .ok (.if_icmp .gt 12, 3) := by decide +kernel
theorem dIx_itemThere_13 : decode cIx_itemThere 13 = .ok (.iload_n 1, 1) := by decide +kernel
theorem dIx_itemThere_14 : decode cIx_itemThere 14 = .ok (.aload_n 0, 1) := by decide +kernel
theorem dIx_itemThere_15 : decode cIx_itemThere 15 = .ok (.getfield 11, 3) := by decide +kernel
theorem dIx_itemThere_18 : decode cIx_itemThere 18 = .ok (.arraylength, 1) := by decide +kernel
theorem dIx_itemThere_19 : decode cIx_itemThere 19 = .ok (.if_icmp .le 5, 3) := by decide +kernel
theorem dIx_itemThere_22 : decode cIx_itemThere 22 = .ok (.aconst_null, 1) := by decide +kernel
theorem dIx_itemThere_23 : decode cIx_itemThere 23 = .ok (.areturn, 1) := by decide +kernel
theorem dIx_itemThere_24 : decode cIx_itemThere 24 = .ok (.aload_n 0, 1) := by decide +kernel
theorem dIx_itemThere_25 : decode cIx_itemThere 25 = .ok (.getfield 11, 3) := by decide +kernel
theorem dIx_itemThere_28 : decode cIx_itemThere 28 = .ok (.iload_n 1, 1) := by decide +kernel
theorem dIx_itemThere_29 : decode cIx_itemThere 29 = .ok (.iconst 1, 1) := by decide +kernel
theorem dIx_itemThere_30 : decode cIx_itemThere 30 = .ok (.isub, 1) := by decide +kernel
theorem dIx_itemThere_31 : decode cIx_itemThere 31 = .ok (.aaload, 1) := by decide +kernel
theorem dIx_itemThere_32 : decode cIx_itemThere 32 = .ok (.astore_n 2, 1) := by decide +kernel
theorem dIx_itemThere_33 : decode cIx_itemThere 33 = .ok (.aload_n 2, 1) := by decide +kernel
theorem dIx_itemThere_34 : decode cIx_itemThere 34 = .ok (.ifnull 14, 3) := by decide +kernel
theorem dIx_itemThere_37 : decode cIx_itemThere 37 = .ok (.aload_n 2, 1) := by decide +kernel
theorem dIx_itemThere_38 : decode cIx_itemThere 38 = .ok (.getfield 77, 3) := by decide +kernel
theorem dIx_itemThere_41 : decode cIx_itemThere 41 = .ok (.ifCond .eq 7, 3) := by decide +kernel
theorem dIx_itemThere_44 : decode cIx_itemThere 44 = .ok (.aload_n 2, 1) := by decide +kernel
theorem dIx_itemThere_45 : decode cIx_itemThere 45 = .ok (.goto 4, 3) := by decide +kernel
theorem dIx_itemThere_48 : decode cIx_itemThere 48 = .ok (.aconst_null, 1) := by decide +kernel
theorem dIx_itemThere_49 : decode cIx_itemThere 49 = .ok (.areturn, 1) := by decide +kernel
theorem dIx_textOf_0 : decode cIx_textOf 0 = .ok (.aload_n 0, 1) := by decide +kernel
theorem dIx_textOf_1 : decode cIx_textOf 1 = .ok (.iload_n 1, 1) := by decide +kernel
theorem dIx_textOf_2 : decode cIx_textOf 2 = .ok (.invokevirtual 73, 3) := by decide +kernel
theorem dIx_textOf_5 : decode cIx_textOf 5 = .ok (.astore_n 3, 1) := by decide +kernel
theorem dIx_textOf_6 : decode cIx_textOf 6 = .ok (.aload_n 3, 1) := by decide +kernel
theorem dIx_textOf_7 : decode cIx_textOf 7 = .ok (.ifnonnull 7, 3) := by decide +kernel
theorem dIx_textOf_10 : decode cIx_textOf 10 = .ok (.aconst_null, 1) := by decide +kernel
theorem dIx_textOf_11 : decode cIx_textOf 11 = .ok (.goto 8, 3) := by decide +kernel
theorem dIx_textOf_14 : decode cIx_textOf 14 = .ok (.aload_n 3, 1) := by decide +kernel
theorem dIx_textOf_15 : decode cIx_textOf 15 = .ok (.iload_n 2, 1) := by decide +kernel
theorem dIx_textOf_16 : decode cIx_textOf 16 = .ok (.invokevirtual 170, 3) := by decide +kernel
theorem dIx_textOf_19 : decode cIx_textOf 19 = .ok (.areturn, 1) := by decide +kernel
theorem dIx_clearQuestion_0 : decode cIx_clearQuestion 0 = .ok (.aload_n 0, 1) := by decide +kernel
theorem dIx_clearQuestion_1 : decode cIx_clearQuestion 1 = .ok (.getfield 22, 3) := by decide +kernel
theorem dIx_clearQuestion_4 : decode cIx_clearQuestion 4 = .ok (.invokevirtual 174, 3) := by decide +kernel
theorem dIx_clearQuestion_7 : decode cIx_clearQuestion 7 = .ok (.aload_n 0, 1) := by decide +kernel
theorem dIx_clearQuestion_8 : decode cIx_clearQuestion 8 = .ok (.iconst 0, 1) := by decide +kernel
theorem dIx_clearQuestion_9 : decode cIx_clearQuestion 9 = .ok (.putfield 81, 3) := by decide +kernel
theorem dIx_clearQuestion_12 : decode cIx_clearQuestion 12 = .ok (.return_, 1) := by decide +kernel
theorem mm_187 : (.fieldLink RIx 58 RIx "itemCount" "I" : Cond) ∈ hwG := hwIx 127 (by decide +kernel) (by decide +kernel)
theorem mm_188 : (.fieldLink RIx 11 RIx "items" "[LWordIndex2$Item;" : Cond) ∈ hwG := hwIx 126 (by decide +kernel) (by decide +kernel)
theorem mm_189 : (.code yIx_itemThere cIx_itemThere 3 (some (.object "WordIndex2$Item")) : Cond) ∈ hwG := hwIx 194 (by decide +kernel) (by decide +kernel)
theorem mm_190 : (.methodLink RIx 73 yIx_itemThere : Cond) ∈ hwG := hwIx 191 (by decide +kernel) (by decide +kernel)
theorem mm_191 : (.instanceMethod yIx_itemThere : Cond) ∈ hwG := hwIx 193 (by decide +kernel) (by decide +kernel)
theorem mm_192 : (.selects RIx yIx_itemThere yIx_itemThere : Cond) ∈ hwG := hwIx 1 (by decide +kernel) (by decide +kernel)
theorem mm_193 : (.initialized RIx : Cond) ∈ hwG := hwIx 33 (by decide +kernel) (by decide +kernel)
theorem mm_194 : (.code yItem_textAt cItem_textAt 2 (some (.object "WordIndex2$Text")) : Cond) ∈ hwG := hwIx 198 (by decide +kernel) (by decide +kernel)
theorem mm_195 : (.methodLink RIx 170 yItem_textAt : Cond) ∈ hwG := hwIx 195 (by decide +kernel) (by decide +kernel)
theorem mm_196 : (.instanceMethod yItem_textAt : Cond) ∈ hwG := hwIx 196 (by decide +kernel) (by decide +kernel)
theorem mm_197 : (.selects RItem yItem_textAt yItem_textAt : Cond) ∈ hwG := hwIx 197 (by decide +kernel) (by decide +kernel)
theorem mm_198 : (.initialized RItem : Cond) ∈ hwG := hwIx 40 (by decide +kernel) (by decide +kernel)
theorem mm_199 : (.fieldLink RIx 22 RIx "question" "LWordIndex2$Text;" : Cond) ∈ hwG := hwIx 130 (by decide +kernel) (by decide +kernel)
theorem mm_200 : (.code yText_clear cText_clear 1 none : Cond) ∈ hwG := hwIx 304 (by decide +kernel) (by decide +kernel)
theorem mm_201 : (.methodLink RIx 174 yText_clear : Cond) ∈ hwG := hwIx 301 (by decide +kernel) (by decide +kernel)
theorem mm_202 : (.instanceMethod yText_clear : Cond) ∈ hwG := hwIx 302 (by decide +kernel) (by decide +kernel)
theorem mm_203 : (.selects RText yText_clear yText_clear : Cond) ∈ hwG := hwIx 303 (by decide +kernel) (by decide +kernel)
theorem mm_204 : (.fieldLink RIx 81 RIx "questionSigns" "I" : Cond) ∈ hwG := hwIx 131 (by decide +kernel) (by decide +kernel)
set_option maxHeartbeats 4000000 in
set_option maxRecDepth 100000 in
theorem c_Hi_sizeP (l : Launch) (D : va_G) (K : Nat → ClassId) (X : hwW) (sz : Nat) (a : Nat) (hs : List (Nat × Nat × Nat)) (f0_ : hiAt K X a hs) : Met l yHits_size (.code yHits_size cHits_size 1 (some .int) :: hwG) ({ frames := 0, cells := 0, slots := 0, locals := 0 } : Room) (hwPc D vwCl (hwT K) [.ref a] X sz) (hwQi D vwCl X sz (fun r Y => r = nI hs.length ∧ X = Y ∧ hs.length ≤ 30)) 0 0 (va_A X.1 sz) := by
  refine hwMeti (cc := cHits_size) (maxL := 1) (by decide) rfl (Nat.le_of_ble_eq_true rfl) (fun p e s m args below meth c ls A Q hx hb hml hown hts hname hret hK hO hZ hA hl => ?_)
  have hl : lv_has ls 1 [(0, .ref a)] := hl
  obtain ⟨q1, q2, q3, f1, f2, f3, g0, g1, g2, g3, hn30, hv1, hv2, hv3, hB⟩ := f0_
  refine lv_aload_n hx hb dHits_size_0 rfl (lv_at hl 0 rfl) ?_
  refine hw_get hx hb hts (hwInn inHits) hown hK hZ g0 rfl 3 (by decide) (hts (.fieldLink RHits 21 RHits "count" "I") (hwMem mm_90)) (fun _ h => h) rfl dHits_size_1 ?_
  exact hret hZ ⟨rfl, rfl, hn30⟩ dHits_size_4
set_option maxHeartbeats 4000000 in
set_option maxRecDepth 100000 in
theorem c_Hi_clearP (l : Launch) (D : va_G) (K : Nat → ClassId) (X : hwW) (sz : Nat) (a : Nat) (hs : List (Nat × Nat × Nat)) (f0_ : hiAt K X a hs) : Met l yHits_clear (.code yHits_clear cHits_clear 1 none :: hwG) ({ frames := 0, cells := 0, slots := 0, locals := 0 } : Room) (hwPc D vwCl (hwT K) [.ref a] X sz) (hwQv D vwCl X sz (fun Y => hwF X Y (fun M => 60 ≤ M ∧ M ≤ 63) ∧ hiAt K Y a [])) 0 0 (va_A X.1 sz) := by
  refine hwMetv (cc := cHits_clear) (maxL := 1) (by decide) rfl (Nat.le_of_ble_eq_true rfl) (fun p e s m args below meth c ls A Q hx hb hml hown hts hname hret hK hO hZ hA hl => ?_)
  have hl : lv_has ls 1 [(0, .ref a)] := hl
  have hFr : hwF X X (fun M => 60 ≤ M ∧ M ≤ 63) := hwF.rf
  obtain ⟨q1, q2, q3, f1, f2, f3, g0, g1, g2, g3, hn30, hv1, hv2, hv3, hB⟩ := f0_
  refine lv_aload_n hx hb dHits_clear_0 rfl (lv_at hl 0 rfl) ?_
  refine lv_iconst (v := nI 0) hx hb dHits_clear_1 (by decide) ?_
  refine hw_put (ty := .int) (fs' := [.ref q1, .ref q2, .ref q3, .int (nI 0)]) hx hb hts (hwInn inHits) tyHits tyHits_ok nmHits hown hK hZ g0 rfl 3 (by decide) (hts (.fieldLink RHits 21 RHits "count" "I") (hwMem mm_90)) (fun _ h => h) rfl (by decide +kernel) rfl rfl (Nat.le_of_ble_eq_true rfl) rfl dHits_clear_2 (fun X_1 H_2 lc_3 hZ hF hNw => ?_)
  have hFr := hwF.tr hFr hF (fun _ h => h) (fun M h => by first | exact False.elim h | ((try dsimp only at h ⊢); omega))
  have g0 := hNw
  have g1 := hF _ _ _ (by intro hNS; first | exact False.elim hNS | ((try dsimp only at hNS); omega)) g1
  have g2 := hF _ _ _ (by intro hNS; first | exact False.elim hNS | ((try dsimp only at hNS); omega)) g2
  have g3 := hF _ _ _ (by intro hNS; first | exact False.elim hNS | ((try dsimp only at hNS); omega)) g3
  exact hret hZ ⟨hFr, q1, q2, q3, f1, f2, f3, g0, g1, g2, g3, Nat.zero_le _, ivec.nil, ivec.nil, ivec.nil, fun _ h => absurd h List.not_mem_nil⟩ dHits_clear_5
set_option maxHeartbeats 4000000 in
set_option maxRecDepth 100000 in
theorem c_Hi_numP (l : Launch) (D : va_G) (K : Nat → ClassId) (X : hwW) (sz : Nat) (a : Nat) (hs : List (Nat × Nat × Nat)) (j : Nat) (f0_ : hiAt K X a hs) (hj : j < 2147483648) : Met l yHits_numberAt (.code yHits_numberAt cHits_numberAt 2 (some .int) :: hwG) ({ frames := 1, cells := 0, slots := 0, locals := 21 } : Room) (hwPc D vwCl (hwT K) [.ref a, .int (nI j)] X sz) (hwQi D vwCl X sz (fun r Y => r = nI (hs.getD j (0, 0, 0)).1 ∧ X = Y ∧ (hs.getD j (0, 0, 0)).1 ≤ 1000)) 0 0 (va_A X.1 sz) := by
  refine hwMeti (cc := cHits_numberAt) (maxL := 2) (by decide) rfl (Nat.le_of_ble_eq_true rfl) (fun p e s m args below meth c ls A Q hx hb hml hown hts hname hret hK hO hZ hA hl => ?_)
  have hl : lv_has ls 2 [(0, .ref a), (1, .int (nI j))] := hl
  obtain ⟨q1, q2, q3, f1, f2, f3, g0, g1, g2, g3, hn30, hv1, hv2, hv3, hB⟩ := f0_
  refine lv_aload_n hx hb dHits_numberAt_0 rfl (lv_at hl 0 rfl) ?_
  refine lv_iload_n hx hb dHits_numberAt_1 rfl (lv_at hl 1 rfl) ?_
  refine hw_calli (va_runV (As := [.int (nI j)]) (rest := []) ⟨hx, hb, hml, hown, hts⟩ (c_Hi_is l D K X s.heap.size (a := a) (L := 60) (q1 := q1) (q2 := q2) (q3 := q3) (n := hs.length) (j := j) g0 (by omega) (by omega)) (cwV 1 hts (hwGood (hw_4 mm_92 mm_93 mm_94 mm_95 (hwAll mm_91))) rfl rfl rfl (by decide +kernel) ⟨Nat.le_of_ble_eq_true rfl, Nat.le_of_ble_eq_true rfl⟩) (hw_preV hK hO hZ (⟨_, _, g0⟩) rfl) rfl rfl hl.1 rfl (lv_room (Nat.le_of_ble_eq_true rfl)) dHits_numberAt_2 ⟨(show 0 + 0 ≤ 0 by omega), (show 0 + 0 ≤ 0 by omega)⟩) hZ hA (fun r X_1 H_2 lc_3 hp hZ => ?_)
  obtain ⟨hr, hy⟩ := hp
  subst hy
  refine hw_topi hr ?_
  refine hw_bz_eq (tgt := 17) hx hb dHits_numberAt_5 (by decide) (fun cq_4 => ?_) (fun cq_4 => ?_)
  · refine lv_iconst (v := nI 0) hx hb dHits_numberAt_17 (by decide) ?_
    exact hret hZ ⟨by rw [getH_out (by have := of_decide_eq_false cq_4; omega)], rfl, (okH.at hB j).1⟩ dHits_numberAt_18
  · have hj2 := of_decide_eq_true cq_4
    refine lv_aload_n hx hb dHits_numberAt_8 rfl (lv_at hl 0 rfl) ?_
    refine hw_get hx hb hts (hwInn inHits) hown hK hZ g0 rfl 0 (by decide) (hts (.fieldLink RHits 9 RHits "numbers" "[I") (hwMem mm_96)) (fun _ h => h) rfl dHits_numberAt_9 ?_
    refine lv_iload_n hx hb dHits_numberAt_12 rfl (lv_at hl 1 rfl) ?_
    refine hw_iald hx hb hK hZ 0 g1 rfl (j := j) (by omega) (by omega) dHits_numberAt_13 ?_
    refine lv_goto (tgt := 18) hx hb dHits_numberAt_14 (by decide) ?_
    exact hret hZ ⟨hv1 j hj2, rfl, (okH.at hB j).1⟩ dHits_numberAt_18
set_option maxHeartbeats 4000000 in
set_option maxRecDepth 100000 in
theorem c_Hi_numPN (l : Launch) (D : va_G) (K : Nat → ClassId) (X : hwW) (sz : Nat) (a : Nat) (hs : List (Nat × Nat × Nat)) (i : Int32) (f0_ : hiAt K X a hs) (hi : i < 0) : Met l yHits_numberAt (.code yHits_numberAt cHits_numberAt 2 (some .int) :: hwG) ({ frames := 1, cells := 0, slots := 0, locals := 21 } : Room) (hwPc D vwCl (hwT K) [.ref a, .int i] X sz) (hwQi D vwCl X sz (fun r Y => r = nI 0 ∧ X = Y)) 0 0 (va_A X.1 sz) := by
  refine hwMeti (cc := cHits_numberAt) (maxL := 2) (by decide) rfl (Nat.le_of_ble_eq_true rfl) (fun p e s m args below meth c ls A Q hx hb hml hown hts hname hret hK hO hZ hA hl => ?_)
  have hl : lv_has ls 2 [(0, .ref a), (1, .int i)] := hl
  obtain ⟨q1, q2, q3, f1, f2, f3, g0, g1, g2, g3, hn30, hv1, hv2, hv3, hB⟩ := f0_
  refine lv_aload_n hx hb dHits_numberAt_0 rfl (lv_at hl 0 rfl) ?_
  refine lv_iload_n hx hb dHits_numberAt_1 rfl (lv_at hl 1 rfl) ?_
  refine hw_calli (va_runV (As := [.int i]) (rest := []) ⟨hx, hb, hml, hown, hts⟩ (c_Hi_isN l D K X s.heap.size (a := a) (L := 60) (q1 := q1) (q2 := q2) (q3 := q3) (n := hs.length) (i := i) g0 (by assumption)) (cwV 1 hts (hwGood (hw_4 mm_92 mm_93 mm_94 mm_95 (hwAll mm_91))) rfl rfl rfl (by decide +kernel) ⟨Nat.le_of_ble_eq_true rfl, Nat.le_of_ble_eq_true rfl⟩) (hw_preV hK hO hZ (⟨_, _, g0⟩) rfl) rfl rfl hl.1 rfl (lv_room (Nat.le_of_ble_eq_true rfl)) dHits_numberAt_2 ⟨(show 0 + 0 ≤ 0 by omega), (show 0 + 0 ≤ 0 by omega)⟩) hZ hA (fun r X_1 H_2 lc_3 hp hZ => ?_)
  obtain ⟨hr, hy⟩ := hp
  subst hy
  refine hw_topi hr ?_
  refine hw_bz_eqT (tgt := 17) hx hb dHits_numberAt_5 (by decide) rfl ?_
  refine lv_iconst (v := nI 0) hx hb dHits_numberAt_17 (by decide) ?_
  exact hret hZ ⟨rfl, rfl⟩ dHits_numberAt_18
set_option maxHeartbeats 4000000 in
set_option maxRecDepth 100000 in
theorem c_Hi_cntP (l : Launch) (D : va_G) (K : Nat → ClassId) (X : hwW) (sz : Nat) (a : Nat) (hs : List (Nat × Nat × Nat)) (j : Nat) (f0_ : hiAt K X a hs) (hj : j < 2147483648) : Met l yHits_countAt (.code yHits_countAt cHits_countAt 2 (some .int) :: hwG) ({ frames := 1, cells := 0, slots := 0, locals := 21 } : Room) (hwPc D vwCl (hwT K) [.ref a, .int (nI j)] X sz) (hwQi D vwCl X sz (fun r Y => r = nI (hs.getD j (0, 0, 0)).2.1 ∧ X = Y ∧ (hs.getD j (0, 0, 0)).2.1 ≤ 1000)) 0 0 (va_A X.1 sz) := by
  refine hwMeti (cc := cHits_countAt) (maxL := 2) (by decide) rfl (Nat.le_of_ble_eq_true rfl) (fun p e s m args below meth c ls A Q hx hb hml hown hts hname hret hK hO hZ hA hl => ?_)
  have hl : lv_has ls 2 [(0, .ref a), (1, .int (nI j))] := hl
  obtain ⟨q1, q2, q3, f1, f2, f3, g0, g1, g2, g3, hn30, hv1, hv2, hv3, hB⟩ := f0_
  refine lv_aload_n hx hb dHits_countAt_0 rfl (lv_at hl 0 rfl) ?_
  refine lv_iload_n hx hb dHits_countAt_1 rfl (lv_at hl 1 rfl) ?_
  refine hw_calli (va_runV (As := [.int (nI j)]) (rest := []) ⟨hx, hb, hml, hown, hts⟩ (c_Hi_is l D K X s.heap.size (a := a) (L := 60) (q1 := q1) (q2 := q2) (q3 := q3) (n := hs.length) (j := j) g0 (by omega) (by omega)) (cwV 1 hts (hwGood (hw_4 mm_92 mm_93 mm_94 mm_95 (hwAll mm_91))) rfl rfl rfl (by decide +kernel) ⟨Nat.le_of_ble_eq_true rfl, Nat.le_of_ble_eq_true rfl⟩) (hw_preV hK hO hZ (⟨_, _, g0⟩) rfl) rfl rfl hl.1 rfl (lv_room (Nat.le_of_ble_eq_true rfl)) dHits_countAt_2 ⟨(show 0 + 0 ≤ 0 by omega), (show 0 + 0 ≤ 0 by omega)⟩) hZ hA (fun r X_1 H_2 lc_3 hp hZ => ?_)
  obtain ⟨hr, hy⟩ := hp
  subst hy
  refine hw_topi hr ?_
  refine hw_bz_eq (tgt := 17) hx hb dHits_countAt_5 (by decide) (fun cq_4 => ?_) (fun cq_4 => ?_)
  · refine lv_iconst (v := nI 0) hx hb dHits_countAt_17 (by decide) ?_
    exact hret hZ ⟨by rw [getH_out (by have := of_decide_eq_false cq_4; omega)], rfl, (okH.at hB j).2.1⟩ dHits_countAt_18
  · have hj2 := of_decide_eq_true cq_4
    refine lv_aload_n hx hb dHits_countAt_8 rfl (lv_at hl 0 rfl) ?_
    refine hw_get hx hb hts (hwInn inHits) hown hK hZ g0 rfl 1 (by decide) (hts (.fieldLink RHits 15 RHits "counts" "[I") (hwMem mm_97)) (fun _ h => h) rfl dHits_countAt_9 ?_
    refine lv_iload_n hx hb dHits_countAt_12 rfl (lv_at hl 1 rfl) ?_
    refine hw_iald hx hb hK hZ 0 g2 rfl (j := j) (by omega) (by omega) dHits_countAt_13 ?_
    refine lv_goto (tgt := 18) hx hb dHits_countAt_14 (by decide) ?_
    exact hret hZ ⟨hv2 j hj2, rfl, (okH.at hB j).2.1⟩ dHits_countAt_18
set_option maxHeartbeats 4000000 in
set_option maxRecDepth 100000 in
theorem c_Hi_cntPN (l : Launch) (D : va_G) (K : Nat → ClassId) (X : hwW) (sz : Nat) (a : Nat) (hs : List (Nat × Nat × Nat)) (i : Int32) (f0_ : hiAt K X a hs) (hi : i < 0) : Met l yHits_countAt (.code yHits_countAt cHits_countAt 2 (some .int) :: hwG) ({ frames := 1, cells := 0, slots := 0, locals := 21 } : Room) (hwPc D vwCl (hwT K) [.ref a, .int i] X sz) (hwQi D vwCl X sz (fun r Y => r = nI 0 ∧ X = Y)) 0 0 (va_A X.1 sz) := by
  refine hwMeti (cc := cHits_countAt) (maxL := 2) (by decide) rfl (Nat.le_of_ble_eq_true rfl) (fun p e s m args below meth c ls A Q hx hb hml hown hts hname hret hK hO hZ hA hl => ?_)
  have hl : lv_has ls 2 [(0, .ref a), (1, .int i)] := hl
  obtain ⟨q1, q2, q3, f1, f2, f3, g0, g1, g2, g3, hn30, hv1, hv2, hv3, hB⟩ := f0_
  refine lv_aload_n hx hb dHits_countAt_0 rfl (lv_at hl 0 rfl) ?_
  refine lv_iload_n hx hb dHits_countAt_1 rfl (lv_at hl 1 rfl) ?_
  refine hw_calli (va_runV (As := [.int i]) (rest := []) ⟨hx, hb, hml, hown, hts⟩ (c_Hi_isN l D K X s.heap.size (a := a) (L := 60) (q1 := q1) (q2 := q2) (q3 := q3) (n := hs.length) (i := i) g0 (by assumption)) (cwV 1 hts (hwGood (hw_4 mm_92 mm_93 mm_94 mm_95 (hwAll mm_91))) rfl rfl rfl (by decide +kernel) ⟨Nat.le_of_ble_eq_true rfl, Nat.le_of_ble_eq_true rfl⟩) (hw_preV hK hO hZ (⟨_, _, g0⟩) rfl) rfl rfl hl.1 rfl (lv_room (Nat.le_of_ble_eq_true rfl)) dHits_countAt_2 ⟨(show 0 + 0 ≤ 0 by omega), (show 0 + 0 ≤ 0 by omega)⟩) hZ hA (fun r X_1 H_2 lc_3 hp hZ => ?_)
  obtain ⟨hr, hy⟩ := hp
  subst hy
  refine hw_topi hr ?_
  refine hw_bz_eqT (tgt := 17) hx hb dHits_countAt_5 (by decide) rfl ?_
  refine lv_iconst (v := nI 0) hx hb dHits_countAt_17 (by decide) ?_
  exact hret hZ ⟨rfl, rfl⟩ dHits_countAt_18
set_option maxHeartbeats 4000000 in
set_option maxRecDepth 100000 in
theorem c_Hi_sizP (l : Launch) (D : va_G) (K : Nat → ClassId) (X : hwW) (sz : Nat) (a : Nat) (hs : List (Nat × Nat × Nat)) (j : Nat) (f0_ : hiAt K X a hs) (hj : j < 2147483648) : Met l yHits_sizeAt (.code yHits_sizeAt cHits_sizeAt 2 (some .int) :: hwG) ({ frames := 1, cells := 0, slots := 0, locals := 21 } : Room) (hwPc D vwCl (hwT K) [.ref a, .int (nI j)] X sz) (hwQi D vwCl X sz (fun r Y => r = nI (hs.getD j (0, 0, 0)).2.2 ∧ X = Y ∧ (hs.getD j (0, 0, 0)).2.2 ≤ 1000)) 0 0 (va_A X.1 sz) := by
  refine hwMeti (cc := cHits_sizeAt) (maxL := 2) (by decide) rfl (Nat.le_of_ble_eq_true rfl) (fun p e s m args below meth c ls A Q hx hb hml hown hts hname hret hK hO hZ hA hl => ?_)
  have hl : lv_has ls 2 [(0, .ref a), (1, .int (nI j))] := hl
  obtain ⟨q1, q2, q3, f1, f2, f3, g0, g1, g2, g3, hn30, hv1, hv2, hv3, hB⟩ := f0_
  refine lv_aload_n hx hb dHits_sizeAt_0 rfl (lv_at hl 0 rfl) ?_
  refine lv_iload_n hx hb dHits_sizeAt_1 rfl (lv_at hl 1 rfl) ?_
  refine hw_calli (va_runV (As := [.int (nI j)]) (rest := []) ⟨hx, hb, hml, hown, hts⟩ (c_Hi_is l D K X s.heap.size (a := a) (L := 60) (q1 := q1) (q2 := q2) (q3 := q3) (n := hs.length) (j := j) g0 (by omega) (by omega)) (cwV 1 hts (hwGood (hw_4 mm_92 mm_93 mm_94 mm_95 (hwAll mm_91))) rfl rfl rfl (by decide +kernel) ⟨Nat.le_of_ble_eq_true rfl, Nat.le_of_ble_eq_true rfl⟩) (hw_preV hK hO hZ (⟨_, _, g0⟩) rfl) rfl rfl hl.1 rfl (lv_room (Nat.le_of_ble_eq_true rfl)) dHits_sizeAt_2 ⟨(show 0 + 0 ≤ 0 by omega), (show 0 + 0 ≤ 0 by omega)⟩) hZ hA (fun r X_1 H_2 lc_3 hp hZ => ?_)
  obtain ⟨hr, hy⟩ := hp
  subst hy
  refine hw_topi hr ?_
  refine hw_bz_eq (tgt := 17) hx hb dHits_sizeAt_5 (by decide) (fun cq_4 => ?_) (fun cq_4 => ?_)
  · refine lv_iconst (v := nI 0) hx hb dHits_sizeAt_17 (by decide) ?_
    exact hret hZ ⟨by rw [getH_out (by have := of_decide_eq_false cq_4; omega)], rfl, (okH.at hB j).2.2⟩ dHits_sizeAt_18
  · have hj2 := of_decide_eq_true cq_4
    refine lv_aload_n hx hb dHits_sizeAt_8 rfl (lv_at hl 0 rfl) ?_
    refine hw_get hx hb hts (hwInn inHits) hown hK hZ g0 rfl 2 (by decide) (hts (.fieldLink RHits 18 RHits "sizes" "[I") (hwMem mm_98)) (fun _ h => h) rfl dHits_sizeAt_9 ?_
    refine lv_iload_n hx hb dHits_sizeAt_12 rfl (lv_at hl 1 rfl) ?_
    refine hw_iald hx hb hK hZ 0 g3 rfl (j := j) (by omega) (by omega) dHits_sizeAt_13 ?_
    refine lv_goto (tgt := 18) hx hb dHits_sizeAt_14 (by decide) ?_
    exact hret hZ ⟨hv3 j hj2, rfl, (okH.at hB j).2.2⟩ dHits_sizeAt_18
set_option maxHeartbeats 4000000 in
set_option maxRecDepth 100000 in
theorem c_Hi_sizPN (l : Launch) (D : va_G) (K : Nat → ClassId) (X : hwW) (sz : Nat) (a : Nat) (hs : List (Nat × Nat × Nat)) (i : Int32) (f0_ : hiAt K X a hs) (hi : i < 0) : Met l yHits_sizeAt (.code yHits_sizeAt cHits_sizeAt 2 (some .int) :: hwG) ({ frames := 1, cells := 0, slots := 0, locals := 21 } : Room) (hwPc D vwCl (hwT K) [.ref a, .int i] X sz) (hwQi D vwCl X sz (fun r Y => r = nI 0 ∧ X = Y)) 0 0 (va_A X.1 sz) := by
  refine hwMeti (cc := cHits_sizeAt) (maxL := 2) (by decide) rfl (Nat.le_of_ble_eq_true rfl) (fun p e s m args below meth c ls A Q hx hb hml hown hts hname hret hK hO hZ hA hl => ?_)
  have hl : lv_has ls 2 [(0, .ref a), (1, .int i)] := hl
  obtain ⟨q1, q2, q3, f1, f2, f3, g0, g1, g2, g3, hn30, hv1, hv2, hv3, hB⟩ := f0_
  refine lv_aload_n hx hb dHits_sizeAt_0 rfl (lv_at hl 0 rfl) ?_
  refine lv_iload_n hx hb dHits_sizeAt_1 rfl (lv_at hl 1 rfl) ?_
  refine hw_calli (va_runV (As := [.int i]) (rest := []) ⟨hx, hb, hml, hown, hts⟩ (c_Hi_isN l D K X s.heap.size (a := a) (L := 60) (q1 := q1) (q2 := q2) (q3 := q3) (n := hs.length) (i := i) g0 (by assumption)) (cwV 1 hts (hwGood (hw_4 mm_92 mm_93 mm_94 mm_95 (hwAll mm_91))) rfl rfl rfl (by decide +kernel) ⟨Nat.le_of_ble_eq_true rfl, Nat.le_of_ble_eq_true rfl⟩) (hw_preV hK hO hZ (⟨_, _, g0⟩) rfl) rfl rfl hl.1 rfl (lv_room (Nat.le_of_ble_eq_true rfl)) dHits_sizeAt_2 ⟨(show 0 + 0 ≤ 0 by omega), (show 0 + 0 ≤ 0 by omega)⟩) hZ hA (fun r X_1 H_2 lc_3 hp hZ => ?_)
  obtain ⟨hr, hy⟩ := hp
  subst hy
  refine hw_topi hr ?_
  refine hw_bz_eqT (tgt := 17) hx hb dHits_sizeAt_5 (by decide) rfl ?_
  refine lv_iconst (v := nI 0) hx hb dHits_sizeAt_17 (by decide) ?_
  exact hret hZ ⟨rfl, rfl⟩ dHits_sizeAt_18
set_option maxHeartbeats 4000000 in
set_option maxRecDepth 100000 in
theorem c_Ix_isKind (l : Launch) (D : va_G) (K : Nat → ClassId) (X : hwW) (sz : Nat) (j : Nat) (hj : j < 4) : Met l yIx_isKind (.code yIx_isKind cIx_isKind 1 (some .boolean) :: hwG) ({ frames := 0, cells := 0, slots := 0, locals := 0 } : Room) (hwPc D vwCl (hwT K) [.int (nI j)] X sz) (hwQi D vwCl X sz (fun r Y => r = bI true ∧ X = Y)) 0 0 (va_A X.1 sz) := by
  refine hwMetz (cc := cIx_isKind) (maxL := 1) (by decide) rfl (Nat.le_of_ble_eq_true rfl) (fun p e s m args below meth c ls A Q hx hb hml hown hts hname hret hK hO hZ hA hl => ?_)
  have hl : lv_has ls 1 [(0, .int (nI j))] := hl
  refine lv_iload_n hx hb dIx_isKind_0 rfl (lv_at hl 0 rfl) ?_
  refine hw_if_lt (a := j) (tgt := 13) hx hb dIx_isKind_1 (by decide) (by omega) (fun cq_1 => by exfalso; omega) (fun cq_1 => ?_)
  refine lv_iload_n hx hb dIx_isKind_4 rfl (lv_at hl 0 rfl) ?_
  refine lv_iconst (v := nI 4) hx hb dIx_isKind_5 (by decide) ?_
  refine hw_ic_ge (a := j) (b := 4) (tgt := 13) hx hb dIx_isKind_6 (by decide) (by omega) (by omega) (fun cq_2 => by exfalso; omega) (fun cq_2 => ?_)
  refine lv_iconst (v := nI 1) hx hb dIx_isKind_9 (by decide) ?_
  refine lv_goto (tgt := 14) hx hb dIx_isKind_10 (by decide) ?_
  exact hret (by decide) hZ ⟨rfl, rfl⟩ dIx_isKind_14
set_option maxHeartbeats 4000000 in
set_option maxRecDepth 100000 in
theorem c_Ix_isKindB (l : Launch) (D : va_G) (K : Nat → ClassId) (X : hwW) (sz : Nat) (kind : Int32) (hk : badK kind) : Met l yIx_isKind (.code yIx_isKind cIx_isKind 1 (some .boolean) :: hwG) ({ frames := 0, cells := 0, slots := 0, locals := 0 } : Room) (hwPc D vwCl (hwT K) [.int kind] X sz) (hwQi D vwCl X sz (fun r Y => r = bI false ∧ X = Y)) 0 0 (va_A X.1 sz) := by
  refine hwMetz (cc := cIx_isKind) (maxL := 1) (by decide) rfl (Nat.le_of_ble_eq_true rfl) (fun p e s m args below meth c ls A Q hx hb hml hown hts hname hret hK hO hZ hA hl => ?_)
  have hl : lv_has ls 1 [(0, .int kind)] := hl
  rcases hk with hk | hk
  · refine lv_iload_n hx hb dIx_isKind_0 rfl (lv_at hl 0 rfl) ?_
    refine lv_if_lt (tgt := 13) hx hb dIx_isKind_1 (by decide) (fun cq_1 => ?_) (fun cq_1 => absurd hk cq_1)
    refine lv_iconst (v := nI 0) hx hb dIx_isKind_13 (by decide) ?_
    exact hret (by decide) hZ ⟨rfl, rfl⟩ dIx_isKind_14
  · refine lv_iload_n hx hb dIx_isKind_0 rfl (lv_at hl 0 rfl) ?_
    refine lv_if_lt (tgt := 13) hx hb dIx_isKind_1 (by decide) (fun cq_2 => absurd cq_2 (hw_nn4 (n := 4) (by decide) hk)) (fun cq_2 => ?_)
    refine lv_iload_n hx hb dIx_isKind_4 rfl (lv_at hl 0 rfl) ?_
    refine lv_iconst (v := nI 4) hx hb dIx_isKind_5 (by decide) ?_
    refine lv_icmp_ge (tgt := 13) hx hb dIx_isKind_6 (by decide) (fun cq_3 => ?_) (fun cq_3 => absurd hk cq_3)
    refine lv_iconst (v := nI 0) hx hb dIx_isKind_13 (by decide) ?_
    exact hret (by decide) hZ ⟨rfl, rfl⟩ dIx_isKind_14
set_option maxHeartbeats 4000000 in
set_option maxRecDepth 100000 in
theorem c_It_text (l : Launch) (D : va_G) (K : Nat → ClassId) (X : hwW) (sz : Nat) (b : Nat) (q : Nat) (L : Nat) (L1 : Nat) (th : Bool) (f : Nat → Option Nat) (j : Nat) (t : Nat) (f0_ : hwH X b L (.inr (1, [.ref q, .int (bI th)]))) (f1_ : hwH X q L1 (.inl (K 5, 4, .inr (.inr (.inr (.inr f)))))) (hj : j < 4) (ht : f j = some t) : Met l yItem_textAt (.code yItem_textAt cItem_textAt 2 (some (.object "WordIndex2$Text")) :: hwG) ({ frames := 0, cells := 0, slots := 0, locals := 0 } : Room) (hwPc D vwCl (hwT K) [.ref b, .int (nI j)] X sz) (hwQq D vwCl X sz (fun r Y => r = some t ∧ X = Y)) 0 0 (va_A X.1 sz) := by
  refine hwMetq (cc := cItem_textAt) (maxL := 2) (rt := (.object "WordIndex2$Text")) (by first | exact Or.inl ⟨_, rfl⟩ | exact Or.inr ⟨_, rfl⟩) (by decide) rfl (Nat.le_of_ble_eq_true rfl) (fun p e s m args below meth c ls A Q hx hb hml hown hts hname hret hK hO hZ hA hl => ?_)
  have hl : lv_has ls 2 [(0, .ref b), (1, .int (nI j))] := hl
  refine lv_iload_n hx hb dItem_textAt_0 rfl (lv_at hl 1 rfl) ?_
  refine hw_if_lt (a := j) (tgt := 13) hx hb dItem_textAt_1 (by decide) (by omega) (fun cq_1 => by exfalso; omega) (fun cq_1 => ?_)
  refine lv_iload_n hx hb dItem_textAt_4 rfl (lv_at hl 1 rfl) ?_
  refine lv_aload_n hx hb dItem_textAt_5 rfl (lv_at hl 0 rfl) ?_
  refine hw_get hx hb hts (hwInn inItem) hown hK hZ f0_ rfl 0 (by decide) (hts (.fieldLink RItem 11 RItem "texts" "[LWordIndex2$Text;") (hwMem mm_182)) (fun _ h => h) rfl dItem_textAt_6 ?_
  refine hw_alen hx hb hK hZ 5 f1_ rfl dItem_textAt_9 ?_
  refine hw_ic_lt (a := j) (b := 4) (tgt := 17) hx hb dItem_textAt_10 (by decide) (by omega) (by omega) (fun cq_2 => ?_) (fun cq_2 => by exfalso; omega)
  refine lv_aload_n hx hb dItem_textAt_17 rfl (lv_at hl 0 rfl) ?_
  refine hw_get hx hb hts (hwInn inItem) hown hK hZ f0_ rfl 0 (by decide) (hts (.fieldLink RItem 11 RItem "texts" "[LWordIndex2$Text;") (hwMem mm_182)) (fun _ h => h) rfl dItem_textAt_18 ?_
  refine lv_iload_n hx hb dItem_textAt_21 rfl (lv_at hl 1 rfl) ?_
  refine hw_aldq hx hb hK hZ 5 f1_ rfl (j := j) (by omega) (by omega) dItem_textAt_22 rfl ?_
  refine hw_top (y := .ref t) (by rw [ht]; rfl) ?_
  exact hret (vv := .ref t) (v := some t) rfl hZ ⟨rfl, rfl⟩ dItem_textAt_23
set_option maxHeartbeats 4000000 in
set_option maxRecDepth 100000 in
theorem c_It_textB (l : Launch) (D : va_G) (K : Nat → ClassId) (X : hwW) (sz : Nat) (b : Nat) (q : Nat) (L : Nat) (L1 : Nat) (th : Bool) (f : Nat → Option Nat) (kind : Int32) (f0_ : hwH X b L (.inr (1, [.ref q, .int (bI th)]))) (f1_ : hwH X q L1 (.inl (K 5, 4, .inr (.inr (.inr (.inr f)))))) (hk : badK kind) : Met l yItem_textAt (.code yItem_textAt cItem_textAt 2 (some (.object "WordIndex2$Text")) :: hwG) ({ frames := 0, cells := 0, slots := 0, locals := 0 } : Room) (hwPc D vwCl (hwT K) [.ref b, .int kind] X sz) (hwQq D vwCl X sz (fun r Y => r = none ∧ X = Y)) 0 0 (va_A X.1 sz) := by
  refine hwMetq (cc := cItem_textAt) (maxL := 2) (rt := (.object "WordIndex2$Text")) (by first | exact Or.inl ⟨_, rfl⟩ | exact Or.inr ⟨_, rfl⟩) (by decide) rfl (Nat.le_of_ble_eq_true rfl) (fun p e s m args below meth c ls A Q hx hb hml hown hts hname hret hK hO hZ hA hl => ?_)
  have hl : lv_has ls 2 [(0, .ref b), (1, .int kind)] := hl
  rcases hk with hk | hk
  · refine lv_iload_n hx hb dItem_textAt_0 rfl (lv_at hl 1 rfl) ?_
    refine lv_if_lt (tgt := 13) hx hb dItem_textAt_1 (by decide) (fun cq_1 => ?_) (fun cq_1 => absurd hk cq_1)
    refine lv_null hx hb dItem_textAt_13 ?_
    refine lv_goto (tgt := 23) hx hb dItem_textAt_14 (by decide) ?_
    exact hret (vv := .null) (v := none) rfl hZ ⟨rfl, rfl⟩ dItem_textAt_23
  · refine lv_iload_n hx hb dItem_textAt_0 rfl (lv_at hl 1 rfl) ?_
    refine lv_if_lt (tgt := 13) hx hb dItem_textAt_1 (by decide) (fun cq_2 => absurd cq_2 (hw_nn4 (n := 4) (by decide) hk)) (fun cq_2 => ?_)
    refine lv_iload_n hx hb dItem_textAt_4 rfl (lv_at hl 1 rfl) ?_
    refine lv_aload_n hx hb dItem_textAt_5 rfl (lv_at hl 0 rfl) ?_
    refine hw_get hx hb hts (hwInn inItem) hown hK hZ f0_ rfl 0 (by decide) (hts (.fieldLink RItem 11 RItem "texts" "[LWordIndex2$Text;") (hwMem mm_182)) (fun _ h => h) rfl dItem_textAt_6 ?_
    refine hw_alen hx hb hK hZ 5 f1_ rfl dItem_textAt_9 ?_
    refine lv_icmp_lt (tgt := 17) hx hb dItem_textAt_10 (by decide) (fun cq_3 => absurd cq_3 (hw_nlt hk)) (fun cq_3 => ?_)
    refine lv_null hx hb dItem_textAt_13 ?_
    refine lv_goto (tgt := 23) hx hb dItem_textAt_14 (by decide) ?_
    exact hret (vv := .null) (v := none) rfl hZ ⟨rfl, rfl⟩ dItem_textAt_23
set_option maxHeartbeats 4000000 in
set_option maxRecDepth 100000 in
theorem c_Ix_there (l : Launch) (D : va_G) (K : Nat → ClassId) (X : hwW) (sz : Nat) (a : Nat) (b0 : Nat) (b1 : Nat) (b2 : Nat) (b3 : Nat) (b4 : Nat) (b5 : Nat) (b6 : Nat) (b7 : Nat) (b8 : Nat) (ni : Nat) (fs : Nat) (qs : Nat) (fi : Nat → Option Nat) (n : Nat) (th : Bool) (b : Nat) (q : Nat) (f0_ : hwH X a 0 (.inr (5, [.ref b0, .int (nI ni), .int (nI fs), .ref b1, .ref b2, .int (nI qs), .ref b3, .ref b4, .ref b5, .ref b6, .ref b7, .ref b8]))) (f1_ : hwH X b0 1 (.inl (K 4, 30, .inr (.inr (.inr (.inr fi)))))) (f2_ : hwH X b (100 + 20 * (n - 1)) (.inr (1, [.ref q, .int (bI th)]))) (hn1 : 1 ≤ n) (hn2 : n ≤ ni) (hni : ni ≤ 30) (hfb : fi (n - 1) = some b) (hth : th = true) : Met l yIx_itemThere (.code yIx_itemThere cIx_itemThere 3 (some (.object "WordIndex2$Item")) :: hwG) ({ frames := 0, cells := 0, slots := 0, locals := 0 } : Room) (hwPc D vwCl (hwT K) [.ref a, .int (nI n)] X sz) (hwQq D vwCl X sz (fun r Y => r = some b ∧ X = Y)) 0 0 (va_A X.1 sz) := by
  refine hwMetq (cc := cIx_itemThere) (maxL := 3) (rt := (.object "WordIndex2$Item")) (by first | exact Or.inl ⟨_, rfl⟩ | exact Or.inr ⟨_, rfl⟩) (by decide) rfl (Nat.le_of_ble_eq_true rfl) (fun p e s m args below meth c ls A Q hx hb hml hown hts hname hret hK hO hZ hA hl => ?_)
  have hl : lv_has ls 3 [(0, .ref a), (1, .int (nI n))] := hl
  refine lv_iload_n hx hb dIx_itemThere_0 rfl (lv_at hl 1 rfl) ?_
  refine lv_iconst (v := nI 1) hx hb dIx_itemThere_1 (by decide) ?_
  refine hw_ic_lt (a := n) (b := 1) (tgt := 22) hx hb dIx_itemThere_2 (by decide) (by omega) (by omega) (fun cq_1 => by exfalso; omega) (fun cq_1 => ?_)
  refine lv_iload_n hx hb dIx_itemThere_5 rfl (lv_at hl 1 rfl) ?_
  refine lv_aload_n hx hb dIx_itemThere_6 rfl (lv_at hl 0 rfl) ?_
  refine hw_get hx hb hts (hwInn inIx) hown hK hZ f0_ rfl 1 (by decide) (hts (.fieldLink RIx 58 RIx "itemCount" "I") (hwMem mm_187)) (fun _ h => h) rfl dIx_itemThere_7 ?_
  refine hw_ic_gt (a := n) (b := ni) (tgt := 22) hx hb dIx_itemThere_10 (by decide) (by omega) (by omega) (fun cq_2 => by exfalso; omega) (fun cq_2 => ?_)
  refine lv_iload_n hx hb dIx_itemThere_13 rfl (lv_at hl 1 rfl) ?_
  refine lv_aload_n hx hb dIx_itemThere_14 rfl (lv_at hl 0 rfl) ?_
  refine hw_get hx hb hts (hwInn inIx) hown hK hZ f0_ rfl 0 (by decide) (hts (.fieldLink RIx 11 RIx "items" "[LWordIndex2$Item;") (hwMem mm_188)) (fun _ h => h) rfl dIx_itemThere_15 ?_
  refine hw_alen hx hb hK hZ 4 f1_ rfl dIx_itemThere_18 ?_
  refine hw_ic_le (a := n) (b := 30) (tgt := 24) hx hb dIx_itemThere_19 (by decide) (by omega) (by omega) (fun cq_3 => ?_) (fun cq_3 => by exfalso; omega)
  refine lv_aload_n hx hb dIx_itemThere_24 rfl (lv_at hl 0 rfl) ?_
  refine hw_get hx hb hts (hwInn inIx) hown hK hZ f0_ rfl 0 (by decide) (hts (.fieldLink RIx 11 RIx "items" "[LWordIndex2$Item;") (hwMem mm_188)) (fun _ h => h) rfl dIx_itemThere_25 ?_
  refine lv_iload_n hx hb dIx_itemThere_28 rfl (lv_at hl 1 rfl) ?_
  refine lv_iconst (v := nI 1) hx hb dIx_itemThere_29 (by decide) ?_
  refine lv_isub hx hb dIx_itemThere_30 ?_
  refine hw_topi (pk_sub (a := n) (b := 1) (by omega)) ?_
  refine hw_aldq hx hb hK hZ 4 f1_ rfl (j := n - 1) (by omega) (by omega) dIx_itemThere_31 rfl ?_
  refine hw_top (y := .ref b) (by rw [hfb]; rfl) ?_
  refine lv_astore_n (lv' := [(2, .ref b), (0, .ref a), (1, .int (nI n))]) hx hb dIx_itemThere_32 rfl hl (by decide) rfl (fun ls hl => ?_)
  refine lv_aload_n hx hb dIx_itemThere_33 rfl (lv_at hl 0 rfl) ?_
  refine lv_ifnull hx hb dIx_itemThere_34 ?_
  refine lv_aload_n hx hb dIx_itemThere_37 rfl (lv_at hl 0 rfl) ?_
  refine hw_getN hx hb hts (hwInn inItem) hown hK hZ f2_ rfl 1 (by decide) (hO.2 _ (List.mem_of_getElem? (i := 3) rfl)) (fun _ h => h) rfl dIx_itemThere_38 ?_
  refine hw_bz_eqF (tgt := 48) hx hb dIx_itemThere_41 (by decide) hth ?_
  refine lv_aload_n hx hb dIx_itemThere_44 rfl (lv_at hl 0 rfl) ?_
  refine lv_goto (tgt := 49) hx hb dIx_itemThere_45 (by decide) ?_
  exact hret (vv := .ref b) (v := some b) rfl hZ ⟨rfl, rfl⟩ dIx_itemThere_49
set_option maxHeartbeats 4000000 in
set_option maxRecDepth 100000 in
theorem c_Ix_thereF (l : Launch) (D : va_G) (K : Nat → ClassId) (X : hwW) (sz : Nat) (a : Nat) (b0 : Nat) (b1 : Nat) (b2 : Nat) (b3 : Nat) (b4 : Nat) (b5 : Nat) (b6 : Nat) (b7 : Nat) (b8 : Nat) (ni : Nat) (fs : Nat) (qs : Nat) (fi : Nat → Option Nat) (n : Nat) (th : Bool) (b : Nat) (q : Nat) (f0_ : hwH X a 0 (.inr (5, [.ref b0, .int (nI ni), .int (nI fs), .ref b1, .ref b2, .int (nI qs), .ref b3, .ref b4, .ref b5, .ref b6, .ref b7, .ref b8]))) (f1_ : hwH X b0 1 (.inl (K 4, 30, .inr (.inr (.inr (.inr fi)))))) (f2_ : hwH X b (100 + 20 * (n - 1)) (.inr (1, [.ref q, .int (bI th)]))) (hn1 : 1 ≤ n) (hn2 : n ≤ ni) (hni : ni ≤ 30) (hfb : fi (n - 1) = some b) (hth : th = false) : Met l yIx_itemThere (.code yIx_itemThere cIx_itemThere 3 (some (.object "WordIndex2$Item")) :: hwG) ({ frames := 0, cells := 0, slots := 0, locals := 0 } : Room) (hwPc D vwCl (hwT K) [.ref a, .int (nI n)] X sz) (hwQq D vwCl X sz (fun r Y => r = none ∧ X = Y)) 0 0 (va_A X.1 sz) := by
  refine hwMetq (cc := cIx_itemThere) (maxL := 3) (rt := (.object "WordIndex2$Item")) (by first | exact Or.inl ⟨_, rfl⟩ | exact Or.inr ⟨_, rfl⟩) (by decide) rfl (Nat.le_of_ble_eq_true rfl) (fun p e s m args below meth c ls A Q hx hb hml hown hts hname hret hK hO hZ hA hl => ?_)
  have hl : lv_has ls 3 [(0, .ref a), (1, .int (nI n))] := hl
  refine lv_iload_n hx hb dIx_itemThere_0 rfl (lv_at hl 1 rfl) ?_
  refine lv_iconst (v := nI 1) hx hb dIx_itemThere_1 (by decide) ?_
  refine hw_ic_lt (a := n) (b := 1) (tgt := 22) hx hb dIx_itemThere_2 (by decide) (by omega) (by omega) (fun cq_1 => by exfalso; omega) (fun cq_1 => ?_)
  refine lv_iload_n hx hb dIx_itemThere_5 rfl (lv_at hl 1 rfl) ?_
  refine lv_aload_n hx hb dIx_itemThere_6 rfl (lv_at hl 0 rfl) ?_
  refine hw_get hx hb hts (hwInn inIx) hown hK hZ f0_ rfl 1 (by decide) (hts (.fieldLink RIx 58 RIx "itemCount" "I") (hwMem mm_187)) (fun _ h => h) rfl dIx_itemThere_7 ?_
  refine hw_ic_gt (a := n) (b := ni) (tgt := 22) hx hb dIx_itemThere_10 (by decide) (by omega) (by omega) (fun cq_2 => by exfalso; omega) (fun cq_2 => ?_)
  refine lv_iload_n hx hb dIx_itemThere_13 rfl (lv_at hl 1 rfl) ?_
  refine lv_aload_n hx hb dIx_itemThere_14 rfl (lv_at hl 0 rfl) ?_
  refine hw_get hx hb hts (hwInn inIx) hown hK hZ f0_ rfl 0 (by decide) (hts (.fieldLink RIx 11 RIx "items" "[LWordIndex2$Item;") (hwMem mm_188)) (fun _ h => h) rfl dIx_itemThere_15 ?_
  refine hw_alen hx hb hK hZ 4 f1_ rfl dIx_itemThere_18 ?_
  refine hw_ic_le (a := n) (b := 30) (tgt := 24) hx hb dIx_itemThere_19 (by decide) (by omega) (by omega) (fun cq_3 => ?_) (fun cq_3 => by exfalso; omega)
  refine lv_aload_n hx hb dIx_itemThere_24 rfl (lv_at hl 0 rfl) ?_
  refine hw_get hx hb hts (hwInn inIx) hown hK hZ f0_ rfl 0 (by decide) (hts (.fieldLink RIx 11 RIx "items" "[LWordIndex2$Item;") (hwMem mm_188)) (fun _ h => h) rfl dIx_itemThere_25 ?_
  refine lv_iload_n hx hb dIx_itemThere_28 rfl (lv_at hl 1 rfl) ?_
  refine lv_iconst (v := nI 1) hx hb dIx_itemThere_29 (by decide) ?_
  refine lv_isub hx hb dIx_itemThere_30 ?_
  refine hw_topi (pk_sub (a := n) (b := 1) (by omega)) ?_
  refine hw_aldq hx hb hK hZ 4 f1_ rfl (j := n - 1) (by omega) (by omega) dIx_itemThere_31 rfl ?_
  refine hw_top (y := .ref b) (by rw [hfb]; rfl) ?_
  refine lv_astore_n (lv' := [(2, .ref b), (0, .ref a), (1, .int (nI n))]) hx hb dIx_itemThere_32 rfl hl (by decide) rfl (fun ls hl => ?_)
  refine lv_aload_n hx hb dIx_itemThere_33 rfl (lv_at hl 0 rfl) ?_
  refine lv_ifnull hx hb dIx_itemThere_34 ?_
  refine lv_aload_n hx hb dIx_itemThere_37 rfl (lv_at hl 0 rfl) ?_
  refine hw_getN hx hb hts (hwInn inItem) hown hK hZ f2_ rfl 1 (by decide) (hO.2 _ (List.mem_of_getElem? (i := 3) rfl)) (fun _ h => h) rfl dIx_itemThere_38 ?_
  refine hw_bz_eqT (tgt := 48) hx hb dIx_itemThere_41 (by decide) hth ?_
  refine lv_null hx hb dIx_itemThere_48 ?_
  exact hret (vv := .null) (v := none) rfl hZ ⟨rfl, rfl⟩ dIx_itemThere_49
set_option maxHeartbeats 4000000 in
set_option maxRecDepth 100000 in
theorem c_Ix_thereB (l : Launch) (D : va_G) (K : Nat → ClassId) (X : hwW) (sz : Nat) (a : Nat) (b0 : Nat) (b1 : Nat) (b2 : Nat) (b3 : Nat) (b4 : Nat) (b5 : Nat) (b6 : Nat) (b7 : Nat) (b8 : Nat) (ni : Nat) (fs : Nat) (qs : Nat) (fi : Nat → Option Nat) (x : Int32) (f0_ : hwH X a 0 (.inr (5, [.ref b0, .int (nI ni), .int (nI fs), .ref b1, .ref b2, .int (nI qs), .ref b3, .ref b4, .ref b5, .ref b6, .ref b7, .ref b8]))) (f1_ : hwH X b0 1 (.inl (K 4, 30, .inr (.inr (.inr (.inr fi)))))) (hni : ni ≤ 30) (hx9 : badN ni x) : Met l yIx_itemThere (.code yIx_itemThere cIx_itemThere 3 (some (.object "WordIndex2$Item")) :: hwG) ({ frames := 0, cells := 0, slots := 0, locals := 0 } : Room) (hwPc D vwCl (hwT K) [.ref a, .int x] X sz) (hwQq D vwCl X sz (fun r Y => r = none ∧ X = Y)) 0 0 (va_A X.1 sz) := by
  refine hwMetq (cc := cIx_itemThere) (maxL := 3) (rt := (.object "WordIndex2$Item")) (by first | exact Or.inl ⟨_, rfl⟩ | exact Or.inr ⟨_, rfl⟩) (by decide) rfl (Nat.le_of_ble_eq_true rfl) (fun p e s m args below meth c ls A Q hx hb hml hown hts hname hret hK hO hZ hA hl => ?_)
  have hl : lv_has ls 3 [(0, .ref a), (1, .int x)] := hl
  rcases hx9 with hx9 | hx9
  · refine lv_iload_n hx hb dIx_itemThere_0 rfl (lv_at hl 1 rfl) ?_
    refine lv_iconst (v := nI 1) hx hb dIx_itemThere_1 (by decide) ?_
    refine lv_icmp_lt (tgt := 22) hx hb dIx_itemThere_2 (by decide) (fun cq_1 => ?_) (fun cq_1 => absurd hx9 cq_1)
    refine lv_null hx hb dIx_itemThere_22 ?_
    exact hret (vv := .null) (v := none) rfl hZ ⟨rfl, rfl⟩ dIx_itemThere_23
  · refine lv_iload_n hx hb dIx_itemThere_0 rfl (lv_at hl 1 rfl) ?_
    refine lv_iconst (v := nI 1) hx hb dIx_itemThere_1 (by decide) ?_
    refine lv_icmp_lt (tgt := 22) hx hb dIx_itemThere_2 (by decide) (fun cq_2 => absurd cq_2 (hw_n1 (n := ni) (by omega) hx9)) (fun cq_2 => ?_)
    refine lv_iload_n hx hb dIx_itemThere_5 rfl (lv_at hl 1 rfl) ?_
    refine lv_aload_n hx hb dIx_itemThere_6 rfl (lv_at hl 0 rfl) ?_
    refine hw_get hx hb hts (hwInn inIx) hown hK hZ f0_ rfl 1 (by decide) (hts (.fieldLink RIx 58 RIx "itemCount" "I") (hwMem mm_187)) (fun _ h => h) rfl dIx_itemThere_7 ?_
    refine lv_icmp_gt (tgt := 22) hx hb dIx_itemThere_10 (by decide) (fun cq_3 => ?_) (fun cq_3 => absurd hx9 cq_3)
    refine lv_null hx hb dIx_itemThere_22 ?_
    exact hret (vv := .null) (v := none) rfl hZ ⟨rfl, rfl⟩ dIx_itemThere_23
set_option maxHeartbeats 4000000 in
set_option maxRecDepth 100000 in
theorem c_Ix_text (l : Launch) (D : va_G) (K : Nat → ClassId) (X : hwW) (sz : Nat) (a : Nat) (b0 : Nat) (b1 : Nat) (b2 : Nat) (b3 : Nat) (b4 : Nat) (b5 : Nat) (b6 : Nat) (b7 : Nat) (b8 : Nat) (ni : Nat) (fs : Nat) (qs : Nat) (fi : Nat → Option Nat) (n : Nat) (j : Nat) (th : Bool) (t : Nat) (f0_ : hwH X a 0 (.inr (5, [.ref b0, .int (nI ni), .int (nI fs), .ref b1, .ref b2, .int (nI qs), .ref b3, .ref b4, .ref b5, .ref b6, .ref b7, .ref b8]))) (f1_ : hwH X b0 1 (.inl (K 4, 30, .inr (.inr (.inr (.inr fi)))))) (hn1 : 1 ≤ n) (hn2 : n ≤ ni) (hni : ni ≤ 30) (hj : j < 4) (hpt : ptAt K X fi (n - 1) j th t) (hth : th = true) : Met l yIx_textOf (.code yIx_textOf cIx_textOf 4 (some (.object "WordIndex2$Text")) :: hwG) ({ frames := 1, cells := 0, slots := 0, locals := 22 } : Room) (hwPc D vwCl (hwT K) [.ref a, .int (nI n), .int (nI j)] X sz) (hwQq D vwCl X sz (fun r Y => r = some t ∧ X = Y)) 0 0 (va_A X.1 sz) := by
  refine hwMetq (cc := cIx_textOf) (maxL := 4) (rt := (.object "WordIndex2$Text")) (by first | exact Or.inl ⟨_, rfl⟩ | exact Or.inr ⟨_, rfl⟩) (by decide) rfl (Nat.le_of_ble_eq_true rfl) (fun p e s m args below meth c ls A Q hx hb hml hown hts hname hret hK hO hZ hA hl => ?_)
  have hl : lv_has ls 4 [(0, .ref a), (1, .int (nI n)), (2, .int (nI j))] := hl
  obtain ⟨b, q, f, hfb, gb, gq, hft⟩ := hpt
  refine lv_aload_n hx hb dIx_textOf_0 rfl (lv_at hl 0 rfl) ?_
  refine lv_iload_n hx hb dIx_textOf_1 rfl (lv_at hl 1 rfl) ?_
  refine hw_callq (va_runV (As := [.int (nI n)]) (rest := []) ⟨hx, hb, hml, hown, hts⟩ (c_Ix_there l D K X s.heap.size (a := a) (b0 := b0) (b1 := b1) (b2 := b2) (b3 := b3) (b4 := b4) (b5 := b5) (b6 := b6) (b7 := b7) (b8 := b8) (ni := ni) (fs := fs) (qs := qs) (fi := fi) (n := n) (th := th) (b := b) (q := q) f0_ f1_ gb (by omega) (by omega) (by omega) (by assumption) (by assumption)) (cwV 1 hts (hwGood (hw_4 mm_190 mm_191 mm_192 mm_193 (hwAll mm_189))) rfl rfl rfl (by decide +kernel) ⟨Nat.le_of_ble_eq_true rfl, Nat.le_of_ble_eq_true rfl⟩) (hw_preV hK hO hZ (⟨_, _, f0_⟩) rfl) rfl rfl hl.1 rfl (lv_room (Nat.le_of_ble_eq_true rfl)) dIx_textOf_2 ⟨(show 0 + 0 ≤ 0 by omega), (show 0 + 0 ≤ 0 by omega)⟩) hZ hA (fun r X_1 H_2 lc_3 hp hZ => ?_)
  obtain ⟨hr, hy⟩ := hp
  subst hy
  refine hw_top (y := .ref b) (by rw [hr]; rfl) ?_
  refine lv_astore_n (lv' := [(3, .ref b), (0, .ref a), (1, .int (nI n)), (2, .int (nI j))]) hx hb dIx_textOf_5 rfl hl (by decide) rfl (fun ls hl => ?_)
  refine lv_aload_n hx hb dIx_textOf_6 rfl (lv_at hl 0 rfl) ?_
  refine lv_ifnonnull (tgt := 14) hx hb dIx_textOf_7 (by decide) ?_
  refine lv_aload_n hx hb dIx_textOf_14 rfl (lv_at hl 0 rfl) ?_
  refine lv_iload_n hx hb dIx_textOf_15 rfl (lv_at hl 3 rfl) ?_
  refine hw_callq (va_runV (As := [.int (nI j)]) (rest := []) ⟨hx, hb, hml, hown, hts⟩ (c_It_text l D K X H_2.size (b := b) (q := q) (L := 100 + 20 * (n - 1)) (L1 := 101 + 20 * (n - 1)) (th := th) (f := f) (j := j) (t := t) gb gq (by omega) hft) (cwV 1 hts (hwGood (hw_4 mm_195 mm_196 mm_197 mm_198 (hwAll mm_194))) rfl rfl rfl (by decide +kernel) ⟨Nat.le_of_ble_eq_true rfl, Nat.le_of_ble_eq_true rfl⟩) (hw_preV hK hO hZ (⟨_, _, gb⟩) rfl) rfl rfl hl.1 rfl (lv_room (Nat.le_of_ble_eq_true rfl)) dIx_textOf_16 ⟨(show 0 + 0 ≤ 0 by omega), (show 0 + 0 ≤ 0 by omega)⟩) hZ hA (fun r X_4 H_5 lc_6 hp hZ => ?_)
  obtain ⟨hr, hy⟩ := hp
  subst hy
  refine hw_top (y := .ref t) (by rw [hr]; rfl) ?_
  exact hret (vv := .ref t) (v := some t) rfl hZ ⟨rfl, rfl⟩ dIx_textOf_19
set_option maxHeartbeats 4000000 in
set_option maxRecDepth 100000 in
theorem c_Ix_textK (l : Launch) (D : va_G) (K : Nat → ClassId) (X : hwW) (sz : Nat) (a : Nat) (b0 : Nat) (b1 : Nat) (b2 : Nat) (b3 : Nat) (b4 : Nat) (b5 : Nat) (b6 : Nat) (b7 : Nat) (b8 : Nat) (ni : Nat) (fs : Nat) (qs : Nat) (fi : Nat → Option Nat) (n : Nat) (kind : Int32) (th : Bool) (t : Nat) (f0_ : hwH X a 0 (.inr (5, [.ref b0, .int (nI ni), .int (nI fs), .ref b1, .ref b2, .int (nI qs), .ref b3, .ref b4, .ref b5, .ref b6, .ref b7, .ref b8]))) (f1_ : hwH X b0 1 (.inl (K 4, 30, .inr (.inr (.inr (.inr fi)))))) (hn1 : 1 ≤ n) (hn2 : n ≤ ni) (hni : ni ≤ 30) (hpt : ptAt K X fi (n - 1) 0 th t) (hth : th = true) (hk : badK kind) : Met l yIx_textOf (.code yIx_textOf cIx_textOf 4 (some (.object "WordIndex2$Text")) :: hwG) ({ frames := 1, cells := 0, slots := 0, locals := 22 } : Room) (hwPc D vwCl (hwT K) [.ref a, .int (nI n), .int kind] X sz) (hwQq D vwCl X sz (fun r Y => r = none ∧ X = Y)) 0 0 (va_A X.1 sz) := by
  refine hwMetq (cc := cIx_textOf) (maxL := 4) (rt := (.object "WordIndex2$Text")) (by first | exact Or.inl ⟨_, rfl⟩ | exact Or.inr ⟨_, rfl⟩) (by decide) rfl (Nat.le_of_ble_eq_true rfl) (fun p e s m args below meth c ls A Q hx hb hml hown hts hname hret hK hO hZ hA hl => ?_)
  have hl : lv_has ls 4 [(0, .ref a), (1, .int (nI n)), (2, .int kind)] := hl
  obtain ⟨b, q, f, hfb, gb, gq, hft⟩ := hpt
  refine lv_aload_n hx hb dIx_textOf_0 rfl (lv_at hl 0 rfl) ?_
  refine lv_iload_n hx hb dIx_textOf_1 rfl (lv_at hl 1 rfl) ?_
  refine hw_callq (va_runV (As := [.int (nI n)]) (rest := []) ⟨hx, hb, hml, hown, hts⟩ (c_Ix_there l D K X s.heap.size (a := a) (b0 := b0) (b1 := b1) (b2 := b2) (b3 := b3) (b4 := b4) (b5 := b5) (b6 := b6) (b7 := b7) (b8 := b8) (ni := ni) (fs := fs) (qs := qs) (fi := fi) (n := n) (th := th) (b := b) (q := q) f0_ f1_ gb (by omega) (by omega) (by omega) (by assumption) (by assumption)) (cwV 1 hts (hwGood (hw_4 mm_190 mm_191 mm_192 mm_193 (hwAll mm_189))) rfl rfl rfl (by decide +kernel) ⟨Nat.le_of_ble_eq_true rfl, Nat.le_of_ble_eq_true rfl⟩) (hw_preV hK hO hZ (⟨_, _, f0_⟩) rfl) rfl rfl hl.1 rfl (lv_room (Nat.le_of_ble_eq_true rfl)) dIx_textOf_2 ⟨(show 0 + 0 ≤ 0 by omega), (show 0 + 0 ≤ 0 by omega)⟩) hZ hA (fun r X_1 H_2 lc_3 hp hZ => ?_)
  obtain ⟨hr, hy⟩ := hp
  subst hy
  refine hw_top (y := .ref b) (by rw [hr]; rfl) ?_
  refine lv_astore_n (lv' := [(3, .ref b), (0, .ref a), (1, .int (nI n)), (2, .int kind)]) hx hb dIx_textOf_5 rfl hl (by decide) rfl (fun ls hl => ?_)
  refine lv_aload_n hx hb dIx_textOf_6 rfl (lv_at hl 0 rfl) ?_
  refine lv_ifnonnull (tgt := 14) hx hb dIx_textOf_7 (by decide) ?_
  refine lv_aload_n hx hb dIx_textOf_14 rfl (lv_at hl 0 rfl) ?_
  refine lv_iload_n hx hb dIx_textOf_15 rfl (lv_at hl 3 rfl) ?_
  refine hw_callq (va_runV (As := [.int kind]) (rest := []) ⟨hx, hb, hml, hown, hts⟩ (c_It_textB l D K X H_2.size (b := b) (q := q) (L := 100 + 20 * (n - 1)) (L1 := 101 + 20 * (n - 1)) (th := th) (f := f) (kind := kind) gb gq (by assumption)) (cwV 1 hts (hwGood (hw_4 mm_195 mm_196 mm_197 mm_198 (hwAll mm_194))) rfl rfl rfl (by decide +kernel) ⟨Nat.le_of_ble_eq_true rfl, Nat.le_of_ble_eq_true rfl⟩) (hw_preV hK hO hZ (⟨_, _, gb⟩) rfl) rfl rfl hl.1 rfl (lv_room (Nat.le_of_ble_eq_true rfl)) dIx_textOf_16 ⟨(show 0 + 0 ≤ 0 by omega), (show 0 + 0 ≤ 0 by omega)⟩) hZ hA (fun r X_4 H_5 lc_6 hp hZ => ?_)
  obtain ⟨hr, hy⟩ := hp
  subst hy
  refine hw_top (y := .null) (by rw [hr]; rfl) ?_
  exact hret (vv := .null) (v := none) rfl hZ ⟨rfl, rfl⟩ dIx_textOf_19
set_option maxHeartbeats 4000000 in
set_option maxRecDepth 100000 in
theorem c_Ix_textF (l : Launch) (D : va_G) (K : Nat → ClassId) (X : hwW) (sz : Nat) (a : Nat) (b0 : Nat) (b1 : Nat) (b2 : Nat) (b3 : Nat) (b4 : Nat) (b5 : Nat) (b6 : Nat) (b7 : Nat) (b8 : Nat) (ni : Nat) (fs : Nat) (qs : Nat) (fi : Nat → Option Nat) (n : Nat) (kind : Int32) (th : Bool) (f0_ : hwH X a 0 (.inr (5, [.ref b0, .int (nI ni), .int (nI fs), .ref b1, .ref b2, .int (nI qs), .ref b3, .ref b4, .ref b5, .ref b6, .ref b7, .ref b8]))) (f1_ : hwH X b0 1 (.inl (K 4, 30, .inr (.inr (.inr (.inr fi)))))) (hn1 : 1 ≤ n) (hn2 : n ≤ ni) (hni : ni ≤ 30) (hpi : piAt X fi (n - 1) th) (hth : th = false) : Met l yIx_textOf (.code yIx_textOf cIx_textOf 4 (some (.object "WordIndex2$Text")) :: hwG) ({ frames := 1, cells := 0, slots := 0, locals := 22 } : Room) (hwPc D vwCl (hwT K) [.ref a, .int (nI n), .int kind] X sz) (hwQq D vwCl X sz (fun r Y => r = none ∧ X = Y)) 0 0 (va_A X.1 sz) := by
  refine hwMetq (cc := cIx_textOf) (maxL := 4) (rt := (.object "WordIndex2$Text")) (by first | exact Or.inl ⟨_, rfl⟩ | exact Or.inr ⟨_, rfl⟩) (by decide) rfl (Nat.le_of_ble_eq_true rfl) (fun p e s m args below meth c ls A Q hx hb hml hown hts hname hret hK hO hZ hA hl => ?_)
  have hl : lv_has ls 4 [(0, .ref a), (1, .int (nI n)), (2, .int kind)] := hl
  obtain ⟨b, q, hfb, gb⟩ := hpi
  refine lv_aload_n hx hb dIx_textOf_0 rfl (lv_at hl 0 rfl) ?_
  refine lv_iload_n hx hb dIx_textOf_1 rfl (lv_at hl 1 rfl) ?_
  refine hw_callq (va_runV (As := [.int (nI n)]) (rest := []) ⟨hx, hb, hml, hown, hts⟩ (c_Ix_thereF l D K X s.heap.size (a := a) (b0 := b0) (b1 := b1) (b2 := b2) (b3 := b3) (b4 := b4) (b5 := b5) (b6 := b6) (b7 := b7) (b8 := b8) (ni := ni) (fs := fs) (qs := qs) (fi := fi) (n := n) (th := th) (b := b) (q := q) f0_ f1_ gb (by omega) (by omega) (by omega) (by assumption) (by assumption)) (cwV 1 hts (hwGood (hw_4 mm_190 mm_191 mm_192 mm_193 (hwAll mm_189))) rfl rfl rfl (by decide +kernel) ⟨Nat.le_of_ble_eq_true rfl, Nat.le_of_ble_eq_true rfl⟩) (hw_preV hK hO hZ (⟨_, _, f0_⟩) rfl) rfl rfl hl.1 rfl (lv_room (Nat.le_of_ble_eq_true rfl)) dIx_textOf_2 ⟨(show 0 + 0 ≤ 0 by omega), (show 0 + 0 ≤ 0 by omega)⟩) hZ hA (fun r X_1 H_2 lc_3 hp hZ => ?_)
  obtain ⟨hr, hy⟩ := hp
  subst hy
  refine hw_top (y := .null) (by rw [hr]; rfl) ?_
  refine lv_astore_nN (lv' := [(3, .null), (0, .ref a), (1, .int (nI n)), (2, .int kind)]) hx hb dIx_textOf_5 rfl hl (by decide) rfl (fun ls hl => ?_)
  refine lv_aload_nN hx hb dIx_textOf_6 rfl (lv_at hl 0 rfl) ?_
  refine lv_ifnonnullN hx hb dIx_textOf_7 ?_
  refine lv_null hx hb dIx_textOf_10 ?_
  refine lv_goto (tgt := 19) hx hb dIx_textOf_11 (by decide) ?_
  exact hret (vv := .null) (v := none) rfl hZ ⟨rfl, rfl⟩ dIx_textOf_19
set_option maxHeartbeats 4000000 in
set_option maxRecDepth 100000 in
theorem c_Ix_textB (l : Launch) (D : va_G) (K : Nat → ClassId) (X : hwW) (sz : Nat) (a : Nat) (b0 : Nat) (b1 : Nat) (b2 : Nat) (b3 : Nat) (b4 : Nat) (b5 : Nat) (b6 : Nat) (b7 : Nat) (b8 : Nat) (ni : Nat) (fs : Nat) (qs : Nat) (fi : Nat → Option Nat) (x : Int32) (kind : Int32) (f0_ : hwH X a 0 (.inr (5, [.ref b0, .int (nI ni), .int (nI fs), .ref b1, .ref b2, .int (nI qs), .ref b3, .ref b4, .ref b5, .ref b6, .ref b7, .ref b8]))) (f1_ : hwH X b0 1 (.inl (K 4, 30, .inr (.inr (.inr (.inr fi)))))) (hni : ni ≤ 30) (hx9 : badN ni x) : Met l yIx_textOf (.code yIx_textOf cIx_textOf 4 (some (.object "WordIndex2$Text")) :: hwG) ({ frames := 1, cells := 0, slots := 0, locals := 22 } : Room) (hwPc D vwCl (hwT K) [.ref a, .int x, .int kind] X sz) (hwQq D vwCl X sz (fun r Y => r = none ∧ X = Y)) 0 0 (va_A X.1 sz) := by
  refine hwMetq (cc := cIx_textOf) (maxL := 4) (rt := (.object "WordIndex2$Text")) (by first | exact Or.inl ⟨_, rfl⟩ | exact Or.inr ⟨_, rfl⟩) (by decide) rfl (Nat.le_of_ble_eq_true rfl) (fun p e s m args below meth c ls A Q hx hb hml hown hts hname hret hK hO hZ hA hl => ?_)
  have hl : lv_has ls 4 [(0, .ref a), (1, .int x), (2, .int kind)] := hl
  refine lv_aload_n hx hb dIx_textOf_0 rfl (lv_at hl 0 rfl) ?_
  refine lv_iload_n hx hb dIx_textOf_1 rfl (lv_at hl 1 rfl) ?_
  refine hw_callq (va_runV (As := [.int x]) (rest := []) ⟨hx, hb, hml, hown, hts⟩ (c_Ix_thereB l D K X s.heap.size (a := a) (b0 := b0) (b1 := b1) (b2 := b2) (b3 := b3) (b4 := b4) (b5 := b5) (b6 := b6) (b7 := b7) (b8 := b8) (ni := ni) (fs := fs) (qs := qs) (fi := fi) (x := x) f0_ f1_ (by omega) (by assumption)) (cwV 1 hts (hwGood (hw_4 mm_190 mm_191 mm_192 mm_193 (hwAll mm_189))) rfl rfl rfl (by decide +kernel) ⟨Nat.le_of_ble_eq_true rfl, Nat.le_of_ble_eq_true rfl⟩) (hw_preV hK hO hZ (⟨_, _, f0_⟩) rfl) rfl rfl hl.1 rfl (lv_room (Nat.le_of_ble_eq_true rfl)) dIx_textOf_2 ⟨(show 0 + 0 ≤ 0 by omega), (show 0 + 0 ≤ 0 by omega)⟩) hZ hA (fun r X_1 H_2 lc_3 hp hZ => ?_)
  obtain ⟨hr, hy⟩ := hp
  subst hy
  refine hw_top (y := .null) (by rw [hr]; rfl) ?_
  refine lv_astore_nN (lv' := [(3, .null), (0, .ref a), (1, .int x), (2, .int kind)]) hx hb dIx_textOf_5 rfl hl (by decide) rfl (fun ls hl => ?_)
  refine lv_aload_nN hx hb dIx_textOf_6 rfl (lv_at hl 0 rfl) ?_
  refine lv_ifnonnullN hx hb dIx_textOf_7 ?_
  refine lv_null hx hb dIx_textOf_10 ?_
  refine lv_goto (tgt := 19) hx hb dIx_textOf_11 (by decide) ?_
  exact hret (vv := .null) (v := none) rfl hZ ⟨rfl, rfl⟩ dIx_textOf_19
set_option maxHeartbeats 4000000 in
set_option maxRecDepth 100000 in
theorem c_Ix_clearQ (l : Launch) (D : va_G) (K : Nat → ClassId) (X : hwW) (sz : Nat) (a : Nat) (b0 : Nat) (b1 : Nat) (b2 : Nat) (b3 : Nat) (b4 : Nat) (b5 : Nat) (b6 : Nat) (b7 : Nat) (b8 : Nat) (ni : Nat) (fs : Nat) (qs : Nat) (qw : List (List Nat)) (qo : Nat) (f0_ : hwH X a 0 (.inr (5, [.ref b0, .int (nI ni), .int (nI fs), .ref b1, .ref b2, .int (nI qs), .ref b3, .ref b4, .ref b5, .ref b6, .ref b7, .ref b8]))) (f1_ : txAt K X b2 5 qw qo) : Met l yIx_clearQuestion (.code yIx_clearQuestion cIx_clearQuestion 1 none :: hwG) ({ frames := 1, cells := 0, slots := 0, locals := 20 } : Room) (hwPc D vwCl (hwT K) [.ref a] X sz) (hwQv D vwCl X sz (fun Y => hwF X Y (fun M => M = 0 ∨ M = 10 ∨ M = 11) ∧ hwH Y a 0 (.inr (5, [.ref b0, .int (nI ni), .int (nI fs), .ref b1, .ref b2, .int (nI 0), .ref b3, .ref b4, .ref b5, .ref b6, .ref b7, .ref b8])) ∧ txAt K Y b2 5 [] 0)) 0 0 (va_A X.1 sz) := by
  refine hwMetv (cc := cIx_clearQuestion) (maxL := 1) (by decide) rfl (Nat.le_of_ble_eq_true rfl) (fun p e s m args below meth c ls A Q hx hb hml hown hts hname hret hK hO hZ hA hl => ?_)
  have hl : lv_has ls 1 [(0, .ref a)] := hl
  have hFr : hwF X X (fun M => M = 0 ∨ M = 10 ∨ M = 11) := hwF.rf
  refine lv_aload_n hx hb dIx_clearQuestion_0 rfl (lv_at hl 0 rfl) ?_
  refine hw_get hx hb hts (hwInn inIx) hown hK hZ f0_ rfl 4 (by decide) (hts (.fieldLink RIx 22 RIx "question" "LWordIndex2$Text;") (hwMem mm_199)) (fun _ h => h) rfl dIx_clearQuestion_1 ?_
  refine hw_callv (va_runV (As := []) (rest := []) ⟨hx, hb, hml, hown, hts⟩ (c_Tx_clear l D K X s.heap.size (a := b2) (k := 5) (ws := qw) (o := qo) f1_) (cwV 0 hts (hwGood (hw_4 mm_201 mm_202 mm_203 mm_45 (hwAll mm_200))) rfl rfl rfl (by decide +kernel) ⟨Nat.le_of_ble_eq_true rfl, Nat.le_of_ble_eq_true rfl⟩) (hw_preV hK hO hZ (txAt.ob f1_) rfl) rfl rfl hl.1 rfl (lv_room (Nat.le_of_ble_eq_true rfl)) dIx_clearQuestion_4 ⟨(show 0 + 0 ≤ 0 by omega), (show 0 + 0 ≤ 0 by omega)⟩) hZ hA (fun X_1 H_2 lc_3 hp hZ => ?_)
  obtain ⟨hF, hN_4⟩ := hp
  have hFr := hwF.tr hFr hF (fun _ h => h) (fun M h => by first | exact False.elim h | ((try dsimp only at h ⊢); omega))
  have f0_ := hF _ _ _ (by intro hNS; first | exact False.elim hNS | ((try dsimp only at hNS); omega)) f0_
  have ff_5 := hN_4
  refine lv_aload_n hx hb dIx_clearQuestion_7 rfl (lv_at hl 0 rfl) ?_
  refine lv_iconst (v := nI 0) hx hb dIx_clearQuestion_8 (by decide) ?_
  refine hw_put (ty := .int) (fs' := [.ref b0, .int (nI ni), .int (nI fs), .ref b1, .ref b2, .int (nI 0), .ref b3, .ref b4, .ref b5, .ref b6, .ref b7, .ref b8]) hx hb hts (hwInn inIx) tyIx tyIx_ok nmIx hown hK hZ f0_ rfl 5 (by decide) (hts (.fieldLink RIx 81 RIx "questionSigns" "I") (hwMem mm_204)) (fun _ h => h) rfl (by decide +kernel) rfl rfl (Nat.le_of_ble_eq_true rfl) rfl dIx_clearQuestion_9 (fun X_6 H_7 lc_8 hZ hF hNw => ?_)
  have hFr := hwF.tr hFr hF (fun _ h => h) (fun M h => by first | exact False.elim h | ((try dsimp only at h ⊢); omega))
  have f0_ := hNw
  have ff_5 := txAt.fr hF (by intro hNS; first | exact False.elim hNS | ((try dsimp only at hNS); omega)) (by intro hNS; first | exact False.elim hNS | ((try dsimp only at hNS); omega)) ff_5
  exact hret hZ ⟨hFr, f0_, ff_5⟩ dIx_clearQuestion_12
end
section
/-! what a question gathers: T i the TERMS of record i + 1 in the field, none if it isn't THERE -/
def adH (x : Nat × Nat × Nat) (hs : List (Nat × Nat × Nat)) : List (Nat × Nat × Nat) := if 30 ≤ hs.length then hs else insH x hs
def gaN (M : List (List Nat) → Bool) (Cn : List (List Nat) → Nat) (T : Nat → Option (List (List Nat))) : Nat → List (Nat × Nat × Nat)
  | 0 => []
  | n + 1 => match T n with
    | none => gaN M Cn T n
    | some t => if M t then adH (n + 1, Cn t, t.length) (gaN M Cn T n) else gaN M Cn T n
def Tf (its : hwIt) (lg : Nat → Nat) (ss : List (List Nat)) (j i : Nat) : Option (List (List Nat)) := if (its.getD i hwIt0).1 = true then some (((its.getD i hwIt0).2 j).1.map (trm (lg j) ss)) else none
theorem Tf_f {its : hwIt} {lg : Nat → Nat} {ss : List (List Nat)} {j i : Nat} (h : (its.getD i hwIt0).1 = false) : Tf its lg ss j i = none := by unfold Tf; rw [h]; rfl
theorem Tf_t {its : hwIt} {lg : Nat → Nat} {ss : List (List Nat)} {j i : Nat} (h : (its.getD i hwIt0).1 = true) : Tf its lg ss j i = some (((its.getD i hwIt0).2 j).1.map (trm (lg j) ss)) := by unfold Tf; rw [if_pos h]
theorem gaN_none {M : List (List Nat) → Bool} {Cn : List (List Nat) → Nat} {T : Nat → Option (List (List Nat))} {n : Nat} {hs : List (Nat × Nat × Nat)} (hn : 1 ≤ n) (hh : hs = gaN M Cn T (n - 1)) (h : T (n - 1) = none) : hs = gaN M Cn T (n + 1 - 1) := by
  obtain ⟨k, rfl⟩ : ∃ k, n = k + 1 := ⟨n - 1, by omega⟩
  rw [hh]
  show gaN M Cn T k = (match T k with | none => gaN M Cn T k | some t => if M t then adH (k + 1, Cn t, t.length) (gaN M Cn T k) else gaN M Cn T k)
  rw [show T k = none from h]
theorem gaN_no {M : List (List Nat) → Bool} {Cn : List (List Nat) → Nat} {T : Nat → Option (List (List Nat))} {n : Nat} {hs : List (Nat × Nat × Nat)} {t : List (List Nat)} (hn : 1 ≤ n) (hh : hs = gaN M Cn T (n - 1)) (h : T (n - 1) = some t) (hm : M t = false) : hs = gaN M Cn T (n + 1 - 1) := by
  obtain ⟨k, rfl⟩ : ∃ k, n = k + 1 := ⟨n - 1, by omega⟩
  rw [hh]
  show gaN M Cn T k = (match T k with | none => gaN M Cn T k | some t => if M t then adH (k + 1, Cn t, t.length) (gaN M Cn T k) else gaN M Cn T k)
  rw [show T k = some t from h]
  show _ = if M t then _ else _
  rw [hm]; rfl
theorem gaN_yes {M : List (List Nat) → Bool} {Cn : List (List Nat) → Nat} {T : Nat → Option (List (List Nat))} {n : Nat} {hs : List (Nat × Nat × Nat)} {t : List (List Nat)} (hn : 1 ≤ n) (hh : hs = gaN M Cn T (n - 1)) (h : T (n - 1) = some t) (hm : M t = true) : (if 30 ≤ hs.length then hs else insH (n, Cn t, t.length) hs) = gaN M Cn T (n + 1 - 1) := by
  obtain ⟨k, rfl⟩ : ∃ k, n = k + 1 := ⟨n - 1, by omega⟩
  rw [hh]
  show adH (k + 1, Cn t, t.length) (gaN M Cn T k) = (match T k with | none => gaN M Cn T k | some t => if M t then adH (k + 1, Cn t, t.length) (gaN M Cn T k) else gaN M Cn T k)
  rw [show T k = some t from h]
  show _ = if M t then _ else _
  rw [hm]; rfl
/-- TERMS come into an ordered row -/
def adW (l : List (List Nat)) (w : List Nat) : List (List Nat) := if w = [] then l else insS 750 l w
def adAll (l : List (List Nat)) (ts : List (List Nat)) : List (List Nat) := ts.foldl adW l
def liN (T : Nat → Option (List (List Nat))) : Nat → List (List Nat)
  | 0 => []
  | n + 1 => match T n with
    | none => liN T n
    | some t => adAll (liN T n) t
theorem liN_none {T : Nat → Option (List (List Nat))} {n : Nat} {l : List (List Nat)} (hn : 1 ≤ n) (hh : l = liN T (n - 1)) (h : T (n - 1) = none) : l = liN T (n + 1 - 1) := by
  obtain ⟨k, rfl⟩ : ∃ k, n = k + 1 := ⟨n - 1, by omega⟩
  rw [hh]
  show liN T k = (match T k with | none => liN T k | some t => adAll (liN T k) t)
  rw [show T k = none from h]
theorem liN_some {T : Nat → Option (List (List Nat))} {n : Nat} {l t : List (List Nat)} (hn : 1 ≤ n) (hh : l = liN T (n - 1)) (h : T (n - 1) = some t) : adAll l t = liN T (n + 1 - 1) := by
  obtain ⟨k, rfl⟩ : ∃ k, n = k + 1 := ⟨n - 1, by omega⟩
  rw [hh]
  show adAll (liN T k) t = (match T k with | none => liN T k | some t => adAll (liN T k) t)
  rw [show T k = some t from h]
theorem adAll_take {l ts : List (List Nat)} {i : Nat} (h : i < ts.length) : adAll l (ts.take (i + 1)) = adW (adAll l (ts.take i)) (ts.getD i []) := by
  unfold adAll
  rw [take_succ_getD h, List.foldl_append]
  rfl
theorem adW_nil {l : List (List Nat)} {w : List Nat} (h : w = []) : adW l w = l := by unfold adW; rw [if_pos h]
theorem adW_ne {l : List (List Nat)} {w : List Nat} (h : w ≠ []) : adW l w = insS 750 l w := by unfold adW; rw [if_neg h]
theorem mem_ins {w v : List Nat} : ∀ {ts : List (List Nat)}, v ∈ ins w ts ↔ v = w ∨ v ∈ ts
  | [] => by simp [ins]
  | x :: xs => by
    unfold ins
    split
    · rw [List.mem_cons, mem_ins, List.mem_cons]
      constructor
      · rintro (h | h | h)
        · exact Or.inr (Or.inl h)
        · exact Or.inl h
        · exact Or.inr (Or.inr h)
      · rintro (h | h | h)
        · exact Or.inr (Or.inl h)
        · exact Or.inl h
        · exact Or.inr (Or.inr h)
    · rw [List.mem_cons]
theorem lex_total {a b : List Nat} (h1 : ¬ a < b) (h2 : a ≠ b) : b < a := by
  rcases Nat.lt_or_ge 0 1 with _ | h
  · exact Classical.byContradiction (fun h3 => h2 (List.le_antisymm (List.not_lt.mp h3) (List.not_lt.mp h1)))
  · omega
theorem sorted_ins {w : List Nat} : ∀ {ts : List (List Nat)}, ts.Pairwise (· < ·) → w ∉ ts → (ins w ts).Pairwise (· < ·)
  | [], _, _ => by simp [ins]
  | x :: xs, hs, hm => by
    have h1 := List.pairwise_cons.mp hs
    unfold ins
    split
    · rename_i hx
      refine List.pairwise_cons.mpr ⟨fun v hv => ?_, sorted_ins h1.2 (fun h => hm (List.mem_cons_of_mem _ h))⟩
      rcases mem_ins.mp hv with h | h
      · rw [h]; exact hx
      · exact h1.1 v h
    · rename_i hx
      have hwx : w < x := lex_total hx (fun h => hm (h ▸ List.mem_cons_self))
      refine List.pairwise_cons.mpr ⟨fun v hv => ?_, hs⟩
      rcases List.mem_cons.mp hv with h | h
      · rw [h]; exact hwx
      · exact lex_trans hwx (h1.1 v h)
theorem sorted_insS {N : Nat} {ts : List (List Nat)} {w : List Nat} (hs : ts.Pairwise (· < ·)) : (insS N ts w).Pairwise (· < ·) := by
  unfold insS
  split
  · exact hs
  · rename_i h
    exact sorted_ins hs (fun q => h (Or.inr q))
theorem sorted_adW {l : List (List Nat)} {w : List Nat} (h : l.Pairwise (· < ·)) : (adW l w).Pairwise (· < ·) := by
  unfold adW
  split
  · exact h
  · exact sorted_insS h
theorem sorted_adAll : ∀ {ts l : List (List Nat)}, l.Pairwise (· < ·) → (adAll l ts).Pairwise (· < ·)
  | [], _, h => h
  | t :: ts, _, h => sorted_adAll (ts := ts) (sorted_adW h)
theorem sorted_liN {T : Nat → Option (List (List Nat))} : ∀ n, (liN T n).Pairwise (· < ·)
  | 0 => List.Pairwise.nil
  | n + 1 => by
    show (match T n with | none => liN T n | some t => adAll (liN T n) t).Pairwise (· < ·)
    have := sorted_liN (T := T) n
    split
    · exact this
    · exact sorted_adAll this
def okIt (its : hwIt) : Prop := ∀ i j, (∀ w ∈ ((its.getD i hwIt0).2 j).1, 1 ≤ w.length) ∧ ((its.getD i hwIt0).2 j).1.length ≤ 600
theorem dIx_readField_0 : decode cIx_readField 0 = .ok (.aload_n 0, 1) := by decide +kernel
theorem dIx_readField_1 : decode cIx_readField 1 = .ok (.iload_n 1, 1) := by decide +kernel
theorem dIx_readField_2 : decode cIx_readField 2 = .ok (.iload_n 2, 1) := by decide +kernel
theorem dIx_readField_3 : decode cIx_readField 3 = .ok (.invokevirtual 63, 3) := by decide +kernel
theorem dIx_readField_6 : decode cIx_readField 6 = .ok (.astore_n 3, 1) := by decide +kernel
theorem dIx_readField_7 : decode cIx_readField 7 = .ok (.aload_n 3, 1) := by decide +kernel
theorem dIx_readField_8 : decode cIx_readField 8 = .ok (.ifnull 10, 3) := by decide +kernel
theorem dIx_readField_11 : decode cIx_readField 11 = .ok (.iload_n 2, 1) := by decide +kernel
theorem dIx_readField_12 : decode cIx_readField 12 = .ok (.invokestatic 166, 3) := by decide +kernel
theorem dIx_readField_15 : decode cIx_readField 15 = .ok (.ifCond .ne 5, 3) := by decide +kernel
theorem dIx_readField_18 : decode cIx_readField 18 = .ok (.iconst 0, 1) := by decide +kernel
theorem dIx_readField_19 : decode cIx_readField 19 = .ok (.ireturn, 1) := by decide +kernel
theorem dIx_readField_20 : decode cIx_readField 20 = .ok (.aload_n 0, 1) := by decide +kernel
theorem dIx_readField_21 : decode cIx_readField 21 = .ok (.getfield 49, 3) := by decide +kernel
theorem dIx_readField_24 : decode cIx_readField 24 = .ok (.aload_n 3, 1) := by decide +kernel
theorem dIx_readField_25 : decode cIx_readField 25 = .ok (.aload_n 0, 1) := by decide +kernel
theorem dIx_readField_26 : decode cIx_readField 26 = .ok (.getfield 15, 3) := by decide +kernel
theorem dIx_readField_29 : decode cIx_readField 29 = .ok (.iload_n 2, 1) := by decide +kernel
theorem dIx_readField_30 : decode cIx_readField 30 = .ok (.iaload, 1) := by decide +kernel
theorem dIx_readField_31 : decode cIx_readField 31 = .ok (.aload_n 0, 1) := by decide +kernel
theorem dIx_readField_32 : decode cIx_readField 32 = .ok (.getfield 31, 3) := by decide +kernel
theorem dIx_readField_35 : decode cIx_readField 35 = .ok (.invokevirtual 179, 3) := by decide +kernel
theorem dIx_readField_38 : decode cIx_readField 38 = .ok (.iconst 1, 1) := by decide +kernel
theorem dIx_readField_39 : decode cIx_readField 39 = .ok (.ireturn, 1) := by decide +kernel
theorem dIx_gather_0 : decode cIx_gather 0 = .ok (.iconst 1, 1) := by decide +kernel
theorem dIx_gather_1 : decode cIx_gather 1 = .ok (.istore_n 3, 1) := by decide +kernel
theorem dIx_gather_2 : decode cIx_gather 2 = .ok (.iload_n 3, 1) := by decide +kernel
theorem dIx_gather_3 : decode cIx_gather 3 = .ok (.aload_n 0, 1) := by decide +kernel
theorem dIx_gather_4 : decode cIx_gather 4 = .ok (.getfield 58, 3) := by decide +kernel
theorem dIx_gather_7 : decode cIx_gather 7 = .ok (.if_icmp .gt 52, 3) := by decide +kernel
theorem dIx_gather_10 : decode cIx_gather 10 = .ok (.aload_n 0, 1) := by decide +kernel
theorem dIx_gather_11 : decode cIx_gather 11 = .ok (.iload_n 3, 1) := by decide +kernel
theorem dIx_gather_12 : decode cIx_gather 12 = .ok (.iload_n 1, 1) := by decide +kernel
theorem dIx_gather_13 : decode cIx_gather 13 = .ok (.invokevirtual 183, 3) := by decide +kernel
theorem dIx_gather_16 : decode cIx_gather 16 = .ok (.ifCond .eq 37, 3) := by decide +kernel
theorem dIx_gather_19 : decode cIx_gather 19 = .ok (.aload_n 2, 1) := by decide +kernel
theorem dIx_gather_20 : decode cIx_gather 20 = .ok (.aload_n 0, 1) := by decide +kernel
theorem dIx_gather_21 : decode cIx_gather 21 = .ok (.getfield 49, 3) := by decide +kernel
theorem dIx_gather_24 : decode cIx_gather 24 = .ok (.invokevirtual 187, 3) := by decide +kernel
theorem dIx_gather_27 : decode cIx_gather 27 = .ok (.ifCond .eq 26, 3) := by decide +kernel
theorem dIx_gather_30 : decode cIx_gather 30 = .ok (.aload_n 0, 1) := by decide +kernel
theorem dIx_gather_31 : decode cIx_gather 31 = .ok (.getfield 38, 3) := by decide +kernel
theorem dIx_gather_34 : decode cIx_gather 34 = .ok (.iload_n 3, 1) := by decide +kernel
theorem dIx_gather_35 : decode cIx_gather 35 = .ok (.aload_n 2, 1) := by decide +kernel
theorem dIx_gather_36 : decode cIx_gather 36 = .ok (.aload_n 0, 1) := by decide +kernel
theorem dIx_gather_37 : decode cIx_gather 37 = .ok (.getfield 49, 3) := by decide +kernel
theorem dIx_gather_40 : decode cIx_gather 40 = .ok (.invokevirtual 193, 3) := by decide +kernel
theorem dIx_gather_43 : decode cIx_gather 43 = .ok (.aload_n 0, 1) := by decide +kernel
theorem dIx_gather_44 : decode cIx_gather 44 = .ok (.getfield 49, 3) := by decide +kernel
theorem dIx_gather_47 : decode cIx_gather 47 = .ok (.invokevirtual 197, 3) := by decide +kernel
theorem dIx_gather_50 : decode cIx_gather 50 = .ok (.invokevirtual 198, 3) := by decide +kernel
theorem dIx_gather_53 : decode cIx_gather 53 = .ok (.iinc 3 1, 3) := by decide +kernel
theorem dIx_gather_56 : decode cIx_gather 56 = .ok (.goto (-54), 3) := by decide +kernel
theorem dIx_gather_59 : decode cIx_gather 59 = .ok (.aload_n 0, 1) := by decide +kernel
theorem dIx_gather_60 : decode cIx_gather 60 = .ok (.getfield 38, 3) := by decide +kernel
theorem dIx_gather_63 : decode cIx_gather 63 = .ok (.invokevirtual 201, 3) := by decide +kernel
theorem dIx_gather_66 : decode cIx_gather 66 = .ok (.ireturn, 1) := by decide +kernel
theorem mm_205 : (.code yIx_textOf cIx_textOf 4 (some (.object "WordIndex2$Text")) : Cond) ∈ hwG := hwIx 190 (by decide +kernel) (by decide +kernel)
theorem mm_206 : (.methodLink RIx 63 yIx_textOf : Cond) ∈ hwG := hwIx 187 (by decide +kernel) (by decide +kernel)
theorem mm_207 : (.instanceMethod yIx_textOf : Cond) ∈ hwG := hwIx 189 (by decide +kernel) (by decide +kernel)
theorem mm_208 : (.selects RIx yIx_textOf yIx_textOf : Cond) ∈ hwG := hwIx 0 (by decide +kernel) (by decide +kernel)
theorem mm_209 : (.code yIx_isKind cIx_isKind 1 (some .boolean) : Cond) ∈ hwG := hwIx 258 (by decide +kernel) (by decide +kernel)
theorem mm_210 : (.static yIx_isKind : Cond) ∈ hwG := hwIx 257 (by decide +kernel) (by decide +kernel)
theorem mm_211 : (.methodLink RIx 166 yIx_isKind : Cond) ∈ hwG := hwIx 256 (by decide +kernel) (by decide +kernel)
theorem mm_212 : (.fieldLink RIx 49 RIx "fieldTerms" "LWordIndex2$Terms;" : Cond) ∈ hwG := hwIx 135 (by decide +kernel) (by decide +kernel)
theorem mm_213 : (.fieldLink RIx 15 RIx "languages" "[I" : Cond) ∈ hwG := hwIx 129 (by decide +kernel) (by decide +kernel)
theorem mm_214 : (.fieldLink RIx 31 RIx "stops" "LWordIndex2$WordSet;" : Cond) ∈ hwG := hwIx 132 (by decide +kernel) (by decide +kernel)
theorem mm_215 : (.code yTerms_read cTerms_read 7 none : Cond) ∈ hwG := hwIx 262 (by decide +kernel) (by decide +kernel)
theorem mm_216 : (.methodLink RIx 179 yTerms_read : Cond) ∈ hwG := hwIx 259 (by decide +kernel) (by decide +kernel)
theorem mm_217 : (.instanceMethod yTerms_read : Cond) ∈ hwG := hwIx 260 (by decide +kernel) (by decide +kernel)
theorem mm_218 : (.selects RTerms yTerms_read yTerms_read : Cond) ∈ hwG := hwIx 261 (by decide +kernel) (by decide +kernel)
theorem mm_219 : (.fieldLink RIx 38 RIx "hits" "LWordIndex2$Hits;" : Cond) ∈ hwG := hwIx 133 (by decide +kernel) (by decide +kernel)
theorem mm_220 : (.code yHits_size cHits_size 1 (some .int) : Cond) ∈ hwG := hwIx 431 (by decide +kernel) (by decide +kernel)
theorem mm_221 : (.methodLink RIx 201 yHits_size : Cond) ∈ hwG := hwIx 428 (by decide +kernel) (by decide +kernel)
theorem mm_222 : (.instanceMethod yHits_size : Cond) ∈ hwG := hwIx 429 (by decide +kernel) (by decide +kernel)
theorem mm_223 : (.selects RHits yHits_size yHits_size : Cond) ∈ hwG := hwIx 430 (by decide +kernel) (by decide +kernel)
theorem mm_224 : (.code yIx_readField cIx_readField 4 (some .boolean) : Cond) ∈ hwG := hwIx 333 (by decide +kernel) (by decide +kernel)
theorem mm_225 : (.methodLink RIx 183 yIx_readField : Cond) ∈ hwG := hwIx 330 (by decide +kernel) (by decide +kernel)
theorem mm_226 : (.instanceMethod yIx_readField : Cond) ∈ hwG := hwIx 332 (by decide +kernel) (by decide +kernel)
theorem mm_227 : (.selects RIx yIx_readField yIx_readField : Cond) ∈ hwG := hwIx 7 (by decide +kernel) (by decide +kernel)
theorem mm_228 : (.code yAllSearch_meets cAllSearch_meets 3 (some .boolean) : Cond) ∈ hwG := hwIx 339 (by decide +kernel) (by decide +kernel)
theorem mm_229 : (.methodLink RIx 187 xSearch_meets : Cond) ∈ hwG := hwIx 334 (by decide +kernel) (by decide +kernel)
theorem mm_230 : (.sameMethod RSearch RSearch "meets" "(LWordIndex2$Terms;)Z" : Cond) ∈ hwG := hwIx 336 (by decide +kernel) (by decide +kernel)
theorem mm_231 : (.selects RAllSearch xSearch_meets yAllSearch_meets : Cond) ∈ hwG := hwIx 337 (by decide +kernel) (by decide +kernel)
theorem mm_232 : (.instanceMethod yAllSearch_meets : Cond) ∈ hwG := hwIx 338 (by decide +kernel) (by decide +kernel)
theorem mm_233 : (.methodLink RIx 193 ySearch_countIn : Cond) ∈ hwG := hwIx 406 (by decide +kernel) (by decide +kernel)
theorem mm_234 : (.sameMethod RSearch RSearch "countIn" "(LWordIndex2$Terms;)I" : Cond) ∈ hwG := hwIx 788 (by decide +kernel) (by decide +kernel)
theorem mm_235 : (.selects RAllSearch ySearch_countIn ySearch_countIn : Cond) ∈ hwG := hwIx 789 (by decide +kernel) (by decide +kernel)
theorem mm_236 : (.methodLink RIx 197 yTerms_size : Cond) ∈ hwG := hwIx 407 (by decide +kernel) (by decide +kernel)
theorem mm_237 : (.code yHits_add cHits_add 5 none : Cond) ∈ hwG := hwIx 411 (by decide +kernel) (by decide +kernel)
theorem mm_238 : (.methodLink RIx 198 yHits_add : Cond) ∈ hwG := hwIx 408 (by decide +kernel) (by decide +kernel)
theorem mm_239 : (.instanceMethod yHits_add : Cond) ∈ hwG := hwIx 409 (by decide +kernel) (by decide +kernel)
theorem mm_240 : (.selects RHits yHits_add yHits_add : Cond) ∈ hwG := hwIx 410 (by decide +kernel) (by decide +kernel)
theorem mm_241 : (.code yPhraseSearch_meets cPhraseSearch_meets 3 (some .boolean) : Cond) ∈ hwG := hwIx 364 (by decide +kernel) (by decide +kernel)
theorem mm_242 : (.selects RPhraseSearch xSearch_meets yPhraseSearch_meets : Cond) ∈ hwG := hwIx 362 (by decide +kernel) (by decide +kernel)
theorem mm_243 : (.instanceMethod yPhraseSearch_meets : Cond) ∈ hwG := hwIx 363 (by decide +kernel) (by decide +kernel)
theorem mm_244 : (.selects RPhraseSearch ySearch_countIn ySearch_countIn : Cond) ∈ hwG := hwIx 791 (by decide +kernel) (by decide +kernel)
theorem mm_245 : (.code yNearSearch_meets cNearSearch_meets 3 (some .boolean) : Cond) ∈ hwG := hwIx 351 (by decide +kernel) (by decide +kernel)
theorem mm_246 : (.selects RNearSearch xSearch_meets yNearSearch_meets : Cond) ∈ hwG := hwIx 349 (by decide +kernel) (by decide +kernel)
theorem mm_247 : (.instanceMethod yNearSearch_meets : Cond) ∈ hwG := hwIx 350 (by decide +kernel) (by decide +kernel)
theorem mm_248 : (.selects RNearSearch ySearch_countIn ySearch_countIn : Cond) ∈ hwG := hwIx 790 (by decide +kernel) (by decide +kernel)
theorem mm_249 : (.code yWildSearch_meets cWildSearch_meets 2 (some .boolean) : Cond) ∈ hwG := hwIx 374 (by decide +kernel) (by decide +kernel)
theorem mm_250 : (.selects RWildSearch xSearch_meets yWildSearch_meets : Cond) ∈ hwG := hwIx 372 (by decide +kernel) (by decide +kernel)
theorem mm_251 : (.instanceMethod yWildSearch_meets : Cond) ∈ hwG := hwIx 373 (by decide +kernel) (by decide +kernel)
theorem mm_252 : (.selects RWildSearch ySearch_countIn ySearch_countIn : Cond) ∈ hwG := hwIx 792 (by decide +kernel) (by decide +kernel)
set_option maxHeartbeats 4000000 in
set_option maxRecDepth 100000 in
theorem c_Ix_read (l : Launch) (D : va_G) (K : Nat → ClassId) (X : hwW) (sz : Nat) (a : Nat) (b0 : Nat) (b1 : Nat) (b2 : Nat) (b3 : Nat) (b4 : Nat) (b5 : Nat) (b6 : Nat) (b7 : Nat) (b8 : Nat) (ni : Nat) (fs : Nat) (qs : Nat) (fi : Nat → Option Nat) (fl : Nat → Int32) (tf : List (List Nat)) (t : Nat) (kt : Nat) (ws : List (List Nat)) (o : Nat) (ss : List (List Nat)) (n : Nat) (j : Nat) (g : Nat) (f0_ : hwH X a 0 (.inr (5, [.ref b0, .int (nI ni), .int (nI fs), .ref b1, .ref b2, .int (nI qs), .ref b3, .ref b4, .ref b5, .ref b6, .ref b7, .ref b8]))) (f1_ : hwH X b0 1 (.inl (K 4, 30, .inr (.inr (.inr (.inr fi)))))) (f2_ : hwH X b1 2 (.inl (K 0, 4, .inl fl))) (f3_ : tmAt K X b6 8 750 tf) (f4_ : txAt K X t kt ws o) (f5_ : seAt K X b3 6 40 ss) (hn1 : 1 ≤ n) (hn2 : n ≤ ni) (hni : ni ≤ 30) (hj : j < 4) (hpt : ptAt K X fi (n - 1) j true t) (hkt : 10 ≤ kt) (hfl : fl j = nI g) (hg : g < 3) (hwl : ws.length ≤ 750) (hne : ∀ w ∈ ws, 1 ≤ w.length) (hs : ss.Pairwise (· < ·)) : Met l yIx_readField (.code yIx_readField cIx_readField 4 (some .boolean) :: hwG) ({ frames := 5, cells := 0, slots := 0, locals := 115 } : Room) (hwPc D vwCl (hwT K) [.ref a, .int (nI n), .int (nI j)] X sz) (hwQi D vwCl X sz (fun r Y => r = bI true ∧ hwF X Y (fun M => M = 16 ∨ M = 17) ∧ tmAt K Y b6 8 750 (ws.map (trm g ss)))) 0 0 (va_A X.1 sz) := by
  refine hwMetz (cc := cIx_readField) (maxL := 4) (by decide) rfl (Nat.le_of_ble_eq_true rfl) (fun p e s m args below meth c ls A Q hx hb hml hown hts hname hret hK hO hZ hA hl => ?_)
  have hl : lv_has ls 4 [(0, .ref a), (1, .int (nI n)), (2, .int (nI j))] := hl
  have hFr : hwF X X (fun M => M = 16 ∨ M = 17) := hwF.rf
  refine lv_aload_n hx hb dIx_readField_0 rfl (lv_at hl 0 rfl) ?_
  refine lv_iload_n hx hb dIx_readField_1 rfl (lv_at hl 1 rfl) ?_
  refine lv_iload_n hx hb dIx_readField_2 rfl (lv_at hl 2 rfl) ?_
  refine hw_callq (va_runV (As := [.int (nI n), .int (nI j)]) (rest := []) ⟨hx, hb, hml, hown, hts⟩ (c_Ix_text l D K X s.heap.size (a := a) (b0 := b0) (b1 := b1) (b2 := b2) (b3 := b3) (b4 := b4) (b5 := b5) (b6 := b6) (b7 := b7) (b8 := b8) (ni := ni) (fs := fs) (qs := qs) (fi := fi) (n := n) (j := j) (th := true) (t := t) f0_ f1_ (by omega) (by omega) (by omega) (by omega) (by assumption) rfl) (cwV 2 hts (hwGood (hw_4 mm_206 mm_207 mm_208 mm_193 (hwAll mm_205))) rfl rfl rfl (by decide +kernel) ⟨Nat.le_of_ble_eq_true rfl, Nat.le_of_ble_eq_true rfl⟩) (hw_preV hK hO hZ (⟨_, _, f0_⟩) rfl) rfl rfl hl.1 rfl (lv_room (Nat.le_of_ble_eq_true rfl)) dIx_readField_3 ⟨(show 0 + 0 ≤ 0 by omega), (show 0 + 0 ≤ 0 by omega)⟩) hZ hA (fun r X_1 H_2 lc_3 hp hZ => ?_)
  obtain ⟨hr, hy⟩ := hp
  subst hy
  refine hw_top (y := .ref t) (by rw [hr]; rfl) ?_
  refine lv_astore_n (lv' := [(3, .ref t), (0, .ref a), (1, .int (nI n)), (2, .int (nI j))]) hx hb dIx_readField_6 rfl hl (by decide) rfl (fun ls hl => ?_)
  refine lv_aload_n hx hb dIx_readField_7 rfl (lv_at hl 0 rfl) ?_
  refine lv_ifnull hx hb dIx_readField_8 ?_
  refine lv_iload_n hx hb dIx_readField_11 rfl (lv_at hl 3 rfl) ?_
  refine hw_calli (va_runS (As := [.int (nI j)]) (rest := []) ⟨hx, hb, hml, hown, hts⟩ (c_Ix_isKind l D K X H_2.size (j := j) (by omega)) (va_cwS 1 hts (hwGood (hw_3 mm_211 mm_210 mm_193 (hwAll mm_209))) rfl rfl rfl (by decide +kernel) ⟨Nat.le_of_ble_eq_true rfl, Nat.le_of_ble_eq_true rfl⟩) (hw_preS hK hO hZ) rfl rfl hl.1 rfl (lv_room (Nat.le_of_ble_eq_true rfl)) dIx_readField_12 ⟨(show 0 + 0 ≤ 0 by omega), (show 0 + 0 ≤ 0 by omega)⟩) hZ hA (fun r X_4 H_5 lc_6 hp hZ => ?_)
  obtain ⟨hr, hy⟩ := hp
  subst hy
  refine hw_topi hr ?_
  refine hw_bz_neT (tgt := 20) hx hb dIx_readField_15 (by decide) rfl ?_
  refine lv_aload_n hx hb dIx_readField_20 rfl (lv_at hl 1 rfl) ?_
  refine hw_get hx hb hts (hwInn inIx) hown hK hZ f0_ rfl 9 (by decide) (hts (.fieldLink RIx 49 RIx "fieldTerms" "LWordIndex2$Terms;") (hwMem mm_212)) (fun _ h => h) rfl dIx_readField_21 ?_
  refine lv_aload_n hx hb dIx_readField_24 rfl (lv_at hl 0 rfl) ?_
  refine lv_aload_n hx hb dIx_readField_25 rfl (lv_at hl 1 rfl) ?_
  refine hw_get hx hb hts (hwInn inIx) hown hK hZ f0_ rfl 3 (by decide) (hts (.fieldLink RIx 15 RIx "languages" "[I") (hwMem mm_213)) (fun _ h => h) rfl dIx_readField_26 ?_
  refine lv_iload_n hx hb dIx_readField_29 rfl (lv_at hl 3 rfl) ?_
  refine hw_iald hx hb hK hZ 0 f2_ rfl (j := j) (by omega) (by omega) dIx_readField_30 ?_
  refine hw_topi hfl ?_
  refine lv_aload_n hx hb dIx_readField_31 rfl (lv_at hl 1 rfl) ?_
  refine hw_get hx hb hts (hwInn inIx) hown hK hZ f0_ rfl 6 (by decide) (hts (.fieldLink RIx 31 RIx "stops" "LWordIndex2$WordSet;") (hwMem mm_214)) (fun _ h => h) rfl dIx_readField_32 ?_
  refine hw_callv (va_runV (As := [.ref t, .int (nI g), .ref b3]) (rest := []) ⟨hx, hb, hml, hown, hts⟩ (c_Tm_read l D K X H_5.size (a := b6) (k := 8) (N := 750) (ts := tf) (t := t) (kt := kt) (ws := ws) (o := o) (s0 := b3) (ks := 6) (Ns := 40) (ss := ss) (g := g) f3_ f4_ f5_ (by omega) (by omega) (by omega) (by omega) (by assumption) (by assumption)) (cwV 3 hts (hwGood (hw_4 mm_216 mm_217 mm_218 mm_89 (hwAll mm_215))) rfl rfl rfl (by decide +kernel) ⟨Nat.le_of_ble_eq_true rfl, Nat.le_of_ble_eq_true rfl⟩) (hw_preV hK hO hZ (tmAt.ob f3_) rfl) rfl rfl hl.1 rfl (lv_room (Nat.le_of_ble_eq_true rfl)) dIx_readField_35 ⟨(show 0 + 0 ≤ 0 by omega), (show 0 + 0 ≤ 0 by omega)⟩) hZ hA (fun X_8 H_9 lc_10 hp hZ => ?_)
  obtain ⟨hF, hN_11⟩ := hp
  have hFr := hwF.tr hFr hF (fun _ h => h) (fun M h => by first | exact False.elim h | ((try dsimp only at h ⊢); omega))
  have f0_ := hF _ _ _ (by intro hNS; first | exact False.elim hNS | ((try dsimp only at hNS); omega)) f0_
  have f1_ := hF _ _ _ (by intro hNS; first | exact False.elim hNS | ((try dsimp only at hNS); omega)) f1_
  have f2_ := hF _ _ _ (by intro hNS; first | exact False.elim hNS | ((try dsimp only at hNS); omega)) f2_
  have f4_ := txAt.fr hF (by intro hNS; first | exact False.elim hNS | ((try dsimp only at hNS); omega)) (by intro hNS; first | exact False.elim hNS | ((try dsimp only at hNS); omega)) f4_
  have f5_ := seAt.fr hF (by intro hNS; first | exact False.elim hNS | ((try dsimp only at hNS); omega)) (by intro hNS; first | exact False.elim hNS | ((try dsimp only at hNS); omega)) f5_
  have ff_12 := hN_11
  refine lv_iconst (v := nI 1) hx hb dIx_readField_38 (by decide) ?_
  exact hret (by decide) hZ ⟨rfl, hFr, ff_12⟩ dIx_readField_39
set_option maxHeartbeats 4000000 in
set_option maxRecDepth 100000 in
theorem c_Ix_readF (l : Launch) (D : va_G) (K : Nat → ClassId) (X : hwW) (sz : Nat) (a : Nat) (b0 : Nat) (b1 : Nat) (b2 : Nat) (b3 : Nat) (b4 : Nat) (b5 : Nat) (b6 : Nat) (b7 : Nat) (b8 : Nat) (ni : Nat) (fs : Nat) (qs : Nat) (fi : Nat → Option Nat) (n : Nat) (kind : Int32) (f0_ : hwH X a 0 (.inr (5, [.ref b0, .int (nI ni), .int (nI fs), .ref b1, .ref b2, .int (nI qs), .ref b3, .ref b4, .ref b5, .ref b6, .ref b7, .ref b8]))) (f1_ : hwH X b0 1 (.inl (K 4, 30, .inr (.inr (.inr (.inr fi)))))) (hn1 : 1 ≤ n) (hn2 : n ≤ ni) (hni : ni ≤ 30) (hpi : piAt X fi (n - 1) false) : Met l yIx_readField (.code yIx_readField cIx_readField 4 (some .boolean) :: hwG) ({ frames := 5, cells := 0, slots := 0, locals := 115 } : Room) (hwPc D vwCl (hwT K) [.ref a, .int (nI n), .int kind] X sz) (hwQi D vwCl X sz (fun r Y => r = bI false ∧ X = Y)) 0 0 (va_A X.1 sz) := by
  refine hwMetz (cc := cIx_readField) (maxL := 4) (by decide) rfl (Nat.le_of_ble_eq_true rfl) (fun p e s m args below meth c ls A Q hx hb hml hown hts hname hret hK hO hZ hA hl => ?_)
  have hl : lv_has ls 4 [(0, .ref a), (1, .int (nI n)), (2, .int kind)] := hl
  refine lv_aload_n hx hb dIx_readField_0 rfl (lv_at hl 0 rfl) ?_
  refine lv_iload_n hx hb dIx_readField_1 rfl (lv_at hl 1 rfl) ?_
  refine lv_iload_n hx hb dIx_readField_2 rfl (lv_at hl 2 rfl) ?_
  refine hw_callq (va_runV (As := [.int (nI n), .int kind]) (rest := []) ⟨hx, hb, hml, hown, hts⟩ (c_Ix_textF l D K X s.heap.size (a := a) (b0 := b0) (b1 := b1) (b2 := b2) (b3 := b3) (b4 := b4) (b5 := b5) (b6 := b6) (b7 := b7) (b8 := b8) (ni := ni) (fs := fs) (qs := qs) (fi := fi) (n := n) (kind := kind) (th := false) f0_ f1_ (by omega) (by omega) (by omega) (by assumption) rfl) (cwV 2 hts (hwGood (hw_4 mm_206 mm_207 mm_208 mm_193 (hwAll mm_205))) rfl rfl rfl (by decide +kernel) ⟨Nat.le_of_ble_eq_true rfl, Nat.le_of_ble_eq_true rfl⟩) (hw_preV hK hO hZ (⟨_, _, f0_⟩) rfl) rfl rfl hl.1 rfl (lv_room (Nat.le_of_ble_eq_true rfl)) dIx_readField_3 ⟨(show 0 + 0 ≤ 0 by omega), (show 0 + 0 ≤ 0 by omega)⟩) hZ hA (fun r X_1 H_2 lc_3 hp hZ => ?_)
  obtain ⟨hr, hy⟩ := hp
  subst hy
  refine hw_top (y := .null) (by rw [hr]; rfl) ?_
  refine lv_astore_nN (lv' := [(3, .null), (0, .ref a), (1, .int (nI n)), (2, .int kind)]) hx hb dIx_readField_6 rfl hl (by decide) rfl (fun ls hl => ?_)
  refine lv_aload_nN hx hb dIx_readField_7 rfl (lv_at hl 0 rfl) ?_
  refine lv_ifnullN (tgt := 18) hx hb dIx_readField_8 (by decide) ?_
  refine lv_iconst (v := nI 0) hx hb dIx_readField_18 (by decide) ?_
  exact hret (by decide) hZ ⟨rfl, rfl⟩ dIx_readField_19
set_option maxHeartbeats 4000000 in
set_option maxRecDepth 100000 in
theorem c_Ix_readK (l : Launch) (D : va_G) (K : Nat → ClassId) (X : hwW) (sz : Nat) (a : Nat) (b0 : Nat) (b1 : Nat) (b2 : Nat) (b3 : Nat) (b4 : Nat) (b5 : Nat) (b6 : Nat) (b7 : Nat) (b8 : Nat) (ni : Nat) (fs : Nat) (qs : Nat) (fi : Nat → Option Nat) (n : Nat) (kind : Int32) (t : Nat) (f0_ : hwH X a 0 (.inr (5, [.ref b0, .int (nI ni), .int (nI fs), .ref b1, .ref b2, .int (nI qs), .ref b3, .ref b4, .ref b5, .ref b6, .ref b7, .ref b8]))) (f1_ : hwH X b0 1 (.inl (K 4, 30, .inr (.inr (.inr (.inr fi)))))) (hn1 : 1 ≤ n) (hn2 : n ≤ ni) (hni : ni ≤ 30) (hpt : ptAt K X fi (n - 1) 0 true t) (hk : badK kind) : Met l yIx_readField (.code yIx_readField cIx_readField 4 (some .boolean) :: hwG) ({ frames := 5, cells := 0, slots := 0, locals := 115 } : Room) (hwPc D vwCl (hwT K) [.ref a, .int (nI n), .int kind] X sz) (hwQi D vwCl X sz (fun r Y => r = bI false ∧ X = Y)) 0 0 (va_A X.1 sz) := by
  refine hwMetz (cc := cIx_readField) (maxL := 4) (by decide) rfl (Nat.le_of_ble_eq_true rfl) (fun p e s m args below meth c ls A Q hx hb hml hown hts hname hret hK hO hZ hA hl => ?_)
  have hl : lv_has ls 4 [(0, .ref a), (1, .int (nI n)), (2, .int kind)] := hl
  refine lv_aload_n hx hb dIx_readField_0 rfl (lv_at hl 0 rfl) ?_
  refine lv_iload_n hx hb dIx_readField_1 rfl (lv_at hl 1 rfl) ?_
  refine lv_iload_n hx hb dIx_readField_2 rfl (lv_at hl 2 rfl) ?_
  refine hw_callq (va_runV (As := [.int (nI n), .int kind]) (rest := []) ⟨hx, hb, hml, hown, hts⟩ (c_Ix_textK l D K X s.heap.size (a := a) (b0 := b0) (b1 := b1) (b2 := b2) (b3 := b3) (b4 := b4) (b5 := b5) (b6 := b6) (b7 := b7) (b8 := b8) (ni := ni) (fs := fs) (qs := qs) (fi := fi) (n := n) (kind := kind) (th := true) (t := t) f0_ f1_ (by omega) (by omega) (by omega) (by assumption) rfl (by assumption)) (cwV 2 hts (hwGood (hw_4 mm_206 mm_207 mm_208 mm_193 (hwAll mm_205))) rfl rfl rfl (by decide +kernel) ⟨Nat.le_of_ble_eq_true rfl, Nat.le_of_ble_eq_true rfl⟩) (hw_preV hK hO hZ (⟨_, _, f0_⟩) rfl) rfl rfl hl.1 rfl (lv_room (Nat.le_of_ble_eq_true rfl)) dIx_readField_3 ⟨(show 0 + 0 ≤ 0 by omega), (show 0 + 0 ≤ 0 by omega)⟩) hZ hA (fun r X_1 H_2 lc_3 hp hZ => ?_)
  obtain ⟨hr, hy⟩ := hp
  subst hy
  refine hw_top (y := .null) (by rw [hr]; rfl) ?_
  refine lv_astore_nN (lv' := [(3, .null), (0, .ref a), (1, .int (nI n)), (2, .int kind)]) hx hb dIx_readField_6 rfl hl (by decide) rfl (fun ls hl => ?_)
  refine lv_aload_nN hx hb dIx_readField_7 rfl (lv_at hl 0 rfl) ?_
  refine lv_ifnullN (tgt := 18) hx hb dIx_readField_8 (by decide) ?_
  refine lv_iconst (v := nI 0) hx hb dIx_readField_18 (by decide) ?_
  exact hret (by decide) hZ ⟨rfl, rfl⟩ dIx_readField_19
set_option maxHeartbeats 4000000 in
set_option maxRecDepth 100000 in
theorem c_Ix_gatherAll (l : Launch) (D : va_G) (K : Nat → ClassId) (X : hwW) (sz : Nat) (a : Nat) (b0 : Nat) (b1 : Nat) (b2 : Nat) (b3 : Nat) (b4 : Nat) (b5 : Nat) (b6 : Nat) (b7 : Nat) (b8 : Nat) (ni : Nat) (fs : Nat) (qs : Nat) (fi : Nat → Option Nat) (fl : Nat → Int32) (its : hwIt) (lg : Nat → Nat) (tf : List (List Nat)) (ss : List (List Nat)) (hs0 : List (Nat × Nat × Nat)) (so : Nat) (Lo : Nat) (ta : List (List Nat)) (j : Nat) (f0_ : hwH X a 0 (.inr (5, [.ref b0, .int (nI ni), .int (nI fs), .ref b1, .ref b2, .int (nI qs), .ref b3, .ref b4, .ref b5, .ref b6, .ref b7, .ref b8]))) (f1_ : hwH X b0 1 (.inl (K 4, 30, .inr (.inr (.inr (.inr fi)))))) (f2_ : itsAt K X fi its) (f3_ : hwH X b1 2 (.inl (K 0, 4, .inl fl))) (f4_ : tmAt K X b6 8 750 tf) (f5_ : seAt K X b3 6 40 ss) (f6_ : hiAt K X b4 hs0) (f7_ : hwH X so Lo (.inr (6, [.ref b5]))) (f8_ : tmAt K X b5 7 50 ta) (hni : ni = its.length) (hni3 : its.length ≤ 30) (hj : j < 4) (hfl : ∀ j, j < 4 → fl j = nI (lg j)) (hlg : ∀ j, lg j < 3) (hok : okIt its) (hs : ss.Pairwise (· < ·)) (hh0 : hs0 = []) (hLo : Lo = 52) : Met l yIx_gather (.code yIx_gather cIx_gather 4 (some .int) :: hwG) ({ frames := 7, cells := 0, slots := 0, locals := 154 } : Room) (hwPc D vwCl (hwT K) [.ref a, .int (nI j), .ref so] X sz) (hwQi D vwCl X sz (fun r Y => ∃ tz : List (List Nat), r = nI (gaN (fun tb => ta.all (fun t => decide (t = [] ∨ t ∈ tb))) (fun tb => tb.countP (fun w => decide (w ≠ []) && (decide (w ∈ ta)))) (Tf its lg ss j) ni).length ∧ hwF X Y (fun M => M = 16 ∨ M = 17 ∨ (60 ≤ M ∧ M ≤ 63)) ∧ tmAt K Y b6 8 750 tz ∧ hiAt K Y b4 (gaN (fun tb => ta.all (fun t => decide (t = [] ∨ t ∈ tb))) (fun tb => tb.countP (fun w => decide (w ≠ []) && (decide (w ∈ ta)))) (Tf its lg ss j) ni))) 0 0 (va_A X.1 sz) := by
  refine hwMeti (cc := cIx_gather) (maxL := 4) (by decide) rfl (Nat.le_of_ble_eq_true rfl) (fun p e s m args below meth c ls A Q hx hb hml hown hts hname hret hK hO hZ hA hl => ?_)
  have hl : lv_has ls 4 [(0, .ref a), (1, .int (nI j)), (2, .ref so)] := hl
  have hFr : hwF X X (fun M => M = 16 ∨ M = 17 ∨ (60 ≤ M ∧ M ≤ 63)) := hwF.rf
  refine lv_iconst (v := nI 1) hx hb dIx_gather_0 (by decide) ?_
  refine lv_istore_n (lv' := [(3, .int (nI 1)), (0, .ref a), (1, .int (nI j)), (2, .ref so)]) hx hb dIx_gather_1 rfl hl (by decide) rfl (fun ls hl => ?_)
  have loop2 : ∀ (fuel : Nat) (n : Nat) (hz : List (Nat × Nat × Nat)) (tz : List (List Nat)) (XL2 : hwW) (Hh : Heap) (lcs : List Loc) (ls : Array Slot), ni + 1 - n < fuel → (1 ≤ n) → (n ≤ ni + 1) → (hz = gaN (fun tb => ta.all (fun t => decide (t = [] ∨ t ∈ tb))) (fun tb => tb.countP (fun w => decide (w ≠ []) && (decide (w ∈ ta)))) (Tf its lg ss j) (n - 1)) → (hwF X XL2 (fun M => M = 16 ∨ M = 17 ∨ (60 ≤ M ∧ M ≤ 63))) → (hwH XL2 a 0 (.inr (5, [.ref b0, .int (nI ni), .int (nI fs), .ref b1, .ref b2, .int (nI qs), .ref b3, .ref b4, .ref b5, .ref b6, .ref b7, .ref b8]))) → (hwH XL2 b0 1 (.inl (K 4, 30, .inr (.inr (.inr (.inr fi)))))) → (itsAt K XL2 fi its) → (hwH XL2 b1 2 (.inl (K 0, 4, .inl fl))) → (tmAt K XL2 b6 8 750 tz) → (seAt K XL2 b3 6 40 ss) → (hiAt K XL2 b4 hz) → (hwH XL2 so Lo (.inr (6, [.ref b5]))) → (tmAt K XL2 b5 7 50 ta) → hwZ D vwCl A s.heap XL2 Hh lcs → lv_has ls 4 [(3, .int (nI n)), (0, .ref a), (1, .int (nI j)), (2, .ref so)] → W p l e ({ frames := 7, cells := 0, slots := 0, locals := 154 } : Room) s m args below meth c Hh lcs 0 0 Q (F0 m 2 ls []) := by
    intro fuel; induction fuel with
    | zero => intro n hz tz XL2 Hh lcs ls hfu; exact absurd hfu (Nat.not_lt_zero _)
    | succ fuel ih2 =>
      intro n hz tz XL2 Hh lcs ls hfu2 hn1 hn2 hhz hFr gx gi gt gl gf gs gh go ga hZ hl
      refine lv_iload_n hx hb dIx_gather_2 rfl (lv_at hl 0 rfl) ?_
      refine lv_aload_n hx hb dIx_gather_3 rfl (lv_at hl 1 rfl) ?_
      refine hw_get hx hb hts (hwInn inIx) hown hK hZ gx rfl 1 (by decide) (hts (.fieldLink RIx 58 RIx "itemCount" "I") (hwMem mm_187)) (fun _ h => h) rfl dIx_gather_4 ?_
      refine hw_ic_gt (a := n) (b := ni) (tgt := 59) hx hb dIx_gather_7 (by decide) (by omega) (by omega) (fun cq_1 => ?_) (fun cq_1 => ?_)
      · refine lv_aload_n hx hb dIx_gather_59 rfl (lv_at hl 1 rfl) ?_
        refine hw_get hx hb hts (hwInn inIx) hown hK hZ gx rfl 7 (by decide) (hts (.fieldLink RIx 38 RIx "hits" "LWordIndex2$Hits;") (hwMem mm_219)) (fun _ h => h) rfl dIx_gather_60 ?_
        refine hw_calli (va_runV (As := []) (rest := []) ⟨hx, hb, hml, hown, hts⟩ (c_Hi_sizeP l D K XL2 Hh.size (a := b4) (hs := hz) gh) (cwV 0 hts (hwGood (hw_4 mm_221 mm_222 mm_223 mm_95 (hwAll mm_220))) rfl rfl rfl (by decide +kernel) ⟨Nat.le_of_ble_eq_true rfl, Nat.le_of_ble_eq_true rfl⟩) (hw_preV hK hO hZ (hiAt.ob gh) rfl) rfl rfl hl.1 rfl (lv_room (Nat.le_of_ble_eq_true rfl)) dIx_gather_63 ⟨(show 0 + 0 ≤ 0 by omega), (show 0 + 0 ≤ 0 by omega)⟩) hZ hA (fun r X_2 H_3 lc_4 hp hZ => ?_)
        obtain ⟨hr, hy, xx_5⟩ := hp
        subst hy
        refine hw_topi hr ?_
        exact hret hZ ⟨tz, by rw [hhz, show n - 1 = ni by omega], hFr, gf, by rw [show ni = n - 1 by omega, ← hhz]; exact gh⟩ dIx_gather_66
      · cases hth : (its.getD (n - 1) hwIt0).1
        · have hpi := itsAt.pi gt (i := n - 1) (by omega)
          rw [hth] at hpi
          refine lv_aload_n hx hb dIx_gather_10 rfl (lv_at hl 1 rfl) ?_
          refine lv_iload_n hx hb dIx_gather_11 rfl (lv_at hl 0 rfl) ?_
          refine lv_iload_n hx hb dIx_gather_12 rfl (lv_at hl 2 rfl) ?_
          refine hw_calli (va_runV (As := [.int (nI n), .int (nI j)]) (rest := []) ⟨hx, hb, hml, hown, hts⟩ (c_Ix_readF l D K XL2 Hh.size (a := a) (b0 := b0) (b1 := b1) (b2 := b2) (b3 := b3) (b4 := b4) (b5 := b5) (b6 := b6) (b7 := b7) (b8 := b8) (ni := ni) (fs := fs) (qs := qs) (fi := fi) (n := n) (kind := nI j) gx gi (by omega) (by omega) (by omega) (by assumption)) (cwV 2 hts (hwGood (hw_4 mm_225 mm_226 mm_227 mm_193 (hwAll mm_224))) rfl rfl rfl (by decide +kernel) ⟨Nat.le_of_ble_eq_true rfl, Nat.le_of_ble_eq_true rfl⟩) (hw_preV hK hO hZ (⟨_, _, gx⟩) rfl) rfl rfl hl.1 rfl (lv_room (Nat.le_of_ble_eq_true rfl)) dIx_gather_13 ⟨(show 0 + 0 ≤ 0 by omega), (show 0 + 0 ≤ 0 by omega)⟩) hZ hA (fun r X_6 H_7 lc_8 hp hZ => ?_)
          obtain ⟨hr, hy⟩ := hp
          subst hy
          refine hw_topi hr ?_
          refine hw_bz_eqT (tgt := 53) hx hb dIx_gather_16 (by decide) rfl ?_
          refine lv_iinc (v := nI (n + 1)) (lv' := [(3, .int (nI (n + 1))), (0, .ref a), (1, .int (nI j)), (2, .ref so)]) hx hb dIx_gather_53 hl (k := 0) rfl (nI_add _ 1) (by decide) rfl (fun ls hl => ?_)
          refine lv_goto (tgt := 2) hx hb dIx_gather_56 (by decide) ?_
          exact ih2 (n + 1) hz tz _ _ _ _ (by omega) (by omega) (by omega) (gaN_none (by omega) hhz (Tf_f hth)) hFr gx gi gt gl gf gs gh go ga hZ (lv_sub hl [0, 1, 2, 3] rfl)
        · obtain ⟨t, hpt, htx⟩ := itsAt.pt gt (i := n - 1) (j := j) (by omega) (by omega)
          rw [hth] at hpt
          have hlen : (((its.getD (n - 1) hwIt0).2 j).1.map (trm (lg j) ss)).length ≤ 600 := by rw [List.length_map]; exact (hok (n - 1) j).2
          refine lv_aload_n hx hb dIx_gather_10 rfl (lv_at hl 1 rfl) ?_
          refine lv_iload_n hx hb dIx_gather_11 rfl (lv_at hl 0 rfl) ?_
          refine lv_iload_n hx hb dIx_gather_12 rfl (lv_at hl 2 rfl) ?_
          refine hw_calli (va_runV (As := [.int (nI n), .int (nI j)]) (rest := []) ⟨hx, hb, hml, hown, hts⟩ (c_Ix_read l D K XL2 Hh.size (a := a) (b0 := b0) (b1 := b1) (b2 := b2) (b3 := b3) (b4 := b4) (b5 := b5) (b6 := b6) (b7 := b7) (b8 := b8) (ni := ni) (fs := fs) (qs := qs) (fi := fi) (fl := fl) (tf := tz) (t := t) (kt := 55 + 10 * (n - 1) + j) (ws := ((its.getD (n - 1) hwIt0).2 j).1) (o := ((its.getD (n - 1) hwIt0).2 j).2) (ss := ss) (n := n) (j := j) (g := (lg j)) gx gi gl gf htx gs (by omega) (by omega) (by omega) (by omega) (by assumption) (by omega) (hfl j hj) (hlg j) (Nat.le_trans (hok (n - 1) j).2 (by decide)) (hok (n - 1) j).1 (by assumption)) (cwV 2 hts (hwGood (hw_4 mm_225 mm_226 mm_227 mm_193 (hwAll mm_224))) rfl rfl rfl (by decide +kernel) ⟨Nat.le_of_ble_eq_true rfl, Nat.le_of_ble_eq_true rfl⟩) (hw_preV hK hO hZ (⟨_, _, gx⟩) rfl) rfl rfl hl.1 rfl (lv_room (Nat.le_of_ble_eq_true rfl)) dIx_gather_13 ⟨(show 0 + 0 ≤ 0 by omega), (show 0 + 0 ≤ 0 by omega)⟩) hZ hA (fun r X_10 H_11 lc_12 hp hZ => ?_)
          obtain ⟨hr, hF, hN_13⟩ := hp
          have hFr := hwF.tr hFr hF (fun _ h => h) (fun M h => by first | exact False.elim h | ((try dsimp only at h ⊢); omega))
          have gx := hF _ _ _ (by intro hNS; first | exact False.elim hNS | ((try dsimp only at hNS); omega)) gx
          have gi := hF _ _ _ (by intro hNS; first | exact False.elim hNS | ((try dsimp only at hNS); omega)) gi
          have gt := itsAt.fr hF (fun M h1 h2 hNS => by first | exact False.elim hNS | ((try dsimp only at hNS); omega)) gt
          have gl := hF _ _ _ (by intro hNS; first | exact False.elim hNS | ((try dsimp only at hNS); omega)) gl
          have gs := seAt.fr hF (by intro hNS; first | exact False.elim hNS | ((try dsimp only at hNS); omega)) (by intro hNS; first | exact False.elim hNS | ((try dsimp only at hNS); omega)) gs
          have gh := hiAt.fr hF (by intro hNS; first | exact False.elim hNS | ((try dsimp only at hNS); omega)) (by intro hNS; first | exact False.elim hNS | ((try dsimp only at hNS); omega)) (by intro hNS; first | exact False.elim hNS | ((try dsimp only at hNS); omega)) (by intro hNS; first | exact False.elim hNS | ((try dsimp only at hNS); omega)) gh
          have go := hF _ _ _ (by intro hNS; first | exact False.elim hNS | ((try dsimp only at hNS); omega)) go
          have ga := tmAt.fr hF (by intro hNS; first | exact False.elim hNS | ((try dsimp only at hNS); omega)) (by intro hNS; first | exact False.elim hNS | ((try dsimp only at hNS); omega)) ga
          have htx := txAt.fr hF (by intro hNS; first | exact False.elim hNS | ((try dsimp only at hNS); omega)) (by intro hNS; first | exact False.elim hNS | ((try dsimp only at hNS); omega)) htx
          have ff_14 := hN_13
          refine hw_topi hr ?_
          refine hw_bz_eqF (tgt := 53) hx hb dIx_gather_16 (by decide) rfl ?_
          refine lv_aload_n hx hb dIx_gather_19 rfl (lv_at hl 3 rfl) ?_
          refine lv_aload_n hx hb dIx_gather_20 rfl (lv_at hl 1 rfl) ?_
          refine hw_get hx hb hts (hwInn inIx) hown hK hZ gx rfl 9 (by decide) (hts (.fieldLink RIx 49 RIx "fieldTerms" "LWordIndex2$Terms;") (hwMem mm_212)) (fun _ h => h) rfl dIx_gather_21 ?_
          refine hw_calli (va_runU (As := [.ref b6]) (rest := []) ⟨hx, hb, hml, hown, hts⟩ (c_All_meets l D K X_10 H_11.size (o := so) (L := Lo) (a := b5) (ka := 7) (Na := 50) (ta := ta) (b := b6) (kb := 8) (Nb := 750) (tb := (((its.getD (n - 1) hwIt0).2 j).1).map (trm (lg j) ss)) go ga ff_14) (va_cwA (owner := RSearch) 1 hts (hwGood (hw_5 mm_229 mm_230 mm_231 mm_232 mm_139 (hwAll mm_228))) rfl rfl rfl (hO.2 _ (List.mem_of_getElem? (i := 5) rfl)) (by decide +kernel) ⟨Nat.le_of_ble_eq_true rfl, Nat.le_of_ble_eq_true rfl⟩) (hw_preV hK hO hZ (⟨_, _, go⟩) rfl) rfl rfl hl.1 rfl (lv_room (Nat.le_of_ble_eq_true rfl)) dIx_gather_24 ⟨(show 0 + 0 ≤ 0 by omega), (show 0 + 0 ≤ 0 by omega)⟩) hZ hA (fun r X_16 H_17 lc_18 hp hZ => ?_)
          obtain ⟨hr, hy⟩ := hp
          subst hy
          refine hw_topi hr ?_
          refine hw_bz_eq (tgt := 53) hx hb dIx_gather_27 (by decide) (fun cq_19 => ?_) (fun cq_19 => ?_)
          · refine lv_iinc (v := nI (n + 1)) (lv' := [(3, .int (nI (n + 1))), (0, .ref a), (1, .int (nI j)), (2, .ref so)]) hx hb dIx_gather_53 hl (k := 0) rfl (nI_add _ 1) (by decide) rfl (fun ls hl => ?_)
            refine lv_goto (tgt := 2) hx hb dIx_gather_56 (by decide) ?_
            exact ih2 (n + 1) hz ((((its.getD (n - 1) hwIt0).2 j).1).map (trm (lg j) ss)) _ _ _ _ (by omega) (by omega) (by omega) (gaN_no (by omega) hhz (Tf_t hth) cq_19) hFr gx gi gt gl ff_14 gs gh go ga hZ (lv_sub hl [0, 1, 2, 3] rfl)
          · refine lv_aload_n hx hb dIx_gather_30 rfl (lv_at hl 1 rfl) ?_
            refine hw_get hx hb hts (hwInn inIx) hown hK hZ gx rfl 7 (by decide) (hts (.fieldLink RIx 38 RIx "hits" "LWordIndex2$Hits;") (hwMem mm_219)) (fun _ h => h) rfl dIx_gather_31 ?_
            refine lv_iload_n hx hb dIx_gather_34 rfl (lv_at hl 0 rfl) ?_
            refine lv_aload_n hx hb dIx_gather_35 rfl (lv_at hl 3 rfl) ?_
            refine lv_aload_n hx hb dIx_gather_36 rfl (lv_at hl 1 rfl) ?_
            refine hw_get hx hb hts (hwInn inIx) hown hK hZ gx rfl 9 (by decide) (hts (.fieldLink RIx 49 RIx "fieldTerms" "LWordIndex2$Terms;") (hwMem mm_212)) (fun _ h => h) rfl dIx_gather_37 ?_
            refine hw_calli (va_runU (As := [.ref b6]) (rest := [.int (nI n), .ref b4]) ⟨hx, hb, hml, hown, hts⟩ (c_All_count l D K X_10 H_17.size (o := so) (L := Lo) (a := b5) (ka := 7) (Na := 50) (ta := ta) (b := b6) (kb := 8) (Nb := 750) (tb := (((its.getD (n - 1) hwIt0).2 j).1).map (trm (lg j) ss)) go ga ff_14) (va_cwU (owner := RSearch) 1 hts (hwGood (hw_5 mm_233 mm_234 mm_235 mm_173 mm_109 (hwAll mm_169))) rfl rfl rfl rfl (by decide +kernel) ⟨Nat.le_of_ble_eq_true rfl, Nat.le_of_ble_eq_true rfl⟩) (hw_preV hK hO hZ (⟨_, _, go⟩) rfl) rfl rfl hl.1 rfl (lv_room (Nat.le_of_ble_eq_true rfl)) dIx_gather_40 ⟨(show 0 + 0 ≤ 0 by omega), (show 0 + 0 ≤ 0 by omega)⟩) hZ hA (fun r X_20 H_21 lc_22 hp hZ => ?_)
            obtain ⟨hr, hy, xx_23⟩ := hp
            subst hy
            refine hw_topi hr ?_
            refine lv_aload_n hx hb dIx_gather_43 rfl (lv_at hl 1 rfl) ?_
            refine hw_get hx hb hts (hwInn inIx) hown hK hZ gx rfl 9 (by decide) (hts (.fieldLink RIx 49 RIx "fieldTerms" "LWordIndex2$Terms;") (hwMem mm_212)) (fun _ h => h) rfl dIx_gather_44 ?_
            refine hw_calli (va_runV (As := []) (rest := [.int (nI (((((its.getD (n - 1) hwIt0).2 j).1).map (trm (lg j) ss)).countP (fun w => decide (w ≠ []) && (decide (w ∈ ta))))), .int (nI n), .ref b4]) ⟨hx, hb, hml, hown, hts⟩ (c_Tm_size l D K X_10 H_21.size (a := b6) (k := 8) (N := 750) (ts := (((its.getD (n - 1) hwIt0).2 j).1).map (trm (lg j) ss)) ff_14) (cwV 0 hts (hwGood (hw_4 mm_236 mm_131 mm_132 mm_89 (hwAll mm_129))) rfl rfl rfl (by decide +kernel) ⟨Nat.le_of_ble_eq_true rfl, Nat.le_of_ble_eq_true rfl⟩) (hw_preV hK hO hZ (tmAt.ob ff_14) rfl) rfl rfl hl.1 rfl (lv_room (Nat.le_of_ble_eq_true rfl)) dIx_gather_47 ⟨(show 0 + 0 ≤ 0 by omega), (show 0 + 0 ≤ 0 by omega)⟩) hZ hA (fun r X_24 H_25 lc_26 hp hZ => ?_)
            obtain ⟨hr, hy⟩ := hp
            subst hy
            refine hw_topi hr ?_
            refine hw_callv (va_runV (As := [.int (nI n), .int (nI (((((its.getD (n - 1) hwIt0).2 j).1).map (trm (lg j) ss)).countP (fun w => decide (w ≠ []) && (decide (w ∈ ta))))), .int (nI (((((its.getD (n - 1) hwIt0).2 j).1).map (trm (lg j) ss)).length))]) (rest := []) ⟨hx, hb, hml, hown, hts⟩ (c_Hi_add l D K X_10 H_25.size (a := b4) (hs := hz) (x0 := n) (c0 := ((((its.getD (n - 1) hwIt0).2 j).1).map (trm (lg j) ss)).countP (fun w => decide (w ≠ []) && (decide (w ∈ ta)))) (z0 := ((((its.getD (n - 1) hwIt0).2 j).1).map (trm (lg j) ss)).length) gh (by omega) (by omega) (by omega)) (cwV 3 hts (hwGood (hw_4 mm_238 mm_239 mm_240 mm_95 (hwAll mm_237))) rfl rfl rfl (by decide +kernel) ⟨Nat.le_of_ble_eq_true rfl, Nat.le_of_ble_eq_true rfl⟩) (hw_preV hK hO hZ (hiAt.ob gh) rfl) rfl rfl hl.1 rfl (lv_room (Nat.le_of_ble_eq_true rfl)) dIx_gather_50 ⟨(show 0 + 0 ≤ 0 by omega), (show 0 + 0 ≤ 0 by omega)⟩) hZ hA (fun X_27 H_28 lc_29 hp hZ => ?_)
            obtain ⟨hF, hN_30⟩ := hp
            have hFr := hwF.tr hFr hF (fun _ h => h) (fun M h => by first | exact False.elim h | ((try dsimp only at h ⊢); omega))
            have gx := hF _ _ _ (by intro hNS; first | exact False.elim hNS | ((try dsimp only at hNS); omega)) gx
            have gi := hF _ _ _ (by intro hNS; first | exact False.elim hNS | ((try dsimp only at hNS); omega)) gi
            have gt := itsAt.fr hF (fun M h1 h2 hNS => by first | exact False.elim hNS | ((try dsimp only at hNS); omega)) gt
            have gl := hF _ _ _ (by intro hNS; first | exact False.elim hNS | ((try dsimp only at hNS); omega)) gl
            have gs := seAt.fr hF (by intro hNS; first | exact False.elim hNS | ((try dsimp only at hNS); omega)) (by intro hNS; first | exact False.elim hNS | ((try dsimp only at hNS); omega)) gs
            have go := hF _ _ _ (by intro hNS; first | exact False.elim hNS | ((try dsimp only at hNS); omega)) go
            have ga := tmAt.fr hF (by intro hNS; first | exact False.elim hNS | ((try dsimp only at hNS); omega)) (by intro hNS; first | exact False.elim hNS | ((try dsimp only at hNS); omega)) ga
            have htx := txAt.fr hF (by intro hNS; first | exact False.elim hNS | ((try dsimp only at hNS); omega)) (by intro hNS; first | exact False.elim hNS | ((try dsimp only at hNS); omega)) htx
            have ff_14 := tmAt.fr hF (by intro hNS; first | exact False.elim hNS | ((try dsimp only at hNS); omega)) (by intro hNS; first | exact False.elim hNS | ((try dsimp only at hNS); omega)) ff_14
            have ff_31 := hN_30
            refine lv_iinc (v := nI (n + 1)) (lv' := [(3, .int (nI (n + 1))), (0, .ref a), (1, .int (nI j)), (2, .ref so)]) hx hb dIx_gather_53 hl (k := 0) rfl (nI_add _ 1) (by decide) rfl (fun ls hl => ?_)
            refine lv_goto (tgt := 2) hx hb dIx_gather_56 (by decide) ?_
            exact ih2 (n + 1) (if 30 ≤ hz.length then hz else insH (n, ((((its.getD (n - 1) hwIt0).2 j).1).map (trm (lg j) ss)).countP (fun w => decide (w ≠ []) && (decide (w ∈ ta))), ((((its.getD (n - 1) hwIt0).2 j).1).map (trm (lg j) ss)).length) hz) ((((its.getD (n - 1) hwIt0).2 j).1).map (trm (lg j) ss)) _ _ _ _ (by omega) (by omega) (by omega) (gaN_yes (by omega) hhz (Tf_t hth) cq_19) hFr gx gi gt gl ff_14 gs ff_31 go ga hZ (lv_sub hl [0, 1, 2, 3] rfl)
  exact loop2 (ni + 1 - 1 + 1) 1 hs0 tf _ _ _ _ (by omega) (by omega) (by omega) (by rw [hh0]; rfl) hFr f0_ f1_ f2_ f3_ f4_ f5_ f6_ f7_ f8_ hZ (lv_sub hl [0, 1, 2, 3] rfl)
set_option maxHeartbeats 4000000 in
set_option maxRecDepth 100000 in
theorem c_Ix_gatherPhr (l : Launch) (D : va_G) (K : Nat → ClassId) (X : hwW) (sz : Nat) (a : Nat) (b0 : Nat) (b1 : Nat) (b2 : Nat) (b3 : Nat) (b4 : Nat) (b5 : Nat) (b6 : Nat) (b7 : Nat) (b8 : Nat) (ni : Nat) (fs : Nat) (qs : Nat) (fi : Nat → Option Nat) (fl : Nat → Int32) (its : hwIt) (lg : Nat → Nat) (tf : List (List Nat)) (ss : List (List Nat)) (hs0 : List (Nat × Nat × Nat)) (so : Nat) (Lo : Nat) (ta : List (List Nat)) (j : Nat) (f0_ : hwH X a 0 (.inr (5, [.ref b0, .int (nI ni), .int (nI fs), .ref b1, .ref b2, .int (nI qs), .ref b3, .ref b4, .ref b5, .ref b6, .ref b7, .ref b8]))) (f1_ : hwH X b0 1 (.inl (K 4, 30, .inr (.inr (.inr (.inr fi)))))) (f2_ : itsAt K X fi its) (f3_ : hwH X b1 2 (.inl (K 0, 4, .inl fl))) (f4_ : tmAt K X b6 8 750 tf) (f5_ : seAt K X b3 6 40 ss) (f6_ : hiAt K X b4 hs0) (f7_ : hwH X so Lo (.inr (7, [.ref b5]))) (f8_ : tmAt K X b5 7 50 ta) (hni : ni = its.length) (hni3 : its.length ≤ 30) (hj : j < 4) (hfl : ∀ j, j < 4 → fl j = nI (lg j)) (hlg : ∀ j, lg j < 3) (hok : okIt its) (hs : ss.Pairwise (· < ·)) (hh0 : hs0 = []) (hLo : Lo = 52) : Met l yIx_gather (.code yIx_gather cIx_gather 4 (some .int) :: hwG) ({ frames := 7, cells := 0, slots := 0, locals := 154 } : Room) (hwPc D vwCl (hwT K) [.ref a, .int (nI j), .ref so] X sz) (hwQi D vwCl X sz (fun r Y => ∃ tz : List (List Nat), r = nI (gaN (fun tb => phL ta tb) (fun tb => tb.countP (fun w => decide (w ≠ []) && (decide (w ∈ ta)))) (Tf its lg ss j) ni).length ∧ hwF X Y (fun M => M = 16 ∨ M = 17 ∨ (60 ≤ M ∧ M ≤ 63)) ∧ tmAt K Y b6 8 750 tz ∧ hiAt K Y b4 (gaN (fun tb => phL ta tb) (fun tb => tb.countP (fun w => decide (w ≠ []) && (decide (w ∈ ta)))) (Tf its lg ss j) ni))) 0 0 (va_A X.1 sz) := by
  refine hwMeti (cc := cIx_gather) (maxL := 4) (by decide) rfl (Nat.le_of_ble_eq_true rfl) (fun p e s m args below meth c ls A Q hx hb hml hown hts hname hret hK hO hZ hA hl => ?_)
  have hl : lv_has ls 4 [(0, .ref a), (1, .int (nI j)), (2, .ref so)] := hl
  have hFr : hwF X X (fun M => M = 16 ∨ M = 17 ∨ (60 ≤ M ∧ M ≤ 63)) := hwF.rf
  refine lv_iconst (v := nI 1) hx hb dIx_gather_0 (by decide) ?_
  refine lv_istore_n (lv' := [(3, .int (nI 1)), (0, .ref a), (1, .int (nI j)), (2, .ref so)]) hx hb dIx_gather_1 rfl hl (by decide) rfl (fun ls hl => ?_)
  have loop2 : ∀ (fuel : Nat) (n : Nat) (hz : List (Nat × Nat × Nat)) (tz : List (List Nat)) (XL2 : hwW) (Hh : Heap) (lcs : List Loc) (ls : Array Slot), ni + 1 - n < fuel → (1 ≤ n) → (n ≤ ni + 1) → (hz = gaN (fun tb => phL ta tb) (fun tb => tb.countP (fun w => decide (w ≠ []) && (decide (w ∈ ta)))) (Tf its lg ss j) (n - 1)) → (hwF X XL2 (fun M => M = 16 ∨ M = 17 ∨ (60 ≤ M ∧ M ≤ 63))) → (hwH XL2 a 0 (.inr (5, [.ref b0, .int (nI ni), .int (nI fs), .ref b1, .ref b2, .int (nI qs), .ref b3, .ref b4, .ref b5, .ref b6, .ref b7, .ref b8]))) → (hwH XL2 b0 1 (.inl (K 4, 30, .inr (.inr (.inr (.inr fi)))))) → (itsAt K XL2 fi its) → (hwH XL2 b1 2 (.inl (K 0, 4, .inl fl))) → (tmAt K XL2 b6 8 750 tz) → (seAt K XL2 b3 6 40 ss) → (hiAt K XL2 b4 hz) → (hwH XL2 so Lo (.inr (7, [.ref b5]))) → (tmAt K XL2 b5 7 50 ta) → hwZ D vwCl A s.heap XL2 Hh lcs → lv_has ls 4 [(3, .int (nI n)), (0, .ref a), (1, .int (nI j)), (2, .ref so)] → W p l e ({ frames := 7, cells := 0, slots := 0, locals := 154 } : Room) s m args below meth c Hh lcs 0 0 Q (F0 m 2 ls []) := by
    intro fuel; induction fuel with
    | zero => intro n hz tz XL2 Hh lcs ls hfu; exact absurd hfu (Nat.not_lt_zero _)
    | succ fuel ih2 =>
      intro n hz tz XL2 Hh lcs ls hfu2 hn1 hn2 hhz hFr gx gi gt gl gf gs gh go ga hZ hl
      refine lv_iload_n hx hb dIx_gather_2 rfl (lv_at hl 0 rfl) ?_
      refine lv_aload_n hx hb dIx_gather_3 rfl (lv_at hl 1 rfl) ?_
      refine hw_get hx hb hts (hwInn inIx) hown hK hZ gx rfl 1 (by decide) (hts (.fieldLink RIx 58 RIx "itemCount" "I") (hwMem mm_187)) (fun _ h => h) rfl dIx_gather_4 ?_
      refine hw_ic_gt (a := n) (b := ni) (tgt := 59) hx hb dIx_gather_7 (by decide) (by omega) (by omega) (fun cq_1 => ?_) (fun cq_1 => ?_)
      · refine lv_aload_n hx hb dIx_gather_59 rfl (lv_at hl 1 rfl) ?_
        refine hw_get hx hb hts (hwInn inIx) hown hK hZ gx rfl 7 (by decide) (hts (.fieldLink RIx 38 RIx "hits" "LWordIndex2$Hits;") (hwMem mm_219)) (fun _ h => h) rfl dIx_gather_60 ?_
        refine hw_calli (va_runV (As := []) (rest := []) ⟨hx, hb, hml, hown, hts⟩ (c_Hi_sizeP l D K XL2 Hh.size (a := b4) (hs := hz) gh) (cwV 0 hts (hwGood (hw_4 mm_221 mm_222 mm_223 mm_95 (hwAll mm_220))) rfl rfl rfl (by decide +kernel) ⟨Nat.le_of_ble_eq_true rfl, Nat.le_of_ble_eq_true rfl⟩) (hw_preV hK hO hZ (hiAt.ob gh) rfl) rfl rfl hl.1 rfl (lv_room (Nat.le_of_ble_eq_true rfl)) dIx_gather_63 ⟨(show 0 + 0 ≤ 0 by omega), (show 0 + 0 ≤ 0 by omega)⟩) hZ hA (fun r X_2 H_3 lc_4 hp hZ => ?_)
        obtain ⟨hr, hy, xx_5⟩ := hp
        subst hy
        refine hw_topi hr ?_
        exact hret hZ ⟨tz, by rw [hhz, show n - 1 = ni by omega], hFr, gf, by rw [show ni = n - 1 by omega, ← hhz]; exact gh⟩ dIx_gather_66
      · cases hth : (its.getD (n - 1) hwIt0).1
        · have hpi := itsAt.pi gt (i := n - 1) (by omega)
          rw [hth] at hpi
          refine lv_aload_n hx hb dIx_gather_10 rfl (lv_at hl 1 rfl) ?_
          refine lv_iload_n hx hb dIx_gather_11 rfl (lv_at hl 0 rfl) ?_
          refine lv_iload_n hx hb dIx_gather_12 rfl (lv_at hl 2 rfl) ?_
          refine hw_calli (va_runV (As := [.int (nI n), .int (nI j)]) (rest := []) ⟨hx, hb, hml, hown, hts⟩ (c_Ix_readF l D K XL2 Hh.size (a := a) (b0 := b0) (b1 := b1) (b2 := b2) (b3 := b3) (b4 := b4) (b5 := b5) (b6 := b6) (b7 := b7) (b8 := b8) (ni := ni) (fs := fs) (qs := qs) (fi := fi) (n := n) (kind := nI j) gx gi (by omega) (by omega) (by omega) (by assumption)) (cwV 2 hts (hwGood (hw_4 mm_225 mm_226 mm_227 mm_193 (hwAll mm_224))) rfl rfl rfl (by decide +kernel) ⟨Nat.le_of_ble_eq_true rfl, Nat.le_of_ble_eq_true rfl⟩) (hw_preV hK hO hZ (⟨_, _, gx⟩) rfl) rfl rfl hl.1 rfl (lv_room (Nat.le_of_ble_eq_true rfl)) dIx_gather_13 ⟨(show 0 + 0 ≤ 0 by omega), (show 0 + 0 ≤ 0 by omega)⟩) hZ hA (fun r X_6 H_7 lc_8 hp hZ => ?_)
          obtain ⟨hr, hy⟩ := hp
          subst hy
          refine hw_topi hr ?_
          refine hw_bz_eqT (tgt := 53) hx hb dIx_gather_16 (by decide) rfl ?_
          refine lv_iinc (v := nI (n + 1)) (lv' := [(3, .int (nI (n + 1))), (0, .ref a), (1, .int (nI j)), (2, .ref so)]) hx hb dIx_gather_53 hl (k := 0) rfl (nI_add _ 1) (by decide) rfl (fun ls hl => ?_)
          refine lv_goto (tgt := 2) hx hb dIx_gather_56 (by decide) ?_
          exact ih2 (n + 1) hz tz _ _ _ _ (by omega) (by omega) (by omega) (gaN_none (by omega) hhz (Tf_f hth)) hFr gx gi gt gl gf gs gh go ga hZ (lv_sub hl [0, 1, 2, 3] rfl)
        · obtain ⟨t, hpt, htx⟩ := itsAt.pt gt (i := n - 1) (j := j) (by omega) (by omega)
          rw [hth] at hpt
          have hlen : (((its.getD (n - 1) hwIt0).2 j).1.map (trm (lg j) ss)).length ≤ 600 := by rw [List.length_map]; exact (hok (n - 1) j).2
          refine lv_aload_n hx hb dIx_gather_10 rfl (lv_at hl 1 rfl) ?_
          refine lv_iload_n hx hb dIx_gather_11 rfl (lv_at hl 0 rfl) ?_
          refine lv_iload_n hx hb dIx_gather_12 rfl (lv_at hl 2 rfl) ?_
          refine hw_calli (va_runV (As := [.int (nI n), .int (nI j)]) (rest := []) ⟨hx, hb, hml, hown, hts⟩ (c_Ix_read l D K XL2 Hh.size (a := a) (b0 := b0) (b1 := b1) (b2 := b2) (b3 := b3) (b4 := b4) (b5 := b5) (b6 := b6) (b7 := b7) (b8 := b8) (ni := ni) (fs := fs) (qs := qs) (fi := fi) (fl := fl) (tf := tz) (t := t) (kt := 55 + 10 * (n - 1) + j) (ws := ((its.getD (n - 1) hwIt0).2 j).1) (o := ((its.getD (n - 1) hwIt0).2 j).2) (ss := ss) (n := n) (j := j) (g := (lg j)) gx gi gl gf htx gs (by omega) (by omega) (by omega) (by omega) (by assumption) (by omega) (hfl j hj) (hlg j) (Nat.le_trans (hok (n - 1) j).2 (by decide)) (hok (n - 1) j).1 (by assumption)) (cwV 2 hts (hwGood (hw_4 mm_225 mm_226 mm_227 mm_193 (hwAll mm_224))) rfl rfl rfl (by decide +kernel) ⟨Nat.le_of_ble_eq_true rfl, Nat.le_of_ble_eq_true rfl⟩) (hw_preV hK hO hZ (⟨_, _, gx⟩) rfl) rfl rfl hl.1 rfl (lv_room (Nat.le_of_ble_eq_true rfl)) dIx_gather_13 ⟨(show 0 + 0 ≤ 0 by omega), (show 0 + 0 ≤ 0 by omega)⟩) hZ hA (fun r X_10 H_11 lc_12 hp hZ => ?_)
          obtain ⟨hr, hF, hN_13⟩ := hp
          have hFr := hwF.tr hFr hF (fun _ h => h) (fun M h => by first | exact False.elim h | ((try dsimp only at h ⊢); omega))
          have gx := hF _ _ _ (by intro hNS; first | exact False.elim hNS | ((try dsimp only at hNS); omega)) gx
          have gi := hF _ _ _ (by intro hNS; first | exact False.elim hNS | ((try dsimp only at hNS); omega)) gi
          have gt := itsAt.fr hF (fun M h1 h2 hNS => by first | exact False.elim hNS | ((try dsimp only at hNS); omega)) gt
          have gl := hF _ _ _ (by intro hNS; first | exact False.elim hNS | ((try dsimp only at hNS); omega)) gl
          have gs := seAt.fr hF (by intro hNS; first | exact False.elim hNS | ((try dsimp only at hNS); omega)) (by intro hNS; first | exact False.elim hNS | ((try dsimp only at hNS); omega)) gs
          have gh := hiAt.fr hF (by intro hNS; first | exact False.elim hNS | ((try dsimp only at hNS); omega)) (by intro hNS; first | exact False.elim hNS | ((try dsimp only at hNS); omega)) (by intro hNS; first | exact False.elim hNS | ((try dsimp only at hNS); omega)) (by intro hNS; first | exact False.elim hNS | ((try dsimp only at hNS); omega)) gh
          have go := hF _ _ _ (by intro hNS; first | exact False.elim hNS | ((try dsimp only at hNS); omega)) go
          have ga := tmAt.fr hF (by intro hNS; first | exact False.elim hNS | ((try dsimp only at hNS); omega)) (by intro hNS; first | exact False.elim hNS | ((try dsimp only at hNS); omega)) ga
          have htx := txAt.fr hF (by intro hNS; first | exact False.elim hNS | ((try dsimp only at hNS); omega)) (by intro hNS; first | exact False.elim hNS | ((try dsimp only at hNS); omega)) htx
          have ff_14 := hN_13
          refine hw_topi hr ?_
          refine hw_bz_eqF (tgt := 53) hx hb dIx_gather_16 (by decide) rfl ?_
          refine lv_aload_n hx hb dIx_gather_19 rfl (lv_at hl 3 rfl) ?_
          refine lv_aload_n hx hb dIx_gather_20 rfl (lv_at hl 1 rfl) ?_
          refine hw_get hx hb hts (hwInn inIx) hown hK hZ gx rfl 9 (by decide) (hts (.fieldLink RIx 49 RIx "fieldTerms" "LWordIndex2$Terms;") (hwMem mm_212)) (fun _ h => h) rfl dIx_gather_21 ?_
          refine hw_calli (va_runU (As := [.ref b6]) (rest := []) ⟨hx, hb, hml, hown, hts⟩ (c_Phr_meets l D K X_10 H_11.size (o := so) (L := Lo) (a := b5) (ka := 7) (Na := 50) (ta := ta) (b := b6) (kb := 8) (Nb := 750) (tb := (((its.getD (n - 1) hwIt0).2 j).1).map (trm (lg j) ss)) go ga ff_14) (va_cwA (owner := RSearch) 1 hts (hwGood (hw_5 mm_229 mm_230 mm_242 mm_243 mm_143 (hwAll mm_241))) rfl rfl rfl (hO.2 _ (List.mem_of_getElem? (i := 5) rfl)) (by decide +kernel) ⟨Nat.le_of_ble_eq_true rfl, Nat.le_of_ble_eq_true rfl⟩) (hw_preV hK hO hZ (⟨_, _, go⟩) rfl) rfl rfl hl.1 rfl (lv_room (Nat.le_of_ble_eq_true rfl)) dIx_gather_24 ⟨(show 0 + 0 ≤ 0 by omega), (show 0 + 0 ≤ 0 by omega)⟩) hZ hA (fun r X_16 H_17 lc_18 hp hZ => ?_)
          obtain ⟨hr, hy⟩ := hp
          subst hy
          refine hw_topi hr ?_
          refine hw_bz_eq (tgt := 53) hx hb dIx_gather_27 (by decide) (fun cq_19 => ?_) (fun cq_19 => ?_)
          · refine lv_iinc (v := nI (n + 1)) (lv' := [(3, .int (nI (n + 1))), (0, .ref a), (1, .int (nI j)), (2, .ref so)]) hx hb dIx_gather_53 hl (k := 0) rfl (nI_add _ 1) (by decide) rfl (fun ls hl => ?_)
            refine lv_goto (tgt := 2) hx hb dIx_gather_56 (by decide) ?_
            exact ih2 (n + 1) hz ((((its.getD (n - 1) hwIt0).2 j).1).map (trm (lg j) ss)) _ _ _ _ (by omega) (by omega) (by omega) (gaN_no (by omega) hhz (Tf_t hth) cq_19) hFr gx gi gt gl ff_14 gs gh go ga hZ (lv_sub hl [0, 1, 2, 3] rfl)
          · refine lv_aload_n hx hb dIx_gather_30 rfl (lv_at hl 1 rfl) ?_
            refine hw_get hx hb hts (hwInn inIx) hown hK hZ gx rfl 7 (by decide) (hts (.fieldLink RIx 38 RIx "hits" "LWordIndex2$Hits;") (hwMem mm_219)) (fun _ h => h) rfl dIx_gather_31 ?_
            refine lv_iload_n hx hb dIx_gather_34 rfl (lv_at hl 0 rfl) ?_
            refine lv_aload_n hx hb dIx_gather_35 rfl (lv_at hl 3 rfl) ?_
            refine lv_aload_n hx hb dIx_gather_36 rfl (lv_at hl 1 rfl) ?_
            refine hw_get hx hb hts (hwInn inIx) hown hK hZ gx rfl 9 (by decide) (hts (.fieldLink RIx 49 RIx "fieldTerms" "LWordIndex2$Terms;") (hwMem mm_212)) (fun _ h => h) rfl dIx_gather_37 ?_
            refine hw_calli (va_runU (As := [.ref b6]) (rest := [.int (nI n), .ref b4]) ⟨hx, hb, hml, hown, hts⟩ (c_Phr_count l D K X_10 H_17.size (o := so) (L := Lo) (a := b5) (ka := 7) (Na := 50) (ta := ta) (b := b6) (kb := 8) (Nb := 750) (tb := (((its.getD (n - 1) hwIt0).2 j).1).map (trm (lg j) ss)) go ga ff_14) (va_cwU (owner := RSearch) 1 hts (hwGood (hw_5 mm_233 mm_234 mm_244 mm_173 mm_109 (hwAll mm_169))) rfl rfl rfl rfl (by decide +kernel) ⟨Nat.le_of_ble_eq_true rfl, Nat.le_of_ble_eq_true rfl⟩) (hw_preV hK hO hZ (⟨_, _, go⟩) rfl) rfl rfl hl.1 rfl (lv_room (Nat.le_of_ble_eq_true rfl)) dIx_gather_40 ⟨(show 0 + 0 ≤ 0 by omega), (show 0 + 0 ≤ 0 by omega)⟩) hZ hA (fun r X_20 H_21 lc_22 hp hZ => ?_)
            obtain ⟨hr, hy, xx_23⟩ := hp
            subst hy
            refine hw_topi hr ?_
            refine lv_aload_n hx hb dIx_gather_43 rfl (lv_at hl 1 rfl) ?_
            refine hw_get hx hb hts (hwInn inIx) hown hK hZ gx rfl 9 (by decide) (hts (.fieldLink RIx 49 RIx "fieldTerms" "LWordIndex2$Terms;") (hwMem mm_212)) (fun _ h => h) rfl dIx_gather_44 ?_
            refine hw_calli (va_runV (As := []) (rest := [.int (nI (((((its.getD (n - 1) hwIt0).2 j).1).map (trm (lg j) ss)).countP (fun w => decide (w ≠ []) && (decide (w ∈ ta))))), .int (nI n), .ref b4]) ⟨hx, hb, hml, hown, hts⟩ (c_Tm_size l D K X_10 H_21.size (a := b6) (k := 8) (N := 750) (ts := (((its.getD (n - 1) hwIt0).2 j).1).map (trm (lg j) ss)) ff_14) (cwV 0 hts (hwGood (hw_4 mm_236 mm_131 mm_132 mm_89 (hwAll mm_129))) rfl rfl rfl (by decide +kernel) ⟨Nat.le_of_ble_eq_true rfl, Nat.le_of_ble_eq_true rfl⟩) (hw_preV hK hO hZ (tmAt.ob ff_14) rfl) rfl rfl hl.1 rfl (lv_room (Nat.le_of_ble_eq_true rfl)) dIx_gather_47 ⟨(show 0 + 0 ≤ 0 by omega), (show 0 + 0 ≤ 0 by omega)⟩) hZ hA (fun r X_24 H_25 lc_26 hp hZ => ?_)
            obtain ⟨hr, hy⟩ := hp
            subst hy
            refine hw_topi hr ?_
            refine hw_callv (va_runV (As := [.int (nI n), .int (nI (((((its.getD (n - 1) hwIt0).2 j).1).map (trm (lg j) ss)).countP (fun w => decide (w ≠ []) && (decide (w ∈ ta))))), .int (nI (((((its.getD (n - 1) hwIt0).2 j).1).map (trm (lg j) ss)).length))]) (rest := []) ⟨hx, hb, hml, hown, hts⟩ (c_Hi_add l D K X_10 H_25.size (a := b4) (hs := hz) (x0 := n) (c0 := ((((its.getD (n - 1) hwIt0).2 j).1).map (trm (lg j) ss)).countP (fun w => decide (w ≠ []) && (decide (w ∈ ta)))) (z0 := ((((its.getD (n - 1) hwIt0).2 j).1).map (trm (lg j) ss)).length) gh (by omega) (by omega) (by omega)) (cwV 3 hts (hwGood (hw_4 mm_238 mm_239 mm_240 mm_95 (hwAll mm_237))) rfl rfl rfl (by decide +kernel) ⟨Nat.le_of_ble_eq_true rfl, Nat.le_of_ble_eq_true rfl⟩) (hw_preV hK hO hZ (hiAt.ob gh) rfl) rfl rfl hl.1 rfl (lv_room (Nat.le_of_ble_eq_true rfl)) dIx_gather_50 ⟨(show 0 + 0 ≤ 0 by omega), (show 0 + 0 ≤ 0 by omega)⟩) hZ hA (fun X_27 H_28 lc_29 hp hZ => ?_)
            obtain ⟨hF, hN_30⟩ := hp
            have hFr := hwF.tr hFr hF (fun _ h => h) (fun M h => by first | exact False.elim h | ((try dsimp only at h ⊢); omega))
            have gx := hF _ _ _ (by intro hNS; first | exact False.elim hNS | ((try dsimp only at hNS); omega)) gx
            have gi := hF _ _ _ (by intro hNS; first | exact False.elim hNS | ((try dsimp only at hNS); omega)) gi
            have gt := itsAt.fr hF (fun M h1 h2 hNS => by first | exact False.elim hNS | ((try dsimp only at hNS); omega)) gt
            have gl := hF _ _ _ (by intro hNS; first | exact False.elim hNS | ((try dsimp only at hNS); omega)) gl
            have gs := seAt.fr hF (by intro hNS; first | exact False.elim hNS | ((try dsimp only at hNS); omega)) (by intro hNS; first | exact False.elim hNS | ((try dsimp only at hNS); omega)) gs
            have go := hF _ _ _ (by intro hNS; first | exact False.elim hNS | ((try dsimp only at hNS); omega)) go
            have ga := tmAt.fr hF (by intro hNS; first | exact False.elim hNS | ((try dsimp only at hNS); omega)) (by intro hNS; first | exact False.elim hNS | ((try dsimp only at hNS); omega)) ga
            have htx := txAt.fr hF (by intro hNS; first | exact False.elim hNS | ((try dsimp only at hNS); omega)) (by intro hNS; first | exact False.elim hNS | ((try dsimp only at hNS); omega)) htx
            have ff_14 := tmAt.fr hF (by intro hNS; first | exact False.elim hNS | ((try dsimp only at hNS); omega)) (by intro hNS; first | exact False.elim hNS | ((try dsimp only at hNS); omega)) ff_14
            have ff_31 := hN_30
            refine lv_iinc (v := nI (n + 1)) (lv' := [(3, .int (nI (n + 1))), (0, .ref a), (1, .int (nI j)), (2, .ref so)]) hx hb dIx_gather_53 hl (k := 0) rfl (nI_add _ 1) (by decide) rfl (fun ls hl => ?_)
            refine lv_goto (tgt := 2) hx hb dIx_gather_56 (by decide) ?_
            exact ih2 (n + 1) (if 30 ≤ hz.length then hz else insH (n, ((((its.getD (n - 1) hwIt0).2 j).1).map (trm (lg j) ss)).countP (fun w => decide (w ≠ []) && (decide (w ∈ ta))), ((((its.getD (n - 1) hwIt0).2 j).1).map (trm (lg j) ss)).length) hz) ((((its.getD (n - 1) hwIt0).2 j).1).map (trm (lg j) ss)) _ _ _ _ (by omega) (by omega) (by omega) (gaN_yes (by omega) hhz (Tf_t hth) cq_19) hFr gx gi gt gl ff_14 gs ff_31 go ga hZ (lv_sub hl [0, 1, 2, 3] rfl)
  exact loop2 (ni + 1 - 1 + 1) 1 hs0 tf _ _ _ _ (by omega) (by omega) (by omega) (by rw [hh0]; rfl) hFr f0_ f1_ f2_ f3_ f4_ f5_ f6_ f7_ f8_ hZ (lv_sub hl [0, 1, 2, 3] rfl)
set_option maxHeartbeats 4000000 in
set_option maxRecDepth 100000 in
theorem c_Ix_gatherNea (l : Launch) (D : va_G) (K : Nat → ClassId) (X : hwW) (sz : Nat) (a : Nat) (b0 : Nat) (b1 : Nat) (b2 : Nat) (b3 : Nat) (b4 : Nat) (b5 : Nat) (b6 : Nat) (b7 : Nat) (b8 : Nat) (ni : Nat) (fs : Nat) (qs : Nat) (fi : Nat → Option Nat) (fl : Nat → Int32) (its : hwIt) (lg : Nat → Nat) (tf : List (List Nat)) (ss : List (List Nat)) (hs0 : List (Nat × Nat × Nat)) (so : Nat) (Lo : Nat) (u : List Nat) (v : List Nat) (dd : Nat) (j : Nat) (f0_ : hwH X a 0 (.inr (5, [.ref b0, .int (nI ni), .int (nI fs), .ref b1, .ref b2, .int (nI qs), .ref b3, .ref b4, .ref b5, .ref b6, .ref b7, .ref b8]))) (f1_ : hwH X b0 1 (.inl (K 4, 30, .inr (.inr (.inr (.inr fi)))))) (f2_ : itsAt K X fi its) (f3_ : hwH X b1 2 (.inl (K 0, 4, .inl fl))) (f4_ : tmAt K X b6 8 750 tf) (f5_ : seAt K X b3 6 40 ss) (f6_ : hiAt K X b4 hs0) (f7_ : hwH X so Lo (.inr (8, [.long (lN (eW u)), .long (lN (eW v)), .int (nI dd)]))) (hni : ni = its.length) (hni3 : its.length ≤ 30) (hj : j < 4) (hfl : ∀ j, j < 4 → fl j = nI (lg j)) (hlg : ∀ j, lg j < 3) (hok : okIt its) (hs : ss.Pairwise (· < ·)) (hh0 : hs0 = []) (hLo : Lo = 52) (hu : okW u) (hv : okW v) (hdd : dd < 2147483648) : Met l yIx_gather (.code yIx_gather cIx_gather 4 (some .int) :: hwG) ({ frames := 7, cells := 0, slots := 0, locals := 154 } : Room) (hwPc D vwCl (hwT K) [.ref a, .int (nI j), .ref so] X sz) (hwQi D vwCl X sz (fun r Y => ∃ tz : List (List Nat), r = nI (gaN (fun tb => neL tb u v dd) (fun tb => tb.countP (fun w => decide (w ≠ []) && (decide (w = u ∨ w = v)))) (Tf its lg ss j) ni).length ∧ hwF X Y (fun M => M = 16 ∨ M = 17 ∨ (60 ≤ M ∧ M ≤ 63)) ∧ tmAt K Y b6 8 750 tz ∧ hiAt K Y b4 (gaN (fun tb => neL tb u v dd) (fun tb => tb.countP (fun w => decide (w ≠ []) && (decide (w = u ∨ w = v)))) (Tf its lg ss j) ni))) 0 0 (va_A X.1 sz) := by
  refine hwMeti (cc := cIx_gather) (maxL := 4) (by decide) rfl (Nat.le_of_ble_eq_true rfl) (fun p e s m args below meth c ls A Q hx hb hml hown hts hname hret hK hO hZ hA hl => ?_)
  have hl : lv_has ls 4 [(0, .ref a), (1, .int (nI j)), (2, .ref so)] := hl
  have hFr : hwF X X (fun M => M = 16 ∨ M = 17 ∨ (60 ≤ M ∧ M ≤ 63)) := hwF.rf
  refine lv_iconst (v := nI 1) hx hb dIx_gather_0 (by decide) ?_
  refine lv_istore_n (lv' := [(3, .int (nI 1)), (0, .ref a), (1, .int (nI j)), (2, .ref so)]) hx hb dIx_gather_1 rfl hl (by decide) rfl (fun ls hl => ?_)
  have loop2 : ∀ (fuel : Nat) (n : Nat) (hz : List (Nat × Nat × Nat)) (tz : List (List Nat)) (XL2 : hwW) (Hh : Heap) (lcs : List Loc) (ls : Array Slot), ni + 1 - n < fuel → (1 ≤ n) → (n ≤ ni + 1) → (hz = gaN (fun tb => neL tb u v dd) (fun tb => tb.countP (fun w => decide (w ≠ []) && (decide (w = u ∨ w = v)))) (Tf its lg ss j) (n - 1)) → (hwF X XL2 (fun M => M = 16 ∨ M = 17 ∨ (60 ≤ M ∧ M ≤ 63))) → (hwH XL2 a 0 (.inr (5, [.ref b0, .int (nI ni), .int (nI fs), .ref b1, .ref b2, .int (nI qs), .ref b3, .ref b4, .ref b5, .ref b6, .ref b7, .ref b8]))) → (hwH XL2 b0 1 (.inl (K 4, 30, .inr (.inr (.inr (.inr fi)))))) → (itsAt K XL2 fi its) → (hwH XL2 b1 2 (.inl (K 0, 4, .inl fl))) → (tmAt K XL2 b6 8 750 tz) → (seAt K XL2 b3 6 40 ss) → (hiAt K XL2 b4 hz) → (hwH XL2 so Lo (.inr (8, [.long (lN (eW u)), .long (lN (eW v)), .int (nI dd)]))) → hwZ D vwCl A s.heap XL2 Hh lcs → lv_has ls 4 [(3, .int (nI n)), (0, .ref a), (1, .int (nI j)), (2, .ref so)] → W p l e ({ frames := 7, cells := 0, slots := 0, locals := 154 } : Room) s m args below meth c Hh lcs 0 0 Q (F0 m 2 ls []) := by
    intro fuel; induction fuel with
    | zero => intro n hz tz XL2 Hh lcs ls hfu; exact absurd hfu (Nat.not_lt_zero _)
    | succ fuel ih2 =>
      intro n hz tz XL2 Hh lcs ls hfu2 hn1 hn2 hhz hFr gx gi gt gl gf gs gh go hZ hl
      refine lv_iload_n hx hb dIx_gather_2 rfl (lv_at hl 0 rfl) ?_
      refine lv_aload_n hx hb dIx_gather_3 rfl (lv_at hl 1 rfl) ?_
      refine hw_get hx hb hts (hwInn inIx) hown hK hZ gx rfl 1 (by decide) (hts (.fieldLink RIx 58 RIx "itemCount" "I") (hwMem mm_187)) (fun _ h => h) rfl dIx_gather_4 ?_
      refine hw_ic_gt (a := n) (b := ni) (tgt := 59) hx hb dIx_gather_7 (by decide) (by omega) (by omega) (fun cq_1 => ?_) (fun cq_1 => ?_)
      · refine lv_aload_n hx hb dIx_gather_59 rfl (lv_at hl 1 rfl) ?_
        refine hw_get hx hb hts (hwInn inIx) hown hK hZ gx rfl 7 (by decide) (hts (.fieldLink RIx 38 RIx "hits" "LWordIndex2$Hits;") (hwMem mm_219)) (fun _ h => h) rfl dIx_gather_60 ?_
        refine hw_calli (va_runV (As := []) (rest := []) ⟨hx, hb, hml, hown, hts⟩ (c_Hi_sizeP l D K XL2 Hh.size (a := b4) (hs := hz) gh) (cwV 0 hts (hwGood (hw_4 mm_221 mm_222 mm_223 mm_95 (hwAll mm_220))) rfl rfl rfl (by decide +kernel) ⟨Nat.le_of_ble_eq_true rfl, Nat.le_of_ble_eq_true rfl⟩) (hw_preV hK hO hZ (hiAt.ob gh) rfl) rfl rfl hl.1 rfl (lv_room (Nat.le_of_ble_eq_true rfl)) dIx_gather_63 ⟨(show 0 + 0 ≤ 0 by omega), (show 0 + 0 ≤ 0 by omega)⟩) hZ hA (fun r X_2 H_3 lc_4 hp hZ => ?_)
        obtain ⟨hr, hy, xx_5⟩ := hp
        subst hy
        refine hw_topi hr ?_
        exact hret hZ ⟨tz, by rw [hhz, show n - 1 = ni by omega], hFr, gf, by rw [show ni = n - 1 by omega, ← hhz]; exact gh⟩ dIx_gather_66
      · cases hth : (its.getD (n - 1) hwIt0).1
        · have hpi := itsAt.pi gt (i := n - 1) (by omega)
          rw [hth] at hpi
          refine lv_aload_n hx hb dIx_gather_10 rfl (lv_at hl 1 rfl) ?_
          refine lv_iload_n hx hb dIx_gather_11 rfl (lv_at hl 0 rfl) ?_
          refine lv_iload_n hx hb dIx_gather_12 rfl (lv_at hl 2 rfl) ?_
          refine hw_calli (va_runV (As := [.int (nI n), .int (nI j)]) (rest := []) ⟨hx, hb, hml, hown, hts⟩ (c_Ix_readF l D K XL2 Hh.size (a := a) (b0 := b0) (b1 := b1) (b2 := b2) (b3 := b3) (b4 := b4) (b5 := b5) (b6 := b6) (b7 := b7) (b8 := b8) (ni := ni) (fs := fs) (qs := qs) (fi := fi) (n := n) (kind := nI j) gx gi (by omega) (by omega) (by omega) (by assumption)) (cwV 2 hts (hwGood (hw_4 mm_225 mm_226 mm_227 mm_193 (hwAll mm_224))) rfl rfl rfl (by decide +kernel) ⟨Nat.le_of_ble_eq_true rfl, Nat.le_of_ble_eq_true rfl⟩) (hw_preV hK hO hZ (⟨_, _, gx⟩) rfl) rfl rfl hl.1 rfl (lv_room (Nat.le_of_ble_eq_true rfl)) dIx_gather_13 ⟨(show 0 + 0 ≤ 0 by omega), (show 0 + 0 ≤ 0 by omega)⟩) hZ hA (fun r X_6 H_7 lc_8 hp hZ => ?_)
          obtain ⟨hr, hy⟩ := hp
          subst hy
          refine hw_topi hr ?_
          refine hw_bz_eqT (tgt := 53) hx hb dIx_gather_16 (by decide) rfl ?_
          refine lv_iinc (v := nI (n + 1)) (lv' := [(3, .int (nI (n + 1))), (0, .ref a), (1, .int (nI j)), (2, .ref so)]) hx hb dIx_gather_53 hl (k := 0) rfl (nI_add _ 1) (by decide) rfl (fun ls hl => ?_)
          refine lv_goto (tgt := 2) hx hb dIx_gather_56 (by decide) ?_
          exact ih2 (n + 1) hz tz _ _ _ _ (by omega) (by omega) (by omega) (gaN_none (by omega) hhz (Tf_f hth)) hFr gx gi gt gl gf gs gh go hZ (lv_sub hl [0, 1, 2, 3] rfl)
        · obtain ⟨t, hpt, htx⟩ := itsAt.pt gt (i := n - 1) (j := j) (by omega) (by omega)
          rw [hth] at hpt
          have hlen : (((its.getD (n - 1) hwIt0).2 j).1.map (trm (lg j) ss)).length ≤ 600 := by rw [List.length_map]; exact (hok (n - 1) j).2
          refine lv_aload_n hx hb dIx_gather_10 rfl (lv_at hl 1 rfl) ?_
          refine lv_iload_n hx hb dIx_gather_11 rfl (lv_at hl 0 rfl) ?_
          refine lv_iload_n hx hb dIx_gather_12 rfl (lv_at hl 2 rfl) ?_
          refine hw_calli (va_runV (As := [.int (nI n), .int (nI j)]) (rest := []) ⟨hx, hb, hml, hown, hts⟩ (c_Ix_read l D K XL2 Hh.size (a := a) (b0 := b0) (b1 := b1) (b2 := b2) (b3 := b3) (b4 := b4) (b5 := b5) (b6 := b6) (b7 := b7) (b8 := b8) (ni := ni) (fs := fs) (qs := qs) (fi := fi) (fl := fl) (tf := tz) (t := t) (kt := 55 + 10 * (n - 1) + j) (ws := ((its.getD (n - 1) hwIt0).2 j).1) (o := ((its.getD (n - 1) hwIt0).2 j).2) (ss := ss) (n := n) (j := j) (g := (lg j)) gx gi gl gf htx gs (by omega) (by omega) (by omega) (by omega) (by assumption) (by omega) (hfl j hj) (hlg j) (Nat.le_trans (hok (n - 1) j).2 (by decide)) (hok (n - 1) j).1 (by assumption)) (cwV 2 hts (hwGood (hw_4 mm_225 mm_226 mm_227 mm_193 (hwAll mm_224))) rfl rfl rfl (by decide +kernel) ⟨Nat.le_of_ble_eq_true rfl, Nat.le_of_ble_eq_true rfl⟩) (hw_preV hK hO hZ (⟨_, _, gx⟩) rfl) rfl rfl hl.1 rfl (lv_room (Nat.le_of_ble_eq_true rfl)) dIx_gather_13 ⟨(show 0 + 0 ≤ 0 by omega), (show 0 + 0 ≤ 0 by omega)⟩) hZ hA (fun r X_10 H_11 lc_12 hp hZ => ?_)
          obtain ⟨hr, hF, hN_13⟩ := hp
          have hFr := hwF.tr hFr hF (fun _ h => h) (fun M h => by first | exact False.elim h | ((try dsimp only at h ⊢); omega))
          have gx := hF _ _ _ (by intro hNS; first | exact False.elim hNS | ((try dsimp only at hNS); omega)) gx
          have gi := hF _ _ _ (by intro hNS; first | exact False.elim hNS | ((try dsimp only at hNS); omega)) gi
          have gt := itsAt.fr hF (fun M h1 h2 hNS => by first | exact False.elim hNS | ((try dsimp only at hNS); omega)) gt
          have gl := hF _ _ _ (by intro hNS; first | exact False.elim hNS | ((try dsimp only at hNS); omega)) gl
          have gs := seAt.fr hF (by intro hNS; first | exact False.elim hNS | ((try dsimp only at hNS); omega)) (by intro hNS; first | exact False.elim hNS | ((try dsimp only at hNS); omega)) gs
          have gh := hiAt.fr hF (by intro hNS; first | exact False.elim hNS | ((try dsimp only at hNS); omega)) (by intro hNS; first | exact False.elim hNS | ((try dsimp only at hNS); omega)) (by intro hNS; first | exact False.elim hNS | ((try dsimp only at hNS); omega)) (by intro hNS; first | exact False.elim hNS | ((try dsimp only at hNS); omega)) gh
          have go := hF _ _ _ (by intro hNS; first | exact False.elim hNS | ((try dsimp only at hNS); omega)) go
          have htx := txAt.fr hF (by intro hNS; first | exact False.elim hNS | ((try dsimp only at hNS); omega)) (by intro hNS; first | exact False.elim hNS | ((try dsimp only at hNS); omega)) htx
          have ff_14 := hN_13
          refine hw_topi hr ?_
          refine hw_bz_eqF (tgt := 53) hx hb dIx_gather_16 (by decide) rfl ?_
          refine lv_aload_n hx hb dIx_gather_19 rfl (lv_at hl 3 rfl) ?_
          refine lv_aload_n hx hb dIx_gather_20 rfl (lv_at hl 1 rfl) ?_
          refine hw_get hx hb hts (hwInn inIx) hown hK hZ gx rfl 9 (by decide) (hts (.fieldLink RIx 49 RIx "fieldTerms" "LWordIndex2$Terms;") (hwMem mm_212)) (fun _ h => h) rfl dIx_gather_21 ?_
          refine hw_calli (va_runU (As := [.ref b6]) (rest := []) ⟨hx, hb, hml, hown, hts⟩ (c_Nea_meets l D K X_10 H_11.size (o := so) (L := Lo) (u := u) (v := v) (dd := dd) (b := b6) (kb := 8) (Nb := 750) (tb := (((its.getD (n - 1) hwIt0).2 j).1).map (trm (lg j) ss)) go ff_14 (by assumption) (by assumption) (by omega)) (va_cwA (owner := RSearch) 1 hts (hwGood (hw_5 mm_229 mm_230 mm_246 mm_247 mm_147 (hwAll mm_245))) rfl rfl rfl (hO.2 _ (List.mem_of_getElem? (i := 5) rfl)) (by decide +kernel) ⟨Nat.le_of_ble_eq_true rfl, Nat.le_of_ble_eq_true rfl⟩) (hw_preV hK hO hZ (⟨_, _, go⟩) rfl) rfl rfl hl.1 rfl (lv_room (Nat.le_of_ble_eq_true rfl)) dIx_gather_24 ⟨(show 0 + 0 ≤ 0 by omega), (show 0 + 0 ≤ 0 by omega)⟩) hZ hA (fun r X_16 H_17 lc_18 hp hZ => ?_)
          obtain ⟨hr, hy⟩ := hp
          subst hy
          refine hw_topi hr ?_
          refine hw_bz_eq (tgt := 53) hx hb dIx_gather_27 (by decide) (fun cq_19 => ?_) (fun cq_19 => ?_)
          · refine lv_iinc (v := nI (n + 1)) (lv' := [(3, .int (nI (n + 1))), (0, .ref a), (1, .int (nI j)), (2, .ref so)]) hx hb dIx_gather_53 hl (k := 0) rfl (nI_add _ 1) (by decide) rfl (fun ls hl => ?_)
            refine lv_goto (tgt := 2) hx hb dIx_gather_56 (by decide) ?_
            exact ih2 (n + 1) hz ((((its.getD (n - 1) hwIt0).2 j).1).map (trm (lg j) ss)) _ _ _ _ (by omega) (by omega) (by omega) (gaN_no (by omega) hhz (Tf_t hth) cq_19) hFr gx gi gt gl ff_14 gs gh go hZ (lv_sub hl [0, 1, 2, 3] rfl)
          · refine lv_aload_n hx hb dIx_gather_30 rfl (lv_at hl 1 rfl) ?_
            refine hw_get hx hb hts (hwInn inIx) hown hK hZ gx rfl 7 (by decide) (hts (.fieldLink RIx 38 RIx "hits" "LWordIndex2$Hits;") (hwMem mm_219)) (fun _ h => h) rfl dIx_gather_31 ?_
            refine lv_iload_n hx hb dIx_gather_34 rfl (lv_at hl 0 rfl) ?_
            refine lv_aload_n hx hb dIx_gather_35 rfl (lv_at hl 3 rfl) ?_
            refine lv_aload_n hx hb dIx_gather_36 rfl (lv_at hl 1 rfl) ?_
            refine hw_get hx hb hts (hwInn inIx) hown hK hZ gx rfl 9 (by decide) (hts (.fieldLink RIx 49 RIx "fieldTerms" "LWordIndex2$Terms;") (hwMem mm_212)) (fun _ h => h) rfl dIx_gather_37 ?_
            refine hw_calli (va_runU (As := [.ref b6]) (rest := [.int (nI n), .ref b4]) ⟨hx, hb, hml, hown, hts⟩ (c_Nea_count l D K X_10 H_17.size (o := so) (L := Lo) (u := u) (v := v) (dd := dd) (b := b6) (kb := 8) (Nb := 750) (tb := (((its.getD (n - 1) hwIt0).2 j).1).map (trm (lg j) ss)) go ff_14 (by assumption) (by assumption) (by omega)) (va_cwU (owner := RSearch) 1 hts (hwGood (hw_5 mm_233 mm_234 mm_248 mm_173 mm_109 (hwAll mm_169))) rfl rfl rfl rfl (by decide +kernel) ⟨Nat.le_of_ble_eq_true rfl, Nat.le_of_ble_eq_true rfl⟩) (hw_preV hK hO hZ (⟨_, _, go⟩) rfl) rfl rfl hl.1 rfl (lv_room (Nat.le_of_ble_eq_true rfl)) dIx_gather_40 ⟨(show 0 + 0 ≤ 0 by omega), (show 0 + 0 ≤ 0 by omega)⟩) hZ hA (fun r X_20 H_21 lc_22 hp hZ => ?_)
            obtain ⟨hr, hy, xx_23⟩ := hp
            subst hy
            refine hw_topi hr ?_
            refine lv_aload_n hx hb dIx_gather_43 rfl (lv_at hl 1 rfl) ?_
            refine hw_get hx hb hts (hwInn inIx) hown hK hZ gx rfl 9 (by decide) (hts (.fieldLink RIx 49 RIx "fieldTerms" "LWordIndex2$Terms;") (hwMem mm_212)) (fun _ h => h) rfl dIx_gather_44 ?_
            refine hw_calli (va_runV (As := []) (rest := [.int (nI (((((its.getD (n - 1) hwIt0).2 j).1).map (trm (lg j) ss)).countP (fun w => decide (w ≠ []) && (decide (w = u ∨ w = v))))), .int (nI n), .ref b4]) ⟨hx, hb, hml, hown, hts⟩ (c_Tm_size l D K X_10 H_21.size (a := b6) (k := 8) (N := 750) (ts := (((its.getD (n - 1) hwIt0).2 j).1).map (trm (lg j) ss)) ff_14) (cwV 0 hts (hwGood (hw_4 mm_236 mm_131 mm_132 mm_89 (hwAll mm_129))) rfl rfl rfl (by decide +kernel) ⟨Nat.le_of_ble_eq_true rfl, Nat.le_of_ble_eq_true rfl⟩) (hw_preV hK hO hZ (tmAt.ob ff_14) rfl) rfl rfl hl.1 rfl (lv_room (Nat.le_of_ble_eq_true rfl)) dIx_gather_47 ⟨(show 0 + 0 ≤ 0 by omega), (show 0 + 0 ≤ 0 by omega)⟩) hZ hA (fun r X_24 H_25 lc_26 hp hZ => ?_)
            obtain ⟨hr, hy⟩ := hp
            subst hy
            refine hw_topi hr ?_
            refine hw_callv (va_runV (As := [.int (nI n), .int (nI (((((its.getD (n - 1) hwIt0).2 j).1).map (trm (lg j) ss)).countP (fun w => decide (w ≠ []) && (decide (w = u ∨ w = v))))), .int (nI (((((its.getD (n - 1) hwIt0).2 j).1).map (trm (lg j) ss)).length))]) (rest := []) ⟨hx, hb, hml, hown, hts⟩ (c_Hi_add l D K X_10 H_25.size (a := b4) (hs := hz) (x0 := n) (c0 := ((((its.getD (n - 1) hwIt0).2 j).1).map (trm (lg j) ss)).countP (fun w => decide (w ≠ []) && (decide (w = u ∨ w = v)))) (z0 := ((((its.getD (n - 1) hwIt0).2 j).1).map (trm (lg j) ss)).length) gh (by omega) (by omega) (by omega)) (cwV 3 hts (hwGood (hw_4 mm_238 mm_239 mm_240 mm_95 (hwAll mm_237))) rfl rfl rfl (by decide +kernel) ⟨Nat.le_of_ble_eq_true rfl, Nat.le_of_ble_eq_true rfl⟩) (hw_preV hK hO hZ (hiAt.ob gh) rfl) rfl rfl hl.1 rfl (lv_room (Nat.le_of_ble_eq_true rfl)) dIx_gather_50 ⟨(show 0 + 0 ≤ 0 by omega), (show 0 + 0 ≤ 0 by omega)⟩) hZ hA (fun X_27 H_28 lc_29 hp hZ => ?_)
            obtain ⟨hF, hN_30⟩ := hp
            have hFr := hwF.tr hFr hF (fun _ h => h) (fun M h => by first | exact False.elim h | ((try dsimp only at h ⊢); omega))
            have gx := hF _ _ _ (by intro hNS; first | exact False.elim hNS | ((try dsimp only at hNS); omega)) gx
            have gi := hF _ _ _ (by intro hNS; first | exact False.elim hNS | ((try dsimp only at hNS); omega)) gi
            have gt := itsAt.fr hF (fun M h1 h2 hNS => by first | exact False.elim hNS | ((try dsimp only at hNS); omega)) gt
            have gl := hF _ _ _ (by intro hNS; first | exact False.elim hNS | ((try dsimp only at hNS); omega)) gl
            have gs := seAt.fr hF (by intro hNS; first | exact False.elim hNS | ((try dsimp only at hNS); omega)) (by intro hNS; first | exact False.elim hNS | ((try dsimp only at hNS); omega)) gs
            have go := hF _ _ _ (by intro hNS; first | exact False.elim hNS | ((try dsimp only at hNS); omega)) go
            have htx := txAt.fr hF (by intro hNS; first | exact False.elim hNS | ((try dsimp only at hNS); omega)) (by intro hNS; first | exact False.elim hNS | ((try dsimp only at hNS); omega)) htx
            have ff_14 := tmAt.fr hF (by intro hNS; first | exact False.elim hNS | ((try dsimp only at hNS); omega)) (by intro hNS; first | exact False.elim hNS | ((try dsimp only at hNS); omega)) ff_14
            have ff_31 := hN_30
            refine lv_iinc (v := nI (n + 1)) (lv' := [(3, .int (nI (n + 1))), (0, .ref a), (1, .int (nI j)), (2, .ref so)]) hx hb dIx_gather_53 hl (k := 0) rfl (nI_add _ 1) (by decide) rfl (fun ls hl => ?_)
            refine lv_goto (tgt := 2) hx hb dIx_gather_56 (by decide) ?_
            exact ih2 (n + 1) (if 30 ≤ hz.length then hz else insH (n, ((((its.getD (n - 1) hwIt0).2 j).1).map (trm (lg j) ss)).countP (fun w => decide (w ≠ []) && (decide (w = u ∨ w = v))), ((((its.getD (n - 1) hwIt0).2 j).1).map (trm (lg j) ss)).length) hz) ((((its.getD (n - 1) hwIt0).2 j).1).map (trm (lg j) ss)) _ _ _ _ (by omega) (by omega) (by omega) (gaN_yes (by omega) hhz (Tf_t hth) cq_19) hFr gx gi gt gl ff_14 gs ff_31 go hZ (lv_sub hl [0, 1, 2, 3] rfl)
  exact loop2 (ni + 1 - 1 + 1) 1 hs0 tf _ _ _ _ (by omega) (by omega) (by omega) (by rw [hh0]; rfl) hFr f0_ f1_ f2_ f3_ f4_ f5_ f6_ f7_ hZ (lv_sub hl [0, 1, 2, 3] rfl)
set_option maxHeartbeats 4000000 in
set_option maxRecDepth 100000 in
theorem c_Ix_gatherWil (l : Launch) (D : va_G) (K : Nat → ClassId) (X : hwW) (sz : Nat) (a : Nat) (b0 : Nat) (b1 : Nat) (b2 : Nat) (b3 : Nat) (b4 : Nat) (b5 : Nat) (b6 : Nat) (b7 : Nat) (b8 : Nat) (ni : Nat) (fs : Nat) (qs : Nat) (fi : Nat → Option Nat) (fl : Nat → Int32) (its : hwIt) (lg : Nat → Nat) (tf : List (List Nat)) (ss : List (List Nat)) (hs0 : List (Nat × Nat × Nat)) (so : Nat) (Lo : Nat) (u : List Nat) (be : Bool) (j : Nat) (f0_ : hwH X a 0 (.inr (5, [.ref b0, .int (nI ni), .int (nI fs), .ref b1, .ref b2, .int (nI qs), .ref b3, .ref b4, .ref b5, .ref b6, .ref b7, .ref b8]))) (f1_ : hwH X b0 1 (.inl (K 4, 30, .inr (.inr (.inr (.inr fi)))))) (f2_ : itsAt K X fi its) (f3_ : hwH X b1 2 (.inl (K 0, 4, .inl fl))) (f4_ : tmAt K X b6 8 750 tf) (f5_ : seAt K X b3 6 40 ss) (f6_ : hiAt K X b4 hs0) (f7_ : hwH X so Lo (.inr (9, [.long (lN (eW u)), .int (bI be)]))) (hni : ni = its.length) (hni3 : its.length ≤ 30) (hj : j < 4) (hfl : ∀ j, j < 4 → fl j = nI (lg j)) (hlg : ∀ j, lg j < 3) (hok : okIt its) (hs : ss.Pairwise (· < ·)) (hh0 : hs0 = []) (hLo : Lo = 52) (hu : okW u) : Met l yIx_gather (.code yIx_gather cIx_gather 4 (some .int) :: hwG) ({ frames := 7, cells := 0, slots := 0, locals := 154 } : Room) (hwPc D vwCl (hwT K) [.ref a, .int (nI j), .ref so] X sz) (hwQi D vwCl X sz (fun r Y => ∃ tz : List (List Nat), r = nI (gaN (fun tb => decide (0 < tb.countP (fun w => decide (w ≠ []) && (bif be then endL w u else begL w u)))) (fun tb => tb.countP (fun w => decide (w ≠ []) && (bif be then endL w u else begL w u))) (Tf its lg ss j) ni).length ∧ hwF X Y (fun M => M = 16 ∨ M = 17 ∨ (60 ≤ M ∧ M ≤ 63)) ∧ tmAt K Y b6 8 750 tz ∧ hiAt K Y b4 (gaN (fun tb => decide (0 < tb.countP (fun w => decide (w ≠ []) && (bif be then endL w u else begL w u)))) (fun tb => tb.countP (fun w => decide (w ≠ []) && (bif be then endL w u else begL w u))) (Tf its lg ss j) ni))) 0 0 (va_A X.1 sz) := by
  refine hwMeti (cc := cIx_gather) (maxL := 4) (by decide) rfl (Nat.le_of_ble_eq_true rfl) (fun p e s m args below meth c ls A Q hx hb hml hown hts hname hret hK hO hZ hA hl => ?_)
  have hl : lv_has ls 4 [(0, .ref a), (1, .int (nI j)), (2, .ref so)] := hl
  have hFr : hwF X X (fun M => M = 16 ∨ M = 17 ∨ (60 ≤ M ∧ M ≤ 63)) := hwF.rf
  refine lv_iconst (v := nI 1) hx hb dIx_gather_0 (by decide) ?_
  refine lv_istore_n (lv' := [(3, .int (nI 1)), (0, .ref a), (1, .int (nI j)), (2, .ref so)]) hx hb dIx_gather_1 rfl hl (by decide) rfl (fun ls hl => ?_)
  have loop2 : ∀ (fuel : Nat) (n : Nat) (hz : List (Nat × Nat × Nat)) (tz : List (List Nat)) (XL2 : hwW) (Hh : Heap) (lcs : List Loc) (ls : Array Slot), ni + 1 - n < fuel → (1 ≤ n) → (n ≤ ni + 1) → (hz = gaN (fun tb => decide (0 < tb.countP (fun w => decide (w ≠ []) && (bif be then endL w u else begL w u)))) (fun tb => tb.countP (fun w => decide (w ≠ []) && (bif be then endL w u else begL w u))) (Tf its lg ss j) (n - 1)) → (hwF X XL2 (fun M => M = 16 ∨ M = 17 ∨ (60 ≤ M ∧ M ≤ 63))) → (hwH XL2 a 0 (.inr (5, [.ref b0, .int (nI ni), .int (nI fs), .ref b1, .ref b2, .int (nI qs), .ref b3, .ref b4, .ref b5, .ref b6, .ref b7, .ref b8]))) → (hwH XL2 b0 1 (.inl (K 4, 30, .inr (.inr (.inr (.inr fi)))))) → (itsAt K XL2 fi its) → (hwH XL2 b1 2 (.inl (K 0, 4, .inl fl))) → (tmAt K XL2 b6 8 750 tz) → (seAt K XL2 b3 6 40 ss) → (hiAt K XL2 b4 hz) → (hwH XL2 so Lo (.inr (9, [.long (lN (eW u)), .int (bI be)]))) → hwZ D vwCl A s.heap XL2 Hh lcs → lv_has ls 4 [(3, .int (nI n)), (0, .ref a), (1, .int (nI j)), (2, .ref so)] → W p l e ({ frames := 7, cells := 0, slots := 0, locals := 154 } : Room) s m args below meth c Hh lcs 0 0 Q (F0 m 2 ls []) := by
    intro fuel; induction fuel with
    | zero => intro n hz tz XL2 Hh lcs ls hfu; exact absurd hfu (Nat.not_lt_zero _)
    | succ fuel ih2 =>
      intro n hz tz XL2 Hh lcs ls hfu2 hn1 hn2 hhz hFr gx gi gt gl gf gs gh go hZ hl
      refine lv_iload_n hx hb dIx_gather_2 rfl (lv_at hl 0 rfl) ?_
      refine lv_aload_n hx hb dIx_gather_3 rfl (lv_at hl 1 rfl) ?_
      refine hw_get hx hb hts (hwInn inIx) hown hK hZ gx rfl 1 (by decide) (hts (.fieldLink RIx 58 RIx "itemCount" "I") (hwMem mm_187)) (fun _ h => h) rfl dIx_gather_4 ?_
      refine hw_ic_gt (a := n) (b := ni) (tgt := 59) hx hb dIx_gather_7 (by decide) (by omega) (by omega) (fun cq_1 => ?_) (fun cq_1 => ?_)
      · refine lv_aload_n hx hb dIx_gather_59 rfl (lv_at hl 1 rfl) ?_
        refine hw_get hx hb hts (hwInn inIx) hown hK hZ gx rfl 7 (by decide) (hts (.fieldLink RIx 38 RIx "hits" "LWordIndex2$Hits;") (hwMem mm_219)) (fun _ h => h) rfl dIx_gather_60 ?_
        refine hw_calli (va_runV (As := []) (rest := []) ⟨hx, hb, hml, hown, hts⟩ (c_Hi_sizeP l D K XL2 Hh.size (a := b4) (hs := hz) gh) (cwV 0 hts (hwGood (hw_4 mm_221 mm_222 mm_223 mm_95 (hwAll mm_220))) rfl rfl rfl (by decide +kernel) ⟨Nat.le_of_ble_eq_true rfl, Nat.le_of_ble_eq_true rfl⟩) (hw_preV hK hO hZ (hiAt.ob gh) rfl) rfl rfl hl.1 rfl (lv_room (Nat.le_of_ble_eq_true rfl)) dIx_gather_63 ⟨(show 0 + 0 ≤ 0 by omega), (show 0 + 0 ≤ 0 by omega)⟩) hZ hA (fun r X_2 H_3 lc_4 hp hZ => ?_)
        obtain ⟨hr, hy, xx_5⟩ := hp
        subst hy
        refine hw_topi hr ?_
        exact hret hZ ⟨tz, by rw [hhz, show n - 1 = ni by omega], hFr, gf, by rw [show ni = n - 1 by omega, ← hhz]; exact gh⟩ dIx_gather_66
      · cases hth : (its.getD (n - 1) hwIt0).1
        · have hpi := itsAt.pi gt (i := n - 1) (by omega)
          rw [hth] at hpi
          refine lv_aload_n hx hb dIx_gather_10 rfl (lv_at hl 1 rfl) ?_
          refine lv_iload_n hx hb dIx_gather_11 rfl (lv_at hl 0 rfl) ?_
          refine lv_iload_n hx hb dIx_gather_12 rfl (lv_at hl 2 rfl) ?_
          refine hw_calli (va_runV (As := [.int (nI n), .int (nI j)]) (rest := []) ⟨hx, hb, hml, hown, hts⟩ (c_Ix_readF l D K XL2 Hh.size (a := a) (b0 := b0) (b1 := b1) (b2 := b2) (b3 := b3) (b4 := b4) (b5 := b5) (b6 := b6) (b7 := b7) (b8 := b8) (ni := ni) (fs := fs) (qs := qs) (fi := fi) (n := n) (kind := nI j) gx gi (by omega) (by omega) (by omega) (by assumption)) (cwV 2 hts (hwGood (hw_4 mm_225 mm_226 mm_227 mm_193 (hwAll mm_224))) rfl rfl rfl (by decide +kernel) ⟨Nat.le_of_ble_eq_true rfl, Nat.le_of_ble_eq_true rfl⟩) (hw_preV hK hO hZ (⟨_, _, gx⟩) rfl) rfl rfl hl.1 rfl (lv_room (Nat.le_of_ble_eq_true rfl)) dIx_gather_13 ⟨(show 0 + 0 ≤ 0 by omega), (show 0 + 0 ≤ 0 by omega)⟩) hZ hA (fun r X_6 H_7 lc_8 hp hZ => ?_)
          obtain ⟨hr, hy⟩ := hp
          subst hy
          refine hw_topi hr ?_
          refine hw_bz_eqT (tgt := 53) hx hb dIx_gather_16 (by decide) rfl ?_
          refine lv_iinc (v := nI (n + 1)) (lv' := [(3, .int (nI (n + 1))), (0, .ref a), (1, .int (nI j)), (2, .ref so)]) hx hb dIx_gather_53 hl (k := 0) rfl (nI_add _ 1) (by decide) rfl (fun ls hl => ?_)
          refine lv_goto (tgt := 2) hx hb dIx_gather_56 (by decide) ?_
          exact ih2 (n + 1) hz tz _ _ _ _ (by omega) (by omega) (by omega) (gaN_none (by omega) hhz (Tf_f hth)) hFr gx gi gt gl gf gs gh go hZ (lv_sub hl [0, 1, 2, 3] rfl)
        · obtain ⟨t, hpt, htx⟩ := itsAt.pt gt (i := n - 1) (j := j) (by omega) (by omega)
          rw [hth] at hpt
          have hlen : (((its.getD (n - 1) hwIt0).2 j).1.map (trm (lg j) ss)).length ≤ 600 := by rw [List.length_map]; exact (hok (n - 1) j).2
          refine lv_aload_n hx hb dIx_gather_10 rfl (lv_at hl 1 rfl) ?_
          refine lv_iload_n hx hb dIx_gather_11 rfl (lv_at hl 0 rfl) ?_
          refine lv_iload_n hx hb dIx_gather_12 rfl (lv_at hl 2 rfl) ?_
          refine hw_calli (va_runV (As := [.int (nI n), .int (nI j)]) (rest := []) ⟨hx, hb, hml, hown, hts⟩ (c_Ix_read l D K XL2 Hh.size (a := a) (b0 := b0) (b1 := b1) (b2 := b2) (b3 := b3) (b4 := b4) (b5 := b5) (b6 := b6) (b7 := b7) (b8 := b8) (ni := ni) (fs := fs) (qs := qs) (fi := fi) (fl := fl) (tf := tz) (t := t) (kt := 55 + 10 * (n - 1) + j) (ws := ((its.getD (n - 1) hwIt0).2 j).1) (o := ((its.getD (n - 1) hwIt0).2 j).2) (ss := ss) (n := n) (j := j) (g := (lg j)) gx gi gl gf htx gs (by omega) (by omega) (by omega) (by omega) (by assumption) (by omega) (hfl j hj) (hlg j) (Nat.le_trans (hok (n - 1) j).2 (by decide)) (hok (n - 1) j).1 (by assumption)) (cwV 2 hts (hwGood (hw_4 mm_225 mm_226 mm_227 mm_193 (hwAll mm_224))) rfl rfl rfl (by decide +kernel) ⟨Nat.le_of_ble_eq_true rfl, Nat.le_of_ble_eq_true rfl⟩) (hw_preV hK hO hZ (⟨_, _, gx⟩) rfl) rfl rfl hl.1 rfl (lv_room (Nat.le_of_ble_eq_true rfl)) dIx_gather_13 ⟨(show 0 + 0 ≤ 0 by omega), (show 0 + 0 ≤ 0 by omega)⟩) hZ hA (fun r X_10 H_11 lc_12 hp hZ => ?_)
          obtain ⟨hr, hF, hN_13⟩ := hp
          have hFr := hwF.tr hFr hF (fun _ h => h) (fun M h => by first | exact False.elim h | ((try dsimp only at h ⊢); omega))
          have gx := hF _ _ _ (by intro hNS; first | exact False.elim hNS | ((try dsimp only at hNS); omega)) gx
          have gi := hF _ _ _ (by intro hNS; first | exact False.elim hNS | ((try dsimp only at hNS); omega)) gi
          have gt := itsAt.fr hF (fun M h1 h2 hNS => by first | exact False.elim hNS | ((try dsimp only at hNS); omega)) gt
          have gl := hF _ _ _ (by intro hNS; first | exact False.elim hNS | ((try dsimp only at hNS); omega)) gl
          have gs := seAt.fr hF (by intro hNS; first | exact False.elim hNS | ((try dsimp only at hNS); omega)) (by intro hNS; first | exact False.elim hNS | ((try dsimp only at hNS); omega)) gs
          have gh := hiAt.fr hF (by intro hNS; first | exact False.elim hNS | ((try dsimp only at hNS); omega)) (by intro hNS; first | exact False.elim hNS | ((try dsimp only at hNS); omega)) (by intro hNS; first | exact False.elim hNS | ((try dsimp only at hNS); omega)) (by intro hNS; first | exact False.elim hNS | ((try dsimp only at hNS); omega)) gh
          have go := hF _ _ _ (by intro hNS; first | exact False.elim hNS | ((try dsimp only at hNS); omega)) go
          have htx := txAt.fr hF (by intro hNS; first | exact False.elim hNS | ((try dsimp only at hNS); omega)) (by intro hNS; first | exact False.elim hNS | ((try dsimp only at hNS); omega)) htx
          have ff_14 := hN_13
          refine hw_topi hr ?_
          refine hw_bz_eqF (tgt := 53) hx hb dIx_gather_16 (by decide) rfl ?_
          refine lv_aload_n hx hb dIx_gather_19 rfl (lv_at hl 3 rfl) ?_
          refine lv_aload_n hx hb dIx_gather_20 rfl (lv_at hl 1 rfl) ?_
          refine hw_get hx hb hts (hwInn inIx) hown hK hZ gx rfl 9 (by decide) (hts (.fieldLink RIx 49 RIx "fieldTerms" "LWordIndex2$Terms;") (hwMem mm_212)) (fun _ h => h) rfl dIx_gather_21 ?_
          refine hw_calli (va_runU (As := [.ref b6]) (rest := []) ⟨hx, hb, hml, hown, hts⟩ (c_Wil_meets l D K X_10 H_11.size (o := so) (L := Lo) (u := u) (be := be) (b := b6) (kb := 8) (Nb := 750) (tb := (((its.getD (n - 1) hwIt0).2 j).1).map (trm (lg j) ss)) go ff_14 (by assumption)) (va_cwA (owner := RSearch) 1 hts (hwGood (hw_5 mm_229 mm_230 mm_250 mm_251 mm_151 (hwAll mm_249))) rfl rfl rfl (hO.2 _ (List.mem_of_getElem? (i := 5) rfl)) (by decide +kernel) ⟨Nat.le_of_ble_eq_true rfl, Nat.le_of_ble_eq_true rfl⟩) (hw_preV hK hO hZ (⟨_, _, go⟩) rfl) rfl rfl hl.1 rfl (lv_room (Nat.le_of_ble_eq_true rfl)) dIx_gather_24 ⟨(show 0 + 0 ≤ 0 by omega), (show 0 + 0 ≤ 0 by omega)⟩) hZ hA (fun r X_16 H_17 lc_18 hp hZ => ?_)
          obtain ⟨hr, hy⟩ := hp
          subst hy
          refine hw_topi hr ?_
          refine hw_bz_eq (tgt := 53) hx hb dIx_gather_27 (by decide) (fun cq_19 => ?_) (fun cq_19 => ?_)
          · refine lv_iinc (v := nI (n + 1)) (lv' := [(3, .int (nI (n + 1))), (0, .ref a), (1, .int (nI j)), (2, .ref so)]) hx hb dIx_gather_53 hl (k := 0) rfl (nI_add _ 1) (by decide) rfl (fun ls hl => ?_)
            refine lv_goto (tgt := 2) hx hb dIx_gather_56 (by decide) ?_
            exact ih2 (n + 1) hz ((((its.getD (n - 1) hwIt0).2 j).1).map (trm (lg j) ss)) _ _ _ _ (by omega) (by omega) (by omega) (gaN_no (by omega) hhz (Tf_t hth) cq_19) hFr gx gi gt gl ff_14 gs gh go hZ (lv_sub hl [0, 1, 2, 3] rfl)
          · refine lv_aload_n hx hb dIx_gather_30 rfl (lv_at hl 1 rfl) ?_
            refine hw_get hx hb hts (hwInn inIx) hown hK hZ gx rfl 7 (by decide) (hts (.fieldLink RIx 38 RIx "hits" "LWordIndex2$Hits;") (hwMem mm_219)) (fun _ h => h) rfl dIx_gather_31 ?_
            refine lv_iload_n hx hb dIx_gather_34 rfl (lv_at hl 0 rfl) ?_
            refine lv_aload_n hx hb dIx_gather_35 rfl (lv_at hl 3 rfl) ?_
            refine lv_aload_n hx hb dIx_gather_36 rfl (lv_at hl 1 rfl) ?_
            refine hw_get hx hb hts (hwInn inIx) hown hK hZ gx rfl 9 (by decide) (hts (.fieldLink RIx 49 RIx "fieldTerms" "LWordIndex2$Terms;") (hwMem mm_212)) (fun _ h => h) rfl dIx_gather_37 ?_
            refine hw_calli (va_runU (As := [.ref b6]) (rest := [.int (nI n), .ref b4]) ⟨hx, hb, hml, hown, hts⟩ (c_Wil_count l D K X_10 H_17.size (o := so) (L := Lo) (u := u) (be := be) (b := b6) (kb := 8) (Nb := 750) (tb := (((its.getD (n - 1) hwIt0).2 j).1).map (trm (lg j) ss)) go ff_14 (by assumption)) (va_cwU (owner := RSearch) 1 hts (hwGood (hw_5 mm_233 mm_234 mm_252 mm_173 mm_109 (hwAll mm_169))) rfl rfl rfl rfl (by decide +kernel) ⟨Nat.le_of_ble_eq_true rfl, Nat.le_of_ble_eq_true rfl⟩) (hw_preV hK hO hZ (⟨_, _, go⟩) rfl) rfl rfl hl.1 rfl (lv_room (Nat.le_of_ble_eq_true rfl)) dIx_gather_40 ⟨(show 0 + 0 ≤ 0 by omega), (show 0 + 0 ≤ 0 by omega)⟩) hZ hA (fun r X_20 H_21 lc_22 hp hZ => ?_)
            obtain ⟨hr, hy, xx_23⟩ := hp
            subst hy
            refine hw_topi hr ?_
            refine lv_aload_n hx hb dIx_gather_43 rfl (lv_at hl 1 rfl) ?_
            refine hw_get hx hb hts (hwInn inIx) hown hK hZ gx rfl 9 (by decide) (hts (.fieldLink RIx 49 RIx "fieldTerms" "LWordIndex2$Terms;") (hwMem mm_212)) (fun _ h => h) rfl dIx_gather_44 ?_
            refine hw_calli (va_runV (As := []) (rest := [.int (nI (((((its.getD (n - 1) hwIt0).2 j).1).map (trm (lg j) ss)).countP (fun w => decide (w ≠ []) && (bif be then endL w u else begL w u)))), .int (nI n), .ref b4]) ⟨hx, hb, hml, hown, hts⟩ (c_Tm_size l D K X_10 H_21.size (a := b6) (k := 8) (N := 750) (ts := (((its.getD (n - 1) hwIt0).2 j).1).map (trm (lg j) ss)) ff_14) (cwV 0 hts (hwGood (hw_4 mm_236 mm_131 mm_132 mm_89 (hwAll mm_129))) rfl rfl rfl (by decide +kernel) ⟨Nat.le_of_ble_eq_true rfl, Nat.le_of_ble_eq_true rfl⟩) (hw_preV hK hO hZ (tmAt.ob ff_14) rfl) rfl rfl hl.1 rfl (lv_room (Nat.le_of_ble_eq_true rfl)) dIx_gather_47 ⟨(show 0 + 0 ≤ 0 by omega), (show 0 + 0 ≤ 0 by omega)⟩) hZ hA (fun r X_24 H_25 lc_26 hp hZ => ?_)
            obtain ⟨hr, hy⟩ := hp
            subst hy
            refine hw_topi hr ?_
            refine hw_callv (va_runV (As := [.int (nI n), .int (nI (((((its.getD (n - 1) hwIt0).2 j).1).map (trm (lg j) ss)).countP (fun w => decide (w ≠ []) && (bif be then endL w u else begL w u)))), .int (nI (((((its.getD (n - 1) hwIt0).2 j).1).map (trm (lg j) ss)).length))]) (rest := []) ⟨hx, hb, hml, hown, hts⟩ (c_Hi_add l D K X_10 H_25.size (a := b4) (hs := hz) (x0 := n) (c0 := ((((its.getD (n - 1) hwIt0).2 j).1).map (trm (lg j) ss)).countP (fun w => decide (w ≠ []) && (bif be then endL w u else begL w u))) (z0 := ((((its.getD (n - 1) hwIt0).2 j).1).map (trm (lg j) ss)).length) gh (by omega) (by omega) (by omega)) (cwV 3 hts (hwGood (hw_4 mm_238 mm_239 mm_240 mm_95 (hwAll mm_237))) rfl rfl rfl (by decide +kernel) ⟨Nat.le_of_ble_eq_true rfl, Nat.le_of_ble_eq_true rfl⟩) (hw_preV hK hO hZ (hiAt.ob gh) rfl) rfl rfl hl.1 rfl (lv_room (Nat.le_of_ble_eq_true rfl)) dIx_gather_50 ⟨(show 0 + 0 ≤ 0 by omega), (show 0 + 0 ≤ 0 by omega)⟩) hZ hA (fun X_27 H_28 lc_29 hp hZ => ?_)
            obtain ⟨hF, hN_30⟩ := hp
            have hFr := hwF.tr hFr hF (fun _ h => h) (fun M h => by first | exact False.elim h | ((try dsimp only at h ⊢); omega))
            have gx := hF _ _ _ (by intro hNS; first | exact False.elim hNS | ((try dsimp only at hNS); omega)) gx
            have gi := hF _ _ _ (by intro hNS; first | exact False.elim hNS | ((try dsimp only at hNS); omega)) gi
            have gt := itsAt.fr hF (fun M h1 h2 hNS => by first | exact False.elim hNS | ((try dsimp only at hNS); omega)) gt
            have gl := hF _ _ _ (by intro hNS; first | exact False.elim hNS | ((try dsimp only at hNS); omega)) gl
            have gs := seAt.fr hF (by intro hNS; first | exact False.elim hNS | ((try dsimp only at hNS); omega)) (by intro hNS; first | exact False.elim hNS | ((try dsimp only at hNS); omega)) gs
            have go := hF _ _ _ (by intro hNS; first | exact False.elim hNS | ((try dsimp only at hNS); omega)) go
            have htx := txAt.fr hF (by intro hNS; first | exact False.elim hNS | ((try dsimp only at hNS); omega)) (by intro hNS; first | exact False.elim hNS | ((try dsimp only at hNS); omega)) htx
            have ff_14 := tmAt.fr hF (by intro hNS; first | exact False.elim hNS | ((try dsimp only at hNS); omega)) (by intro hNS; first | exact False.elim hNS | ((try dsimp only at hNS); omega)) ff_14
            have ff_31 := hN_30
            refine lv_iinc (v := nI (n + 1)) (lv' := [(3, .int (nI (n + 1))), (0, .ref a), (1, .int (nI j)), (2, .ref so)]) hx hb dIx_gather_53 hl (k := 0) rfl (nI_add _ 1) (by decide) rfl (fun ls hl => ?_)
            refine lv_goto (tgt := 2) hx hb dIx_gather_56 (by decide) ?_
            exact ih2 (n + 1) (if 30 ≤ hz.length then hz else insH (n, ((((its.getD (n - 1) hwIt0).2 j).1).map (trm (lg j) ss)).countP (fun w => decide (w ≠ []) && (bif be then endL w u else begL w u)), ((((its.getD (n - 1) hwIt0).2 j).1).map (trm (lg j) ss)).length) hz) ((((its.getD (n - 1) hwIt0).2 j).1).map (trm (lg j) ss)) _ _ _ _ (by omega) (by omega) (by omega) (gaN_yes (by omega) hhz (Tf_t hth) cq_19) hFr gx gi gt gl ff_14 gs ff_31 go hZ (lv_sub hl [0, 1, 2, 3] rfl)
  exact loop2 (ni + 1 - 1 + 1) 1 hs0 tf _ _ _ _ (by omega) (by omega) (by omega) (by rw [hh0]; rfl) hFr f0_ f1_ f2_ f3_ f4_ f5_ f6_ f7_ hZ (lv_sub hl [0, 1, 2, 3] rfl)
set_option maxHeartbeats 4000000 in
set_option maxRecDepth 100000 in
theorem c_Ix_gatherK (l : Launch) (D : va_G) (K : Nat → ClassId) (X : hwW) (sz : Nat) (a : Nat) (b0 : Nat) (b1 : Nat) (b2 : Nat) (b3 : Nat) (b4 : Nat) (b5 : Nat) (b6 : Nat) (b7 : Nat) (b8 : Nat) (ni : Nat) (fs : Nat) (qs : Nat) (fi : Nat → Option Nat) (its : hwIt) (hs0 : List (Nat × Nat × Nat)) (so : Nat) (kind : Int32) (f0_ : hwH X a 0 (.inr (5, [.ref b0, .int (nI ni), .int (nI fs), .ref b1, .ref b2, .int (nI qs), .ref b3, .ref b4, .ref b5, .ref b6, .ref b7, .ref b8]))) (f1_ : hwH X b0 1 (.inl (K 4, 30, .inr (.inr (.inr (.inr fi)))))) (f2_ : itsAt K X fi its) (f3_ : hiAt K X b4 hs0) (hni : ni = its.length) (hni3 : its.length ≤ 30) (hk : badK kind) : Met l yIx_gather (.code yIx_gather cIx_gather 4 (some .int) :: hwG) ({ frames := 7, cells := 0, slots := 0, locals := 154 } : Room) (hwPc D vwCl (hwT K) [.ref a, .int kind, .ref so] X sz) (hwQi D vwCl X sz (fun r Y => r = nI hs0.length ∧ X = Y)) 0 0 (va_A X.1 sz) := by
  refine hwMeti (cc := cIx_gather) (maxL := 4) (by decide) rfl (Nat.le_of_ble_eq_true rfl) (fun p e s m args below meth c ls A Q hx hb hml hown hts hname hret hK hO hZ hA hl => ?_)
  have hl : lv_has ls 4 [(0, .ref a), (1, .int kind), (2, .ref so)] := hl
  refine lv_iconst (v := nI 1) hx hb dIx_gather_0 (by decide) ?_
  refine lv_istore_n (lv' := [(3, .int (nI 1)), (0, .ref a), (1, .int kind), (2, .ref so)]) hx hb dIx_gather_1 rfl hl (by decide) rfl (fun ls hl => ?_)
  have loop2 : ∀ (fuel : Nat) (n : Nat) (Hh : Heap) (lcs : List Loc) (ls : Array Slot), ni + 1 - n < fuel → (1 ≤ n) → (n ≤ ni + 1) → hwZ D vwCl A s.heap X Hh lcs → lv_has ls 4 [(3, .int (nI n)), (0, .ref a), (1, .int kind), (2, .ref so)] → W p l e ({ frames := 7, cells := 0, slots := 0, locals := 154 } : Room) s m args below meth c Hh lcs 0 0 Q (F0 m 2 ls []) := by
    intro fuel; induction fuel with
    | zero => intro n Hh lcs ls hfu; exact absurd hfu (Nat.not_lt_zero _)
    | succ fuel ih2 =>
      intro n Hh lcs ls hfu2 hn1 hn2 hZ hl
      refine lv_iload_n hx hb dIx_gather_2 rfl (lv_at hl 0 rfl) ?_
      refine lv_aload_n hx hb dIx_gather_3 rfl (lv_at hl 1 rfl) ?_
      refine hw_get hx hb hts (hwInn inIx) hown hK hZ f0_ rfl 1 (by decide) (hts (.fieldLink RIx 58 RIx "itemCount" "I") (hwMem mm_187)) (fun _ h => h) rfl dIx_gather_4 ?_
      refine hw_ic_gt (a := n) (b := ni) (tgt := 59) hx hb dIx_gather_7 (by decide) (by omega) (by omega) (fun cq_1 => ?_) (fun cq_1 => ?_)
      · refine lv_aload_n hx hb dIx_gather_59 rfl (lv_at hl 1 rfl) ?_
        refine hw_get hx hb hts (hwInn inIx) hown hK hZ f0_ rfl 7 (by decide) (hts (.fieldLink RIx 38 RIx "hits" "LWordIndex2$Hits;") (hwMem mm_219)) (fun _ h => h) rfl dIx_gather_60 ?_
        refine hw_calli (va_runV (As := []) (rest := []) ⟨hx, hb, hml, hown, hts⟩ (c_Hi_sizeP l D K X Hh.size (a := b4) (hs := hs0) f3_) (cwV 0 hts (hwGood (hw_4 mm_221 mm_222 mm_223 mm_95 (hwAll mm_220))) rfl rfl rfl (by decide +kernel) ⟨Nat.le_of_ble_eq_true rfl, Nat.le_of_ble_eq_true rfl⟩) (hw_preV hK hO hZ (hiAt.ob f3_) rfl) rfl rfl hl.1 rfl (lv_room (Nat.le_of_ble_eq_true rfl)) dIx_gather_63 ⟨(show 0 + 0 ≤ 0 by omega), (show 0 + 0 ≤ 0 by omega)⟩) hZ hA (fun r X_2 H_3 lc_4 hp hZ => ?_)
        obtain ⟨hr, hy, xx_5⟩ := hp
        subst hy
        refine hw_topi hr ?_
        exact hret hZ ⟨rfl, rfl⟩ dIx_gather_66
      · cases hth : (its.getD (n - 1) hwIt0).1
        · have hpi := itsAt.pi f2_ (i := n - 1) (by omega)
          rw [hth] at hpi
          refine lv_aload_n hx hb dIx_gather_10 rfl (lv_at hl 1 rfl) ?_
          refine lv_iload_n hx hb dIx_gather_11 rfl (lv_at hl 0 rfl) ?_
          refine lv_iload_n hx hb dIx_gather_12 rfl (lv_at hl 2 rfl) ?_
          refine hw_calli (va_runV (As := [.int (nI n), .int kind]) (rest := []) ⟨hx, hb, hml, hown, hts⟩ (c_Ix_readF l D K X Hh.size (a := a) (b0 := b0) (b1 := b1) (b2 := b2) (b3 := b3) (b4 := b4) (b5 := b5) (b6 := b6) (b7 := b7) (b8 := b8) (ni := ni) (fs := fs) (qs := qs) (fi := fi) (n := n) (kind := kind) f0_ f1_ (by omega) (by omega) (by omega) (by assumption)) (cwV 2 hts (hwGood (hw_4 mm_225 mm_226 mm_227 mm_193 (hwAll mm_224))) rfl rfl rfl (by decide +kernel) ⟨Nat.le_of_ble_eq_true rfl, Nat.le_of_ble_eq_true rfl⟩) (hw_preV hK hO hZ (⟨_, _, f0_⟩) rfl) rfl rfl hl.1 rfl (lv_room (Nat.le_of_ble_eq_true rfl)) dIx_gather_13 ⟨(show 0 + 0 ≤ 0 by omega), (show 0 + 0 ≤ 0 by omega)⟩) hZ hA (fun r X_6 H_7 lc_8 hp hZ => ?_)
          obtain ⟨hr, hy⟩ := hp
          subst hy
          refine hw_topi hr ?_
          refine hw_bz_eqT (tgt := 53) hx hb dIx_gather_16 (by decide) rfl ?_
          refine lv_iinc (v := nI (n + 1)) (lv' := [(3, .int (nI (n + 1))), (0, .ref a), (1, .int kind), (2, .ref so)]) hx hb dIx_gather_53 hl (k := 0) rfl (nI_add _ 1) (by decide) rfl (fun ls hl => ?_)
          refine lv_goto (tgt := 2) hx hb dIx_gather_56 (by decide) ?_
          exact ih2 (n + 1) _ _ _ (by omega) (by omega) (by omega)  hZ (lv_sub hl [0, 1, 2, 3] rfl)
        · obtain ⟨t, hpt, htx⟩ := itsAt.pt f2_ (i := n - 1) (j := 0) (by omega) (by omega)
          rw [hth] at hpt
          refine lv_aload_n hx hb dIx_gather_10 rfl (lv_at hl 1 rfl) ?_
          refine lv_iload_n hx hb dIx_gather_11 rfl (lv_at hl 0 rfl) ?_
          refine lv_iload_n hx hb dIx_gather_12 rfl (lv_at hl 2 rfl) ?_
          refine hw_calli (va_runV (As := [.int (nI n), .int kind]) (rest := []) ⟨hx, hb, hml, hown, hts⟩ (c_Ix_readK l D K X Hh.size (a := a) (b0 := b0) (b1 := b1) (b2 := b2) (b3 := b3) (b4 := b4) (b5 := b5) (b6 := b6) (b7 := b7) (b8 := b8) (ni := ni) (fs := fs) (qs := qs) (fi := fi) (n := n) (kind := kind) (t := t) f0_ f1_ (by omega) (by omega) (by omega) (by assumption) (by assumption)) (cwV 2 hts (hwGood (hw_4 mm_225 mm_226 mm_227 mm_193 (hwAll mm_224))) rfl rfl rfl (by decide +kernel) ⟨Nat.le_of_ble_eq_true rfl, Nat.le_of_ble_eq_true rfl⟩) (hw_preV hK hO hZ (⟨_, _, f0_⟩) rfl) rfl rfl hl.1 rfl (lv_room (Nat.le_of_ble_eq_true rfl)) dIx_gather_13 ⟨(show 0 + 0 ≤ 0 by omega), (show 0 + 0 ≤ 0 by omega)⟩) hZ hA (fun r X_10 H_11 lc_12 hp hZ => ?_)
          obtain ⟨hr, hy⟩ := hp
          subst hy
          refine hw_topi hr ?_
          refine hw_bz_eqT (tgt := 53) hx hb dIx_gather_16 (by decide) rfl ?_
          refine lv_iinc (v := nI (n + 1)) (lv' := [(3, .int (nI (n + 1))), (0, .ref a), (1, .int kind), (2, .ref so)]) hx hb dIx_gather_53 hl (k := 0) rfl (nI_add _ 1) (by decide) rfl (fun ls hl => ?_)
          refine lv_goto (tgt := 2) hx hb dIx_gather_56 (by decide) ?_
          exact ih2 (n + 1) _ _ _ (by omega) (by omega) (by omega)  hZ (lv_sub hl [0, 1, 2, 3] rfl)
  exact loop2 (ni + 1 - 1 + 1) 1 _ _ _ (by omega) (by omega) (by omega)  hZ (lv_sub hl [0, 1, 2, 3] rfl)
end
section
/-! the index, whole -/
def ixAt (K : Nat → ClassId) (X : hwW) (a : Nat) (its : hwIt) (fs : Nat) (lg : Nat → Nat) (qw : List (List Nat)) (qo qs : Nat) (ss : List (List Nat)) (hs : List (Nat × Nat × Nat)) : Prop := ∃ (b0 b1 b2 b3 b4 b5 b6 b7 b8 : Nat) (fi : Nat → Option Nat) (fl : Nat → Int32) (ta tf tl : List (List Nat)) (fc : Nat → Int32), hwH X a 0 (.inr (5, [.ref b0, .int (nI its.length), .int (nI fs), .ref b1, .ref b2, .int (nI qs), .ref b3, .ref b4, .ref b5, .ref b6, .ref b7, .ref b8])) ∧ hwH X b0 1 (.inl (K 4, 30, .inr (.inr (.inr (.inr fi))))) ∧ itsAt K X fi its ∧ hwH X b1 2 (.inl (K 0, 4, .inl fl)) ∧ (∀ j, j < 4 → fl j = nI (lg j)) ∧ txAt K X b2 5 qw qo ∧ seAt K X b3 6 40 ss ∧ hiAt K X b4 hs ∧ tmAt K X b5 7 50 ta ∧ tmAt K X b6 8 750 tf ∧ seAt K X b7 9 750 tl ∧ hwH X b8 3 (.inl (K 0, 13, .inl fc))
theorem ixAt.fr {K : Nat → ClassId} {X Y : hwW} {S : Nat → Prop} {a : Nat} {its : hwIt} {fs : Nat} {lg : Nat → Nat} {qw : List (List Nat)} {qo qs : Nat} {ss : List (List Nat)} {hs : List (Nat × Nat × Nat)} (hF : hwF X Y S) (hS : ∀ M, M < 1000 → ¬ S M) (hl : its.length ≤ 30) (h : ixAt K X a its fs lg qw qo qs ss hs) : ixAt K Y a its fs lg qw qo qs ss hs := by
  obtain ⟨b0, b1, b2, b3, b4, b5, b6, b7, b8, fi, fl, ta, tf, tl, fc, g0, g1, g2, g3, g4, g5, g6, g7, g8, g9, g10, g11⟩ := h
  exact ⟨b0, b1, b2, b3, b4, b5, b6, b7, b8, fi, fl, ta, tf, tl, fc, hF _ _ _ (hS _ (by decide)) g0, hF _ _ _ (hS _ (by decide)) g1, g2.fr hF (fun M _ h2 => hS M (by omega)), hF _ _ _ (hS _ (by decide)) g3, g4, g5.fr hF (hS _ (by decide)) (hS _ (by decide)), g6.fr hF (hS _ (by decide)) (hS _ (by decide)), g7.fr hF (hS _ (by decide)) (hS _ (by decide)) (hS _ (by decide)) (hS _ (by decide)), g8.fr hF (hS _ (by decide)) (hS _ (by decide)), g9.fr hF (hS _ (by decide)) (hS _ (by decide)), g10.fr hF (hS _ (by decide)) (hS _ (by decide)), hF _ _ _ (hS _ (by decide)) g11⟩
theorem ixAt.ob {K : Nat → ClassId} {X : hwW} {a : Nat} {its : hwIt} {fs : Nat} {lg : Nat → Nat} {qw : List (List Nat)} {qo qs : Nat} {ss : List (List Nat)} {hs : List (Nat × Nat × Nat)} (h : ixAt K X a its fs lg qw qo qs ss hs) : ∃ (L : Nat) (fs : List Value), hwH X a L (.inr (5, fs)) := by
  obtain ⟨b0, b1, b2, b3, b4, b5, b6, b7, b8, fi, fl, ta, tf, tl, fc, g0, -⟩ := h
  exact ⟨_, _, g0⟩
/-- a kind that there is; a record's place -/
def kN (x : Int32) : Option Nat := if 0 ≤ x.toInt ∧ x.toInt < 4 then some x.toInt.toNat else none
def rN (n : Nat) (x : Int32) : Option Nat := if 1 ≤ x.toInt ∧ x.toInt ≤ n then some (x.toInt.toNat - 1) else none
theorem hw_ofI {x : Int32} {n : Nat} (h : x.toInt = n) (hn : n < 2 ^ 31) : x = nI n := by
  apply Int32.toInt_inj.mp
  rw [nI_toInt hn, h]
theorem kN_bad {x : Int32} (h : badK x) : kN x = none := by
  unfold kN
  rw [if_neg]
  intro q
  rcases h with h | h
  · rw [Int32.lt_iff_toInt_lt] at h
    have e : (0 : Int32).toInt = 0 := rfl
    omega
  · rw [Int32.le_iff_toInt_le, nI_toInt (by decide)] at h
    omega
theorem kN_nI {j : Nat} (h : j < 4) : kN (nI j) = some j := by
  unfold kN
  have e : (nI j).toInt = (j : Int) := nI_toInt (by omega)
  rw [if_pos (by rw [e]; omega), e]
  rfl
theorem kN_cases (x : Int32) : badK x ∨ ∃ j, j < 4 ∧ x = nI j := by
  by_cases h : 0 ≤ x.toInt ∧ x.toInt < 4
  · exact Or.inr ⟨x.toInt.toNat, by omega, hw_ofI (by omega) (by omega)⟩
  · left
    by_cases h0 : 0 ≤ x.toInt
    · right
      rw [Int32.le_iff_toInt_le, nI_toInt (by decide)]
      omega
    · left
      rw [Int32.lt_iff_toInt_lt]
      have e : (0 : Int32).toInt = 0 := rfl
      omega
theorem rN_bad {n : Nat} {x : Int32} (hn : n < 2 ^ 31) (h : badN n x) : rN n x = none := by
  unfold rN
  rw [if_neg]
  intro q
  rcases h with h | h
  · rw [Int32.lt_iff_toInt_lt, nI_toInt (by decide)] at h
    omega
  · rw [Int32.lt_iff_toInt_lt, nI_toInt hn] at h
    omega
theorem rN_nI {n m : Nat} (h1 : 1 ≤ m) (h2 : m ≤ n) (hn : n < 2 ^ 31) : rN n (nI m) = some (m - 1) := by
  unfold rN
  have e : (nI m).toInt = (m : Int) := nI_toInt (by omega)
  rw [if_pos (by rw [e]; omega), e]
  rfl
theorem rN_cases (n : Nat) (hn : n < 2 ^ 31) (x : Int32) : badN n x ∨ ∃ m, 1 ≤ m ∧ m ≤ n ∧ x = nI m := by
  by_cases h : 1 ≤ x.toInt ∧ x.toInt ≤ n
  · exact Or.inr ⟨x.toInt.toNat, by omega, by omega, hw_ofI (by omega) (by omega)⟩
  · left
    by_cases h0 : 1 ≤ x.toInt
    · right
      rw [Int32.lt_iff_toInt_lt, nI_toInt hn]
      omega
    · left
      rw [Int32.lt_iff_toInt_lt, nI_toInt (by decide)]
      omega
theorem nI_cases (x : Int32) : x < 0 ∨ ∃ j, j < 2147483648 ∧ x = nI j := by
  by_cases h : x < 0
  · exact Or.inl h
  · obtain ⟨j, h1, h2⟩ := nI_of h
    exact Or.inr ⟨j, h1, h2⟩
/-- what the calls do to the pure state -/
def recP (its : hwIt) : hwIt := if its.length < 30 then its ++ [(true, fun _ => ([], 0))] else its
def fldP (its : hwIt) (fs : Nat) (r k c : Int32) : hwIt × Nat := match rN its.length r, kN k with
  | some i, some j => if (its.getD i hwIt0).1 = true then (its.set i ((its.getD i hwIt0).1, va_up (its.getD i hwIt0).2 j (tk ((its.getD i hwIt0).2 j) (ltr (lo8 c)))), fs + 1) else (its, fs)
  | _, _ => (its, fs)
def remP (its : hwIt) (r : Int32) : hwIt × Nat := match rN its.length r with
  | some i => if (its.getD i hwIt0).1 = true then (its.set i (false, (its.getD i hwIt0).2), 1) else (its, 0)
  | none => (its, 0)
def sgnP (qw : List (List Nat)) (qo qs : Nat) (c : Int32) : (List (List Nat) × Nat) × Nat := if qs < 100 then (tk (qw, qo) (ltr (lo8 c)), qs + 1) else ((qw, qo), qs)
def askT (lg : Nat → Nat) (ss qw : List (List Nat)) (j : Nat) : List (List Nat) := qw.map (trm (lg j) ss)
def hsA (ta : List (List Nat)) (T : Nat → Option (List (List Nat))) (n : Nat) : List (Nat × Nat × Nat) := if ta.any (fun t => decide (t ≠ [])) = true then gaN (fun tb => ta.all (fun t => decide (t = [] ∨ t ∈ tb))) (fun tb => tb.countP (fun w => decide (w ≠ []) && (decide (w ∈ ta)))) T n else []
def hsP (ta : List (List Nat)) (T : Nat → Option (List (List Nat))) (n : Nat) : List (Nat × Nat × Nat) := if ta.any (fun t => decide (t ≠ [])) = true then gaN (fun tb => phL ta tb) (fun tb => tb.countP (fun w => decide (w ≠ []) && (decide (w ∈ ta)))) T n else []
def hsN (ta : List (List Nat)) (d : Int32) (T : Nat → Option (List (List Nat))) (n : Nat) : List (Nat × Nat × Nat) := if ta.getD 0 [] = [] ∨ ta.getD 1 [] = [] ∨ d.toInt < 1 then [] else gaN (fun tb => neL tb (ta.getD 0 []) (ta.getD 1 []) d.toInt.toNat) (fun tb => tb.countP (fun w => decide (w ≠ []) && (decide (w = ta.getD 0 [] ∨ w = ta.getD 1 [])))) T n
def hsW (w : List Nat) (be : Bool) (T : Nat → Option (List (List Nat))) (n : Nat) : List (Nat × Nat × Nat) := if w = [] ∨ (be = true ∧ w.length < 3) then [] else gaN (fun tb => decide (0 < tb.countP (fun v => decide (v ≠ []) && (bif be then endL v w else begL v w)))) (fun tb => tb.countP (fun v => decide (v ≠ []) && (bif be then endL v w else begL v w))) T n
def hA (hs : List (Nat × Nat × Nat)) (i : Int32) : Nat × Nat × Nat := if i < 0 then (0, 0, 0) else hs.getD i.toNatClampNeg (0, 0, 0)
theorem hA_neg {hs : List (Nat × Nat × Nat)} {i : Int32} (h : i < 0) : hA hs i = (0, 0, 0) := by unfold hA; rw [if_pos h]
theorem hA_nI {hs : List (Nat × Nat × Nat)} {j : Nat} (h : j < 2147483648) : hA hs (nI j) = hs.getD j (0, 0, 0) := by unfold hA; rw [if_neg (nI_pos h), nI_clamp h]
def lA (l : List (List Nat)) (i : Int32) : List Nat := if i < 0 then [] else l.getD i.toNatClampNeg []
theorem lA_neg {l : List (List Nat)} {i : Int32} (h : i < 0) : lA l i = [] := by unfold lA; rw [if_pos h]
theorem lA_nI {l : List (List Nat)} {j : Nat} (h : j < 2147483648) : lA l (nI j) = l.getD j [] := by unfold lA; rw [if_neg (nI_pos h), nI_clamp h]
def hitP (hs : List (Nat × Nat × Nat)) (i what : Int32) : Int32 := if what = 0 then nI (hA hs i).1 else if what = nI 1 then nI (hA hs i).2.1 else nI 0
def cdv (a b : Nat) : Nat := if a = 0 ∨ b = 0 then 0 else Nat.gcd a b
def rankP (hs : List (Nat × Nat × Nat)) (i side : Int32) : Int64 := if cdv (hA hs i).2.1 (hA hs i).2.2 < 1 then -1 else if side = 0 then lN ((hA hs i).2.1 / cdv (hA hs i).2.1 (hA hs i).2.2) else lN ((hA hs i).2.2 / cdv (hA hs i).2.1 (hA hs i).2.2)
def termW (l : List (List Nat)) (i k : Int32) : Int32 := if lA l i = [] ∨ k < 0 then -1 else nI (sgn ((lA l i).getD k.toNatClampNeg 0))
def nrN (w : List Nat) (l : List (List Nat)) : Nat → Nat × Int32
  | 0 => (3, -1)
  | i + 1 => if distL w (l.getD i []) < (nrN w l i).1 then (distL w (l.getD i []), nI i) else nrN w l i
theorem nrN_le (w : List Nat) (l : List (List Nat)) : ∀ i, (nrN w l i).1 ≤ 3
  | 0 => Nat.le_refl _
  | i + 1 => by
    have := nrN_le w l i
    show (if distL w (l.getD i []) < (nrN w l i).1 then (distL w (l.getD i []), nI i) else nrN w l i).1 ≤ 3
    split
    · show distL w (l.getD i []) ≤ 3; omega
    · exact this
theorem distL_le {f t : List Nat} (hf : f.length ≤ 12) (ht : t.length ≤ 12) : distL f t ≤ 24 := by
  have := rows_le (t := t) (W := 12) f (fun j => j) 12 (fun j hj => hj) t.length ht
  unfold distL
  omega
def stpP (ss qw : List (List Nat)) : List (List Nat) := qw.foldl (fun l w => insS 40 l w) ss
theorem stpP_take {ss qw : List (List Nat)} {i : Nat} (h : i < qw.length) : stpP ss (qw.take (i + 1)) = insS 40 (stpP ss (qw.take i)) (qw.getD i []) := by
  unfold stpP
  rw [take_succ_getD h, List.foldl_append]
  rfl
theorem sorted_stpP : ∀ {qw ss : List (List Nat)}, ss.Pairwise (· < ·) → (stpP ss qw).Pairwise (· < ·)
  | [], _, h => h
  | _ :: qw, _, h => sorted_stpP (qw := qw) (sorted_insS h)
def lanP (lg : Nat → Nat) (k l : Int32) : (Nat → Nat) × Int32 := match kN k with
  | none => (lg, -1)
  | some j => if l < 0 ∨ nI 3 ≤ l then (lg, -1) else (va_up lg j l.toNatClampNeg, nI (lg j))
theorem ne_len {w : List Nat} (h : w ≠ []) : 1 ≤ w.length := by
  cases w with
  | nil => exact absurd rfl h
  | cons x xs => simp
theorem gcd_found {a b d : Nat} (ha : a ≠ 0) (hb : b ≠ 0) (hd : 0 < d) (h1 : a % d = 0) (h2 : b % d = 0) (hno : ∀ e, d < e → e ≤ min a b → ¬ (a % e = 0 ∧ b % e = 0)) : cdv a b = d := by
  unfold cdv
  rw [if_neg (by omega)]
  have hdv : d ∣ Nat.gcd a b := Nat.dvd_gcd (Nat.dvd_of_mod_eq_zero h1) (Nat.dvd_of_mod_eq_zero h2)
  have hg : 0 < Nat.gcd a b := Nat.gcd_pos_of_pos_left _ (by omega)
  have hle : d ≤ Nat.gcd a b := Nat.le_of_dvd hg hdv
  rcases Nat.lt_or_ge d (Nat.gcd a b) with q | q
  · have ha2 : Nat.gcd a b ≤ a := Nat.le_of_dvd (by omega) (Nat.gcd_dvd_left a b)
    have hb2 : Nat.gcd a b ≤ b := Nat.le_of_dvd (by omega) (Nat.gcd_dvd_right a b)
    exact absurd ⟨Nat.mod_eq_zero_of_dvd (Nat.gcd_dvd_left a b), Nat.mod_eq_zero_of_dvd (Nat.gcd_dvd_right a b)⟩ (hno _ q (by omega))
  · omega
theorem cdv_zero {a b : Nat} (hno : ∀ e, 0 < e → e ≤ min a b → ¬ (a % e = 0 ∧ b % e = 0)) : cdv a b = 0 := by
  unfold cdv
  by_cases h : a = 0 ∨ b = 0
  · rw [if_pos h]
  · exact absurd ⟨Nat.mod_one a, Nat.mod_one b⟩ (hno 1 (by decide) (by omega))
theorem cdv_le (a b : Nat) (ha : a ≤ 1000) : cdv a b ≤ 1000 := by
  unfold cdv
  split
  · omega
  · have : Nat.gcd a b ≤ a := Nat.le_of_dvd (by omega) (Nat.gcd_dvd_left a b)
    omega
def okS (its : hwIt) (fs : Nat) (lg : Nat → Nat) (qw : List (List Nat)) (qo qs : Nat) (ss : List (List Nat)) : Prop := its.length ≤ 30 ∧ (∀ i j, txG ((its.getD i hwIt0).2 j).1 ((its.getD i hwIt0).2 j).2 ∧ ((its.getD i hwIt0).2 j).1.length ≤ fs) ∧ fs ≤ 600 ∧ (∀ j, lg j < 3) ∧ ss.Pairwise (· < ·) ∧ txG qw qo ∧ 2 * qw.length ≤ qs + (if qo = 0 then 0 else 1) ∧ qs ≤ 100
theorem okIt_of {its : hwIt} {fs : Nat} (h : ∀ i j, txG ((its.getD i hwIt0).2 j).1 ((its.getD i hwIt0).2 j).2 ∧ ((its.getD i hwIt0).2 j).1.length ≤ fs) (hf : fs ≤ 600) : okIt its := fun i j => ⟨(h i j).1.1, Nat.le_trans (h i j).2 hf⟩
theorem fldP_r {its : hwIt} {fs : Nat} {r k c : Int32} (h : rN its.length r = none) : fldP its fs r k c = (its, fs) := by unfold fldP; rw [h]
theorem fldP_k {its : hwIt} {fs : Nat} {r k c : Int32} (h : kN k = none) : fldP its fs r k c = (its, fs) := by unfold fldP; rw [h]; cases rN its.length r <;> rfl
theorem fldP_g {its : hwIt} {fs i : Nat} {r k c : Int32} (h : rN its.length r = some i) (ht : (its.getD i hwIt0).1 = false) : fldP its fs r k c = (its, fs) := by
  unfold fldP
  rw [h]
  cases kN k with
  | none => rfl
  | some j => show (if (its.getD i hwIt0).1 = true then _ else _) = _; rw [if_neg (by rw [ht]; decide)]
theorem fldP_y {its : hwIt} {fs i j : Nat} {r k c : Int32} (h : rN its.length r = some i) (hk : kN k = some j) (ht : (its.getD i hwIt0).1 = true) : fldP its fs r k c = (its.set i ((its.getD i hwIt0).1, va_up (its.getD i hwIt0).2 j (tk ((its.getD i hwIt0).2 j) (ltr (lo8 c)))), fs + 1) := by
  unfold fldP
  rw [h, hk]
  show (if (its.getD i hwIt0).1 = true then _ else _) = _
  rw [if_pos ht]
theorem remP_r {its : hwIt} {r : Int32} (h : rN its.length r = none) : remP its r = (its, 0) := by unfold remP; rw [h]
theorem remP_g {its : hwIt} {i : Nat} {r : Int32} (h : rN its.length r = some i) (ht : (its.getD i hwIt0).1 = false) : remP its r = (its, 0) := by
  unfold remP
  rw [h]
  show (if (its.getD i hwIt0).1 = true then _ else _) = _
  rw [if_neg (by rw [ht]; decide)]
theorem remP_y {its : hwIt} {i : Nat} {r : Int32} (h : rN its.length r = some i) (ht : (its.getD i hwIt0).1 = true) : remP its r = (its.set i (false, (its.getD i hwIt0).2), 1) := by
  unfold remP
  rw [h]
  show (if (its.getD i hwIt0).1 = true then _ else _) = _
  rw [if_pos ht]
theorem dIx_startSearch_0 : decode cIx_startSearch 0 = .ok (.aload_n 0, 1) := by decide +kernel
theorem dIx_startSearch_1 : decode cIx_startSearch 1 = .ok (.getfield 38, 3) := by decide +kernel
theorem dIx_startSearch_4 : decode cIx_startSearch 4 = .ok (.invokevirtual 177, 3) := by decide +kernel
theorem dIx_startSearch_7 : decode cIx_startSearch 7 = .ok (.aload_n 0, 1) := by decide +kernel
theorem dIx_startSearch_8 : decode cIx_startSearch 8 = .ok (.getfield 45, 3) := by decide +kernel
theorem dIx_startSearch_11 : decode cIx_startSearch 11 = .ok (.invokevirtual 178, 3) := by decide +kernel
theorem dIx_startSearch_14 : decode cIx_startSearch 14 = .ok (.iload_n 1, 1) := by decide +kernel
theorem dIx_startSearch_15 : decode cIx_startSearch 15 = .ok (.invokestatic 166, 3) := by decide +kernel
theorem dIx_startSearch_18 : decode cIx_startSearch 18 = .ok (.ifCond .eq 24, 3) := by decide +kernel
theorem dIx_startSearch_21 : decode cIx_startSearch 21 = .ok (.aload_n 0, 1) := by decide +kernel
theorem dIx_startSearch_22 : decode cIx_startSearch 22 = .ok (.getfield 45, 3) := by decide +kernel
theorem dIx_startSearch_25 : decode cIx_startSearch 25 = .ok (.aload_n 0, 1) := by decide +kernel
theorem dIx_startSearch_26 : decode cIx_startSearch 26 = .ok (.getfield 22, 3) := by decide +kernel
theorem dIx_startSearch_29 : decode cIx_startSearch 29 = .ok (.aload_n 0, 1) := by decide +kernel
theorem dIx_startSearch_30 : decode cIx_startSearch 30 = .ok (.getfield 15, 3) := by decide +kernel
theorem dIx_startSearch_33 : decode cIx_startSearch 33 = .ok (.iload_n 1, 1) := by decide +kernel
theorem dIx_startSearch_34 : decode cIx_startSearch 34 = .ok (.iaload, 1) := by decide +kernel
theorem dIx_startSearch_35 : decode cIx_startSearch 35 = .ok (.aload_n 0, 1) := by decide +kernel
theorem dIx_startSearch_36 : decode cIx_startSearch 36 = .ok (.getfield 31, 3) := by decide +kernel
theorem dIx_startSearch_39 : decode cIx_startSearch 39 = .ok (.invokevirtual 179, 3) := by decide +kernel
theorem dIx_startSearch_42 : decode cIx_startSearch 42 = .ok (.aload_n 0, 1) := by decide +kernel
theorem dIx_startSearch_43 : decode cIx_startSearch 43 = .ok (.invokevirtual 150, 3) := by decide +kernel
theorem dIx_startSearch_46 : decode cIx_startSearch 46 = .ok (.return_, 1) := by decide +kernel
theorem dIx_listFieldTerms_0 : decode cIx_listFieldTerms 0 = .ok (.iconst 0, 1) := by decide +kernel
theorem dIx_listFieldTerms_1 : decode cIx_listFieldTerms 1 = .ok (.istore_n 1, 1) := by decide +kernel
theorem dIx_listFieldTerms_2 : decode cIx_listFieldTerms 2 = .ok (.iload_n 1, 1) := by decide +kernel
theorem dIx_listFieldTerms_3 : decode cIx_listFieldTerms 3 = .ok (.aload_n 0, 1) := by decide +kernel
theorem dIx_listFieldTerms_4 : decode cIx_listFieldTerms 4 = .ok (.getfield 49, 3) := by decide +kernel
theorem dIx_listFieldTerms_7 : decode cIx_listFieldTerms 7 = .ok (.invokevirtual 197, 3) := by decide +kernel
theorem dIx_listFieldTerms_10 : decode cIx_listFieldTerms 10 = .ok (.if_icmp .ge 37, 3) := by decide +kernel
theorem dIx_listFieldTerms_13 : decode cIx_listFieldTerms 13 = .ok (.aload_n 0, 1) := by decide +kernel
theorem dIx_listFieldTerms_14 : decode cIx_listFieldTerms 14 = .ok (.getfield 49, 3) := by decide +kernel
theorem dIx_listFieldTerms_17 : decode cIx_listFieldTerms 17 = .ok (.iload_n 1, 1) := by decide +kernel
theorem dIx_listFieldTerms_18 : decode cIx_listFieldTerms 18 = .ok (.invokevirtual 103, 3) := by decide +kernel
theorem dIx_listFieldTerms_21 : decode cIx_listFieldTerms 21 = .ok (.lconst 0, 1) := by decide +kernel
theorem dIx_listFieldTerms_22 : decode cIx_listFieldTerms 22 = .ok (.lcmp, 1) := by decide +kernel
theorem dIx_listFieldTerms_23 : decode cIx_listFieldTerms 23 = .ok (.ifCond .eq 18, 3) := by decide +kernel
theorem dIx_listFieldTerms_26 : decode cIx_listFieldTerms 26 = .ok (.aload_n 0, 1) := by decide +kernel
theorem dIx_listFieldTerms_27 : decode cIx_listFieldTerms 27 = .ok (.getfield 52, 3) := by decide +kernel
theorem dIx_listFieldTerms_30 : decode cIx_listFieldTerms 30 = .ok (.aload_n 0, 1) := by decide +kernel
theorem dIx_listFieldTerms_31 : decode cIx_listFieldTerms 31 = .ok (.getfield 49, 3) := by decide +kernel
theorem dIx_listFieldTerms_34 : decode cIx_listFieldTerms 34 = .ok (.iload_n 1, 1) := by decide +kernel
theorem dIx_listFieldTerms_35 : decode cIx_listFieldTerms 35 = .ok (.invokevirtual 103, 3) := by decide +kernel
theorem dIx_listFieldTerms_38 : decode cIx_listFieldTerms 38 = .ok (.invokevirtual 162, 3) := by decide +kernel
theorem dIx_listFieldTerms_41 : decode cIx_listFieldTerms 41 = .ok (.iinc 1 1, 3) := by decide +kernel
theorem dIx_listFieldTerms_44 : decode cIx_listFieldTerms 44 = .ok (.goto (-42), 3) := by decide +kernel
theorem dIx_listFieldTerms_47 : decode cIx_listFieldTerms 47 = .ok (.return_, 1) := by decide +kernel
theorem dIx_listTerms_0 : decode cIx_listTerms 0 = .ok (.aload_n 0, 1) := by decide +kernel
theorem dIx_listTerms_1 : decode cIx_listTerms 1 = .ok (.getfield 52, 3) := by decide +kernel
theorem dIx_listTerms_4 : decode cIx_listTerms 4 = .ok (.invokevirtual 202, 3) := by decide +kernel
theorem dIx_listTerms_7 : decode cIx_listTerms 7 = .ok (.iconst 1, 1) := by decide +kernel
theorem dIx_listTerms_8 : decode cIx_listTerms 8 = .ok (.istore_n 2, 1) := by decide +kernel
theorem dIx_listTerms_9 : decode cIx_listTerms 9 = .ok (.iload_n 2, 1) := by decide +kernel
theorem dIx_listTerms_10 : decode cIx_listTerms 10 = .ok (.aload_n 0, 1) := by decide +kernel
theorem dIx_listTerms_11 : decode cIx_listTerms 11 = .ok (.getfield 58, 3) := by decide +kernel
theorem dIx_listTerms_14 : decode cIx_listTerms 14 = .ok (.if_icmp .gt 22, 3) := by decide +kernel
theorem dIx_listTerms_17 : decode cIx_listTerms 17 = .ok (.aload_n 0, 1) := by decide +kernel
theorem dIx_listTerms_18 : decode cIx_listTerms 18 = .ok (.iload_n 2, 1) := by decide +kernel
theorem dIx_listTerms_19 : decode cIx_listTerms 19 = .ok (.iload_n 1, 1) := by decide +kernel
theorem dIx_listTerms_20 : decode cIx_listTerms 20 = .ok (.invokevirtual 183, 3) := by decide +kernel
theorem dIx_listTerms_23 : decode cIx_listTerms 23 = .ok (.ifCond .eq 7, 3) := by decide +kernel
theorem dIx_listTerms_26 : decode cIx_listTerms 26 = .ok (.aload_n 0, 1) := by decide +kernel
theorem dIx_listTerms_27 : decode cIx_listTerms 27 = .ok (.invokevirtual 203, 3) := by decide +kernel
theorem dIx_listTerms_30 : decode cIx_listTerms 30 = .ok (.iinc 2 1, 3) := by decide +kernel
theorem dIx_listTerms_33 : decode cIx_listTerms 33 = .ok (.goto (-24), 3) := by decide +kernel
theorem dIx_listTerms_36 : decode cIx_listTerms 36 = .ok (.return_, 1) := by decide +kernel
theorem dIx_commonDivisor_0 : decode cIx_commonDivisor 0 = .ok (.iload_n 0, 1) := by decide +kernel
theorem dIx_commonDivisor_1 : decode cIx_commonDivisor 1 = .ok (.iload_n 1, 1) := by decide +kernel
theorem dIx_commonDivisor_2 : decode cIx_commonDivisor 2 = .ok (.invokestatic 206, 3) := by decide +kernel
theorem dIx_commonDivisor_5 : decode cIx_commonDivisor 5 = .ok (.istore_n 2, 1) := by decide +kernel
theorem dIx_commonDivisor_6 : decode cIx_commonDivisor 6 = .ok (.iload_n 2, 1) := by decide +kernel
theorem dIx_commonDivisor_7 : decode cIx_commonDivisor 7 = .ok (.ifCond .le 23, 3) := by decide +kernel
theorem dIx_commonDivisor_10 : decode cIx_commonDivisor 10 = .ok (.iload_n 0, 1) := by decide +kernel
theorem dIx_commonDivisor_11 : decode cIx_commonDivisor 11 = .ok (.iload_n 2, 1) := by decide +kernel
theorem dIx_commonDivisor_12 : decode cIx_commonDivisor 12 = .ok (.irem, 1) := by decide +kernel
theorem dIx_commonDivisor_13 : decode cIx_commonDivisor 13 = .ok (.ifCond .ne 11, 3) := by decide +kernel
theorem dIx_commonDivisor_16 : decode cIx_commonDivisor 16 = .ok (.iload_n 1, 1) := by decide +kernel
theorem dIx_commonDivisor_17 : decode cIx_commonDivisor 17 = .ok (.iload_n 2, 1) := by decide +kernel
theorem dIx_commonDivisor_18 : decode cIx_commonDivisor 18 = .ok (.irem, 1) := by decide +kernel
theorem dIx_commonDivisor_19 : decode cIx_commonDivisor 19 = .ok (.ifCond .ne 5, 3) := by decide +kernel
theorem dIx_commonDivisor_22 : decode cIx_commonDivisor 22 = .ok (.iload_n 2, 1) := by decide +kernel
theorem dIx_commonDivisor_23 : decode cIx_commonDivisor 23 = .ok (.ireturn, 1) := by decide +kernel
theorem dIx_commonDivisor_24 : decode cIx_commonDivisor 24 = .ok (.iinc 2 (-1), 3) := by decide +kernel
theorem dIx_commonDivisor_27 : decode cIx_commonDivisor 27 = .ok (.goto (-21), 3) := by decide +kernel
theorem dIx_commonDivisor_30 : decode cIx_commonDivisor 30 = .ok (.iconst 0, 1) := by decide +kernel
theorem dIx_commonDivisor_31 : decode cIx_commonDivisor 31 = .ok (.ireturn, 1) := by decide +kernel
theorem mm_253 : (.code yHits_clear cHits_clear 1 none : Cond) ∈ hwG := hwIx 251 (by decide +kernel) (by decide +kernel)
theorem mm_254 : (.methodLink RIx 177 yHits_clear : Cond) ∈ hwG := hwIx 248 (by decide +kernel) (by decide +kernel)
theorem mm_255 : (.instanceMethod yHits_clear : Cond) ∈ hwG := hwIx 249 (by decide +kernel) (by decide +kernel)
theorem mm_256 : (.selects RHits yHits_clear yHits_clear : Cond) ∈ hwG := hwIx 250 (by decide +kernel) (by decide +kernel)
theorem mm_257 : (.fieldLink RIx 45 RIx "asked" "LWordIndex2$Terms;" : Cond) ∈ hwG := hwIx 134 (by decide +kernel) (by decide +kernel)
theorem mm_258 : (.code yTerms_clear cTerms_clear 1 none : Cond) ∈ hwG := hwIx 255 (by decide +kernel) (by decide +kernel)
theorem mm_259 : (.methodLink RIx 178 yTerms_clear : Cond) ∈ hwG := hwIx 252 (by decide +kernel) (by decide +kernel)
theorem mm_260 : (.instanceMethod yTerms_clear : Cond) ∈ hwG := hwIx 253 (by decide +kernel) (by decide +kernel)
theorem mm_261 : (.selects RTerms yTerms_clear yTerms_clear : Cond) ∈ hwG := hwIx 254 (by decide +kernel) (by decide +kernel)
theorem mm_262 : (.code yIx_clearQuestion cIx_clearQuestion 1 none : Cond) ∈ hwG := hwIx 300 (by decide +kernel) (by decide +kernel)
theorem mm_263 : (.methodLink RIx 150 yIx_clearQuestion : Cond) ∈ hwG := hwIx 297 (by decide +kernel) (by decide +kernel)
theorem mm_264 : (.instanceMethod yIx_clearQuestion : Cond) ∈ hwG := hwIx 299 (by decide +kernel) (by decide +kernel)
theorem mm_265 : (.selects RIx yIx_clearQuestion yIx_clearQuestion : Cond) ∈ hwG := hwIx 5 (by decide +kernel) (by decide +kernel)
theorem mm_266 : (.methodLink RIx 103 yTerms_at : Cond) ∈ hwG := hwIx 449 (by decide +kernel) (by decide +kernel)
theorem mm_267 : (.fieldLink RIx 52 RIx "listed" "LWordIndex2$WordSet;" : Cond) ∈ hwG := hwIx 136 (by decide +kernel) (by decide +kernel)
theorem mm_268 : (.code yWordSet_add cWordSet_add 4 none : Cond) ∈ hwG := hwIx 522 (by decide +kernel) (by decide +kernel)
theorem mm_269 : (.methodLink RIx 162 yWordSet_add : Cond) ∈ hwG := hwIx 519 (by decide +kernel) (by decide +kernel)
theorem mm_270 : (.instanceMethod yWordSet_add : Cond) ∈ hwG := hwIx 520 (by decide +kernel) (by decide +kernel)
theorem mm_271 : (.selects RWordSet yWordSet_add yWordSet_add : Cond) ∈ hwG := hwIx 521 (by decide +kernel) (by decide +kernel)
theorem mm_272 : (.code yWordSet_clear cWordSet_clear 1 none : Cond) ∈ hwG := hwIx 514 (by decide +kernel) (by decide +kernel)
theorem mm_273 : (.methodLink RIx 202 yWordSet_clear : Cond) ∈ hwG := hwIx 511 (by decide +kernel) (by decide +kernel)
theorem mm_274 : (.instanceMethod yWordSet_clear : Cond) ∈ hwG := hwIx 512 (by decide +kernel) (by decide +kernel)
theorem mm_275 : (.selects RWordSet yWordSet_clear yWordSet_clear : Cond) ∈ hwG := hwIx 513 (by decide +kernel) (by decide +kernel)
theorem mm_276 : (.code yIx_listFieldTerms cIx_listFieldTerms 2 none : Cond) ∈ hwG := hwIx 518 (by decide +kernel) (by decide +kernel)
theorem mm_277 : (.methodLink RIx 203 yIx_listFieldTerms : Cond) ∈ hwG := hwIx 515 (by decide +kernel) (by decide +kernel)
theorem mm_278 : (.instanceMethod yIx_listFieldTerms : Cond) ∈ hwG := hwIx 517 (by decide +kernel) (by decide +kernel)
theorem mm_279 : (.selects RIx yIx_listFieldTerms yIx_listFieldTerms : Cond) ∈ hwG := hwIx 13 (by decide +kernel) (by decide +kernel)
theorem mm_280 : (.methodLink RIx 206 Lib.Math.min.name : Cond) ∈ hwG := hwIx 501 (by decide +kernel) (by decide +kernel)
set_option maxHeartbeats 4000000 in
set_option maxRecDepth 100000 in
theorem c_Ix_start (l : Launch) (D : va_G) (K : Nat → ClassId) (X : hwW) (sz : Nat) (a : Nat) (b0 : Nat) (b1 : Nat) (b2 : Nat) (b3 : Nat) (b4 : Nat) (b5 : Nat) (b6 : Nat) (b7 : Nat) (b8 : Nat) (ni : Nat) (fs : Nat) (qs : Nat) (fl : Nat → Int32) (lg : Nat → Nat) (hs : List (Nat × Nat × Nat)) (ta : List (List Nat)) (qw : List (List Nat)) (qo : Nat) (ss : List (List Nat)) (j : Nat) (f0_ : hwH X a 0 (.inr (5, [.ref b0, .int (nI ni), .int (nI fs), .ref b1, .ref b2, .int (nI qs), .ref b3, .ref b4, .ref b5, .ref b6, .ref b7, .ref b8]))) (f1_ : hwH X b1 2 (.inl (K 0, 4, .inl fl))) (f2_ : hiAt K X b4 hs) (f3_ : tmAt K X b5 7 50 ta) (f4_ : txAt K X b2 5 qw qo) (f5_ : seAt K X b3 6 40 ss) (hj : j < 4) (hfl : ∀ j, j < 4 → fl j = nI (lg j)) (hlg : ∀ j, lg j < 3) (hq50 : qw.length ≤ 50) (hne : ∀ w ∈ qw, 1 ≤ w.length) (hso : ss.Pairwise (· < ·)) : Met l yIx_startSearch (.code yIx_startSearch cIx_startSearch 2 none :: hwG) ({ frames := 5, cells := 0, slots := 0, locals := 115 } : Room) (hwPc D vwCl (hwT K) [.ref a, .int (nI j)] X sz) (hwQv D vwCl X sz (fun Y => hwF X Y (fun M => M = 0 ∨ M = 10 ∨ M = 11 ∨ M = 14 ∨ M = 15 ∨ (60 ≤ M ∧ M ≤ 63)) ∧ hwH Y a 0 (.inr (5, [.ref b0, .int (nI ni), .int (nI fs), .ref b1, .ref b2, .int (nI 0), .ref b3, .ref b4, .ref b5, .ref b6, .ref b7, .ref b8])) ∧ hiAt K Y b4 [] ∧ tmAt K Y b5 7 50 (qw.map (trm (lg j) ss)) ∧ txAt K Y b2 5 [] 0)) 0 0 (va_A X.1 sz) := by
  refine hwMetv (cc := cIx_startSearch) (maxL := 2) (by decide) rfl (Nat.le_of_ble_eq_true rfl) (fun p e s m args below meth c ls A Q hx hb hml hown hts hname hret hK hO hZ hA hl => ?_)
  have hl : lv_has ls 2 [(0, .ref a), (1, .int (nI j))] := hl
  have hFr : hwF X X (fun M => M = 0 ∨ M = 10 ∨ M = 11 ∨ M = 14 ∨ M = 15 ∨ (60 ≤ M ∧ M ≤ 63)) := hwF.rf
  refine lv_aload_n hx hb dIx_startSearch_0 rfl (lv_at hl 0 rfl) ?_
  refine hw_get hx hb hts (hwInn inIx) hown hK hZ f0_ rfl 7 (by decide) (hts (.fieldLink RIx 38 RIx "hits" "LWordIndex2$Hits;") (hwMem mm_219)) (fun _ h => h) rfl dIx_startSearch_1 ?_
  refine hw_callv (va_runV (As := []) (rest := []) ⟨hx, hb, hml, hown, hts⟩ (c_Hi_clearP l D K X s.heap.size (a := b4) (hs := hs) f2_) (cwV 0 hts (hwGood (hw_4 mm_254 mm_255 mm_256 mm_95 (hwAll mm_253))) rfl rfl rfl (by decide +kernel) ⟨Nat.le_of_ble_eq_true rfl, Nat.le_of_ble_eq_true rfl⟩) (hw_preV hK hO hZ (hiAt.ob f2_) rfl) rfl rfl hl.1 rfl (lv_room (Nat.le_of_ble_eq_true rfl)) dIx_startSearch_4 ⟨(show 0 + 0 ≤ 0 by omega), (show 0 + 0 ≤ 0 by omega)⟩) hZ hA (fun X_1 H_2 lc_3 hp hZ => ?_)
  obtain ⟨hF, hN_4⟩ := hp
  have hFr := hwF.tr hFr hF (fun _ h => h) (fun M h => by first | exact False.elim h | ((try dsimp only at h ⊢); omega))
  have f0_ := hF _ _ _ (by intro hNS; first | exact False.elim hNS | ((try dsimp only at hNS); omega)) f0_
  have f1_ := hF _ _ _ (by intro hNS; first | exact False.elim hNS | ((try dsimp only at hNS); omega)) f1_
  have f3_ := tmAt.fr hF (by intro hNS; first | exact False.elim hNS | ((try dsimp only at hNS); omega)) (by intro hNS; first | exact False.elim hNS | ((try dsimp only at hNS); omega)) f3_
  have f4_ := txAt.fr hF (by intro hNS; first | exact False.elim hNS | ((try dsimp only at hNS); omega)) (by intro hNS; first | exact False.elim hNS | ((try dsimp only at hNS); omega)) f4_
  have f5_ := seAt.fr hF (by intro hNS; first | exact False.elim hNS | ((try dsimp only at hNS); omega)) (by intro hNS; first | exact False.elim hNS | ((try dsimp only at hNS); omega)) f5_
  have ff_5 := hN_4
  refine lv_aload_n hx hb dIx_startSearch_7 rfl (lv_at hl 0 rfl) ?_
  refine hw_get hx hb hts (hwInn inIx) hown hK hZ f0_ rfl 8 (by decide) (hts (.fieldLink RIx 45 RIx "asked" "LWordIndex2$Terms;") (hwMem mm_257)) (fun _ h => h) rfl dIx_startSearch_8 ?_
  refine hw_callv (va_runV (As := []) (rest := []) ⟨hx, hb, hml, hown, hts⟩ (c_Tm_clear l D K X_1 H_2.size (a := b5) (k := 7) (N := 50) (ts := ta) f3_) (cwV 0 hts (hwGood (hw_4 mm_259 mm_260 mm_261 mm_89 (hwAll mm_258))) rfl rfl rfl (by decide +kernel) ⟨Nat.le_of_ble_eq_true rfl, Nat.le_of_ble_eq_true rfl⟩) (hw_preV hK hO hZ (tmAt.ob f3_) rfl) rfl rfl hl.1 rfl (lv_room (Nat.le_of_ble_eq_true rfl)) dIx_startSearch_11 ⟨(show 0 + 0 ≤ 0 by omega), (show 0 + 0 ≤ 0 by omega)⟩) hZ hA (fun X_6 H_7 lc_8 hp hZ => ?_)
  obtain ⟨hF, hN_9⟩ := hp
  have hFr := hwF.tr hFr hF (fun _ h => h) (fun M h => by first | exact False.elim h | ((try dsimp only at h ⊢); omega))
  have f0_ := hF _ _ _ (by intro hNS; first | exact False.elim hNS | ((try dsimp only at hNS); omega)) f0_
  have f1_ := hF _ _ _ (by intro hNS; first | exact False.elim hNS | ((try dsimp only at hNS); omega)) f1_
  have f4_ := txAt.fr hF (by intro hNS; first | exact False.elim hNS | ((try dsimp only at hNS); omega)) (by intro hNS; first | exact False.elim hNS | ((try dsimp only at hNS); omega)) f4_
  have f5_ := seAt.fr hF (by intro hNS; first | exact False.elim hNS | ((try dsimp only at hNS); omega)) (by intro hNS; first | exact False.elim hNS | ((try dsimp only at hNS); omega)) f5_
  have ff_5 := hiAt.fr hF (by intro hNS; first | exact False.elim hNS | ((try dsimp only at hNS); omega)) (by intro hNS; first | exact False.elim hNS | ((try dsimp only at hNS); omega)) (by intro hNS; first | exact False.elim hNS | ((try dsimp only at hNS); omega)) (by intro hNS; first | exact False.elim hNS | ((try dsimp only at hNS); omega)) ff_5
  have ff_10 := hN_9
  refine lv_iload_n hx hb dIx_startSearch_14 rfl (lv_at hl 1 rfl) ?_
  refine hw_calli (va_runS (As := [.int (nI j)]) (rest := []) ⟨hx, hb, hml, hown, hts⟩ (c_Ix_isKind l D K X_6 H_7.size (j := j) (by omega)) (va_cwS 1 hts (hwGood (hw_3 mm_211 mm_210 mm_193 (hwAll mm_209))) rfl rfl rfl (by decide +kernel) ⟨Nat.le_of_ble_eq_true rfl, Nat.le_of_ble_eq_true rfl⟩) (hw_preS hK hO hZ) rfl rfl hl.1 rfl (lv_room (Nat.le_of_ble_eq_true rfl)) dIx_startSearch_15 ⟨(show 0 + 0 ≤ 0 by omega), (show 0 + 0 ≤ 0 by omega)⟩) hZ hA (fun r X_11 H_12 lc_13 hp hZ => ?_)
  obtain ⟨hr, hy⟩ := hp
  subst hy
  refine hw_topi hr ?_
  refine hw_bz_eqF (tgt := 42) hx hb dIx_startSearch_18 (by decide) rfl ?_
  refine lv_aload_n hx hb dIx_startSearch_21 rfl (lv_at hl 0 rfl) ?_
  refine hw_get hx hb hts (hwInn inIx) hown hK hZ f0_ rfl 8 (by decide) (hts (.fieldLink RIx 45 RIx "asked" "LWordIndex2$Terms;") (hwMem mm_257)) (fun _ h => h) rfl dIx_startSearch_22 ?_
  refine lv_aload_n hx hb dIx_startSearch_25 rfl (lv_at hl 0 rfl) ?_
  refine hw_get hx hb hts (hwInn inIx) hown hK hZ f0_ rfl 4 (by decide) (hts (.fieldLink RIx 22 RIx "question" "LWordIndex2$Text;") (hwMem mm_199)) (fun _ h => h) rfl dIx_startSearch_26 ?_
  refine lv_aload_n hx hb dIx_startSearch_29 rfl (lv_at hl 0 rfl) ?_
  refine hw_get hx hb hts (hwInn inIx) hown hK hZ f0_ rfl 3 (by decide) (hts (.fieldLink RIx 15 RIx "languages" "[I") (hwMem mm_213)) (fun _ h => h) rfl dIx_startSearch_30 ?_
  refine lv_iload_n hx hb dIx_startSearch_33 rfl (lv_at hl 1 rfl) ?_
  refine hw_iald hx hb hK hZ 0 f1_ rfl (j := j) (by omega) (by omega) dIx_startSearch_34 ?_
  refine hw_topi (hfl j hj) ?_
  refine lv_aload_n hx hb dIx_startSearch_35 rfl (lv_at hl 0 rfl) ?_
  refine hw_get hx hb hts (hwInn inIx) hown hK hZ f0_ rfl 6 (by decide) (hts (.fieldLink RIx 31 RIx "stops" "LWordIndex2$WordSet;") (hwMem mm_214)) (fun _ h => h) rfl dIx_startSearch_36 ?_
  refine hw_callv (va_runV (As := [.ref b2, .int (nI (lg j)), .ref b3]) (rest := []) ⟨hx, hb, hml, hown, hts⟩ (c_Tm_read l D K X_6 H_12.size (a := b5) (k := 7) (N := 50) (ts := []) (t := b2) (kt := 5) (ws := qw) (o := qo) (s0 := b3) (ks := 6) (Ns := 40) (ss := ss) (g := lg j) ff_10 f4_ f5_ (by omega) (by omega) (hlg j) (by omega) hne hso) (cwV 3 hts (hwGood (hw_4 mm_216 mm_217 mm_218 mm_89 (hwAll mm_215))) rfl rfl rfl (by decide +kernel) ⟨Nat.le_of_ble_eq_true rfl, Nat.le_of_ble_eq_true rfl⟩) (hw_preV hK hO hZ (tmAt.ob ff_10) rfl) rfl rfl hl.1 rfl (lv_room (Nat.le_of_ble_eq_true rfl)) dIx_startSearch_39 ⟨(show 0 + 0 ≤ 0 by omega), (show 0 + 0 ≤ 0 by omega)⟩) hZ hA (fun X_15 H_16 lc_17 hp hZ => ?_)
  obtain ⟨hF, hN_18⟩ := hp
  have hFr := hwF.tr hFr hF (fun _ h => h) (fun M h => by first | exact False.elim h | ((try dsimp only at h ⊢); omega))
  have f0_ := hF _ _ _ (by intro hNS; first | exact False.elim hNS | ((try dsimp only at hNS); omega)) f0_
  have f1_ := hF _ _ _ (by intro hNS; first | exact False.elim hNS | ((try dsimp only at hNS); omega)) f1_
  have f4_ := txAt.fr hF (by intro hNS; first | exact False.elim hNS | ((try dsimp only at hNS); omega)) (by intro hNS; first | exact False.elim hNS | ((try dsimp only at hNS); omega)) f4_
  have f5_ := seAt.fr hF (by intro hNS; first | exact False.elim hNS | ((try dsimp only at hNS); omega)) (by intro hNS; first | exact False.elim hNS | ((try dsimp only at hNS); omega)) f5_
  have ff_5 := hiAt.fr hF (by intro hNS; first | exact False.elim hNS | ((try dsimp only at hNS); omega)) (by intro hNS; first | exact False.elim hNS | ((try dsimp only at hNS); omega)) (by intro hNS; first | exact False.elim hNS | ((try dsimp only at hNS); omega)) (by intro hNS; first | exact False.elim hNS | ((try dsimp only at hNS); omega)) ff_5
  have ff_19 := hN_18
  refine lv_aload_n hx hb dIx_startSearch_42 rfl (lv_at hl 0 rfl) ?_
  refine hw_callv (va_runV (As := []) (rest := []) ⟨hx, hb, hml, hown, hts⟩ (c_Ix_clearQ l D K X_15 H_16.size (a := a) (b0 := b0) (b1 := b1) (b2 := b2) (b3 := b3) (b4 := b4) (b5 := b5) (b6 := b6) (b7 := b7) (b8 := b8) (ni := ni) (fs := fs) (qs := qs) (qw := qw) (qo := qo) f0_ f4_) (cwV 0 hts (hwGood (hw_4 mm_263 mm_264 mm_265 mm_193 (hwAll mm_262))) rfl rfl rfl (by decide +kernel) ⟨Nat.le_of_ble_eq_true rfl, Nat.le_of_ble_eq_true rfl⟩) (hw_preV hK hO hZ (⟨_, _, f0_⟩) rfl) rfl rfl hl.1 rfl (lv_room (Nat.le_of_ble_eq_true rfl)) dIx_startSearch_43 ⟨(show 0 + 0 ≤ 0 by omega), (show 0 + 0 ≤ 0 by omega)⟩) hZ hA (fun X_20 H_21 lc_22 hp hZ => ?_)
  obtain ⟨hF, hN_23, hN_24⟩ := hp
  have hFr := hwF.tr hFr hF (fun _ h => h) (fun M h => by first | exact False.elim h | ((try dsimp only at h ⊢); omega))
  have f1_ := hF _ _ _ (by intro hNS; first | exact False.elim hNS | ((try dsimp only at hNS); omega)) f1_
  have f5_ := seAt.fr hF (by intro hNS; first | exact False.elim hNS | ((try dsimp only at hNS); omega)) (by intro hNS; first | exact False.elim hNS | ((try dsimp only at hNS); omega)) f5_
  have ff_5 := hiAt.fr hF (by intro hNS; first | exact False.elim hNS | ((try dsimp only at hNS); omega)) (by intro hNS; first | exact False.elim hNS | ((try dsimp only at hNS); omega)) (by intro hNS; first | exact False.elim hNS | ((try dsimp only at hNS); omega)) (by intro hNS; first | exact False.elim hNS | ((try dsimp only at hNS); omega)) ff_5
  have ff_19 := tmAt.fr hF (by intro hNS; first | exact False.elim hNS | ((try dsimp only at hNS); omega)) (by intro hNS; first | exact False.elim hNS | ((try dsimp only at hNS); omega)) ff_19
  have ff_25 := hN_23
  have ff_26 := hN_24
  exact hret hZ ⟨hFr, ff_25, ff_5, ff_19, ff_26⟩ dIx_startSearch_46
set_option maxHeartbeats 4000000 in
set_option maxRecDepth 100000 in
theorem c_Ix_startB (l : Launch) (D : va_G) (K : Nat → ClassId) (X : hwW) (sz : Nat) (a : Nat) (b0 : Nat) (b1 : Nat) (b2 : Nat) (b3 : Nat) (b4 : Nat) (b5 : Nat) (b6 : Nat) (b7 : Nat) (b8 : Nat) (ni : Nat) (fs : Nat) (qs : Nat) (hs : List (Nat × Nat × Nat)) (ta : List (List Nat)) (qw : List (List Nat)) (qo : Nat) (kind : Int32) (f0_ : hwH X a 0 (.inr (5, [.ref b0, .int (nI ni), .int (nI fs), .ref b1, .ref b2, .int (nI qs), .ref b3, .ref b4, .ref b5, .ref b6, .ref b7, .ref b8]))) (f1_ : hiAt K X b4 hs) (f2_ : tmAt K X b5 7 50 ta) (f3_ : txAt K X b2 5 qw qo) (hk : badK kind) : Met l yIx_startSearch (.code yIx_startSearch cIx_startSearch 2 none :: hwG) ({ frames := 5, cells := 0, slots := 0, locals := 115 } : Room) (hwPc D vwCl (hwT K) [.ref a, .int kind] X sz) (hwQv D vwCl X sz (fun Y => hwF X Y (fun M => M = 0 ∨ M = 10 ∨ M = 11 ∨ M = 14 ∨ M = 15 ∨ (60 ≤ M ∧ M ≤ 63)) ∧ hwH Y a 0 (.inr (5, [.ref b0, .int (nI ni), .int (nI fs), .ref b1, .ref b2, .int (nI 0), .ref b3, .ref b4, .ref b5, .ref b6, .ref b7, .ref b8])) ∧ hiAt K Y b4 [] ∧ tmAt K Y b5 7 50 ([]) ∧ txAt K Y b2 5 [] 0)) 0 0 (va_A X.1 sz) := by
  refine hwMetv (cc := cIx_startSearch) (maxL := 2) (by decide) rfl (Nat.le_of_ble_eq_true rfl) (fun p e s m args below meth c ls A Q hx hb hml hown hts hname hret hK hO hZ hA hl => ?_)
  have hl : lv_has ls 2 [(0, .ref a), (1, .int kind)] := hl
  have hFr : hwF X X (fun M => M = 0 ∨ M = 10 ∨ M = 11 ∨ M = 14 ∨ M = 15 ∨ (60 ≤ M ∧ M ≤ 63)) := hwF.rf
  refine lv_aload_n hx hb dIx_startSearch_0 rfl (lv_at hl 0 rfl) ?_
  refine hw_get hx hb hts (hwInn inIx) hown hK hZ f0_ rfl 7 (by decide) (hts (.fieldLink RIx 38 RIx "hits" "LWordIndex2$Hits;") (hwMem mm_219)) (fun _ h => h) rfl dIx_startSearch_1 ?_
  refine hw_callv (va_runV (As := []) (rest := []) ⟨hx, hb, hml, hown, hts⟩ (c_Hi_clearP l D K X s.heap.size (a := b4) (hs := hs) f1_) (cwV 0 hts (hwGood (hw_4 mm_254 mm_255 mm_256 mm_95 (hwAll mm_253))) rfl rfl rfl (by decide +kernel) ⟨Nat.le_of_ble_eq_true rfl, Nat.le_of_ble_eq_true rfl⟩) (hw_preV hK hO hZ (hiAt.ob f1_) rfl) rfl rfl hl.1 rfl (lv_room (Nat.le_of_ble_eq_true rfl)) dIx_startSearch_4 ⟨(show 0 + 0 ≤ 0 by omega), (show 0 + 0 ≤ 0 by omega)⟩) hZ hA (fun X_1 H_2 lc_3 hp hZ => ?_)
  obtain ⟨hF, hN_4⟩ := hp
  have hFr := hwF.tr hFr hF (fun _ h => h) (fun M h => by first | exact False.elim h | ((try dsimp only at h ⊢); omega))
  have f0_ := hF _ _ _ (by intro hNS; first | exact False.elim hNS | ((try dsimp only at hNS); omega)) f0_
  have f2_ := tmAt.fr hF (by intro hNS; first | exact False.elim hNS | ((try dsimp only at hNS); omega)) (by intro hNS; first | exact False.elim hNS | ((try dsimp only at hNS); omega)) f2_
  have f3_ := txAt.fr hF (by intro hNS; first | exact False.elim hNS | ((try dsimp only at hNS); omega)) (by intro hNS; first | exact False.elim hNS | ((try dsimp only at hNS); omega)) f3_
  have ff_5 := hN_4
  refine lv_aload_n hx hb dIx_startSearch_7 rfl (lv_at hl 0 rfl) ?_
  refine hw_get hx hb hts (hwInn inIx) hown hK hZ f0_ rfl 8 (by decide) (hts (.fieldLink RIx 45 RIx "asked" "LWordIndex2$Terms;") (hwMem mm_257)) (fun _ h => h) rfl dIx_startSearch_8 ?_
  refine hw_callv (va_runV (As := []) (rest := []) ⟨hx, hb, hml, hown, hts⟩ (c_Tm_clear l D K X_1 H_2.size (a := b5) (k := 7) (N := 50) (ts := ta) f2_) (cwV 0 hts (hwGood (hw_4 mm_259 mm_260 mm_261 mm_89 (hwAll mm_258))) rfl rfl rfl (by decide +kernel) ⟨Nat.le_of_ble_eq_true rfl, Nat.le_of_ble_eq_true rfl⟩) (hw_preV hK hO hZ (tmAt.ob f2_) rfl) rfl rfl hl.1 rfl (lv_room (Nat.le_of_ble_eq_true rfl)) dIx_startSearch_11 ⟨(show 0 + 0 ≤ 0 by omega), (show 0 + 0 ≤ 0 by omega)⟩) hZ hA (fun X_6 H_7 lc_8 hp hZ => ?_)
  obtain ⟨hF, hN_9⟩ := hp
  have hFr := hwF.tr hFr hF (fun _ h => h) (fun M h => by first | exact False.elim h | ((try dsimp only at h ⊢); omega))
  have f0_ := hF _ _ _ (by intro hNS; first | exact False.elim hNS | ((try dsimp only at hNS); omega)) f0_
  have f3_ := txAt.fr hF (by intro hNS; first | exact False.elim hNS | ((try dsimp only at hNS); omega)) (by intro hNS; first | exact False.elim hNS | ((try dsimp only at hNS); omega)) f3_
  have ff_5 := hiAt.fr hF (by intro hNS; first | exact False.elim hNS | ((try dsimp only at hNS); omega)) (by intro hNS; first | exact False.elim hNS | ((try dsimp only at hNS); omega)) (by intro hNS; first | exact False.elim hNS | ((try dsimp only at hNS); omega)) (by intro hNS; first | exact False.elim hNS | ((try dsimp only at hNS); omega)) ff_5
  have ff_10 := hN_9
  refine lv_iload_n hx hb dIx_startSearch_14 rfl (lv_at hl 1 rfl) ?_
  refine hw_calli (va_runS (As := [.int kind]) (rest := []) ⟨hx, hb, hml, hown, hts⟩ (c_Ix_isKindB l D K X_6 H_7.size (kind := kind) (by assumption)) (va_cwS 1 hts (hwGood (hw_3 mm_211 mm_210 mm_193 (hwAll mm_209))) rfl rfl rfl (by decide +kernel) ⟨Nat.le_of_ble_eq_true rfl, Nat.le_of_ble_eq_true rfl⟩) (hw_preS hK hO hZ) rfl rfl hl.1 rfl (lv_room (Nat.le_of_ble_eq_true rfl)) dIx_startSearch_15 ⟨(show 0 + 0 ≤ 0 by omega), (show 0 + 0 ≤ 0 by omega)⟩) hZ hA (fun r X_11 H_12 lc_13 hp hZ => ?_)
  obtain ⟨hr, hy⟩ := hp
  subst hy
  refine hw_topi hr ?_
  refine hw_bz_eqT (tgt := 42) hx hb dIx_startSearch_18 (by decide) rfl ?_
  refine lv_aload_n hx hb dIx_startSearch_42 rfl (lv_at hl 0 rfl) ?_
  refine hw_callv (va_runV (As := []) (rest := []) ⟨hx, hb, hml, hown, hts⟩ (c_Ix_clearQ l D K X_6 H_12.size (a := a) (b0 := b0) (b1 := b1) (b2 := b2) (b3 := b3) (b4 := b4) (b5 := b5) (b6 := b6) (b7 := b7) (b8 := b8) (ni := ni) (fs := fs) (qs := qs) (qw := qw) (qo := qo) f0_ f3_) (cwV 0 hts (hwGood (hw_4 mm_263 mm_264 mm_265 mm_193 (hwAll mm_262))) rfl rfl rfl (by decide +kernel) ⟨Nat.le_of_ble_eq_true rfl, Nat.le_of_ble_eq_true rfl⟩) (hw_preV hK hO hZ (⟨_, _, f0_⟩) rfl) rfl rfl hl.1 rfl (lv_room (Nat.le_of_ble_eq_true rfl)) dIx_startSearch_43 ⟨(show 0 + 0 ≤ 0 by omega), (show 0 + 0 ≤ 0 by omega)⟩) hZ hA (fun X_15 H_16 lc_17 hp hZ => ?_)
  obtain ⟨hF, hN_18, hN_19⟩ := hp
  have hFr := hwF.tr hFr hF (fun _ h => h) (fun M h => by first | exact False.elim h | ((try dsimp only at h ⊢); omega))
  have ff_5 := hiAt.fr hF (by intro hNS; first | exact False.elim hNS | ((try dsimp only at hNS); omega)) (by intro hNS; first | exact False.elim hNS | ((try dsimp only at hNS); omega)) (by intro hNS; first | exact False.elim hNS | ((try dsimp only at hNS); omega)) (by intro hNS; first | exact False.elim hNS | ((try dsimp only at hNS); omega)) ff_5
  have ff_10 := tmAt.fr hF (by intro hNS; first | exact False.elim hNS | ((try dsimp only at hNS); omega)) (by intro hNS; first | exact False.elim hNS | ((try dsimp only at hNS); omega)) ff_10
  have ff_20 := hN_18
  have ff_21 := hN_19
  exact hret hZ ⟨hFr, ff_20, ff_5, ff_10, ff_21⟩ dIx_startSearch_46
set_option maxHeartbeats 4000000 in
set_option maxRecDepth 100000 in
theorem c_Ix_listF (l : Launch) (D : va_G) (K : Nat → ClassId) (X : hwW) (sz : Nat) (a : Nat) (b0 : Nat) (b1 : Nat) (b2 : Nat) (b3 : Nat) (b4 : Nat) (b5 : Nat) (b6 : Nat) (b7 : Nat) (b8 : Nat) (ni : Nat) (fs : Nat) (qs : Nat) (tf : List (List Nat)) (tl : List (List Nat)) (f0_ : hwH X a 0 (.inr (5, [.ref b0, .int (nI ni), .int (nI fs), .ref b1, .ref b2, .int (nI qs), .ref b3, .ref b4, .ref b5, .ref b6, .ref b7, .ref b8]))) (f1_ : tmAt K X b6 8 750 tf) (f2_ : seAt K X b7 9 750 tl) (htl : tl.Pairwise (· < ·)) : Met l yIx_listFieldTerms (.code yIx_listFieldTerms cIx_listFieldTerms 2 none :: hwG) ({ frames := 3, cells := 0, slots := 0, locals := 70 } : Room) (hwPc D vwCl (hwT K) [.ref a] X sz) (hwQv D vwCl X sz (fun Y => hwF X Y (fun M => M = 18 ∨ M = 19) ∧ seAt K Y b7 9 750 (adAll tl tf))) 0 0 (va_A X.1 sz) := by
  refine hwMetv (cc := cIx_listFieldTerms) (maxL := 2) (by decide) rfl (Nat.le_of_ble_eq_true rfl) (fun p e s m args below meth c ls A Q hx hb hml hown hts hname hret hK hO hZ hA hl => ?_)
  have hl : lv_has ls 2 [(0, .ref a)] := hl
  have hFr : hwF X X (fun M => M = 18 ∨ M = 19) := hwF.rf
  have hB2 := fun j => okWs.at (tmAt.oks f1_) j
  have hBN := tmAt.len f1_
  refine lv_iconst (v := nI 0) hx hb dIx_listFieldTerms_0 (by decide) ?_
  refine lv_istore_n (lv' := [(1, .int (nI 0)), (0, .ref a)]) hx hb dIx_listFieldTerms_1 rfl hl (by decide) rfl (fun ls hl => ?_)
  have loop2 : ∀ (fuel : Nat) (i : Nat) (tz : List (List Nat)) (XL2 : hwW) (Hh : Heap) (lcs : List Loc) (ls : Array Slot), tf.length - i < fuel → (i ≤ tf.length) → (tz = adAll tl (tf.take i)) → (hwF X XL2 (fun M => M = 18 ∨ M = 19)) → (hwH XL2 a 0 (.inr (5, [.ref b0, .int (nI ni), .int (nI fs), .ref b1, .ref b2, .int (nI qs), .ref b3, .ref b4, .ref b5, .ref b6, .ref b7, .ref b8]))) → (tmAt K XL2 b6 8 750 tf) → (seAt K XL2 b7 9 750 tz) → hwZ D vwCl A s.heap XL2 Hh lcs → lv_has ls 2 [(1, .int (nI i)), (0, .ref a)] → W p l e ({ frames := 3, cells := 0, slots := 0, locals := 70 } : Room) s m args below meth c Hh lcs 0 0 Q (F0 m 2 ls []) := by
    intro fuel; induction fuel with
    | zero => intro i tz XL2 Hh lcs ls hfu; exact absurd hfu (Nat.not_lt_zero _)
    | succ fuel ih2 =>
      intro i tz XL2 Hh lcs ls hfu2 hi htz hFr gx gf gl hZ hl
      have hso : tz.Pairwise (· < ·) := htz ▸ sorted_adAll htl
      refine lv_iload_n hx hb dIx_listFieldTerms_2 rfl (lv_at hl 0 rfl) ?_
      refine lv_aload_n hx hb dIx_listFieldTerms_3 rfl (lv_at hl 1 rfl) ?_
      refine hw_get hx hb hts (hwInn inIx) hown hK hZ gx rfl 9 (by decide) (hts (.fieldLink RIx 49 RIx "fieldTerms" "LWordIndex2$Terms;") (hwMem mm_212)) (fun _ h => h) rfl dIx_listFieldTerms_4 ?_
      refine hw_calli (va_runV (As := []) (rest := [.int (nI i)]) ⟨hx, hb, hml, hown, hts⟩ (c_Tm_size l D K XL2 Hh.size (a := b6) (k := 8) (N := 750) (ts := tf) gf) (cwV 0 hts (hwGood (hw_4 mm_236 mm_131 mm_132 mm_89 (hwAll mm_129))) rfl rfl rfl (by decide +kernel) ⟨Nat.le_of_ble_eq_true rfl, Nat.le_of_ble_eq_true rfl⟩) (hw_preV hK hO hZ (tmAt.ob gf) rfl) rfl rfl hl.1 rfl (lv_room (Nat.le_of_ble_eq_true rfl)) dIx_listFieldTerms_7 ⟨(show 0 + 0 ≤ 0 by omega), (show 0 + 0 ≤ 0 by omega)⟩) hZ hA (fun r X_1 H_2 lc_3 hp hZ => ?_)
      obtain ⟨hr, hy⟩ := hp
      subst hy
      refine hw_topi hr ?_
      refine hw_ic_ge (a := i) (b := tf.length) (tgt := 47) hx hb dIx_listFieldTerms_10 (by decide) (by omega) (by omega) (fun cq_4 => ?_) (fun cq_4 => ?_)
      · exact hret hZ ⟨hFr, by rw [List.take_of_length_le (by omega)] at htz; rw [← htz]; exact gl⟩ dIx_listFieldTerms_47
      · refine lv_aload_n hx hb dIx_listFieldTerms_13 rfl (lv_at hl 1 rfl) ?_
        refine hw_get hx hb hts (hwInn inIx) hown hK hZ gx rfl 9 (by decide) (hts (.fieldLink RIx 49 RIx "fieldTerms" "LWordIndex2$Terms;") (hwMem mm_212)) (fun _ h => h) rfl dIx_listFieldTerms_14 ?_
        refine lv_iload_n hx hb dIx_listFieldTerms_17 rfl (lv_at hl 0 rfl) ?_
        refine hw_calll (va_runV (As := [.int (nI i)]) (rest := []) ⟨hx, hb, hml, hown, hts⟩ (c_Tm_at l D K XL2 H_2.size (a := b6) (k := 8) (N := 750) (ts := tf) (j := i) gf (by omega)) (cwV 1 hts (hwGood (hw_4 mm_266 mm_87 mm_88 mm_89 (hwAll mm_85))) rfl rfl rfl (by decide +kernel) ⟨Nat.le_of_ble_eq_true rfl, Nat.le_of_ble_eq_true rfl⟩) (hw_preV hK hO hZ (tmAt.ob gf) rfl) rfl rfl hl.1 rfl (lv_room (Nat.le_of_ble_eq_true rfl)) dIx_listFieldTerms_18 ⟨(show 0 + 0 ≤ 0 by omega), (show 0 + 0 ≤ 0 by omega)⟩) hZ hA (fun r X_5 H_6 lc_7 hp hZ => ?_)
        obtain ⟨hr, hy⟩ := hp
        subst hy
        refine hw_topl hr ?_
        refine lv_lconst (v := lN 0) hx hb dIx_listFieldTerms_21 rfl ?_
        refine hw_lc_eq (a := eW (tf.getD i [])) (b := 0) (tgt := 41) hx hb dIx_listFieldTerms_22 dIx_listFieldTerms_23 (by decide) (by first | exact eW_lt63 (hB2 _) | decide) (by first | exact eW_lt63 (hB2 _) | decide) (fun cq_8 => ?_) (fun cq_8 => ?_)
        · refine lv_iinc (v := nI (i + 1)) (lv' := [(1, .int (nI (i + 1))), (0, .ref a)]) hx hb dIx_listFieldTerms_41 hl (k := 0) rfl (nI_add _ 1) (by decide) rfl (fun ls hl => ?_)
          refine lv_goto (tgt := 2) hx hb dIx_listFieldTerms_44 (by decide) ?_
          exact ih2 (i + 1) tz _ _ _ _ (by omega) (by omega) (by rw [adAll_take (by omega), ← htz, adW_nil ((eW_zero (hB2 _)).mp cq_8)]) hFr gx gf gl hZ (lv_sub hl [0, 1] rfl)
        · refine lv_aload_n hx hb dIx_listFieldTerms_26 rfl (lv_at hl 1 rfl) ?_
          refine hw_get hx hb hts (hwInn inIx) hown hK hZ gx rfl 10 (by decide) (hts (.fieldLink RIx 52 RIx "listed" "LWordIndex2$WordSet;") (hwMem mm_267)) (fun _ h => h) rfl dIx_listFieldTerms_27 ?_
          refine lv_aload_n hx hb dIx_listFieldTerms_30 rfl (lv_at hl 1 rfl) ?_
          refine hw_get hx hb hts (hwInn inIx) hown hK hZ gx rfl 9 (by decide) (hts (.fieldLink RIx 49 RIx "fieldTerms" "LWordIndex2$Terms;") (hwMem mm_212)) (fun _ h => h) rfl dIx_listFieldTerms_31 ?_
          refine lv_iload_n hx hb dIx_listFieldTerms_34 rfl (lv_at hl 0 rfl) ?_
          refine hw_calll (va_runV (As := [.int (nI i)]) (rest := [.ref b7]) ⟨hx, hb, hml, hown, hts⟩ (c_Tm_at l D K XL2 H_6.size (a := b6) (k := 8) (N := 750) (ts := tf) (j := i) gf (by omega)) (cwV 1 hts (hwGood (hw_4 mm_266 mm_87 mm_88 mm_89 (hwAll mm_85))) rfl rfl rfl (by decide +kernel) ⟨Nat.le_of_ble_eq_true rfl, Nat.le_of_ble_eq_true rfl⟩) (hw_preV hK hO hZ (tmAt.ob gf) rfl) rfl rfl hl.1 rfl (lv_room (Nat.le_of_ble_eq_true rfl)) dIx_listFieldTerms_35 ⟨(show 0 + 0 ≤ 0 by omega), (show 0 + 0 ≤ 0 by omega)⟩) hZ hA (fun r X_9 H_10 lc_11 hp hZ => ?_)
          obtain ⟨hr, hy⟩ := hp
          subst hy
          refine hw_topl hr ?_
          refine hw_callv (va_runV (As := [.long (lN (eW (tf.getD i [])))]) (rest := []) ⟨hx, hb, hml, hown, hts⟩ (c_Se_add l D K XL2 H_10.size (a := b7) (k := 9) (N := 750) (ts := tz) (w := (tf.getD i [])) gl hso (hB2 i) (ne_len (fun h => cq_8 ((eW_zero (hB2 i)).mpr h)))) (cwV 1 hts (hwGood (hw_4 mm_269 mm_270 mm_271 mm_63 (hwAll mm_268))) rfl rfl rfl (by decide +kernel) ⟨Nat.le_of_ble_eq_true rfl, Nat.le_of_ble_eq_true rfl⟩) (hw_preV hK hO hZ (seAt.ob gl) rfl) rfl rfl hl.1 rfl (lv_room (Nat.le_of_ble_eq_true rfl)) dIx_listFieldTerms_38 ⟨(show 0 + 0 ≤ 0 by omega), (show 0 + 0 ≤ 0 by omega)⟩) hZ hA (fun X_12 H_13 lc_14 hp hZ => ?_)
          obtain ⟨hF, hN_15⟩ := hp
          have hFr := hwF.tr hFr hF (fun _ h => h) (fun M h => by first | exact False.elim h | ((try dsimp only at h ⊢); omega))
          have gx := hF _ _ _ (by intro hNS; first | exact False.elim hNS | ((try dsimp only at hNS); omega)) gx
          have gf := tmAt.fr hF (by intro hNS; first | exact False.elim hNS | ((try dsimp only at hNS); omega)) (by intro hNS; first | exact False.elim hNS | ((try dsimp only at hNS); omega)) gf
          have ff_16 := hN_15
          refine lv_iinc (v := nI (i + 1)) (lv' := [(1, .int (nI (i + 1))), (0, .ref a)]) hx hb dIx_listFieldTerms_41 hl (k := 0) rfl (nI_add _ 1) (by decide) rfl (fun ls hl => ?_)
          refine lv_goto (tgt := 2) hx hb dIx_listFieldTerms_44 (by decide) ?_
          exact ih2 (i + 1) (insS 750 tz (tf.getD i [])) _ _ _ _ (by omega) (by omega) (by rw [adAll_take (by omega), ← htz, adW_ne (fun h => cq_8 ((eW_zero (hB2 _)).mpr h))]) hFr gx gf ff_16 hZ (lv_sub hl [0, 1] rfl)
  exact loop2 (tf.length - 0 + 1) 0 tl _ _ _ _ (by omega) (by omega) (by rw [List.take_zero]; rfl) hFr f0_ f1_ f2_ hZ (lv_sub hl [0, 1] rfl)
set_option maxHeartbeats 4000000 in
set_option maxRecDepth 100000 in
theorem c_Ix_list (l : Launch) (D : va_G) (K : Nat → ClassId) (X : hwW) (sz : Nat) (a : Nat) (b0 : Nat) (b1 : Nat) (b2 : Nat) (b3 : Nat) (b4 : Nat) (b5 : Nat) (b6 : Nat) (b7 : Nat) (b8 : Nat) (ni : Nat) (fs : Nat) (qs : Nat) (fi : Nat → Option Nat) (fl : Nat → Int32) (its : hwIt) (lg : Nat → Nat) (tf : List (List Nat)) (ss : List (List Nat)) (tl : List (List Nat)) (j : Nat) (f0_ : hwH X a 0 (.inr (5, [.ref b0, .int (nI ni), .int (nI fs), .ref b1, .ref b2, .int (nI qs), .ref b3, .ref b4, .ref b5, .ref b6, .ref b7, .ref b8]))) (f1_ : hwH X b0 1 (.inl (K 4, 30, .inr (.inr (.inr (.inr fi)))))) (f2_ : itsAt K X fi its) (f3_ : hwH X b1 2 (.inl (K 0, 4, .inl fl))) (f4_ : tmAt K X b6 8 750 tf) (f5_ : seAt K X b3 6 40 ss) (f6_ : seAt K X b7 9 750 tl) (hni : ni = its.length) (hni3 : its.length ≤ 30) (hj : j < 4) (hfl : ∀ j, j < 4 → fl j = nI (lg j)) (hlg : ∀ j, lg j < 3) (hok : okIt its) (hs : ss.Pairwise (· < ·)) : Met l yIx_listTerms (.code yIx_listTerms cIx_listTerms 3 none :: hwG) ({ frames := 6, cells := 0, slots := 0, locals := 138 } : Room) (hwPc D vwCl (hwT K) [.ref a, .int (nI j)] X sz) (hwQv D vwCl X sz (fun Y => ∃ tz : List (List Nat), hwF X Y (fun M => M = 16 ∨ M = 17 ∨ M = 18 ∨ M = 19) ∧ tmAt K Y b6 8 750 tz ∧ seAt K Y b7 9 750 (liN (Tf its lg ss j) ni))) 0 0 (va_A X.1 sz) := by
  refine hwMetv (cc := cIx_listTerms) (maxL := 3) (by decide) rfl (Nat.le_of_ble_eq_true rfl) (fun p e s m args below meth c ls A Q hx hb hml hown hts hname hret hK hO hZ hA hl => ?_)
  have hl : lv_has ls 3 [(0, .ref a), (1, .int (nI j))] := hl
  have hFr : hwF X X (fun M => M = 16 ∨ M = 17 ∨ M = 18 ∨ M = 19) := hwF.rf
  refine lv_aload_n hx hb dIx_listTerms_0 rfl (lv_at hl 0 rfl) ?_
  refine hw_get hx hb hts (hwInn inIx) hown hK hZ f0_ rfl 10 (by decide) (hts (.fieldLink RIx 52 RIx "listed" "LWordIndex2$WordSet;") (hwMem mm_267)) (fun _ h => h) rfl dIx_listTerms_1 ?_
  refine hw_callv (va_runV (As := []) (rest := []) ⟨hx, hb, hml, hown, hts⟩ (c_Se_clear l D K X s.heap.size (a := b7) (k := 9) (N := 750) (ts := tl) f6_) (cwV 0 hts (hwGood (hw_4 mm_273 mm_274 mm_275 mm_63 (hwAll mm_272))) rfl rfl rfl (by decide +kernel) ⟨Nat.le_of_ble_eq_true rfl, Nat.le_of_ble_eq_true rfl⟩) (hw_preV hK hO hZ (seAt.ob f6_) rfl) rfl rfl hl.1 rfl (lv_room (Nat.le_of_ble_eq_true rfl)) dIx_listTerms_4 ⟨(show 0 + 0 ≤ 0 by omega), (show 0 + 0 ≤ 0 by omega)⟩) hZ hA (fun X_1 H_2 lc_3 hp hZ => ?_)
  obtain ⟨hF, hN_4⟩ := hp
  have hFr := hwF.tr hFr hF (fun _ h => h) (fun M h => by first | exact False.elim h | ((try dsimp only at h ⊢); omega))
  have f0_ := hF _ _ _ (by intro hNS; first | exact False.elim hNS | ((try dsimp only at hNS); omega)) f0_
  have f1_ := hF _ _ _ (by intro hNS; first | exact False.elim hNS | ((try dsimp only at hNS); omega)) f1_
  have f2_ := itsAt.fr hF (fun M h1 h2 hNS => by first | exact False.elim hNS | ((try dsimp only at hNS); omega)) f2_
  have f3_ := hF _ _ _ (by intro hNS; first | exact False.elim hNS | ((try dsimp only at hNS); omega)) f3_
  have f4_ := tmAt.fr hF (by intro hNS; first | exact False.elim hNS | ((try dsimp only at hNS); omega)) (by intro hNS; first | exact False.elim hNS | ((try dsimp only at hNS); omega)) f4_
  have f5_ := seAt.fr hF (by intro hNS; first | exact False.elim hNS | ((try dsimp only at hNS); omega)) (by intro hNS; first | exact False.elim hNS | ((try dsimp only at hNS); omega)) f5_
  have ff_5 := hN_4
  refine lv_iconst (v := nI 1) hx hb dIx_listTerms_7 (by decide) ?_
  refine lv_istore_n (lv' := [(2, .int (nI 1)), (0, .ref a), (1, .int (nI j))]) hx hb dIx_listTerms_8 rfl hl (by decide) rfl (fun ls hl => ?_)
  have loop9 : ∀ (fuel : Nat) (n : Nat) (lz : List (List Nat)) (tz : List (List Nat)) (XL9 : hwW) (Hh : Heap) (lcs : List Loc) (ls : Array Slot), ni + 1 - n < fuel → (1 ≤ n) → (n ≤ ni + 1) → (lz = liN (Tf its lg ss j) (n - 1)) → (hwF X XL9 (fun M => M = 16 ∨ M = 17 ∨ M = 18 ∨ M = 19)) → (hwH XL9 a 0 (.inr (5, [.ref b0, .int (nI ni), .int (nI fs), .ref b1, .ref b2, .int (nI qs), .ref b3, .ref b4, .ref b5, .ref b6, .ref b7, .ref b8]))) → (hwH XL9 b0 1 (.inl (K 4, 30, .inr (.inr (.inr (.inr fi)))))) → (itsAt K XL9 fi its) → (hwH XL9 b1 2 (.inl (K 0, 4, .inl fl))) → (tmAt K XL9 b6 8 750 tz) → (seAt K XL9 b3 6 40 ss) → (seAt K XL9 b7 9 750 lz) → hwZ D vwCl A s.heap XL9 Hh lcs → lv_has ls 3 [(2, .int (nI n)), (0, .ref a), (1, .int (nI j))] → W p l e ({ frames := 6, cells := 0, slots := 0, locals := 138 } : Room) s m args below meth c Hh lcs 0 0 Q (F0 m 9 ls []) := by
    intro fuel; induction fuel with
    | zero => intro n lz tz XL9 Hh lcs ls hfu; exact absurd hfu (Nat.not_lt_zero _)
    | succ fuel ih9 =>
      intro n lz tz XL9 Hh lcs ls hfu9 hn1 hn2 hlz hFr gx gi gt gl gf gs gk hZ hl
      refine lv_iload_n hx hb dIx_listTerms_9 rfl (lv_at hl 0 rfl) ?_
      refine lv_aload_n hx hb dIx_listTerms_10 rfl (lv_at hl 1 rfl) ?_
      refine hw_get hx hb hts (hwInn inIx) hown hK hZ gx rfl 1 (by decide) (hts (.fieldLink RIx 58 RIx "itemCount" "I") (hwMem mm_187)) (fun _ h => h) rfl dIx_listTerms_11 ?_
      refine hw_ic_gt (a := n) (b := ni) (tgt := 36) hx hb dIx_listTerms_14 (by decide) (by omega) (by omega) (fun cq_6 => ?_) (fun cq_6 => ?_)
      · exact hret hZ ⟨tz, hFr, gf, by rw [show ni = n - 1 by omega, ← hlz]; exact gk⟩ dIx_listTerms_36
      · cases hth : (its.getD (n - 1) hwIt0).1
        · have hpi := itsAt.pi gt (i := n - 1) (by omega)
          rw [hth] at hpi
          refine lv_aload_n hx hb dIx_listTerms_17 rfl (lv_at hl 1 rfl) ?_
          refine lv_iload_n hx hb dIx_listTerms_18 rfl (lv_at hl 0 rfl) ?_
          refine lv_iload_n hx hb dIx_listTerms_19 rfl (lv_at hl 2 rfl) ?_
          refine hw_calli (va_runV (As := [.int (nI n), .int (nI j)]) (rest := []) ⟨hx, hb, hml, hown, hts⟩ (c_Ix_readF l D K XL9 Hh.size (a := a) (b0 := b0) (b1 := b1) (b2 := b2) (b3 := b3) (b4 := b4) (b5 := b5) (b6 := b6) (b7 := b7) (b8 := b8) (ni := ni) (fs := fs) (qs := qs) (fi := fi) (n := n) (kind := nI j) gx gi (by omega) (by omega) (by omega) (by assumption)) (cwV 2 hts (hwGood (hw_4 mm_225 mm_226 mm_227 mm_193 (hwAll mm_224))) rfl rfl rfl (by decide +kernel) ⟨Nat.le_of_ble_eq_true rfl, Nat.le_of_ble_eq_true rfl⟩) (hw_preV hK hO hZ (⟨_, _, gx⟩) rfl) rfl rfl hl.1 rfl (lv_room (Nat.le_of_ble_eq_true rfl)) dIx_listTerms_20 ⟨(show 0 + 0 ≤ 0 by omega), (show 0 + 0 ≤ 0 by omega)⟩) hZ hA (fun r X_7 H_8 lc_9 hp hZ => ?_)
          obtain ⟨hr, hy⟩ := hp
          subst hy
          refine hw_topi hr ?_
          refine hw_bz_eqT (tgt := 30) hx hb dIx_listTerms_23 (by decide) rfl ?_
          refine lv_iinc (v := nI (n + 1)) (lv' := [(2, .int (nI (n + 1))), (0, .ref a), (1, .int (nI j))]) hx hb dIx_listTerms_30 hl (k := 0) rfl (nI_add _ 1) (by decide) rfl (fun ls hl => ?_)
          refine lv_goto (tgt := 9) hx hb dIx_listTerms_33 (by decide) ?_
          exact ih9 (n + 1) lz tz _ _ _ _ (by omega) (by omega) (by omega) (liN_none (by omega) hlz (Tf_f hth)) hFr gx gi gt gl gf gs gk hZ (lv_sub hl [0, 1, 2] rfl)
        · obtain ⟨t, hpt, htx⟩ := itsAt.pt gt (i := n - 1) (j := j) (by omega) (by omega)
          rw [hth] at hpt
          have hlen : (((its.getD (n - 1) hwIt0).2 j).1.map (trm (lg j) ss)).length ≤ 600 := by rw [List.length_map]; exact (hok (n - 1) j).2
          refine lv_aload_n hx hb dIx_listTerms_17 rfl (lv_at hl 1 rfl) ?_
          refine lv_iload_n hx hb dIx_listTerms_18 rfl (lv_at hl 0 rfl) ?_
          refine lv_iload_n hx hb dIx_listTerms_19 rfl (lv_at hl 2 rfl) ?_
          refine hw_calli (va_runV (As := [.int (nI n), .int (nI j)]) (rest := []) ⟨hx, hb, hml, hown, hts⟩ (c_Ix_read l D K XL9 Hh.size (a := a) (b0 := b0) (b1 := b1) (b2 := b2) (b3 := b3) (b4 := b4) (b5 := b5) (b6 := b6) (b7 := b7) (b8 := b8) (ni := ni) (fs := fs) (qs := qs) (fi := fi) (fl := fl) (tf := tz) (t := t) (kt := 55 + 10 * (n - 1) + j) (ws := ((its.getD (n - 1) hwIt0).2 j).1) (o := ((its.getD (n - 1) hwIt0).2 j).2) (ss := ss) (n := n) (j := j) (g := (lg j)) gx gi gl gf htx gs (by omega) (by omega) (by omega) (by omega) (by assumption) (by omega) (hfl j hj) (hlg j) (Nat.le_trans (hok (n - 1) j).2 (by decide)) (hok (n - 1) j).1 (by assumption)) (cwV 2 hts (hwGood (hw_4 mm_225 mm_226 mm_227 mm_193 (hwAll mm_224))) rfl rfl rfl (by decide +kernel) ⟨Nat.le_of_ble_eq_true rfl, Nat.le_of_ble_eq_true rfl⟩) (hw_preV hK hO hZ (⟨_, _, gx⟩) rfl) rfl rfl hl.1 rfl (lv_room (Nat.le_of_ble_eq_true rfl)) dIx_listTerms_20 ⟨(show 0 + 0 ≤ 0 by omega), (show 0 + 0 ≤ 0 by omega)⟩) hZ hA (fun r X_11 H_12 lc_13 hp hZ => ?_)
          obtain ⟨hr, hF, hN_14⟩ := hp
          have hFr := hwF.tr hFr hF (fun _ h => h) (fun M h => by first | exact False.elim h | ((try dsimp only at h ⊢); omega))
          have gx := hF _ _ _ (by intro hNS; first | exact False.elim hNS | ((try dsimp only at hNS); omega)) gx
          have gi := hF _ _ _ (by intro hNS; first | exact False.elim hNS | ((try dsimp only at hNS); omega)) gi
          have gt := itsAt.fr hF (fun M h1 h2 hNS => by first | exact False.elim hNS | ((try dsimp only at hNS); omega)) gt
          have gl := hF _ _ _ (by intro hNS; first | exact False.elim hNS | ((try dsimp only at hNS); omega)) gl
          have gs := seAt.fr hF (by intro hNS; first | exact False.elim hNS | ((try dsimp only at hNS); omega)) (by intro hNS; first | exact False.elim hNS | ((try dsimp only at hNS); omega)) gs
          have gk := seAt.fr hF (by intro hNS; first | exact False.elim hNS | ((try dsimp only at hNS); omega)) (by intro hNS; first | exact False.elim hNS | ((try dsimp only at hNS); omega)) gk
          have htx := txAt.fr hF (by intro hNS; first | exact False.elim hNS | ((try dsimp only at hNS); omega)) (by intro hNS; first | exact False.elim hNS | ((try dsimp only at hNS); omega)) htx
          have ff_15 := hN_14
          refine hw_topi hr ?_
          refine hw_bz_eqF (tgt := 30) hx hb dIx_listTerms_23 (by decide) rfl ?_
          refine lv_aload_n hx hb dIx_listTerms_26 rfl (lv_at hl 1 rfl) ?_
          refine hw_callv (va_runV (As := []) (rest := []) ⟨hx, hb, hml, hown, hts⟩ (c_Ix_listF l D K X_11 H_12.size (a := a) (b0 := b0) (b1 := b1) (b2 := b2) (b3 := b3) (b4 := b4) (b5 := b5) (b6 := b6) (b7 := b7) (b8 := b8) (ni := ni) (fs := fs) (qs := qs) (tf := (((its.getD (n - 1) hwIt0).2 j).1).map (trm (lg j) ss)) (tl := lz) gx ff_15 gk (hlz ▸ sorted_liN _)) (cwV 0 hts (hwGood (hw_4 mm_277 mm_278 mm_279 mm_193 (hwAll mm_276))) rfl rfl rfl (by decide +kernel) ⟨Nat.le_of_ble_eq_true rfl, Nat.le_of_ble_eq_true rfl⟩) (hw_preV hK hO hZ (⟨_, _, gx⟩) rfl) rfl rfl hl.1 rfl (lv_room (Nat.le_of_ble_eq_true rfl)) dIx_listTerms_27 ⟨(show 0 + 0 ≤ 0 by omega), (show 0 + 0 ≤ 0 by omega)⟩) hZ hA (fun X_17 H_18 lc_19 hp hZ => ?_)
          obtain ⟨hF, hN_20⟩ := hp
          have hFr := hwF.tr hFr hF (fun _ h => h) (fun M h => by first | exact False.elim h | ((try dsimp only at h ⊢); omega))
          have gx := hF _ _ _ (by intro hNS; first | exact False.elim hNS | ((try dsimp only at hNS); omega)) gx
          have gi := hF _ _ _ (by intro hNS; first | exact False.elim hNS | ((try dsimp only at hNS); omega)) gi
          have gt := itsAt.fr hF (fun M h1 h2 hNS => by first | exact False.elim hNS | ((try dsimp only at hNS); omega)) gt
          have gl := hF _ _ _ (by intro hNS; first | exact False.elim hNS | ((try dsimp only at hNS); omega)) gl
          have gs := seAt.fr hF (by intro hNS; first | exact False.elim hNS | ((try dsimp only at hNS); omega)) (by intro hNS; first | exact False.elim hNS | ((try dsimp only at hNS); omega)) gs
          have htx := txAt.fr hF (by intro hNS; first | exact False.elim hNS | ((try dsimp only at hNS); omega)) (by intro hNS; first | exact False.elim hNS | ((try dsimp only at hNS); omega)) htx
          have ff_15 := tmAt.fr hF (by intro hNS; first | exact False.elim hNS | ((try dsimp only at hNS); omega)) (by intro hNS; first | exact False.elim hNS | ((try dsimp only at hNS); omega)) ff_15
          have ff_21 := hN_20
          refine lv_iinc (v := nI (n + 1)) (lv' := [(2, .int (nI (n + 1))), (0, .ref a), (1, .int (nI j))]) hx hb dIx_listTerms_30 hl (k := 0) rfl (nI_add _ 1) (by decide) rfl (fun ls hl => ?_)
          refine lv_goto (tgt := 9) hx hb dIx_listTerms_33 (by decide) ?_
          exact ih9 (n + 1) (adAll lz ((((its.getD (n - 1) hwIt0).2 j).1).map (trm (lg j) ss))) ((((its.getD (n - 1) hwIt0).2 j).1).map (trm (lg j) ss)) _ _ _ _ (by omega) (by omega) (by omega) (liN_some (by omega) hlz (Tf_t hth)) hFr gx gi gt gl ff_15 gs ff_21 hZ (lv_sub hl [0, 1, 2] rfl)
  exact loop9 (ni + 1 - 1 + 1) 1 ([]) tf _ _ _ _ (by omega) (by omega) (by omega) rfl hFr f0_ f1_ f2_ f3_ f4_ f5_ ff_5 hZ (lv_sub hl [0, 1, 2] rfl)
set_option maxHeartbeats 4000000 in
set_option maxRecDepth 100000 in
theorem c_Ix_listB (l : Launch) (D : va_G) (K : Nat → ClassId) (X : hwW) (sz : Nat) (a : Nat) (b0 : Nat) (b1 : Nat) (b2 : Nat) (b3 : Nat) (b4 : Nat) (b5 : Nat) (b6 : Nat) (b7 : Nat) (b8 : Nat) (ni : Nat) (fs : Nat) (qs : Nat) (fi : Nat → Option Nat) (its : hwIt) (tl : List (List Nat)) (kind : Int32) (f0_ : hwH X a 0 (.inr (5, [.ref b0, .int (nI ni), .int (nI fs), .ref b1, .ref b2, .int (nI qs), .ref b3, .ref b4, .ref b5, .ref b6, .ref b7, .ref b8]))) (f1_ : hwH X b0 1 (.inl (K 4, 30, .inr (.inr (.inr (.inr fi)))))) (f2_ : itsAt K X fi its) (f3_ : seAt K X b7 9 750 tl) (hni : ni = its.length) (hni3 : its.length ≤ 30) (hk : badK kind) : Met l yIx_listTerms (.code yIx_listTerms cIx_listTerms 3 none :: hwG) ({ frames := 6, cells := 0, slots := 0, locals := 138 } : Room) (hwPc D vwCl (hwT K) [.ref a, .int kind] X sz) (hwQv D vwCl X sz (fun Y => hwF X Y (fun M => M = 18 ∨ M = 19) ∧ seAt K Y b7 9 750 [])) 0 0 (va_A X.1 sz) := by
  refine hwMetv (cc := cIx_listTerms) (maxL := 3) (by decide) rfl (Nat.le_of_ble_eq_true rfl) (fun p e s m args below meth c ls A Q hx hb hml hown hts hname hret hK hO hZ hA hl => ?_)
  have hl : lv_has ls 3 [(0, .ref a), (1, .int kind)] := hl
  have hFr : hwF X X (fun M => M = 18 ∨ M = 19) := hwF.rf
  refine lv_aload_n hx hb dIx_listTerms_0 rfl (lv_at hl 0 rfl) ?_
  refine hw_get hx hb hts (hwInn inIx) hown hK hZ f0_ rfl 10 (by decide) (hts (.fieldLink RIx 52 RIx "listed" "LWordIndex2$WordSet;") (hwMem mm_267)) (fun _ h => h) rfl dIx_listTerms_1 ?_
  refine hw_callv (va_runV (As := []) (rest := []) ⟨hx, hb, hml, hown, hts⟩ (c_Se_clear l D K X s.heap.size (a := b7) (k := 9) (N := 750) (ts := tl) f3_) (cwV 0 hts (hwGood (hw_4 mm_273 mm_274 mm_275 mm_63 (hwAll mm_272))) rfl rfl rfl (by decide +kernel) ⟨Nat.le_of_ble_eq_true rfl, Nat.le_of_ble_eq_true rfl⟩) (hw_preV hK hO hZ (seAt.ob f3_) rfl) rfl rfl hl.1 rfl (lv_room (Nat.le_of_ble_eq_true rfl)) dIx_listTerms_4 ⟨(show 0 + 0 ≤ 0 by omega), (show 0 + 0 ≤ 0 by omega)⟩) hZ hA (fun X_1 H_2 lc_3 hp hZ => ?_)
  obtain ⟨hF, hN_4⟩ := hp
  have hFr := hwF.tr hFr hF (fun _ h => h) (fun M h => by first | exact False.elim h | ((try dsimp only at h ⊢); omega))
  have f0_ := hF _ _ _ (by intro hNS; first | exact False.elim hNS | ((try dsimp only at hNS); omega)) f0_
  have f1_ := hF _ _ _ (by intro hNS; first | exact False.elim hNS | ((try dsimp only at hNS); omega)) f1_
  have f2_ := itsAt.fr hF (fun M h1 h2 hNS => by first | exact False.elim hNS | ((try dsimp only at hNS); omega)) f2_
  have ff_5 := hN_4
  refine lv_iconst (v := nI 1) hx hb dIx_listTerms_7 (by decide) ?_
  refine lv_istore_n (lv' := [(2, .int (nI 1)), (0, .ref a), (1, .int kind)]) hx hb dIx_listTerms_8 rfl hl (by decide) rfl (fun ls hl => ?_)
  have loop9 : ∀ (fuel : Nat) (n : Nat) (Hh : Heap) (lcs : List Loc) (ls : Array Slot), ni + 1 - n < fuel → (1 ≤ n) → (n ≤ ni + 1) → hwZ D vwCl A s.heap X_1 Hh lcs → lv_has ls 3 [(2, .int (nI n)), (0, .ref a), (1, .int kind)] → W p l e ({ frames := 6, cells := 0, slots := 0, locals := 138 } : Room) s m args below meth c Hh lcs 0 0 Q (F0 m 9 ls []) := by
    intro fuel; induction fuel with
    | zero => intro n Hh lcs ls hfu; exact absurd hfu (Nat.not_lt_zero _)
    | succ fuel ih9 =>
      intro n Hh lcs ls hfu9 hn1 hn2 hZ hl
      refine lv_iload_n hx hb dIx_listTerms_9 rfl (lv_at hl 0 rfl) ?_
      refine lv_aload_n hx hb dIx_listTerms_10 rfl (lv_at hl 1 rfl) ?_
      refine hw_get hx hb hts (hwInn inIx) hown hK hZ f0_ rfl 1 (by decide) (hts (.fieldLink RIx 58 RIx "itemCount" "I") (hwMem mm_187)) (fun _ h => h) rfl dIx_listTerms_11 ?_
      refine hw_ic_gt (a := n) (b := ni) (tgt := 36) hx hb dIx_listTerms_14 (by decide) (by omega) (by omega) (fun cq_6 => ?_) (fun cq_6 => ?_)
      · exact hret hZ ⟨hFr, ff_5⟩ dIx_listTerms_36
      · cases hth : (its.getD (n - 1) hwIt0).1
        · have hpi := itsAt.pi f2_ (i := n - 1) (by omega)
          rw [hth] at hpi
          refine lv_aload_n hx hb dIx_listTerms_17 rfl (lv_at hl 1 rfl) ?_
          refine lv_iload_n hx hb dIx_listTerms_18 rfl (lv_at hl 0 rfl) ?_
          refine lv_iload_n hx hb dIx_listTerms_19 rfl (lv_at hl 2 rfl) ?_
          refine hw_calli (va_runV (As := [.int (nI n), .int kind]) (rest := []) ⟨hx, hb, hml, hown, hts⟩ (c_Ix_readF l D K X_1 Hh.size (a := a) (b0 := b0) (b1 := b1) (b2 := b2) (b3 := b3) (b4 := b4) (b5 := b5) (b6 := b6) (b7 := b7) (b8 := b8) (ni := ni) (fs := fs) (qs := qs) (fi := fi) (n := n) (kind := kind) f0_ f1_ (by omega) (by omega) (by omega) (by assumption)) (cwV 2 hts (hwGood (hw_4 mm_225 mm_226 mm_227 mm_193 (hwAll mm_224))) rfl rfl rfl (by decide +kernel) ⟨Nat.le_of_ble_eq_true rfl, Nat.le_of_ble_eq_true rfl⟩) (hw_preV hK hO hZ (⟨_, _, f0_⟩) rfl) rfl rfl hl.1 rfl (lv_room (Nat.le_of_ble_eq_true rfl)) dIx_listTerms_20 ⟨(show 0 + 0 ≤ 0 by omega), (show 0 + 0 ≤ 0 by omega)⟩) hZ hA (fun r X_7 H_8 lc_9 hp hZ => ?_)
          obtain ⟨hr, hy⟩ := hp
          subst hy
          refine hw_topi hr ?_
          refine hw_bz_eqT (tgt := 30) hx hb dIx_listTerms_23 (by decide) rfl ?_
          refine lv_iinc (v := nI (n + 1)) (lv' := [(2, .int (nI (n + 1))), (0, .ref a), (1, .int kind)]) hx hb dIx_listTerms_30 hl (k := 0) rfl (nI_add _ 1) (by decide) rfl (fun ls hl => ?_)
          refine lv_goto (tgt := 9) hx hb dIx_listTerms_33 (by decide) ?_
          exact ih9 (n + 1) _ _ _ (by omega) (by omega) (by omega)  hZ (lv_sub hl [0, 1, 2] rfl)
        · obtain ⟨t, hpt, htx⟩ := itsAt.pt f2_ (i := n - 1) (j := 0) (by omega) (by omega)
          rw [hth] at hpt
          refine lv_aload_n hx hb dIx_listTerms_17 rfl (lv_at hl 1 rfl) ?_
          refine lv_iload_n hx hb dIx_listTerms_18 rfl (lv_at hl 0 rfl) ?_
          refine lv_iload_n hx hb dIx_listTerms_19 rfl (lv_at hl 2 rfl) ?_
          refine hw_calli (va_runV (As := [.int (nI n), .int kind]) (rest := []) ⟨hx, hb, hml, hown, hts⟩ (c_Ix_readK l D K X_1 Hh.size (a := a) (b0 := b0) (b1 := b1) (b2 := b2) (b3 := b3) (b4 := b4) (b5 := b5) (b6 := b6) (b7 := b7) (b8 := b8) (ni := ni) (fs := fs) (qs := qs) (fi := fi) (n := n) (kind := kind) (t := t) f0_ f1_ (by omega) (by omega) (by omega) (by assumption) (by assumption)) (cwV 2 hts (hwGood (hw_4 mm_225 mm_226 mm_227 mm_193 (hwAll mm_224))) rfl rfl rfl (by decide +kernel) ⟨Nat.le_of_ble_eq_true rfl, Nat.le_of_ble_eq_true rfl⟩) (hw_preV hK hO hZ (⟨_, _, f0_⟩) rfl) rfl rfl hl.1 rfl (lv_room (Nat.le_of_ble_eq_true rfl)) dIx_listTerms_20 ⟨(show 0 + 0 ≤ 0 by omega), (show 0 + 0 ≤ 0 by omega)⟩) hZ hA (fun r X_11 H_12 lc_13 hp hZ => ?_)
          obtain ⟨hr, hy⟩ := hp
          subst hy
          refine hw_topi hr ?_
          refine hw_bz_eqT (tgt := 30) hx hb dIx_listTerms_23 (by decide) rfl ?_
          refine lv_iinc (v := nI (n + 1)) (lv' := [(2, .int (nI (n + 1))), (0, .ref a), (1, .int kind)]) hx hb dIx_listTerms_30 hl (k := 0) rfl (nI_add _ 1) (by decide) rfl (fun ls hl => ?_)
          refine lv_goto (tgt := 9) hx hb dIx_listTerms_33 (by decide) ?_
          exact ih9 (n + 1) _ _ _ (by omega) (by omega) (by omega)  hZ (lv_sub hl [0, 1, 2] rfl)
  exact loop9 (ni + 1 - 1 + 1) 1 _ _ _ (by omega) (by omega) (by omega)  hZ (lv_sub hl [0, 1, 2] rfl)
set_option maxHeartbeats 4000000 in
set_option maxRecDepth 100000 in
theorem c_Ix_cdv (l : Launch) (D : va_G) (K : Nat → ClassId) (X : hwW) (sz : Nat) (x0 : Nat) (y0 : Nat) (hx0 : x0 ≤ 1000) (hy0 : y0 ≤ 1000) : Met l yIx_commonDivisor (.code yIx_commonDivisor cIx_commonDivisor 3 (some .int) :: hwG) ({ frames := 1, cells := 0, slots := 0, locals := 22 } : Room) (hwPc D vwCl (hwT K) [.int (nI x0), .int (nI y0)] X sz) (hwQi D vwCl X sz (fun r Y => r = nI (cdv x0 y0) ∧ X = Y ∧ cdv x0 y0 ≤ 1000)) 0 0 (va_A X.1 sz) := by
  refine hwMeti (cc := cIx_commonDivisor) (maxL := 3) (by decide) rfl (Nat.le_of_ble_eq_true rfl) (fun p e s m args below meth c ls A Q hx hb hml hown hts hname hret hK hO hZ hA hl => ?_)
  have hl : lv_has ls 3 [(0, .int (nI x0)), (1, .int (nI y0))] := hl
  refine lv_iload_n hx hb dIx_commonDivisor_0 rfl (lv_at hl 0 rfl) ?_
  refine lv_iload_n hx hb dIx_commonDivisor_1 rfl (lv_at hl 1 rfl) ?_
  refine va_mmin hx hb (hml.trans hl.1.symm) hown (hts (.methodLink RIx 206 Lib.Math.min.name) (hwMem mm_280)) (hts (.static Lib.Math.min.name) (hwMem mm_18)) (hts (.initialized "java/lang/Math") (hwMem mm_19)) (hts (.code Lib.Math.min.name Lib.Math.min.code 2 (some .int)) (hwMem mm_20)) (Nat.le_of_ble_eq_true rfl) (Nat.le_of_ble_eq_true rfl) (show 0 ≤ 0 by omega) (show 0 ≤ 0 by omega) dIx_commonDivisor_2 ?_
  refine hw_topi (hw_nmin (a := x0) (b := y0) (by omega) (by omega)) ?_
  refine lv_istore_n (lv' := [(2, .int (nI (min x0 y0))), (0, .int (nI x0)), (1, .int (nI y0))]) hx hb dIx_commonDivisor_5 rfl hl (by decide) rfl (fun ls hl => ?_)
  have loop6 : ∀ (fuel : Nat) (d : Nat) (Hh : Heap) (lcs : List Loc) (ls : Array Slot), d < fuel → (d ≤ min x0 y0) → (∀ z, d < z → z ≤ min x0 y0 → ¬ (x0 % z = 0 ∧ y0 % z = 0)) → hwZ D vwCl A s.heap X Hh lcs → lv_has ls 3 [(2, .int (nI d)), (0, .int (nI x0)), (1, .int (nI y0))] → W p l e ({ frames := 1, cells := 0, slots := 0, locals := 22 } : Room) s m args below meth c Hh lcs 0 0 Q (F0 m 6 ls []) := by
    intro fuel; induction fuel with
    | zero => intro d Hh lcs ls hfu; exact absurd hfu (Nat.not_lt_zero _)
    | succ fuel ih6 =>
      intro d Hh lcs ls hfu6 hd hno hZ hl
      have hd1 : d ≤ x0 := by omega
      have hd2 : d ≤ y0 := by omega
      refine lv_iload_n hx hb dIx_commonDivisor_6 rfl (lv_at hl 0 rfl) ?_
      refine hw_if_le (a := d) (tgt := 30) hx hb dIx_commonDivisor_7 (by decide) (by omega) (fun cq_1 => ?_) (fun cq_1 => ?_)
      · refine lv_iconst (v := nI 0) hx hb dIx_commonDivisor_30 (by decide) ?_
        exact hret hZ ⟨congrArg nI (cdv_zero (fun z h1 h2 => hno z (by omega) h2)).symm, rfl, cdv_le _ _ hx0⟩ dIx_commonDivisor_31
      · refine lv_iload_n hx hb dIx_commonDivisor_10 rfl (lv_at hl 1 rfl) ?_
        refine lv_iload_n hx hb dIx_commonDivisor_11 rfl (lv_at hl 0 rfl) ?_
        refine lv_irem hx hb dIx_commonDivisor_12 (nI_ne0 (by omega) (by omega)) ?_
        refine hw_topi (pk_rem (a := x0) (d := d) (by omega) (by omega) (by omega)) ?_
        have hmd_2 := Nat.mod_le x0 d
        refine hw_if_ne (a := x0 % d) (tgt := 24) hx hb dIx_commonDivisor_13 (by decide) (by omega) (fun cq_3 => ?_) (fun cq_3 => ?_)
        · refine lv_iinc (v := nI (d - 1)) (lv' := [(2, .int (nI (d - 1))), (0, .int (nI x0)), (1, .int (nI y0))]) hx hb dIx_commonDivisor_24 hl (k := 0) rfl (hw_dec (k := 1) (by omega) (by decide)) (by decide) rfl (fun ls hl => ?_)
          refine lv_goto (tgt := 6) hx hb dIx_commonDivisor_27 (by decide) ?_
          exact ih6 (d - 1) _ _ _ (by omega) (by omega) (fun z h1 h2 hh => (Nat.lt_or_eq_of_le (show d ≤ z by omega)).elim (fun q => hno z q h2 hh) (fun q => by subst q; exact cq_3 hh.1))  hZ (lv_sub hl [0, 1, 2] rfl)
        · refine lv_iload_n hx hb dIx_commonDivisor_16 rfl (lv_at hl 2 rfl) ?_
          refine lv_iload_n hx hb dIx_commonDivisor_17 rfl (lv_at hl 0 rfl) ?_
          refine lv_irem hx hb dIx_commonDivisor_18 (nI_ne0 (by omega) (by omega)) ?_
          refine hw_topi (pk_rem (a := y0) (d := d) (by omega) (by omega) (by omega)) ?_
          have hmd_4 := Nat.mod_le y0 d
          refine hw_if_ne (a := y0 % d) (tgt := 24) hx hb dIx_commonDivisor_19 (by decide) (by omega) (fun cq_5 => ?_) (fun cq_5 => ?_)
          · refine lv_iinc (v := nI (d - 1)) (lv' := [(2, .int (nI (d - 1))), (0, .int (nI x0)), (1, .int (nI y0))]) hx hb dIx_commonDivisor_24 hl (k := 0) rfl (hw_dec (k := 1) (by omega) (by decide)) (by decide) rfl (fun ls hl => ?_)
            refine lv_goto (tgt := 6) hx hb dIx_commonDivisor_27 (by decide) ?_
            exact ih6 (d - 1) _ _ _ (by omega) (by omega) (fun z h1 h2 hh => (Nat.lt_or_eq_of_le (show d ≤ z by omega)).elim (fun q => hno z q h2 hh) (fun q => by subst q; exact cq_5 hh.2))  hZ (lv_sub hl [0, 1, 2] rfl)
          · refine lv_iload_n hx hb dIx_commonDivisor_22 rfl (lv_at hl 0 rfl) ?_
            exact hret hZ ⟨congrArg nI (gcd_found (by omega) (by omega) (by omega) cq_3 cq_5 hno).symm, rfl, cdv_le _ _ hx0⟩ dIx_commonDivisor_23
  exact loop6 ((min x0 y0) + 1) (min x0 y0) _ _ _ (by omega) (Nat.le_refl _) (fun z h1 h2 => absurd h1 (by omega))  hZ (lv_sub hl [0, 1, 2] rfl)
end
section
theorem dIx_record_0 : decode cIx_record 0 = .ok (.aload_n 0, 1) := by decide +kernel
theorem dIx_record_1 : decode cIx_record 1 = .ok (.getfield 58, 3) := by decide +kernel
theorem dIx_record_4 : decode cIx_record 4 = .ok (.ifCond .lt 15, 3) := by decide +kernel
theorem dIx_record_7 : decode cIx_record 7 = .ok (.aload_n 0, 1) := by decide +kernel
theorem dIx_record_8 : decode cIx_record 8 = .ok (.getfield 58, 3) := by decide +kernel
theorem dIx_record_11 : decode cIx_record 11 = .ok (.aload_n 0, 1) := by decide +kernel
theorem dIx_record_12 : decode cIx_record 12 = .ok (.getfield 11, 3) := by decide +kernel
theorem dIx_record_15 : decode cIx_record 15 = .ok (.arraylength, 1) := by decide +kernel
theorem dIx_record_16 : decode cIx_record 16 = .ok (.if_icmp .lt 5, 3) := by decide +kernel
theorem dIx_record_19 : decode cIx_record 19 = .ok (.iconst 0, 1) := by decide +kernel
theorem dIx_record_20 : decode cIx_record 20 = .ok (.ireturn, 1) := by decide +kernel
theorem dIx_record_21 : decode cIx_record 21 = .ok (.aload_n 0, 1) := by decide +kernel
theorem dIx_record_22 : decode cIx_record 22 = .ok (.getfield 11, 3) := by decide +kernel
theorem dIx_record_25 : decode cIx_record 25 = .ok (.aload_n 0, 1) := by decide +kernel
theorem dIx_record_26 : decode cIx_record 26 = .ok (.getfield 58, 3) := by decide +kernel
theorem dIx_record_29 : decode cIx_record 29 = .ok (.new 9, 3) := by decide +kernel
theorem dIx_record_32 : decode cIx_record 32 = .ok (.dup, 1) := by decide +kernel
theorem dIx_record_33 : decode cIx_record 33 = .ok (.invokespecial 62, 3) := by decide +kernel
theorem dIx_record_36 : decode cIx_record 36 = .ok (.aastore, 1) := by decide +kernel
theorem dIx_record_37 : decode cIx_record 37 = .ok (.aload_n 0, 1) := by decide +kernel
theorem dIx_record_38 : decode cIx_record 38 = .ok (.dup, 1) := by decide +kernel
theorem dIx_record_39 : decode cIx_record 39 = .ok (.getfield 58, 3) := by decide +kernel
theorem dIx_record_42 : decode cIx_record 42 = .ok (.iconst 1, 1) := by decide +kernel
theorem dIx_record_43 : decode cIx_record 43 = .ok (.iadd, 1) := by decide +kernel
theorem dIx_record_44 : decode cIx_record 44 = .ok (.putfield 58, 3) := by decide +kernel
theorem dIx_record_47 : decode cIx_record 47 = .ok (.aload_n 0, 1) := by decide +kernel
theorem dIx_record_48 : decode cIx_record 48 = .ok (.getfield 58, 3) := by decide +kernel
theorem dIx_record_51 : decode cIx_record 51 = .ok (.ireturn, 1) := by decide +kernel
theorem dIx_field_0 : decode cIx_field 0 = .ok (.aload_n 0, 1) := by decide +kernel
theorem dIx_field_1 : decode cIx_field 1 = .ok (.iload_n 1, 1) := by decide +kernel
theorem dIx_field_2 : decode cIx_field 2 = .ok (.iload_n 2, 1) := by decide +kernel
theorem dIx_field_3 : decode cIx_field 3 = .ok (.invokevirtual 63, 3) := by decide +kernel
theorem dIx_field_6 : decode cIx_field 6 = .ok (.astore 4, 2) := by decide +kernel
theorem dIx_field_8 : decode cIx_field 8 = .ok (.aload 4, 2) := by decide +kernel
theorem dIx_field_10 : decode cIx_field 10 = .ok (.ifnull 13, 3) := by decide +kernel
theorem dIx_field_13 : decode cIx_field 13 = .ok (.aload_n 0, 1) := by decide +kernel
theorem dIx_field_14 : decode cIx_field 14 = .ok (.getfield 67, 3) := by decide +kernel
theorem dIx_field_17 : decode cIx_field 17 = .ok (.sipush 1500, 3) := by decide +kernel
theorem dIx_field_20 : decode cIx_field 20 = .ok (.if_icmp .lt 4, 3) := by decide +kernel
theorem dIx_field_23 : decode cIx_field 23 = .ok (.return_, 1) := by decide +kernel
theorem dIx_field_24 : decode cIx_field 24 = .ok (.aload 4, 2) := by decide +kernel
theorem dIx_field_26 : decode cIx_field 26 = .ok (.iload_n 3, 1) := by decide +kernel
theorem dIx_field_27 : decode cIx_field 27 = .ok (.invokevirtual 70, 3) := by decide +kernel
theorem dIx_field_30 : decode cIx_field 30 = .ok (.aload_n 0, 1) := by decide +kernel
theorem dIx_field_31 : decode cIx_field 31 = .ok (.dup, 1) := by decide +kernel
theorem dIx_field_32 : decode cIx_field 32 = .ok (.getfield 67, 3) := by decide +kernel
theorem dIx_field_35 : decode cIx_field 35 = .ok (.iconst 1, 1) := by decide +kernel
theorem dIx_field_36 : decode cIx_field 36 = .ok (.iadd, 1) := by decide +kernel
theorem dIx_field_37 : decode cIx_field 37 = .ok (.putfield 67, 3) := by decide +kernel
theorem dIx_field_40 : decode cIx_field 40 = .ok (.return_, 1) := by decide +kernel
theorem dIx_remove_0 : decode cIx_remove 0 = .ok (.aload_n 0, 1) := by decide +kernel
theorem dIx_remove_1 : decode cIx_remove 1 = .ok (.iload_n 1, 1) := by decide +kernel
theorem dIx_remove_2 : decode cIx_remove 2 = .ok (.invokevirtual 73, 3) := by decide +kernel
theorem dIx_remove_5 : decode cIx_remove 5 = .ok (.astore_n 2, 1) := by decide +kernel
theorem dIx_remove_6 : decode cIx_remove 6 = .ok (.aload_n 2, 1) := by decide +kernel
theorem dIx_remove_7 : decode cIx_remove 7 = .ok (.ifnonnull 5, 3) := by decide +kernel
theorem dIx_remove_10 : decode cIx_remove 10 = .ok (.iconst 0, 1) := by decide +kernel
theorem dIx_remove_11 : decode cIx_remove 11 = .ok (.ireturn, 1) := by decide +kernel
theorem dIx_remove_12 : decode cIx_remove 12 = .ok (.aload_n 2, 1) := by decide +kernel
theorem dIx_remove_13 : decode cIx_remove 13 = .ok (.iconst 0, 1) := by decide +kernel
theorem dIx_remove_14 : decode cIx_remove 14 = .ok (.putfield 77, 3) := by decide +kernel
theorem dIx_remove_17 : decode cIx_remove 17 = .ok (.iconst 1, 1) := by decide +kernel
theorem dIx_remove_18 : decode cIx_remove 18 = .ok (.ireturn, 1) := by decide +kernel
theorem dIx_sign_0 : decode cIx_sign 0 = .ok (.aload_n 0, 1) := by decide +kernel
theorem dIx_sign_1 : decode cIx_sign 1 = .ok (.getfield 81, 3) := by decide +kernel
theorem dIx_sign_4 : decode cIx_sign 4 = .ok (.bipush 100, 2) := by decide +kernel
theorem dIx_sign_6 : decode cIx_sign 6 = .ok (.if_icmp .ge 21, 3) := by decide +kernel
theorem dIx_sign_9 : decode cIx_sign 9 = .ok (.aload_n 0, 1) := by decide +kernel
theorem dIx_sign_10 : decode cIx_sign 10 = .ok (.getfield 22, 3) := by decide +kernel
theorem dIx_sign_13 : decode cIx_sign 13 = .ok (.iload_n 1, 1) := by decide +kernel
theorem dIx_sign_14 : decode cIx_sign 14 = .ok (.invokevirtual 70, 3) := by decide +kernel
theorem dIx_sign_17 : decode cIx_sign 17 = .ok (.aload_n 0, 1) := by decide +kernel
theorem dIx_sign_18 : decode cIx_sign 18 = .ok (.dup, 1) := by decide +kernel
theorem dIx_sign_19 : decode cIx_sign 19 = .ok (.getfield 81, 3) := by decide +kernel
theorem dIx_sign_22 : decode cIx_sign 22 = .ok (.iconst 1, 1) := by decide +kernel
theorem dIx_sign_23 : decode cIx_sign 23 = .ok (.iadd, 1) := by decide +kernel
theorem dIx_sign_24 : decode cIx_sign 24 = .ok (.putfield 81, 3) := by decide +kernel
theorem dIx_sign_27 : decode cIx_sign 27 = .ok (.return_, 1) := by decide +kernel
theorem mm_281 : (.classLink RIx 9 RItem : Cond) ∈ hwG := hwIx 57 (by decide +kernel) (by decide +kernel)
theorem mm_282 : (.instantiable RItem 2 : Cond) ∈ hwG := hwIx 167 (by decide +kernel) (by decide +kernel)
theorem mm_283 : (.code yItem_init cItem_init 2 none : Cond) ∈ hwG := hwIx 170 (by decide +kernel) (by decide +kernel)
theorem mm_284 : (.methodLink RIx 62 yItem_init : Cond) ∈ hwG := hwIx 168 (by decide +kernel) (by decide +kernel)
theorem mm_285 : (.instanceMethod yItem_init : Cond) ∈ hwG := hwIx 169 (by decide +kernel) (by decide +kernel)
theorem mm_286 : (.fieldLink RIx 67 RIx "fieldSigns" "I" : Cond) ∈ hwG := hwIx 128 (by decide +kernel) (by decide +kernel)
theorem mm_287 : (.code yText_take cText_take 4 none : Cond) ∈ hwG := hwIx 202 (by decide +kernel) (by decide +kernel)
theorem mm_288 : (.methodLink RIx 70 yText_take : Cond) ∈ hwG := hwIx 199 (by decide +kernel) (by decide +kernel)
theorem mm_289 : (.instanceMethod yText_take : Cond) ∈ hwG := hwIx 200 (by decide +kernel) (by decide +kernel)
theorem mm_290 : (.selects RText yText_take yText_take : Cond) ∈ hwG := hwIx 201 (by decide +kernel) (by decide +kernel)
set_option maxHeartbeats 4000000 in
set_option maxRecDepth 100000 in
theorem p_record (l : Launch) (D : va_G) (K : Nat → ClassId) (X : hwW) (sz : Nat) (a : Nat) (its : hwIt) (fs : Nat) (lg : Nat → Nat) (qw : List (List Nat)) (qo : Nat) (qs : Nat) (ss : List (List Nat)) (hs : List (Nat × Nat × Nat)) (f0_ : ixAt K X a its fs lg qw qo qs ss hs) (ok : okS its fs lg qw qo qs ss) : Met l yIx_record (.code yIx_record cIx_record 1 (some .int) :: hwG) ({ frames := 3, cells := 10, slots := 34, locals := 61 } : Room) (hwPc D vwCl (hwT K) [.ref a] X sz) (hwQi D vwCl X sz (fun r Y => r = nI (if its.length < 30 then its.length + 1 else 0) ∧ hwF X Y (fun M => M < 1000) ∧ ixAt K Y a (recP its) fs lg qw qo qs ss hs)) 10 34 (va_A X.1 sz) := by
  refine hwMeti (cc := cIx_record) (maxL := 1) (by decide) rfl (Nat.le_of_ble_eq_true rfl) (fun p e s m args below meth c ls A Q hx hb hml hown hts hname hret hK hO hZ hA hl => ?_)
  have hl : lv_has ls 1 [(0, .ref a)] := hl
  have hFr : hwF X X (fun M => M < 1000) := hwF.rf
  obtain ⟨hni3, hTG, hfs, hlg, hsss, hqG, hq2, hqs⟩ := ok
  have hok := okIt_of hTG hfs
  have hq50 : qw.length ≤ 50 := by split at hq2 <;> omega
  have hne := hqG.1
  obtain ⟨b0, b1, b2, b3, b4, b5, b6, b7, b8, fi, fl, ta, tf, tl, fc, gx, gi, gt, gl, hfl, gq, gs, gh, ga, gf, gk, gc⟩ := f0_
  have hQ2 := fun j => okWs.at (txAt.oks gq) j
  refine lv_aload_n hx hb dIx_record_0 rfl (lv_at hl 0 rfl) ?_
  refine hw_get hx hb hts (hwInn inIx) hown hK hZ gx rfl 1 (by decide) (hts (.fieldLink RIx 58 RIx "itemCount" "I") (hwMem mm_187)) (fun _ h => h) rfl dIx_record_1 ?_
  refine hw_if_lt (a := its.length) (tgt := 19) hx hb dIx_record_4 (by decide) (by omega) (fun cq_1 => by exfalso; omega) (fun cq_1 => ?_)
  refine lv_aload_n hx hb dIx_record_7 rfl (lv_at hl 0 rfl) ?_
  refine hw_get hx hb hts (hwInn inIx) hown hK hZ gx rfl 1 (by decide) (hts (.fieldLink RIx 58 RIx "itemCount" "I") (hwMem mm_187)) (fun _ h => h) rfl dIx_record_8 ?_
  refine lv_aload_n hx hb dIx_record_11 rfl (lv_at hl 0 rfl) ?_
  refine hw_get hx hb hts (hwInn inIx) hown hK hZ gx rfl 0 (by decide) (hts (.fieldLink RIx 11 RIx "items" "[LWordIndex2$Item;") (hwMem mm_188)) (fun _ h => h) rfl dIx_record_12 ?_
  refine hw_alen hx hb hK hZ 4 gi rfl dIx_record_15 ?_
  refine hw_ic_lt (a := its.length) (b := 30) (tgt := 21) hx hb dIx_record_16 (by decide) (by omega) (by omega) (fun cq_2 => ?_) (fun cq_2 => ?_)
  · refine lv_aload_n hx hb dIx_record_21 rfl (lv_at hl 0 rfl) ?_
    refine hw_get hx hb hts (hwInn inIx) hown hK hZ gx rfl 0 (by decide) (hts (.fieldLink RIx 11 RIx "items" "[LWordIndex2$Item;") (hwMem mm_188)) (fun _ h => h) rfl dIx_record_22 ?_
    refine lv_aload_n hx hb dIx_record_25 rfl (lv_at hl 0 rfl) ?_
    refine hw_get hx hb hts (hwInn inIx) hown hK hZ gx rfl 1 (by decide) (hts (.fieldLink RIx 58 RIx "itemCount" "I") (hwMem mm_187)) (fun _ h => h) rfl dIx_record_26 ?_
    refine hw_new (ci := 1) (fs := [.null, .int (nI 0)]) hx hb hts (hwInn inItem) tyItem tyItem_ok hown (hts (.classLink RIx 9 RItem) (hwMem mm_281)) (hts (.instantiable RItem 2) (hwMem mm_282)) (hts (.initialized RItem) (hwMem mm_198)) hK hZ hA rfl (fun j hj => by rcases (show j = 0 ∨ j = 1 by omega) with rfl | rfl <;> rfl) (show 0 + 1 ≤ 10 by omega) (show 0 + 2 ≤ 34 by omega) dIx_record_29 (100 + 20 * its.length) (fun qq_3 X_4 H_5 hZ hF hNw => ?_)
    have hFr := hwF.tr hFr hF (fun _ h => h) (fun M h => by first | exact False.elim h | ((try dsimp only at h ⊢); omega))
    have gx := hF _ _ _ (by intro hNS; first | exact False.elim hNS | ((try dsimp only at hNS); omega)) gx
    have gi := hF _ _ _ (by intro hNS; first | exact False.elim hNS | ((try dsimp only at hNS); omega)) gi
    have gt := itsAt.fr hF (fun M h1 h2 hNS => by first | exact False.elim hNS | ((try dsimp only at hNS); omega)) gt
    have gl := hF _ _ _ (by intro hNS; first | exact False.elim hNS | ((try dsimp only at hNS); omega)) gl
    have gq := txAt.fr hF (by intro hNS; first | exact False.elim hNS | ((try dsimp only at hNS); omega)) (by intro hNS; first | exact False.elim hNS | ((try dsimp only at hNS); omega)) gq
    have gs := seAt.fr hF (by intro hNS; first | exact False.elim hNS | ((try dsimp only at hNS); omega)) (by intro hNS; first | exact False.elim hNS | ((try dsimp only at hNS); omega)) gs
    have gh := hiAt.fr hF (by intro hNS; first | exact False.elim hNS | ((try dsimp only at hNS); omega)) (by intro hNS; first | exact False.elim hNS | ((try dsimp only at hNS); omega)) (by intro hNS; first | exact False.elim hNS | ((try dsimp only at hNS); omega)) (by intro hNS; first | exact False.elim hNS | ((try dsimp only at hNS); omega)) gh
    have ga := tmAt.fr hF (by intro hNS; first | exact False.elim hNS | ((try dsimp only at hNS); omega)) (by intro hNS; first | exact False.elim hNS | ((try dsimp only at hNS); omega)) ga
    have gf := tmAt.fr hF (by intro hNS; first | exact False.elim hNS | ((try dsimp only at hNS); omega)) (by intro hNS; first | exact False.elim hNS | ((try dsimp only at hNS); omega)) gf
    have gk := seAt.fr hF (by intro hNS; first | exact False.elim hNS | ((try dsimp only at hNS); omega)) (by intro hNS; first | exact False.elim hNS | ((try dsimp only at hNS); omega)) gk
    have gc := hF _ _ _ (by intro hNS; first | exact False.elim hNS | ((try dsimp only at hNS); omega)) gc
    have ff_7 := hNw
    refine lv_dup hx hb dIx_record_32 rfl ?_
    refine hw_callv (va_runI (As := []) (rest := [.ref qq_3, .int (nI its.length), .ref b0]) ⟨hx, hb, hml, hown, hts⟩ (c_It_init l D K X_4 H_5.size (a := qq_3) (i := its.length) ff_7) (cwI 0 hts (hwGood (hwAll mm_283)) rfl rfl rfl (hts (.initialized RItem) (hwMem mm_198)) (hts (.methodLink RIx 62 yItem_init) (hwMem mm_284)) (hts (.instanceMethod yItem_init) (hwMem mm_285)) rfl (by decide +kernel) ⟨Nat.le_of_ble_eq_true rfl, Nat.le_of_ble_eq_true rfl⟩) (hw_preS hK hO hZ) rfl rfl hl.1 rfl (lv_room (Nat.le_of_ble_eq_true rfl)) dIx_record_33 ⟨(show 1 + 9 ≤ 10 by omega), (show (0 + 2) + 32 ≤ 34 by omega)⟩) hZ hA (fun X_8 H_9 lc_10 hp hZ => ?_)
    obtain ⟨hF, hN_11⟩ := hp
    have hFr := hwF.tr hFr hF (fun _ h => h) (fun M h => by first | exact False.elim h | ((try dsimp only at h ⊢); omega))
    have gx := hF _ _ _ (by intro hNS; first | exact False.elim hNS | ((try dsimp only at hNS); omega)) gx
    have gi := hF _ _ _ (by intro hNS; first | exact False.elim hNS | ((try dsimp only at hNS); omega)) gi
    have gt := itsAt.fr hF (fun M h1 h2 hNS => by first | exact False.elim hNS | ((try dsimp only at hNS); omega)) gt
    have gl := hF _ _ _ (by intro hNS; first | exact False.elim hNS | ((try dsimp only at hNS); omega)) gl
    have gq := txAt.fr hF (by intro hNS; first | exact False.elim hNS | ((try dsimp only at hNS); omega)) (by intro hNS; first | exact False.elim hNS | ((try dsimp only at hNS); omega)) gq
    have gs := seAt.fr hF (by intro hNS; first | exact False.elim hNS | ((try dsimp only at hNS); omega)) (by intro hNS; first | exact False.elim hNS | ((try dsimp only at hNS); omega)) gs
    have gh := hiAt.fr hF (by intro hNS; first | exact False.elim hNS | ((try dsimp only at hNS); omega)) (by intro hNS; first | exact False.elim hNS | ((try dsimp only at hNS); omega)) (by intro hNS; first | exact False.elim hNS | ((try dsimp only at hNS); omega)) (by intro hNS; first | exact False.elim hNS | ((try dsimp only at hNS); omega)) gh
    have ga := tmAt.fr hF (by intro hNS; first | exact False.elim hNS | ((try dsimp only at hNS); omega)) (by intro hNS; first | exact False.elim hNS | ((try dsimp only at hNS); omega)) ga
    have gf := tmAt.fr hF (by intro hNS; first | exact False.elim hNS | ((try dsimp only at hNS); omega)) (by intro hNS; first | exact False.elim hNS | ((try dsimp only at hNS); omega)) gf
    have gk := seAt.fr hF (by intro hNS; first | exact False.elim hNS | ((try dsimp only at hNS); omega)) (by intro hNS; first | exact False.elim hNS | ((try dsimp only at hNS); omega)) gk
    have gc := hF _ _ _ (by intro hNS; first | exact False.elim hNS | ((try dsimp only at hNS); omega)) gc
    have ff_12 := hN_11
    obtain ⟨_, _, hob⟩ := itAt.ob ff_12
    refine hw_astq hx hb hK hZ 4 1 gi rfl hob rfl (j := its.length) (by omega) (by omega) dIx_record_36 (fun X_13 H_14 lc_15 hZ hF hNw => ?_)
    have hFr := hwF.tr hFr hF (fun _ h => h) (fun M h => by first | exact False.elim h | ((try dsimp only at h ⊢); omega))
    have gx := hF _ _ _ (by intro hNS; first | exact False.elim hNS | ((try dsimp only at hNS); omega)) gx
    have gi := hNw
    have gt := itsAt.fr hF (fun M h1 h2 hNS => by first | exact False.elim hNS | ((try dsimp only at hNS); omega)) gt
    have gl := hF _ _ _ (by intro hNS; first | exact False.elim hNS | ((try dsimp only at hNS); omega)) gl
    have gq := txAt.fr hF (by intro hNS; first | exact False.elim hNS | ((try dsimp only at hNS); omega)) (by intro hNS; first | exact False.elim hNS | ((try dsimp only at hNS); omega)) gq
    have gs := seAt.fr hF (by intro hNS; first | exact False.elim hNS | ((try dsimp only at hNS); omega)) (by intro hNS; first | exact False.elim hNS | ((try dsimp only at hNS); omega)) gs
    have gh := hiAt.fr hF (by intro hNS; first | exact False.elim hNS | ((try dsimp only at hNS); omega)) (by intro hNS; first | exact False.elim hNS | ((try dsimp only at hNS); omega)) (by intro hNS; first | exact False.elim hNS | ((try dsimp only at hNS); omega)) (by intro hNS; first | exact False.elim hNS | ((try dsimp only at hNS); omega)) gh
    have ga := tmAt.fr hF (by intro hNS; first | exact False.elim hNS | ((try dsimp only at hNS); omega)) (by intro hNS; first | exact False.elim hNS | ((try dsimp only at hNS); omega)) ga
    have gf := tmAt.fr hF (by intro hNS; first | exact False.elim hNS | ((try dsimp only at hNS); omega)) (by intro hNS; first | exact False.elim hNS | ((try dsimp only at hNS); omega)) gf
    have gk := seAt.fr hF (by intro hNS; first | exact False.elim hNS | ((try dsimp only at hNS); omega)) (by intro hNS; first | exact False.elim hNS | ((try dsimp only at hNS); omega)) gk
    have gc := hF _ _ _ (by intro hNS; first | exact False.elim hNS | ((try dsimp only at hNS); omega)) gc
    have ff_12 := itAt.fr hF (fun M h1 h2 hNS => by first | exact False.elim hNS | ((try dsimp only at hNS); omega)) ff_12
    refine lv_aload_n hx hb dIx_record_37 rfl (lv_at hl 0 rfl) ?_
    refine lv_dup hx hb dIx_record_38 rfl ?_
    refine hw_get hx hb hts (hwInn inIx) hown hK hZ gx rfl 1 (by decide) (hts (.fieldLink RIx 58 RIx "itemCount" "I") (hwMem mm_187)) (fun _ h => h) rfl dIx_record_39 ?_
    refine lv_iconst (v := nI 1) hx hb dIx_record_42 (by decide) ?_
    refine lv_iadd hx hb dIx_record_43 ?_
    refine hw_topi (nI_add its.length 1) ?_
    refine hw_put (ty := .int) (fs' := [.ref b0, .int (nI (its.length + 1)), .int (nI fs), .ref b1, .ref b2, .int (nI qs), .ref b3, .ref b4, .ref b5, .ref b6, .ref b7, .ref b8]) hx hb hts (hwInn inIx) tyIx tyIx_ok nmIx hown hK hZ gx rfl 1 (by decide) (hts (.fieldLink RIx 58 RIx "itemCount" "I") (hwMem mm_187)) (fun _ h => h) rfl (by decide +kernel) rfl rfl (Nat.le_of_ble_eq_true rfl) rfl dIx_record_44 (fun X_16 H_17 lc_18 hZ hF hNw => ?_)
    have hFr := hwF.tr hFr hF (fun _ h => h) (fun M h => by first | exact False.elim h | ((try dsimp only at h ⊢); omega))
    have gx := hNw
    have gi := hF _ _ _ (by intro hNS; first | exact False.elim hNS | ((try dsimp only at hNS); omega)) gi
    have gt := itsAt.fr hF (fun M h1 h2 hNS => by first | exact False.elim hNS | ((try dsimp only at hNS); omega)) gt
    have gl := hF _ _ _ (by intro hNS; first | exact False.elim hNS | ((try dsimp only at hNS); omega)) gl
    have gq := txAt.fr hF (by intro hNS; first | exact False.elim hNS | ((try dsimp only at hNS); omega)) (by intro hNS; first | exact False.elim hNS | ((try dsimp only at hNS); omega)) gq
    have gs := seAt.fr hF (by intro hNS; first | exact False.elim hNS | ((try dsimp only at hNS); omega)) (by intro hNS; first | exact False.elim hNS | ((try dsimp only at hNS); omega)) gs
    have gh := hiAt.fr hF (by intro hNS; first | exact False.elim hNS | ((try dsimp only at hNS); omega)) (by intro hNS; first | exact False.elim hNS | ((try dsimp only at hNS); omega)) (by intro hNS; first | exact False.elim hNS | ((try dsimp only at hNS); omega)) (by intro hNS; first | exact False.elim hNS | ((try dsimp only at hNS); omega)) gh
    have ga := tmAt.fr hF (by intro hNS; first | exact False.elim hNS | ((try dsimp only at hNS); omega)) (by intro hNS; first | exact False.elim hNS | ((try dsimp only at hNS); omega)) ga
    have gf := tmAt.fr hF (by intro hNS; first | exact False.elim hNS | ((try dsimp only at hNS); omega)) (by intro hNS; first | exact False.elim hNS | ((try dsimp only at hNS); omega)) gf
    have gk := seAt.fr hF (by intro hNS; first | exact False.elim hNS | ((try dsimp only at hNS); omega)) (by intro hNS; first | exact False.elim hNS | ((try dsimp only at hNS); omega)) gk
    have gc := hF _ _ _ (by intro hNS; first | exact False.elim hNS | ((try dsimp only at hNS); omega)) gc
    have ff_12 := itAt.fr hF (fun M h1 h2 hNS => by first | exact False.elim hNS | ((try dsimp only at hNS); omega)) ff_12
    refine lv_aload_n hx hb dIx_record_47 rfl (lv_at hl 0 rfl) ?_
    refine hw_get hx hb hts (hwInn inIx) hown hK hZ gx rfl 1 (by decide) (hts (.fieldLink RIx 58 RIx "itemCount" "I") (hwMem mm_187)) (fun _ h => h) rfl dIx_record_48 ?_
    refine W.widen (k := 10) (n := 34) (by omega) (by omega) ?_
    exact hret hZ (by unfold recP; rw [if_pos (by omega), if_pos (by omega)]; exact ⟨rfl, hFr, ⟨_, _, _, _, _, _, _, _, _, _, _, _, _, _, _, (by rw [List.length_append]; exact gx), gi, (itsAt.push gt (v := (true, fun _ => ([], 0))) ff_12), gl, hfl, gq, gs, gh, ga, gf, gk, gc⟩⟩) dIx_record_51
  · refine lv_iconst (v := nI 0) hx hb dIx_record_19 (by decide) ?_
    refine W.widen (k := 10) (n := 34) (by omega) (by omega) ?_
    exact hret hZ (by unfold recP; rw [if_neg (by omega), if_neg (by omega)]; exact ⟨rfl, hFr, ⟨_, _, _, _, _, _, _, _, _, _, _, _, _, _, _, gx, gi, gt, gl, hfl, gq, gs, gh, ga, gf, gk, gc⟩⟩) dIx_record_20
set_option maxHeartbeats 4000000 in
set_option maxRecDepth 100000 in
theorem p_field (l : Launch) (D : va_G) (K : Nat → ClassId) (X : hwW) (sz : Nat) (a : Nat) (its : hwIt) (fs : Nat) (lg : Nat → Nat) (qw : List (List Nat)) (qo : Nat) (qs : Nat) (ss : List (List Nat)) (hs : List (Nat × Nat × Nat)) (rr : Int32) (kk : Int32) (cc0 : Int32) (f0_ : ixAt K X a its fs lg qw qo qs ss hs) (ok : okS its fs lg qw qo qs ss) : Met l yIx_field (.code yIx_field cIx_field 5 none :: hwG) ({ frames := 4, cells := 1, slots := 1300, locals := 91 } : Room) (hwPc D vwCl (hwT K) [.ref a, .int rr, .int kk, .int cc0] X sz) (hwQv D vwCl X sz (fun Y => hwF X Y (fun M => M < 1000) ∧ ixAt K Y a (fldP its fs rr kk cc0).1 (fldP its fs rr kk cc0).2 lg qw qo qs ss hs)) 1 1300 (va_A X.1 sz) := by
  refine hwMetv (cc := cIx_field) (maxL := 5) (by decide) rfl (Nat.le_of_ble_eq_true rfl) (fun p e s m args below meth c ls A Q hx hb hml hown hts hname hret hK hO hZ hA hl => ?_)
  have hl : lv_has ls 5 [(0, .ref a), (1, .int rr), (2, .int kk), (3, .int cc0)] := hl
  have hFr : hwF X X (fun M => M < 1000) := hwF.rf
  obtain ⟨hni3, hTG, hfs, hlg, hsss, hqG, hq2, hqs⟩ := ok
  have hok := okIt_of hTG hfs
  have hq50 : qw.length ≤ 50 := by split at hq2 <;> omega
  have hne := hqG.1
  obtain ⟨b0, b1, b2, b3, b4, b5, b6, b7, b8, fi, fl, ta, tf, tl, fc, gx, gi, gt, gl, hfl, gq, gs, gh, ga, gf, gk, gc⟩ := f0_
  have hQ2 := fun j => okWs.at (txAt.oks gq) j
  rcases rN_cases its.length (by omega) rr with hx9 | ⟨n, hn1, hn2, rfl⟩
  · refine lv_aload_n hx hb dIx_field_0 rfl (lv_at hl 0 rfl) ?_
    refine lv_iload_n hx hb dIx_field_1 rfl (lv_at hl 1 rfl) ?_
    refine lv_iload_n hx hb dIx_field_2 rfl (lv_at hl 2 rfl) ?_
    refine hw_callq (va_runV (As := [.int rr, .int kk]) (rest := []) ⟨hx, hb, hml, hown, hts⟩ (c_Ix_textB l D K X s.heap.size (a := a) (b0 := b0) (b1 := b1) (b2 := b2) (b3 := b3) (b4 := b4) (b5 := b5) (b6 := b6) (b7 := b7) (b8 := b8) (ni := its.length) (fs := fs) (qs := qs) (fi := fi) (x := rr) (kind := kk) gx gi (by omega) (by assumption)) (cwV 2 hts (hwGood (hw_4 mm_206 mm_207 mm_208 mm_193 (hwAll mm_205))) rfl rfl rfl (by decide +kernel) ⟨Nat.le_of_ble_eq_true rfl, Nat.le_of_ble_eq_true rfl⟩) (hw_preV hK hO hZ (⟨_, _, gx⟩) rfl) rfl rfl hl.1 rfl (lv_room (Nat.le_of_ble_eq_true rfl)) dIx_field_3 ⟨(show 0 + 0 ≤ 1 by omega), (show 0 + 0 ≤ 1300 by omega)⟩) hZ hA (fun r X_1 H_2 lc_3 hp hZ => ?_)
    obtain ⟨hr, hy⟩ := hp
    subst hy
    refine hw_top (y := .null) (by rw [hr]; rfl) ?_
    refine lv_astoreN (lv' := [(4, .null), (0, .ref a), (1, .int rr), (2, .int kk), (3, .int cc0)]) hx hb dIx_field_6 hl (by decide) rfl (fun ls hl => ?_)
    refine lv_aloadN hx hb dIx_field_8 (lv_at hl 0 rfl) ?_
    refine lv_ifnullN (tgt := 23) hx hb dIx_field_10 (by decide) ?_
    refine W.widen (k := 1) (n := 1300) (by omega) (by omega) ?_
    exact hret hZ (by rw [fldP_r (rN_bad (by omega) hx9)]; exact ⟨hFr, ⟨_, _, _, _, _, _, _, _, _, _, _, _, _, _, _, gx, gi, gt, gl, hfl, gq, gs, gh, ga, gf, gk, gc⟩⟩) dIx_field_23
  · cases hth : (its.getD (n - 1) hwIt0).1
    · have hpi := itsAt.pi gt (i := n - 1) (by omega)
      rw [hth] at hpi
      refine lv_aload_n hx hb dIx_field_0 rfl (lv_at hl 0 rfl) ?_
      refine lv_iload_n hx hb dIx_field_1 rfl (lv_at hl 1 rfl) ?_
      refine lv_iload_n hx hb dIx_field_2 rfl (lv_at hl 2 rfl) ?_
      refine hw_callq (va_runV (As := [.int (nI n), .int kk]) (rest := []) ⟨hx, hb, hml, hown, hts⟩ (c_Ix_textF l D K X s.heap.size (a := a) (b0 := b0) (b1 := b1) (b2 := b2) (b3 := b3) (b4 := b4) (b5 := b5) (b6 := b6) (b7 := b7) (b8 := b8) (ni := its.length) (fs := fs) (qs := qs) (fi := fi) (n := n) (kind := kk) (th := false) gx gi (by omega) (by omega) (by omega) (by assumption) rfl) (cwV 2 hts (hwGood (hw_4 mm_206 mm_207 mm_208 mm_193 (hwAll mm_205))) rfl rfl rfl (by decide +kernel) ⟨Nat.le_of_ble_eq_true rfl, Nat.le_of_ble_eq_true rfl⟩) (hw_preV hK hO hZ (⟨_, _, gx⟩) rfl) rfl rfl hl.1 rfl (lv_room (Nat.le_of_ble_eq_true rfl)) dIx_field_3 ⟨(show 0 + 0 ≤ 1 by omega), (show 0 + 0 ≤ 1300 by omega)⟩) hZ hA (fun r X_4 H_5 lc_6 hp hZ => ?_)
      obtain ⟨hr, hy⟩ := hp
      subst hy
      refine hw_top (y := .null) (by rw [hr]; rfl) ?_
      refine lv_astoreN (lv' := [(4, .null), (0, .ref a), (1, .int (nI n)), (2, .int kk), (3, .int cc0)]) hx hb dIx_field_6 hl (by decide) rfl (fun ls hl => ?_)
      refine lv_aloadN hx hb dIx_field_8 (lv_at hl 0 rfl) ?_
      refine lv_ifnullN (tgt := 23) hx hb dIx_field_10 (by decide) ?_
      refine W.widen (k := 1) (n := 1300) (by omega) (by omega) ?_
      exact hret hZ (by rw [fldP_g (rN_nI hn1 hn2 (by omega)) hth]; exact ⟨hFr, ⟨_, _, _, _, _, _, _, _, _, _, _, _, _, _, _, gx, gi, gt, gl, hfl, gq, gs, gh, ga, gf, gk, gc⟩⟩) dIx_field_23
    · rcases kN_cases kk with hk | ⟨j, hj, rfl⟩
      · obtain ⟨t, hpt, htx⟩ := itsAt.pt gt (i := n - 1) (j := 0) (by omega) (by omega)
        rw [hth] at hpt
        refine lv_aload_n hx hb dIx_field_0 rfl (lv_at hl 0 rfl) ?_
        refine lv_iload_n hx hb dIx_field_1 rfl (lv_at hl 1 rfl) ?_
        refine lv_iload_n hx hb dIx_field_2 rfl (lv_at hl 2 rfl) ?_
        refine hw_callq (va_runV (As := [.int (nI n), .int kk]) (rest := []) ⟨hx, hb, hml, hown, hts⟩ (c_Ix_textK l D K X s.heap.size (a := a) (b0 := b0) (b1 := b1) (b2 := b2) (b3 := b3) (b4 := b4) (b5 := b5) (b6 := b6) (b7 := b7) (b8 := b8) (ni := its.length) (fs := fs) (qs := qs) (fi := fi) (n := n) (kind := kk) (th := true) (t := t) gx gi (by omega) (by omega) (by omega) (by assumption) rfl (by assumption)) (cwV 2 hts (hwGood (hw_4 mm_206 mm_207 mm_208 mm_193 (hwAll mm_205))) rfl rfl rfl (by decide +kernel) ⟨Nat.le_of_ble_eq_true rfl, Nat.le_of_ble_eq_true rfl⟩) (hw_preV hK hO hZ (⟨_, _, gx⟩) rfl) rfl rfl hl.1 rfl (lv_room (Nat.le_of_ble_eq_true rfl)) dIx_field_3 ⟨(show 0 + 0 ≤ 1 by omega), (show 0 + 0 ≤ 1300 by omega)⟩) hZ hA (fun r X_7 H_8 lc_9 hp hZ => ?_)
        obtain ⟨hr, hy⟩ := hp
        subst hy
        refine hw_top (y := .null) (by rw [hr]; rfl) ?_
        refine lv_astoreN (lv' := [(4, .null), (0, .ref a), (1, .int (nI n)), (2, .int kk), (3, .int cc0)]) hx hb dIx_field_6 hl (by decide) rfl (fun ls hl => ?_)
        refine lv_aloadN hx hb dIx_field_8 (lv_at hl 0 rfl) ?_
        refine lv_ifnullN (tgt := 23) hx hb dIx_field_10 (by decide) ?_
        refine W.widen (k := 1) (n := 1300) (by omega) (by omega) ?_
        exact hret hZ (by rw [fldP_k (kN_bad hk)]; exact ⟨hFr, ⟨_, _, _, _, _, _, _, _, _, _, _, _, _, _, _, gx, gi, gt, gl, hfl, gq, gs, gh, ga, gf, gk, gc⟩⟩) dIx_field_23
      · obtain ⟨t, hpt, htx⟩ := itsAt.pt gt (i := n - 1) (j := j) (by omega) (by omega)
        rw [hth] at hpt
        refine lv_aload_n hx hb dIx_field_0 rfl (lv_at hl 0 rfl) ?_
        refine lv_iload_n hx hb dIx_field_1 rfl (lv_at hl 1 rfl) ?_
        refine lv_iload_n hx hb dIx_field_2 rfl (lv_at hl 2 rfl) ?_
        refine hw_callq (va_runV (As := [.int (nI n), .int (nI j)]) (rest := []) ⟨hx, hb, hml, hown, hts⟩ (c_Ix_text l D K X s.heap.size (a := a) (b0 := b0) (b1 := b1) (b2 := b2) (b3 := b3) (b4 := b4) (b5 := b5) (b6 := b6) (b7 := b7) (b8 := b8) (ni := its.length) (fs := fs) (qs := qs) (fi := fi) (n := n) (j := j) (th := true) (t := t) gx gi (by omega) (by omega) (by omega) (by omega) (by assumption) rfl) (cwV 2 hts (hwGood (hw_4 mm_206 mm_207 mm_208 mm_193 (hwAll mm_205))) rfl rfl rfl (by decide +kernel) ⟨Nat.le_of_ble_eq_true rfl, Nat.le_of_ble_eq_true rfl⟩) (hw_preV hK hO hZ (⟨_, _, gx⟩) rfl) rfl rfl hl.1 rfl (lv_room (Nat.le_of_ble_eq_true rfl)) dIx_field_3 ⟨(show 0 + 0 ≤ 1 by omega), (show 0 + 0 ≤ 1300 by omega)⟩) hZ hA (fun r X_10 H_11 lc_12 hp hZ => ?_)
        obtain ⟨hr, hy⟩ := hp
        subst hy
        refine hw_top (y := .ref t) (by rw [hr]; rfl) ?_
        refine lv_astore (lv' := [(4, .ref t), (0, .ref a), (1, .int (nI n)), (2, .int (nI j)), (3, .int cc0)]) hx hb dIx_field_6 hl (by decide) rfl (fun ls hl => ?_)
        refine lv_aload hx hb dIx_field_8 (lv_at hl 0 rfl) ?_
        refine lv_ifnull hx hb dIx_field_10 ?_
        refine lv_aload_n hx hb dIx_field_13 rfl (lv_at hl 1 rfl) ?_
        refine hw_get hx hb hts (hwInn inIx) hown hK hZ gx rfl 2 (by decide) (hts (.fieldLink RIx 67 RIx "fieldSigns" "I") (hwMem mm_286)) (fun _ h => h) rfl dIx_field_14 ?_
        refine lv_sipush (v := nI 1500) hx hb dIx_field_17 (by decide) ?_
        refine hw_ic_lt (a := fs) (b := 1500) (tgt := 24) hx hb dIx_field_20 (by decide) (by omega) (by omega) (fun cq_13 => ?_) (fun cq_13 => by exfalso; omega)
        have hZ0 := hZ
        have hgt0 := gt
        refine lv_aload hx hb dIx_field_24 (lv_at hl 0 rfl) ?_
        refine lv_iload_n hx hb dIx_field_26 rfl (lv_at hl 4 rfl) ?_
        refine hw_callv (va_runV (As := [.int cc0]) (rest := []) ⟨hx, hb, hml, hown, hts⟩ (c_Tx_take l D K X H_11.size (a := t) (k := 55 + 10 * (n - 1) + j) (ws := ((its.getD (n - 1) hwIt0).2 j).1) (o := ((its.getD (n - 1) hwIt0).2 j).2) (c0 := cc0) htx (Nat.le_trans (hTG (n - 1) j).2 hfs) (hTG (n - 1) j).1) (cwV 1 hts (hwGood (hw_4 mm_288 mm_289 mm_290 mm_45 (hwAll mm_287))) rfl rfl rfl (by decide +kernel) ⟨Nat.le_of_ble_eq_true rfl, Nat.le_of_ble_eq_true rfl⟩) (hw_preV hK hO hZ (txAt.ob htx) rfl) rfl rfl hl.1 rfl (lv_room (Nat.le_of_ble_eq_true rfl)) dIx_field_27 ⟨(show 0 + 1 ≤ 1 by omega), (show 0 + 1300 ≤ 1300 by omega)⟩) hZ hA (fun X_14 H_15 lc_16 hp hZ => ?_)
        obtain ⟨hF, hN_17⟩ := hp
        have hFr := hwF.tr hFr hF (fun _ h => h) (fun M h => by first | exact False.elim h | ((try dsimp only at h ⊢); omega))
        have gx := hF _ _ _ (by intro hNS; first | exact False.elim hNS | ((try dsimp only at hNS); omega)) gx
        have gi := hF _ _ _ (by intro hNS; first | exact False.elim hNS | ((try dsimp only at hNS); omega)) gi
        have gl := hF _ _ _ (by intro hNS; first | exact False.elim hNS | ((try dsimp only at hNS); omega)) gl
        have gq := txAt.fr hF (by intro hNS; first | exact False.elim hNS | ((try dsimp only at hNS); omega)) (by intro hNS; first | exact False.elim hNS | ((try dsimp only at hNS); omega)) gq
        have gs := seAt.fr hF (by intro hNS; first | exact False.elim hNS | ((try dsimp only at hNS); omega)) (by intro hNS; first | exact False.elim hNS | ((try dsimp only at hNS); omega)) gs
        have gh := hiAt.fr hF (by intro hNS; first | exact False.elim hNS | ((try dsimp only at hNS); omega)) (by intro hNS; first | exact False.elim hNS | ((try dsimp only at hNS); omega)) (by intro hNS; first | exact False.elim hNS | ((try dsimp only at hNS); omega)) (by intro hNS; first | exact False.elim hNS | ((try dsimp only at hNS); omega)) gh
        have ga := tmAt.fr hF (by intro hNS; first | exact False.elim hNS | ((try dsimp only at hNS); omega)) (by intro hNS; first | exact False.elim hNS | ((try dsimp only at hNS); omega)) ga
        have gf := tmAt.fr hF (by intro hNS; first | exact False.elim hNS | ((try dsimp only at hNS); omega)) (by intro hNS; first | exact False.elim hNS | ((try dsimp only at hNS); omega)) gf
        have gk := seAt.fr hF (by intro hNS; first | exact False.elim hNS | ((try dsimp only at hNS); omega)) (by intro hNS; first | exact False.elim hNS | ((try dsimp only at hNS); omega)) gk
        have gc := hF _ _ _ (by intro hNS; first | exact False.elim hNS | ((try dsimp only at hNS); omega)) gc
        have ff_18 := hN_17
        have gt := itsAt.upd hZ0 hgt0 (by omega) hj hpt hF ff_18
        refine lv_aload_n hx hb dIx_field_30 rfl (lv_at hl 1 rfl) ?_
        refine lv_dup hx hb dIx_field_31 rfl ?_
        refine hw_get hx hb hts (hwInn inIx) hown hK hZ gx rfl 2 (by decide) (hts (.fieldLink RIx 67 RIx "fieldSigns" "I") (hwMem mm_286)) (fun _ h => h) rfl dIx_field_32 ?_
        refine lv_iconst (v := nI 1) hx hb dIx_field_35 (by decide) ?_
        refine lv_iadd hx hb dIx_field_36 ?_
        refine hw_topi (nI_add fs 1) ?_
        refine hw_put (ty := .int) (fs' := [.ref b0, .int (nI its.length), .int (nI (fs + 1)), .ref b1, .ref b2, .int (nI qs), .ref b3, .ref b4, .ref b5, .ref b6, .ref b7, .ref b8]) hx hb hts (hwInn inIx) tyIx tyIx_ok nmIx hown hK hZ gx rfl 2 (by decide) (hts (.fieldLink RIx 67 RIx "fieldSigns" "I") (hwMem mm_286)) (fun _ h => h) rfl (by decide +kernel) rfl rfl (Nat.le_of_ble_eq_true rfl) rfl dIx_field_37 (fun X_19 H_20 lc_21 hZ hF hNw => ?_)
        have hFr := hwF.tr hFr hF (fun _ h => h) (fun M h => by first | exact False.elim h | ((try dsimp only at h ⊢); omega))
        have gx := hNw
        have gi := hF _ _ _ (by intro hNS; first | exact False.elim hNS | ((try dsimp only at hNS); omega)) gi
        have gl := hF _ _ _ (by intro hNS; first | exact False.elim hNS | ((try dsimp only at hNS); omega)) gl
        have gq := txAt.fr hF (by intro hNS; first | exact False.elim hNS | ((try dsimp only at hNS); omega)) (by intro hNS; first | exact False.elim hNS | ((try dsimp only at hNS); omega)) gq
        have gs := seAt.fr hF (by intro hNS; first | exact False.elim hNS | ((try dsimp only at hNS); omega)) (by intro hNS; first | exact False.elim hNS | ((try dsimp only at hNS); omega)) gs
        have gh := hiAt.fr hF (by intro hNS; first | exact False.elim hNS | ((try dsimp only at hNS); omega)) (by intro hNS; first | exact False.elim hNS | ((try dsimp only at hNS); omega)) (by intro hNS; first | exact False.elim hNS | ((try dsimp only at hNS); omega)) (by intro hNS; first | exact False.elim hNS | ((try dsimp only at hNS); omega)) gh
        have ga := tmAt.fr hF (by intro hNS; first | exact False.elim hNS | ((try dsimp only at hNS); omega)) (by intro hNS; first | exact False.elim hNS | ((try dsimp only at hNS); omega)) ga
        have gf := tmAt.fr hF (by intro hNS; first | exact False.elim hNS | ((try dsimp only at hNS); omega)) (by intro hNS; first | exact False.elim hNS | ((try dsimp only at hNS); omega)) gf
        have gk := seAt.fr hF (by intro hNS; first | exact False.elim hNS | ((try dsimp only at hNS); omega)) (by intro hNS; first | exact False.elim hNS | ((try dsimp only at hNS); omega)) gk
        have gc := hF _ _ _ (by intro hNS; first | exact False.elim hNS | ((try dsimp only at hNS); omega)) gc
        have gt := itsAt.fr hF (fun M h1 h2 hNS => by first | exact False.elim hNS | ((try dsimp only at hNS); omega)) gt
        refine W.widen (k := 1) (n := 1300) (by omega) (by omega) ?_
        exact hret hZ (by rw [fldP_y (rN_nI hn1 hn2 (by omega)) (kN_nI hj) hth]; exact ⟨hFr, ⟨_, _, _, _, _, _, _, _, _, _, _, _, _, _, _, (by rw [List.length_set]; exact gx), gi, gt, gl, hfl, gq, gs, gh, ga, gf, gk, gc⟩⟩) dIx_field_40
set_option maxHeartbeats 4000000 in
set_option maxRecDepth 100000 in
theorem p_remove (l : Launch) (D : va_G) (K : Nat → ClassId) (X : hwW) (sz : Nat) (a : Nat) (its : hwIt) (fs : Nat) (lg : Nat → Nat) (qw : List (List Nat)) (qo : Nat) (qs : Nat) (ss : List (List Nat)) (hs : List (Nat × Nat × Nat)) (rr : Int32) (f0_ : ixAt K X a its fs lg qw qo qs ss hs) (ok : okS its fs lg qw qo qs ss) : Met l yIx_remove (.code yIx_remove cIx_remove 3 (some .int) :: hwG) ({ frames := 1, cells := 0, slots := 0, locals := 22 } : Room) (hwPc D vwCl (hwT K) [.ref a, .int rr] X sz) (hwQi D vwCl X sz (fun r Y => r = nI (remP its rr).2 ∧ hwF X Y (fun M => M < 1000) ∧ ixAt K Y a (remP its rr).1 fs lg qw qo qs ss hs)) 0 0 (va_A X.1 sz) := by
  refine hwMeti (cc := cIx_remove) (maxL := 3) (by decide) rfl (Nat.le_of_ble_eq_true rfl) (fun p e s m args below meth c ls A Q hx hb hml hown hts hname hret hK hO hZ hA hl => ?_)
  have hl : lv_has ls 3 [(0, .ref a), (1, .int rr)] := hl
  have hFr : hwF X X (fun M => M < 1000) := hwF.rf
  obtain ⟨hni3, hTG, hfs, hlg, hsss, hqG, hq2, hqs⟩ := ok
  have hok := okIt_of hTG hfs
  have hq50 : qw.length ≤ 50 := by split at hq2 <;> omega
  have hne := hqG.1
  obtain ⟨b0, b1, b2, b3, b4, b5, b6, b7, b8, fi, fl, ta, tf, tl, fc, gx, gi, gt, gl, hfl, gq, gs, gh, ga, gf, gk, gc⟩ := f0_
  have hQ2 := fun j => okWs.at (txAt.oks gq) j
  rcases rN_cases its.length (by omega) rr with hx9 | ⟨n, hn1, hn2, rfl⟩
  · refine lv_aload_n hx hb dIx_remove_0 rfl (lv_at hl 0 rfl) ?_
    refine lv_iload_n hx hb dIx_remove_1 rfl (lv_at hl 1 rfl) ?_
    refine hw_callq (va_runV (As := [.int rr]) (rest := []) ⟨hx, hb, hml, hown, hts⟩ (c_Ix_thereB l D K X s.heap.size (a := a) (b0 := b0) (b1 := b1) (b2 := b2) (b3 := b3) (b4 := b4) (b5 := b5) (b6 := b6) (b7 := b7) (b8 := b8) (ni := its.length) (fs := fs) (qs := qs) (fi := fi) (x := rr) gx gi (by omega) (by assumption)) (cwV 1 hts (hwGood (hw_4 mm_190 mm_191 mm_192 mm_193 (hwAll mm_189))) rfl rfl rfl (by decide +kernel) ⟨Nat.le_of_ble_eq_true rfl, Nat.le_of_ble_eq_true rfl⟩) (hw_preV hK hO hZ (⟨_, _, gx⟩) rfl) rfl rfl hl.1 rfl (lv_room (Nat.le_of_ble_eq_true rfl)) dIx_remove_2 ⟨(show 0 + 0 ≤ 0 by omega), (show 0 + 0 ≤ 0 by omega)⟩) hZ hA (fun r X_1 H_2 lc_3 hp hZ => ?_)
    obtain ⟨hr, hy⟩ := hp
    subst hy
    refine hw_top (y := .null) (by rw [hr]; rfl) ?_
    refine lv_astore_nN (lv' := [(2, .null), (0, .ref a), (1, .int rr)]) hx hb dIx_remove_5 rfl hl (by decide) rfl (fun ls hl => ?_)
    refine lv_aload_nN hx hb dIx_remove_6 rfl (lv_at hl 0 rfl) ?_
    refine lv_ifnonnullN hx hb dIx_remove_7 ?_
    refine lv_iconst (v := nI 0) hx hb dIx_remove_10 (by decide) ?_
    exact hret hZ (by rw [remP_r (rN_bad (by omega) hx9)]; exact ⟨rfl, hFr, ⟨_, _, _, _, _, _, _, _, _, _, _, _, _, _, _, gx, gi, gt, gl, hfl, gq, gs, gh, ga, gf, gk, gc⟩⟩) dIx_remove_11
  · obtain ⟨b, hfb, q, f, gb, gq2, hg2⟩ := gt (n - 1) (by omega)
    cases hth : (its.getD (n - 1) hwIt0).1
    · rw [hth] at gb
      refine lv_aload_n hx hb dIx_remove_0 rfl (lv_at hl 0 rfl) ?_
      refine lv_iload_n hx hb dIx_remove_1 rfl (lv_at hl 1 rfl) ?_
      refine hw_callq (va_runV (As := [.int (nI n)]) (rest := []) ⟨hx, hb, hml, hown, hts⟩ (c_Ix_thereF l D K X s.heap.size (a := a) (b0 := b0) (b1 := b1) (b2 := b2) (b3 := b3) (b4 := b4) (b5 := b5) (b6 := b6) (b7 := b7) (b8 := b8) (ni := its.length) (fs := fs) (qs := qs) (fi := fi) (n := n) (th := false) (b := b) (q := q) gx gi gb (by omega) (by omega) (by omega) (by assumption) rfl) (cwV 1 hts (hwGood (hw_4 mm_190 mm_191 mm_192 mm_193 (hwAll mm_189))) rfl rfl rfl (by decide +kernel) ⟨Nat.le_of_ble_eq_true rfl, Nat.le_of_ble_eq_true rfl⟩) (hw_preV hK hO hZ (⟨_, _, gx⟩) rfl) rfl rfl hl.1 rfl (lv_room (Nat.le_of_ble_eq_true rfl)) dIx_remove_2 ⟨(show 0 + 0 ≤ 0 by omega), (show 0 + 0 ≤ 0 by omega)⟩) hZ hA (fun r X_4 H_5 lc_6 hp hZ => ?_)
      obtain ⟨hr, hy⟩ := hp
      subst hy
      refine hw_top (y := .null) (by rw [hr]; rfl) ?_
      refine lv_astore_nN (lv' := [(2, .null), (0, .ref a), (1, .int (nI n))]) hx hb dIx_remove_5 rfl hl (by decide) rfl (fun ls hl => ?_)
      refine lv_aload_nN hx hb dIx_remove_6 rfl (lv_at hl 0 rfl) ?_
      refine lv_ifnonnullN hx hb dIx_remove_7 ?_
      refine lv_iconst (v := nI 0) hx hb dIx_remove_10 (by decide) ?_
      exact hret hZ (by rw [remP_g (rN_nI hn1 hn2 (by omega)) hth]; exact ⟨rfl, hFr, ⟨_, _, _, _, _, _, _, _, _, _, _, _, _, _, _, gx, gi, gt, gl, hfl, gq, gs, gh, ga, gf, gk, gc⟩⟩) dIx_remove_11
    · rw [hth] at gb
      refine lv_aload_n hx hb dIx_remove_0 rfl (lv_at hl 0 rfl) ?_
      refine lv_iload_n hx hb dIx_remove_1 rfl (lv_at hl 1 rfl) ?_
      refine hw_callq (va_runV (As := [.int (nI n)]) (rest := []) ⟨hx, hb, hml, hown, hts⟩ (c_Ix_there l D K X s.heap.size (a := a) (b0 := b0) (b1 := b1) (b2 := b2) (b3 := b3) (b4 := b4) (b5 := b5) (b6 := b6) (b7 := b7) (b8 := b8) (ni := its.length) (fs := fs) (qs := qs) (fi := fi) (n := n) (th := true) (b := b) (q := q) gx gi gb (by omega) (by omega) (by omega) (by assumption) rfl) (cwV 1 hts (hwGood (hw_4 mm_190 mm_191 mm_192 mm_193 (hwAll mm_189))) rfl rfl rfl (by decide +kernel) ⟨Nat.le_of_ble_eq_true rfl, Nat.le_of_ble_eq_true rfl⟩) (hw_preV hK hO hZ (⟨_, _, gx⟩) rfl) rfl rfl hl.1 rfl (lv_room (Nat.le_of_ble_eq_true rfl)) dIx_remove_2 ⟨(show 0 + 0 ≤ 0 by omega), (show 0 + 0 ≤ 0 by omega)⟩) hZ hA (fun r X_7 H_8 lc_9 hp hZ => ?_)
      obtain ⟨hr, hy⟩ := hp
      subst hy
      refine hw_top (y := .ref b) (by rw [hr]; rfl) ?_
      refine lv_astore_n (lv' := [(2, .ref b), (0, .ref a), (1, .int (nI n))]) hx hb dIx_remove_5 rfl hl (by decide) rfl (fun ls hl => ?_)
      refine lv_aload_n hx hb dIx_remove_6 rfl (lv_at hl 0 rfl) ?_
      refine lv_ifnonnull (tgt := 12) hx hb dIx_remove_7 (by decide) ?_
      have hgt0 := gt
      refine lv_aload_n hx hb dIx_remove_12 rfl (lv_at hl 0 rfl) ?_
      refine lv_iconst (v := nI 0) hx hb dIx_remove_13 (by decide) ?_
      refine hw_putN (ty := .boolean) (fs' := [.ref q, .int (nI 0)]) hx hb hts (hwInn inItem) tyItem tyItem_ok nmItem hown hK hZ gb rfl 1 (by decide) (hO.2 _ (List.mem_of_getElem? (i := 3) rfl)) (fun _ h => h) rfl (by decide +kernel) (by decide) (by decide) (Nat.le_of_ble_eq_true rfl) rfl dIx_remove_14 (fun X_10 H_11 lc_12 hZ hF hNw => ?_)
      have hFr := hwF.tr hFr hF (fun _ h => h) (fun M h => by first | exact False.elim h | ((try dsimp only at h ⊢); omega))
      have gx := hF _ _ _ (by intro hNS; first | exact False.elim hNS | ((try dsimp only at hNS); omega)) gx
      have gi := hF _ _ _ (by intro hNS; first | exact False.elim hNS | ((try dsimp only at hNS); omega)) gi
      have gl := hF _ _ _ (by intro hNS; first | exact False.elim hNS | ((try dsimp only at hNS); omega)) gl
      have gq := txAt.fr hF (by intro hNS; first | exact False.elim hNS | ((try dsimp only at hNS); omega)) (by intro hNS; first | exact False.elim hNS | ((try dsimp only at hNS); omega)) gq
      have gs := seAt.fr hF (by intro hNS; first | exact False.elim hNS | ((try dsimp only at hNS); omega)) (by intro hNS; first | exact False.elim hNS | ((try dsimp only at hNS); omega)) gs
      have gh := hiAt.fr hF (by intro hNS; first | exact False.elim hNS | ((try dsimp only at hNS); omega)) (by intro hNS; first | exact False.elim hNS | ((try dsimp only at hNS); omega)) (by intro hNS; first | exact False.elim hNS | ((try dsimp only at hNS); omega)) (by intro hNS; first | exact False.elim hNS | ((try dsimp only at hNS); omega)) gh
      have ga := tmAt.fr hF (by intro hNS; first | exact False.elim hNS | ((try dsimp only at hNS); omega)) (by intro hNS; first | exact False.elim hNS | ((try dsimp only at hNS); omega)) ga
      have gf := tmAt.fr hF (by intro hNS; first | exact False.elim hNS | ((try dsimp only at hNS); omega)) (by intro hNS; first | exact False.elim hNS | ((try dsimp only at hNS); omega)) gf
      have gk := seAt.fr hF (by intro hNS; first | exact False.elim hNS | ((try dsimp only at hNS); omega)) (by intro hNS; first | exact False.elim hNS | ((try dsimp only at hNS); omega)) gk
      have gc := hF _ _ _ (by intro hNS; first | exact False.elim hNS | ((try dsimp only at hNS); omega)) gc
      have gb := hNw
      have gt := itsAt.rem hgt0 (by omega) hfb gq2 hg2 hF gb
      refine lv_iconst (v := nI 1) hx hb dIx_remove_17 (by decide) ?_
      exact hret hZ (by rw [remP_y (rN_nI hn1 hn2 (by omega)) hth]; exact ⟨rfl, hFr, ⟨_, _, _, _, _, _, _, _, _, _, _, _, _, _, _, (by rw [List.length_set]; exact gx), gi, gt, gl, hfl, gq, gs, gh, ga, gf, gk, gc⟩⟩) dIx_remove_18
set_option maxHeartbeats 4000000 in
set_option maxRecDepth 100000 in
theorem p_sign (l : Launch) (D : va_G) (K : Nat → ClassId) (X : hwW) (sz : Nat) (a : Nat) (its : hwIt) (fs : Nat) (lg : Nat → Nat) (qw : List (List Nat)) (qo : Nat) (qs : Nat) (ss : List (List Nat)) (hs : List (Nat × Nat × Nat)) (cc0 : Int32) (f0_ : ixAt K X a its fs lg qw qo qs ss hs) (ok : okS its fs lg qw qo qs ss) : Met l yIx_sign (.code yIx_sign cIx_sign 2 none :: hwG) ({ frames := 4, cells := 1, slots := 1300, locals := 91 } : Room) (hwPc D vwCl (hwT K) [.ref a, .int cc0] X sz) (hwQv D vwCl X sz (fun Y => hwF X Y (fun M => M < 1000) ∧ ixAt K Y a its fs lg (sgnP qw qo qs cc0).1.1 (sgnP qw qo qs cc0).1.2 (sgnP qw qo qs cc0).2 ss hs)) 1 1300 (va_A X.1 sz) := by
  refine hwMetv (cc := cIx_sign) (maxL := 2) (by decide) rfl (Nat.le_of_ble_eq_true rfl) (fun p e s m args below meth c ls A Q hx hb hml hown hts hname hret hK hO hZ hA hl => ?_)
  have hl : lv_has ls 2 [(0, .ref a), (1, .int cc0)] := hl
  have hFr : hwF X X (fun M => M < 1000) := hwF.rf
  obtain ⟨hni3, hTG, hfs, hlg, hsss, hqG, hq2, hqs⟩ := ok
  have hok := okIt_of hTG hfs
  have hq50 : qw.length ≤ 50 := by split at hq2 <;> omega
  have hne := hqG.1
  obtain ⟨b0, b1, b2, b3, b4, b5, b6, b7, b8, fi, fl, ta, tf, tl, fc, gx, gi, gt, gl, hfl, gq, gs, gh, ga, gf, gk, gc⟩ := f0_
  have hQ2 := fun j => okWs.at (txAt.oks gq) j
  refine lv_aload_n hx hb dIx_sign_0 rfl (lv_at hl 0 rfl) ?_
  refine hw_get hx hb hts (hwInn inIx) hown hK hZ gx rfl 5 (by decide) (hts (.fieldLink RIx 81 RIx "questionSigns" "I") (hwMem mm_204)) (fun _ h => h) rfl dIx_sign_1 ?_
  refine lv_bipush (v := nI 100) hx hb dIx_sign_4 (by decide) ?_
  refine hw_ic_ge (a := qs) (b := 100) (tgt := 27) hx hb dIx_sign_6 (by decide) (by omega) (by omega) (fun cq_1 => ?_) (fun cq_1 => ?_)
  · refine W.widen (k := 1) (n := 1300) (by omega) (by omega) ?_
    exact hret hZ (by unfold sgnP; rw [if_neg (by omega)]; exact ⟨hFr, ⟨_, _, _, _, _, _, _, _, _, _, _, _, _, _, _, gx, gi, gt, gl, hfl, gq, gs, gh, ga, gf, gk, gc⟩⟩) dIx_sign_27
  · refine lv_aload_n hx hb dIx_sign_9 rfl (lv_at hl 0 rfl) ?_
    refine hw_get hx hb hts (hwInn inIx) hown hK hZ gx rfl 4 (by decide) (hts (.fieldLink RIx 22 RIx "question" "LWordIndex2$Text;") (hwMem mm_199)) (fun _ h => h) rfl dIx_sign_10 ?_
    refine lv_iload_n hx hb dIx_sign_13 rfl (lv_at hl 1 rfl) ?_
    refine hw_callv (va_runV (As := [.int cc0]) (rest := []) ⟨hx, hb, hml, hown, hts⟩ (c_Tx_take l D K X s.heap.size (a := b2) (k := 5) (ws := qw) (o := qo) (c0 := cc0) gq (by omega) hqG) (cwV 1 hts (hwGood (hw_4 mm_288 mm_289 mm_290 mm_45 (hwAll mm_287))) rfl rfl rfl (by decide +kernel) ⟨Nat.le_of_ble_eq_true rfl, Nat.le_of_ble_eq_true rfl⟩) (hw_preV hK hO hZ (txAt.ob gq) rfl) rfl rfl hl.1 rfl (lv_room (Nat.le_of_ble_eq_true rfl)) dIx_sign_14 ⟨(show 0 + 1 ≤ 1 by omega), (show 0 + 1300 ≤ 1300 by omega)⟩) hZ hA (fun X_2 H_3 lc_4 hp hZ => ?_)
    obtain ⟨hF, hN_5⟩ := hp
    have hFr := hwF.tr hFr hF (fun _ h => h) (fun M h => by first | exact False.elim h | ((try dsimp only at h ⊢); omega))
    have gx := hF _ _ _ (by intro hNS; first | exact False.elim hNS | ((try dsimp only at hNS); omega)) gx
    have gi := hF _ _ _ (by intro hNS; first | exact False.elim hNS | ((try dsimp only at hNS); omega)) gi
    have gt := itsAt.fr hF (fun M h1 h2 hNS => by first | exact False.elim hNS | ((try dsimp only at hNS); omega)) gt
    have gl := hF _ _ _ (by intro hNS; first | exact False.elim hNS | ((try dsimp only at hNS); omega)) gl
    have gs := seAt.fr hF (by intro hNS; first | exact False.elim hNS | ((try dsimp only at hNS); omega)) (by intro hNS; first | exact False.elim hNS | ((try dsimp only at hNS); omega)) gs
    have gh := hiAt.fr hF (by intro hNS; first | exact False.elim hNS | ((try dsimp only at hNS); omega)) (by intro hNS; first | exact False.elim hNS | ((try dsimp only at hNS); omega)) (by intro hNS; first | exact False.elim hNS | ((try dsimp only at hNS); omega)) (by intro hNS; first | exact False.elim hNS | ((try dsimp only at hNS); omega)) gh
    have ga := tmAt.fr hF (by intro hNS; first | exact False.elim hNS | ((try dsimp only at hNS); omega)) (by intro hNS; first | exact False.elim hNS | ((try dsimp only at hNS); omega)) ga
    have gf := tmAt.fr hF (by intro hNS; first | exact False.elim hNS | ((try dsimp only at hNS); omega)) (by intro hNS; first | exact False.elim hNS | ((try dsimp only at hNS); omega)) gf
    have gk := seAt.fr hF (by intro hNS; first | exact False.elim hNS | ((try dsimp only at hNS); omega)) (by intro hNS; first | exact False.elim hNS | ((try dsimp only at hNS); omega)) gk
    have gc := hF _ _ _ (by intro hNS; first | exact False.elim hNS | ((try dsimp only at hNS); omega)) gc
    have ff_6 := hN_5
    refine lv_aload_n hx hb dIx_sign_17 rfl (lv_at hl 0 rfl) ?_
    refine lv_dup hx hb dIx_sign_18 rfl ?_
    refine hw_get hx hb hts (hwInn inIx) hown hK hZ gx rfl 5 (by decide) (hts (.fieldLink RIx 81 RIx "questionSigns" "I") (hwMem mm_204)) (fun _ h => h) rfl dIx_sign_19 ?_
    refine lv_iconst (v := nI 1) hx hb dIx_sign_22 (by decide) ?_
    refine lv_iadd hx hb dIx_sign_23 ?_
    refine hw_topi (nI_add qs 1) ?_
    refine hw_put (ty := .int) (fs' := [.ref b0, .int (nI its.length), .int (nI fs), .ref b1, .ref b2, .int (nI (qs + 1)), .ref b3, .ref b4, .ref b5, .ref b6, .ref b7, .ref b8]) hx hb hts (hwInn inIx) tyIx tyIx_ok nmIx hown hK hZ gx rfl 5 (by decide) (hts (.fieldLink RIx 81 RIx "questionSigns" "I") (hwMem mm_204)) (fun _ h => h) rfl (by decide +kernel) rfl rfl (Nat.le_of_ble_eq_true rfl) rfl dIx_sign_24 (fun X_7 H_8 lc_9 hZ hF hNw => ?_)
    have hFr := hwF.tr hFr hF (fun _ h => h) (fun M h => by first | exact False.elim h | ((try dsimp only at h ⊢); omega))
    have gx := hNw
    have gi := hF _ _ _ (by intro hNS; first | exact False.elim hNS | ((try dsimp only at hNS); omega)) gi
    have gt := itsAt.fr hF (fun M h1 h2 hNS => by first | exact False.elim hNS | ((try dsimp only at hNS); omega)) gt
    have gl := hF _ _ _ (by intro hNS; first | exact False.elim hNS | ((try dsimp only at hNS); omega)) gl
    have gs := seAt.fr hF (by intro hNS; first | exact False.elim hNS | ((try dsimp only at hNS); omega)) (by intro hNS; first | exact False.elim hNS | ((try dsimp only at hNS); omega)) gs
    have gh := hiAt.fr hF (by intro hNS; first | exact False.elim hNS | ((try dsimp only at hNS); omega)) (by intro hNS; first | exact False.elim hNS | ((try dsimp only at hNS); omega)) (by intro hNS; first | exact False.elim hNS | ((try dsimp only at hNS); omega)) (by intro hNS; first | exact False.elim hNS | ((try dsimp only at hNS); omega)) gh
    have ga := tmAt.fr hF (by intro hNS; first | exact False.elim hNS | ((try dsimp only at hNS); omega)) (by intro hNS; first | exact False.elim hNS | ((try dsimp only at hNS); omega)) ga
    have gf := tmAt.fr hF (by intro hNS; first | exact False.elim hNS | ((try dsimp only at hNS); omega)) (by intro hNS; first | exact False.elim hNS | ((try dsimp only at hNS); omega)) gf
    have gk := seAt.fr hF (by intro hNS; first | exact False.elim hNS | ((try dsimp only at hNS); omega)) (by intro hNS; first | exact False.elim hNS | ((try dsimp only at hNS); omega)) gk
    have gc := hF _ _ _ (by intro hNS; first | exact False.elim hNS | ((try dsimp only at hNS); omega)) gc
    have ff_6 := txAt.fr hF (by intro hNS; first | exact False.elim hNS | ((try dsimp only at hNS); omega)) (by intro hNS; first | exact False.elim hNS | ((try dsimp only at hNS); omega)) ff_6
    refine W.widen (k := 1) (n := 1300) (by omega) (by omega) ?_
    exact hret hZ (by unfold sgnP; rw [if_pos (by omega)]; exact ⟨hFr, ⟨_, _, _, _, _, _, _, _, _, _, _, _, _, _, _, gx, gi, gt, gl, hfl, ff_6, gs, gh, ga, gf, gk, gc⟩⟩) dIx_sign_27
end
