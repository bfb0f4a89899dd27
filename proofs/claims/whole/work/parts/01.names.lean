def RHits : String := "WordIndex2$Hits"
def THits : u_T := fun k => match k with
  | 0 => ("WordIndex2$Hits", "numbers", "[I", true)
  | 1 => ("WordIndex2$Hits", "counts", "[I", true)
  | 2 => ("WordIndex2$Hits", "sizes", "[I", true)
  | _ => ("WordIndex2$Hits", "count", "I", false)
def tyHits : Nat → FieldType := fun k => match k with
  | 0 => .array .int
  | 1 => .array .int
  | 2 => .array .int
  | _ => .int
abbrev wsHits0 : List Cond := u_ws RHits THits 4
theorem nmHits : ∀ a, a < 4 → ∀ b, b < 4 → a ≠ b → (THits a).2.1 ≠ (THits b).2.1 := by decide +kernel
theorem tyHits_ok : ∀ k, k < 4 → parseFieldDescriptor (THits k).2.2.1 = some (tyHits k) := by decide +kernel
def RItem : String := "WordIndex2$Item"
def TItem : u_T := fun k => match k with
  | 0 => ("WordIndex2$Item", "texts", "[LWordIndex2$Text;", true)
  | _ => ("WordIndex2$Item", "there", "Z", false)
def tyItem : Nat → FieldType := fun k => match k with
  | 0 => .array (.object "WordIndex2$Text")
  | _ => .boolean
abbrev wsItem0 : List Cond := u_ws RItem TItem 2
theorem nmItem : ∀ a, a < 2 → ∀ b, b < 2 → a ≠ b → (TItem a).2.1 ≠ (TItem b).2.1 := by decide +kernel
theorem tyItem_ok : ∀ k, k < 2 → parseFieldDescriptor (TItem k).2.2.1 = some (tyItem k) := by decide +kernel
def RTerms : String := "WordIndex2$Terms"
def TTerms : u_T := fun k => match k with
  | 0 => ("WordIndex2$Terms", "terms", "[J", true)
  | _ => ("WordIndex2$Terms", "count", "I", false)
def tyTerms : Nat → FieldType := fun k => match k with
  | 0 => .array .long
  | _ => .int
abbrev wsTerms0 : List Cond := u_ws RTerms TTerms 2
theorem nmTerms : ∀ a, a < 2 → ∀ b, b < 2 → a ≠ b → (TTerms a).2.1 ≠ (TTerms b).2.1 := by decide +kernel
theorem tyTerms_ok : ∀ k, k < 2 → parseFieldDescriptor (TTerms k).2.2.1 = some (tyTerms k) := by decide +kernel
def RText : String := "WordIndex2$Text"
def TText : u_T := fun k => match k with
  | 0 => ("WordIndex2$Text", "words", "[J", false)
  | 1 => ("WordIndex2$Text", "count", "I", false)
  | _ => ("WordIndex2$Text", "openLetters", "I", false)
def tyText : Nat → FieldType := fun k => match k with
  | 0 => .array .long
  | 1 => .int
  | _ => .int
abbrev wsText0 : List Cond := u_ws RText TText 3
theorem nmText : ∀ a, a < 3 → ∀ b, b < 3 → a ≠ b → (TText a).2.1 ≠ (TText b).2.1 := by decide +kernel
theorem tyText_ok : ∀ k, k < 3 → parseFieldDescriptor (TText k).2.2.1 = some (tyText k) := by decide +kernel
def RWordSet : String := "WordIndex2$WordSet"
def TWordSet : u_T := fun k => match k with
  | 0 => ("WordIndex2$WordSet", "words", "[J", true)
  | _ => ("WordIndex2$WordSet", "count", "I", false)
def tyWordSet : Nat → FieldType := fun k => match k with
  | 0 => .array .long
  | _ => .int
abbrev wsWordSet0 : List Cond := u_ws RWordSet TWordSet 2
theorem nmWordSet : ∀ a, a < 2 → ∀ b, b < 2 → a ≠ b → (TWordSet a).2.1 ≠ (TWordSet b).2.1 := by decide +kernel
theorem tyWordSet_ok : ∀ k, k < 2 → parseFieldDescriptor (TWordSet k).2.2.1 = some (tyWordSet k) := by decide +kernel
def RIx : String := "WordIndex2"
def TIx : u_T := fun k => match k with
  | 0 => ("WordIndex2", "items", "[LWordIndex2$Item;", true)
  | 1 => ("WordIndex2", "itemCount", "I", false)
  | 2 => ("WordIndex2", "fieldSigns", "I", false)
  | 3 => ("WordIndex2", "languages", "[I", true)
  | 4 => ("WordIndex2", "question", "LWordIndex2$Text;", true)
  | 5 => ("WordIndex2", "questionSigns", "I", false)
  | 6 => ("WordIndex2", "stops", "LWordIndex2$WordSet;", true)
  | 7 => ("WordIndex2", "hits", "LWordIndex2$Hits;", true)
  | 8 => ("WordIndex2", "asked", "LWordIndex2$Terms;", true)
  | 9 => ("WordIndex2", "fieldTerms", "LWordIndex2$Terms;", true)
  | 10 => ("WordIndex2", "listed", "LWordIndex2$WordSet;", true)
  | _ => ("WordIndex2", "costs", "[I", true)
def tyIx : Nat → FieldType := fun k => match k with
  | 0 => .array (.object "WordIndex2$Item")
  | 1 => .int
  | 2 => .int
  | 3 => .array .int
  | 4 => .object "WordIndex2$Text"
  | 5 => .int
  | 6 => .object "WordIndex2$WordSet"
  | 7 => .object "WordIndex2$Hits"
  | 8 => .object "WordIndex2$Terms"
  | 9 => .object "WordIndex2$Terms"
  | 10 => .object "WordIndex2$WordSet"
  | _ => .array .int
abbrev wsIx0 : List Cond := u_ws RIx TIx 12
theorem nmIx : ∀ a, a < 12 → ∀ b, b < 12 → a ≠ b → (TIx a).2.1 ≠ (TIx b).2.1 := by decide +kernel
theorem tyIx_ok : ∀ k, k < 12 → parseFieldDescriptor (TIx k).2.2.1 = some (tyIx k) := by decide +kernel
def RAllSearch : String := "WordIndex2$AllSearch"
def TAllSearch : u_T := fun k => match k with
  | _ => ("WordIndex2$AllSearch", "asked", "LWordIndex2$Terms;", true)
def tyAllSearch : Nat → FieldType := fun k => match k with
  | _ => .object "WordIndex2$Terms"
abbrev wsAllSearch0 : List Cond := u_ws RAllSearch TAllSearch 1
theorem nmAllSearch : ∀ a, a < 1 → ∀ b, b < 1 → a ≠ b → (TAllSearch a).2.1 ≠ (TAllSearch b).2.1 := by decide +kernel
theorem tyAllSearch_ok : ∀ k, k < 1 → parseFieldDescriptor (TAllSearch k).2.2.1 = some (tyAllSearch k) := by decide +kernel
def RPhraseSearch : String := "WordIndex2$PhraseSearch"
def TPhraseSearch : u_T := fun k => match k with
  | _ => ("WordIndex2$PhraseSearch", "asked", "LWordIndex2$Terms;", true)
def tyPhraseSearch : Nat → FieldType := fun k => match k with
  | _ => .object "WordIndex2$Terms"
abbrev wsPhraseSearch0 : List Cond := u_ws RPhraseSearch TPhraseSearch 1
theorem nmPhraseSearch : ∀ a, a < 1 → ∀ b, b < 1 → a ≠ b → (TPhraseSearch a).2.1 ≠ (TPhraseSearch b).2.1 := by decide +kernel
theorem tyPhraseSearch_ok : ∀ k, k < 1 → parseFieldDescriptor (TPhraseSearch k).2.2.1 = some (tyPhraseSearch k) := by decide +kernel
def RNearSearch : String := "WordIndex2$NearSearch"
def TNearSearch : u_T := fun k => match k with
  | 0 => ("WordIndex2$NearSearch", "first", "J", true)
  | 1 => ("WordIndex2$NearSearch", "second", "J", true)
  | _ => ("WordIndex2$NearSearch", "distance", "I", true)
def tyNearSearch : Nat → FieldType := fun k => match k with
  | 0 => .long
  | 1 => .long
  | _ => .int
abbrev wsNearSearch0 : List Cond := u_ws RNearSearch TNearSearch 3
theorem nmNearSearch : ∀ a, a < 3 → ∀ b, b < 3 → a ≠ b → (TNearSearch a).2.1 ≠ (TNearSearch b).2.1 := by decide +kernel
theorem tyNearSearch_ok : ∀ k, k < 3 → parseFieldDescriptor (TNearSearch k).2.2.1 = some (tyNearSearch k) := by decide +kernel
def RWildSearch : String := "WordIndex2$WildSearch"
def TWildSearch : u_T := fun k => match k with
  | 0 => ("WordIndex2$WildSearch", "word", "J", true)
  | _ => ("WordIndex2$WildSearch", "end", "Z", true)
def tyWildSearch : Nat → FieldType := fun k => match k with
  | 0 => .long
  | _ => .boolean
abbrev wsWildSearch0 : List Cond := u_ws RWildSearch TWildSearch 2
theorem nmWildSearch : ∀ a, a < 2 → ∀ b, b < 2 → a ≠ b → (TWildSearch a).2.1 ≠ (TWildSearch b).2.1 := by decide +kernel
theorem tyWildSearch_ok : ∀ k, k < 2 → parseFieldDescriptor (TWildSearch k).2.2.1 = some (tyWildSearch k) := by decide +kernel
def RMo : String := "WordIndex2Model"
def TMo : u_T := fun k => match k with
  | 0 => ("WordIndex2Model", "thrown", "I", false)
  | 1 => ("WordIndex2Model", "records", "I", false)
  | 2 => ("WordIndex2Model", "there", "[Z", true)
  | 3 => ("WordIndex2Model", "signs", "I", false)
  | 4 => ("WordIndex2Model", "sign", "[B", true)
  | 5 => ("WordIndex2Model", "place", "[I", true)
  | 6 => ("WordIndex2Model", "languages", "[I", true)
  | 7 => ("WordIndex2Model", "stops", "[J", true)
  | 8 => ("WordIndex2Model", "stopCount", "I", false)
  | 9 => ("WordIndex2Model", "said", "[B", true)
  | 10 => ("WordIndex2Model", "size", "I", false)
  | 11 => ("WordIndex2Model", "asked", "[J", true)
  | 12 => ("WordIndex2Model", "askedCount", "I", false)
  | 13 => ("WordIndex2Model", "row", "[J", true)
  | 14 => ("WordIndex2Model", "rowTerm", "[J", true)
  | 15 => ("WordIndex2Model", "askedTerm", "[J", true)
  | 16 => ("WordIndex2Model", "rowCount", "I", false)
  | 17 => ("WordIndex2Model", "hits", "I", false)
  | 18 => ("WordIndex2Model", "hitRecord", "[I", true)
  | 19 => ("WordIndex2Model", "hitCount", "[I", true)
  | 20 => ("WordIndex2Model", "hitWords", "[I", true)
  | 21 => ("WordIndex2Model", "terms", "[J", true)
  | 22 => ("WordIndex2Model", "termCount", "I", false)
  | _ => ("WordIndex2Model", "table", "[I", true)
def tyMo : Nat → FieldType := fun k => match k with
  | 0 => .int
  | 1 => .int
  | 2 => .array .boolean
  | 3 => .int
  | 4 => .array .byte
  | 5 => .array .int
  | 6 => .array .int
  | 7 => .array .long
  | 8 => .int
  | 9 => .array .byte
  | 10 => .int
  | 11 => .array .long
  | 12 => .int
  | 13 => .array .long
  | 14 => .array .long
  | 15 => .array .long
  | 16 => .int
  | 17 => .int
  | 18 => .array .int
  | 19 => .array .int
  | 20 => .array .int
  | 21 => .array .long
  | 22 => .int
  | _ => .array .int
abbrev wsMo0 : List Cond := u_ws RMo TMo 24
theorem nmMo : ∀ a, a < 24 → ∀ b, b < 24 → a ≠ b → (TMo a).2.1 ≠ (TMo b).2.1 := by decide +kernel
theorem tyMo_ok : ∀ k, k < 24 → parseFieldDescriptor (TMo k).2.2.1 = some (tyMo k) := by decide +kernel
def RSearch : String := "WordIndex2$Search"
def RWord : String := "WordIndex2$Word"
def RArrays : String := "java/util/Arrays"
abbrev cIx_init : ByteArray := prog_1_method_1_code
def yIx_init : MethodName := ⟨RIx, "<init>", "()V"⟩
abbrev cText_init : ByteArray := prog_9_method_1_code
def yText_init : MethodName := ⟨RText, "<init>", "()V"⟩
abbrev cWordSet_init : ByteArray := prog_12_method_1_code
def yWordSet_init : MethodName := ⟨RWordSet, "<init>", "(I)V"⟩
abbrev cHits_init : ByteArray := prog_3_method_1_code
def yHits_init : MethodName := ⟨RHits, "<init>", "()V"⟩
abbrev cTerms_init : ByteArray := prog_8_method_1_code
def yTerms_init : MethodName := ⟨RTerms, "<init>", "(I)V"⟩
abbrev cIx_record : ByteArray := prog_1_method_2_code
def yIx_record : MethodName := ⟨RIx, "record", "()I"⟩
abbrev cItem_init : ByteArray := prog_4_method_1_code
def yItem_init : MethodName := ⟨RItem, "<init>", "()V"⟩
abbrev cIx_field : ByteArray := prog_1_method_3_code
def yIx_field : MethodName := ⟨RIx, "field", "(III)V"⟩
abbrev cIx_textOf : ByteArray := prog_1_method_18_code
def yIx_textOf : MethodName := ⟨RIx, "textOf", "(II)LWordIndex2$Text;"⟩
abbrev cIx_itemThere : ByteArray := prog_1_method_17_code
def yIx_itemThere : MethodName := ⟨RIx, "itemThere", "(I)LWordIndex2$Item;"⟩
abbrev cItem_textAt : ByteArray := prog_4_method_2_code
def yItem_textAt : MethodName := ⟨RItem, "textAt", "(I)LWordIndex2$Text;"⟩
abbrev cText_take : ByteArray := prog_9_method_5_code
def yText_take : MethodName := ⟨RText, "take", "(I)V"⟩
abbrev cWord_letterOf : ByteArray := prog_11_method_2_code
def yWord_letterOf : MethodName := ⟨RWord, "letterOf", "(I)I"⟩
abbrev cText_beginWord : ByteArray := prog_9_method_6_code
def yText_beginWord : MethodName := ⟨RText, "beginWord", "()V"⟩
abbrev cArrays_copyOf : ByteArray := prog_18_method_124_code
def yArrays_copyOf : MethodName := ⟨RArrays, "copyOf", "([JI)[J"⟩
abbrev cWord_with : ByteArray := prog_11_method_3_code
def yWord_with : MethodName := ⟨RWord, "with", "(JII)J"⟩
abbrev cWord_shift : ByteArray := prog_11_method_12_code
def yWord_shift : MethodName := ⟨RWord, "shift", "(I)I"⟩
abbrev cIx_remove : ByteArray := prog_1_method_4_code
def yIx_remove : MethodName := ⟨RIx, "remove", "(I)I"⟩
abbrev cIx_sign : ByteArray := prog_1_method_5_code
def yIx_sign : MethodName := ⟨RIx, "sign", "(I)V"⟩
abbrev cIx_ask : ByteArray := prog_1_method_6_code
def yIx_ask : MethodName := ⟨RIx, "ask", "(I)I"⟩
abbrev cIx_startSearch : ByteArray := prog_1_method_20_code
def yIx_startSearch : MethodName := ⟨RIx, "startSearch", "(I)V"⟩
abbrev cHits_clear : ByteArray := prog_3_method_6_code
def yHits_clear : MethodName := ⟨RHits, "clear", "()V"⟩
abbrev cTerms_clear : ByteArray := prog_8_method_4_code
def yTerms_clear : MethodName := ⟨RTerms, "clear", "()V"⟩
abbrev cIx_isKind : ByteArray := prog_1_method_16_code
def yIx_isKind : MethodName := ⟨RIx, "isKind", "(I)Z"⟩
abbrev cTerms_read : ByteArray := prog_8_method_5_code
def yTerms_read : MethodName := ⟨RTerms, "read", "(LWordIndex2$Text;ILWordIndex2$WordSet;)V"⟩
abbrev cText_size : ByteArray := prog_9_method_2_code
def yText_size : MethodName := ⟨RText, "size", "()I"⟩
abbrev cText_wordAt : ByteArray := prog_9_method_3_code
def yText_wordAt : MethodName := ⟨RText, "wordAt", "(I)J"⟩
abbrev cWordSet_has : ByteArray := prog_12_method_5_code
def yWordSet_has : MethodName := ⟨RWordSet, "has", "(J)Z"⟩
abbrev cWordSet_placeOf : ByteArray := prog_12_method_7_code
def yWordSet_placeOf : MethodName := ⟨RWordSet, "placeOf", "(J)I"⟩
abbrev cWordSet_at : ByteArray := prog_12_method_3_code
def yWordSet_at : MethodName := ⟨RWordSet, "at", "(I)J"⟩
abbrev cWord_stem : ByteArray := prog_11_method_7_code
def yWord_stem : MethodName := ⟨RWord, "stem", "(JI)J"⟩
abbrev cWord_length : ByteArray := prog_11_method_6_code
def yWord_length : MethodName := ⟨RWord, "length", "(J)I"⟩
abbrev cWord_letterAt : ByteArray := prog_11_method_4_code
def yWord_letterAt : MethodName := ⟨RWord, "letterAt", "(JI)I"⟩
abbrev cWord_firstLetters : ByteArray := prog_11_method_13_code
def yWord_firstLetters : MethodName := ⟨RWord, "firstLetters", "(JI)J"⟩
abbrev cIx_clearQuestion : ByteArray := prog_1_method_19_code
def yIx_clearQuestion : MethodName := ⟨RIx, "clearQuestion", "()V"⟩
abbrev cText_clear : ByteArray := prog_9_method_4_code
def yText_clear : MethodName := ⟨RText, "clear", "()V"⟩
abbrev cAllSearch_init : ByteArray := prog_2_method_1_code
def yAllSearch_init : MethodName := ⟨RAllSearch, "<init>", "(LWordIndex2$Terms;)V"⟩
abbrev cSearch_init : ByteArray := prog_7_method_1_code
def ySearch_init : MethodName := ⟨RSearch, "<init>", "()V"⟩
abbrev cIx_gather : ByteArray := prog_1_method_21_code
def yIx_gather : MethodName := ⟨RIx, "gather", "(ILWordIndex2$Search;)I"⟩
abbrev cIx_readField : ByteArray := prog_1_method_22_code
def yIx_readField : MethodName := ⟨RIx, "readField", "(II)Z"⟩
abbrev cSearch_countIn : ByteArray := prog_7_method_4_code
def ySearch_countIn : MethodName := ⟨RSearch, "countIn", "(LWordIndex2$Terms;)I"⟩
abbrev cTerms_size : ByteArray := prog_8_method_2_code
def yTerms_size : MethodName := ⟨RTerms, "size", "()I"⟩
abbrev cTerms_at : ByteArray := prog_8_method_3_code
def yTerms_at : MethodName := ⟨RTerms, "at", "(I)J"⟩
abbrev cAllSearch_wants : ByteArray := prog_2_method_3_code
def yAllSearch_wants : MethodName := ⟨RAllSearch, "wants", "(J)Z"⟩
abbrev cTerms_has : ByteArray := prog_8_method_6_code
def yTerms_has : MethodName := ⟨RTerms, "has", "(J)Z"⟩
abbrev cNearSearch_wants : ByteArray := prog_5_method_3_code
def yNearSearch_wants : MethodName := ⟨RNearSearch, "wants", "(J)Z"⟩
abbrev cPhraseSearch_wants : ByteArray := prog_6_method_3_code
def yPhraseSearch_wants : MethodName := ⟨RPhraseSearch, "wants", "(J)Z"⟩
abbrev cWildSearch_wants : ByteArray := prog_10_method_3_code
def yWildSearch_wants : MethodName := ⟨RWildSearch, "wants", "(J)Z"⟩
abbrev cWord_endsWith : ByteArray := prog_11_method_9_code
def yWord_endsWith : MethodName := ⟨RWord, "endsWith", "(JJ)Z"⟩
abbrev cWord_beginsWith : ByteArray := prog_11_method_8_code
def yWord_beginsWith : MethodName := ⟨RWord, "beginsWith", "(JJ)Z"⟩
abbrev cAllSearch_meets : ByteArray := prog_2_method_2_code
def yAllSearch_meets : MethodName := ⟨RAllSearch, "meets", "(LWordIndex2$Terms;)Z"⟩
abbrev cNearSearch_meets : ByteArray := prog_5_method_2_code
def yNearSearch_meets : MethodName := ⟨RNearSearch, "meets", "(LWordIndex2$Terms;)Z"⟩
abbrev cNearSearch_secondIsBeside : ByteArray := prog_5_method_4_code
def yNearSearch_secondIsBeside : MethodName := ⟨RNearSearch, "secondIsBeside", "(LWordIndex2$Terms;I)Z"⟩
abbrev cPhraseSearch_meets : ByteArray := prog_6_method_2_code
def yPhraseSearch_meets : MethodName := ⟨RPhraseSearch, "meets", "(LWordIndex2$Terms;)Z"⟩
abbrev cPhraseSearch_standsAt : ByteArray := prog_6_method_4_code
def yPhraseSearch_standsAt : MethodName := ⟨RPhraseSearch, "standsAt", "(LWordIndex2$Terms;I)Z"⟩
abbrev cWildSearch_meets : ByteArray := prog_10_method_2_code
def yWildSearch_meets : MethodName := ⟨RWildSearch, "meets", "(LWordIndex2$Terms;)Z"⟩
abbrev cHits_add : ByteArray := prog_3_method_7_code
def yHits_add : MethodName := ⟨RHits, "add", "(III)V"⟩
abbrev cHits_isGreater : ByteArray := prog_3_method_8_code
def yHits_isGreater : MethodName := ⟨RHits, "isGreater", "(III)Z"⟩
abbrev cHits_sizeAt : ByteArray := prog_3_method_5_code
def yHits_sizeAt : MethodName := ⟨RHits, "sizeAt", "(I)I"⟩
abbrev cHits_isHit : ByteArray := prog_3_method_9_code
def yHits_isHit : MethodName := ⟨RHits, "isHit", "(I)Z"⟩
abbrev cHits_countAt : ByteArray := prog_3_method_4_code
def yHits_countAt : MethodName := ⟨RHits, "countAt", "(I)I"⟩
abbrev cHits_size : ByteArray := prog_3_method_2_code
def yHits_size : MethodName := ⟨RHits, "size", "()I"⟩
abbrev cIx_phrase : ByteArray := prog_1_method_7_code
def yIx_phrase : MethodName := ⟨RIx, "phrase", "(I)I"⟩
abbrev cPhraseSearch_init : ByteArray := prog_6_method_1_code
def yPhraseSearch_init : MethodName := ⟨RPhraseSearch, "<init>", "(LWordIndex2$Terms;)V"⟩
abbrev cIx_near : ByteArray := prog_1_method_8_code
def yIx_near : MethodName := ⟨RIx, "near", "(II)I"⟩
abbrev cNearSearch_init : ByteArray := prog_5_method_1_code
def yNearSearch_init : MethodName := ⟨RNearSearch, "<init>", "(JJI)V"⟩
abbrev cIx_wild : ByteArray := prog_1_method_9_code
def yIx_wild : MethodName := ⟨RIx, "wild", "(IZ)I"⟩
abbrev cWildSearch_init : ByteArray := prog_10_method_1_code
def yWildSearch_init : MethodName := ⟨RWildSearch, "<init>", "(JZ)V"⟩
abbrev cIx_hit : ByteArray := prog_1_method_10_code
def yIx_hit : MethodName := ⟨RIx, "hit", "(II)I"⟩
abbrev cHits_numberAt : ByteArray := prog_3_method_3_code
def yHits_numberAt : MethodName := ⟨RHits, "numberAt", "(I)I"⟩
abbrev cIx_rank : ByteArray := prog_1_method_11_code
def yIx_rank : MethodName := ⟨RIx, "rank", "(II)J"⟩
abbrev cIx_commonDivisor : ByteArray := prog_1_method_25_code
def yIx_commonDivisor : MethodName := ⟨RIx, "commonDivisor", "(II)I"⟩
abbrev cIx_term : ByteArray := prog_1_method_12_code
def yIx_term : MethodName := ⟨RIx, "term", "(III)I"⟩
abbrev cIx_listTerms : ByteArray := prog_1_method_23_code
def yIx_listTerms : MethodName := ⟨RIx, "listTerms", "(I)V"⟩
abbrev cWordSet_clear : ByteArray := prog_12_method_4_code
def yWordSet_clear : MethodName := ⟨RWordSet, "clear", "()V"⟩
abbrev cIx_listFieldTerms : ByteArray := prog_1_method_24_code
def yIx_listFieldTerms : MethodName := ⟨RIx, "listFieldTerms", "()V"⟩
abbrev cWordSet_add : ByteArray := prog_12_method_6_code
def yWordSet_add : MethodName := ⟨RWordSet, "add", "(J)V"⟩
abbrev cWord_signAt : ByteArray := prog_11_method_5_code
def yWord_signAt : MethodName := ⟨RWord, "signAt", "(JI)I"⟩
abbrev cIx_nearest : ByteArray := prog_1_method_13_code
def yIx_nearest : MethodName := ⟨RIx, "nearest", "(I)I"⟩
abbrev cWordSet_size : ByteArray := prog_12_method_2_code
def yWordSet_size : MethodName := ⟨RWordSet, "size", "()I"⟩
abbrev cWord_distance : ByteArray := prog_11_method_10_code
def yWord_distance : MethodName := ⟨RWord, "distance", "(JJ[I)I"⟩
abbrev cWord_nextCosts : ByteArray := prog_11_method_11_code
def yWord_nextCosts : MethodName := ⟨RWord, "nextCosts", "(IJI[I)V"⟩
abbrev cIx_stop : ByteArray := prog_1_method_14_code
def yIx_stop : MethodName := ⟨RIx, "stop", "()I"⟩
abbrev cIx_language : ByteArray := prog_1_method_15_code
def yIx_language : MethodName := ⟨RIx, "language", "(II)I"⟩
abbrev cMo_init : ByteArray := prog_14_method_1_code
def yMo_init : MethodName := ⟨RMo, "<init>", "()V"⟩
abbrev cMo_record : ByteArray := prog_14_method_3_code
def yMo_record : MethodName := ⟨RMo, "record", "()I"⟩
abbrev cMo_field : ByteArray := prog_14_method_5_code
def yMo_field : MethodName := ⟨RMo, "field", "(III)V"⟩
abbrev cMo_isField : ByteArray := prog_14_method_4_code
def yMo_isField : MethodName := ⟨RMo, "isField", "(I)Z"⟩
abbrev cMo_remove : ByteArray := prog_14_method_6_code
def yMo_remove : MethodName := ⟨RMo, "remove", "(I)I"⟩
abbrev cMo_sign : ByteArray := prog_14_method_7_code
def yMo_sign : MethodName := ⟨RMo, "sign", "(I)V"⟩
abbrev cMo_ask : ByteArray := prog_14_method_27_code
def yMo_ask : MethodName := ⟨RMo, "ask", "(I)I"⟩
abbrev cMo_question : ByteArray := prog_14_method_26_code
def yMo_question : MethodName := ⟨RMo, "question", "(IIIZ)I"⟩
abbrev cMo_take : ByteArray := prog_14_method_12_code
def yMo_take : MethodName := ⟨RMo, "take", "()V"⟩
abbrev cMo_letter : ByteArray := prog_14_method_8_code
def yMo_letter : MethodName := ⟨RMo, "letter", "(I)I"⟩
abbrev cMo_lay : ByteArray := prog_14_method_11_code
def yMo_lay : MethodName := ⟨RMo, "lay", "([JIZI)I"⟩
abbrev cMo_length : ByteArray := prog_14_method_9_code
def yMo_length : MethodName := ⟨RMo, "length", "(J)I"⟩
abbrev cMo_stemOf : ByteArray := prog_14_method_15_code
def yMo_stemOf : MethodName := ⟨RMo, "stemOf", "(JI)J"⟩
abbrev cMo_isStop : ByteArray := prog_14_method_14_code
def yMo_isStop : MethodName := ⟨RMo, "isStop", "(J)Z"⟩
abbrev cMo_last : ByteArray := prog_14_method_10_code
def yMo_last : MethodName := ⟨RMo, "last", "(J)I"⟩
abbrev cMo_hasAny : ByteArray := prog_14_method_25_code
def yMo_hasAny : MethodName := ⟨RMo, "hasAny", "()Z"⟩
abbrev cMo_gather : ByteArray := prog_14_method_13_code
def yMo_gather : MethodName := ⟨RMo, "gather", "(II)V"⟩
abbrev cMo_meetsAll : ByteArray := prog_14_method_20_code
def yMo_meetsAll : MethodName := ⟨RMo, "meetsAll", "()Z"⟩
abbrev cMo_hasTerm : ByteArray := prog_14_method_19_code
def yMo_hasTerm : MethodName := ⟨RMo, "hasTerm", "(J)Z"⟩
abbrev cMo_hasPhrase : ByteArray := prog_14_method_21_code
def yMo_hasPhrase : MethodName := ⟨RMo, "hasPhrase", "()Z"⟩
abbrev cMo_hasNear : ByteArray := prog_14_method_22_code
def yMo_hasNear : MethodName := ⟨RMo, "hasNear", "(I)Z"⟩
abbrev cMo_wildCount : ByteArray := prog_14_method_24_code
def yMo_wildCount : MethodName := ⟨RMo, "wildCount", "(Z)I"⟩
abbrev cMo_goesWith : ByteArray := prog_14_method_23_code
def yMo_goesWith : MethodName := ⟨RMo, "goesWith", "(JJZ)Z"⟩
abbrev cMo_count : ByteArray := prog_14_method_18_code
def yMo_count : MethodName := ⟨RMo, "count", "(I)I"⟩
abbrev cMo_isAsked : ByteArray := prog_14_method_17_code
def yMo_isAsked : MethodName := ⟨RMo, "isAsked", "(JI)Z"⟩
abbrev cMo_found : ByteArray := prog_14_method_16_code
def yMo_found : MethodName := ⟨RMo, "found", "(II)V"⟩
abbrev cMo_phrase : ByteArray := prog_14_method_28_code
def yMo_phrase : MethodName := ⟨RMo, "phrase", "(I)I"⟩
abbrev cMo_near : ByteArray := prog_14_method_29_code
def yMo_near : MethodName := ⟨RMo, "near", "(II)I"⟩
abbrev cMo_wild : ByteArray := prog_14_method_30_code
def yMo_wild : MethodName := ⟨RMo, "wild", "(IZ)I"⟩
abbrev cMo_hit : ByteArray := prog_14_method_31_code
def yMo_hit : MethodName := ⟨RMo, "hit", "(II)I"⟩
abbrev cMo_rank : ByteArray := prog_14_method_32_code
def yMo_rank : MethodName := ⟨RMo, "rank", "(II)J"⟩
abbrev cMo_term : ByteArray := prog_14_method_36_code
def yMo_term : MethodName := ⟨RMo, "term", "(III)I"⟩
abbrev cMo_list : ByteArray := prog_14_method_34_code
def yMo_list : MethodName := ⟨RMo, "list", "(I)V"⟩
abbrev cMo_put : ByteArray := prog_14_method_35_code
def yMo_put : MethodName := ⟨RMo, "put", "(J)V"⟩
abbrev cMo_aligned : ByteArray := prog_14_method_33_code
def yMo_aligned : MethodName := ⟨RMo, "aligned", "(J)J"⟩
abbrev cMo_nearest : ByteArray := prog_14_method_40_code
def yMo_nearest : MethodName := ⟨RMo, "nearest", "(I)I"⟩
abbrev cMo_distance : ByteArray := prog_14_method_39_code
def yMo_distance : MethodName := ⟨RMo, "distance", "(JJ)I"⟩
abbrev cMo_at : ByteArray := prog_14_method_37_code
def yMo_at : MethodName := ⟨RMo, "at", "(JII)I"⟩
abbrev cMo_least : ByteArray := prog_14_method_38_code
def yMo_least : MethodName := ⟨RMo, "least", "(II)I"⟩
abbrev cMo_stop : ByteArray := prog_14_method_41_code
def yMo_stop : MethodName := ⟨RMo, "stop", "()I"⟩
abbrev cMo_language : ByteArray := prog_14_method_42_code
def yMo_language : MethodName := ⟨RMo, "language", "(II)I"⟩
abbrev vwCl : List vw_C := [(RHits, THits, 4), (RItem, TItem, 2), (RTerms, TTerms, 2), (RText, TText, 3), (RWordSet, TWordSet, 2), (RIx, TIx, 12), (RAllSearch, TAllSearch, 1), (RPhraseSearch, TPhraseSearch, 1), (RNearSearch, TNearSearch, 3), (RWildSearch, TWildSearch, 2), (RMo, TMo, 24)]
abbrev hwT (K : Nat → ClassId) : List (ClassId × FieldType) := [(K 0, .int), (K 1, .long), (K 2, .boolean), (K 3, .byte), (K 4, .object RItem), (K 5, .object RText)]
def xSearch_meets : MethodName := ⟨RSearch, "meets", "(LWordIndex2$Terms;)Z"⟩
def xSearch_wants : MethodName := ⟨RSearch, "wants", "(J)Z"⟩
def xWild_countIn : MethodName := ⟨RWildSearch, "countIn", "(LWordIndex2$Terms;)I"⟩
def hwN : List Cond := [.methodLinkNest RIx 21 yText_init "WordIndex2", .methodLinkNest RIx 37 yHits_init "WordIndex2", .methodLinkNest RItem 21 yText_init "WordIndex2", .fieldLinkNest RIx 77 RItem "there" "Z" "WordIndex2", .methodLinkNest RAllSearch 1 ySearch_init "WordIndex2", .declares xSearch_wants, .declares xSearch_meets, .methodLinkNest RPhraseSearch 1 ySearch_init "WordIndex2", .methodLinkNest RNearSearch 1 ySearch_init "WordIndex2", .methodLinkNest RWildSearch 1 ySearch_init "WordIndex2"]
theorem hwN_all : hwN.all (fun w => w.onTables) = true := by decide +kernel
theorem hwN_tab (w : Cond) (h : w ∈ hwN) : w.onTables = true := List.all_eq_true.mp hwN_all w h
theorem hwN_warm {s U : State} (hW : s.WarmedH U.vm) (w : Cond) (h : w ∈ hwN) (hZ : va_Nw w s) : va_Nw w U := by
  unfold hwN at h
  simp only [List.mem_cons, List.not_mem_nil, or_false] at h
  rcases h with rfl | rfl | rfl | rfl | rfl | rfl | rfl | rfl | rfl | rfl <;> first | exact va_Nw.warmM hW hZ | exact va_Nw.warmF hW hZ | exact va_Nw.warmD hW hZ
/-! the words: one list for all methods -/
def hwG : List Cond := lw_tbl.filter goodWord
theorem hwG_all {w : Cond} (h : w ∈ hwG) : goodWord w = true := (List.mem_filter.mp h).2
theorem hwIx {w : Cond} (i : Nat) (h : lw_tbl[i]? = some w) (hg : goodWord w = true) : w ∈ hwG := List.mem_filter.mpr ⟨List.mem_of_getElem? h, hg⟩
theorem hwSub {ws : List Cond} (h : ∀ w ∈ ws, w ∈ lw_tbl) (hg : ws.all goodWord = true) : ∀ w ∈ ws, w ∈ hwG := fun w hw => List.mem_filter.mpr ⟨h w hw, List.all_eq_true.mp hg w hw⟩
theorem hwGood {c0 : Cond} {ws : List Cond} (h : ∀ w ∈ ws, w ∈ hwG) : GoodIn (c0 :: hwG) ws := fun w hw => ⟨List.mem_cons_of_mem _ (h w hw), good_of_word (hwG_all (h w hw))⟩
theorem hwAll {c1 : Cond} (h : c1 ∈ hwG) : ∀ w ∈ c1 :: hwG, w ∈ hwG := fun w hw => (List.mem_cons.mp hw).elim (fun e => e ▸ h) (fun h => h)
theorem hwMem {c0 w : Cond} (h : w ∈ hwG) : w ∈ c0 :: hwG := List.mem_cons_of_mem _ h
theorem hwInn {c0 : Cond} {ws : List Cond} (h : ∀ w ∈ ws, w ∈ hwG) : ∀ w ∈ ws, w ∈ c0 :: hwG := fun w hw => List.mem_cons_of_mem _ (h w hw)
theorem hw_4 {own C : String} {idx : Nat} {y : MethodName} {ws : List Cond} (h1 : Cond.methodLink own idx y ∈ hwG) (h2 : Cond.instanceMethod y ∈ hwG) (h3 : Cond.selects C y y ∈ hwG) (h4 : Cond.initialized C ∈ hwG) (h : ∀ w ∈ ws, w ∈ hwG) : ∀ w ∈ wsV own idx C y ws, w ∈ hwG := by
  intro w hw
  unfold wsV at hw
  rcases List.mem_append.mp hw with q | q
  · simp only [List.mem_cons, List.not_mem_nil, or_false] at q
    rcases q with rfl | rfl | rfl | rfl <;> assumption
  · exact h w q
theorem hw_3 {own : String} {idx : Nat} {y : MethodName} {ws : List Cond} (h1 : Cond.methodLink own idx y ∈ hwG) (h2 : Cond.static y ∈ hwG) (h4 : Cond.initialized y.cls ∈ hwG) (h : ∀ w ∈ ws, w ∈ hwG) : ∀ w ∈ va_wsS own idx y ws, w ∈ hwG := by
  intro w hw
  unfold va_wsS at hw
  rcases List.mem_append.mp hw with q | q
  · simp only [List.mem_cons, List.not_mem_nil, or_false] at q
    rcases q with rfl | rfl | rfl <;> assumption
  · exact h w q
theorem hw_nw {w : Cond} {A : Array Value} {U : State} (hw : w.onTables = true) (h : w.before A U = true) : va_Nw w U := va_tabs hw rfl h
theorem inHits : ∀ w ∈ wsHits0, w ∈ hwG := hwSub (by decide +kernel) (by decide +kernel)
theorem inItem : ∀ w ∈ wsItem0, w ∈ hwG := hwSub (by decide +kernel) (by decide +kernel)
theorem inTerms : ∀ w ∈ wsTerms0, w ∈ hwG := hwSub (by decide +kernel) (by decide +kernel)
theorem inText : ∀ w ∈ wsText0, w ∈ hwG := hwSub (by decide +kernel) (by decide +kernel)
theorem inWordSet : ∀ w ∈ wsWordSet0, w ∈ hwG := hwSub (by decide +kernel) (by decide +kernel)
theorem inIx : ∀ w ∈ wsIx0, w ∈ hwG := hwSub (by decide +kernel) (by decide +kernel)
theorem inAllSearch : ∀ w ∈ wsAllSearch0, w ∈ hwG := hwSub (by decide +kernel) (by decide +kernel)
theorem inPhraseSearch : ∀ w ∈ wsPhraseSearch0, w ∈ hwG := hwSub (by decide +kernel) (by decide +kernel)
theorem inNearSearch : ∀ w ∈ wsNearSearch0, w ∈ hwG := hwSub (by decide +kernel) (by decide +kernel)
theorem inWildSearch : ∀ w ∈ wsWildSearch0, w ∈ hwG := hwSub (by decide +kernel) (by decide +kernel)
theorem inMo : ∀ w ∈ wsMo0, w ∈ hwG := hwSub (by decide +kernel) (by decide +kernel)
