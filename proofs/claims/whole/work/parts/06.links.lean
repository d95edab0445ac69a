theorem gi1 {w : Cond} {i : Nat} (h : tables_1_1[i]? = some w) (hg : goodWord w = true) : w ∈ gw := List.mem_filter.mpr ⟨List.mem_append_right _ (show w ∈ tables_1 from List.mem_append_left _ (List.mem_of_getElem? h)), hg⟩
theorem gi2 {w : Cond} {i : Nat} (h : tables_1_2[i]? = some w) (hg : goodWord w = true) : w ∈ gw := List.mem_filter.mpr ⟨List.mem_append_right _ (show w ∈ tables_1 from List.mem_append_right _ (List.mem_append_left _ (List.mem_of_getElem? h))), hg⟩
theorem gi3 {w : Cond} {i : Nat} (h : tables_1_3[i]? = some w) (hg : goodWord w = true) : w ∈ gw := List.mem_filter.mpr ⟨List.mem_append_right _ (show w ∈ tables_1 from List.mem_append_right _ (List.mem_append_right _ (List.mem_append_left _ (List.mem_of_getElem? h)))), hg⟩
theorem gi4 {w : Cond} {i : Nat} (h : tables_1_4[i]? = some w) (hg : goodWord w = true) : w ∈ gw := List.mem_filter.mpr ⟨List.mem_append_right _ (show w ∈ tables_1 from List.mem_append_right _ (List.mem_append_right _ (List.mem_append_right _ (List.mem_append_left _ (List.mem_of_getElem? h))))), hg⟩
theorem gi5 {w : Cond} {i : Nat} (h : tables_1_5[i]? = some w) (hg : goodWord w = true) : w ∈ gw := List.mem_filter.mpr ⟨List.mem_append_right _ (show w ∈ tables_1 from List.mem_append_right _ (List.mem_append_right _ (List.mem_append_right _ (List.mem_append_right _ (List.mem_append_left _ (List.mem_of_getElem? h)))))), hg⟩
theorem gi6 {w : Cond} {i : Nat} (h : tables_1_6[i]? = some w) (hg : goodWord w = true) : w ∈ gw := List.mem_filter.mpr ⟨List.mem_append_right _ (show w ∈ tables_1 from List.mem_append_right _ (List.mem_append_right _ (List.mem_append_right _ (List.mem_append_right _ (List.mem_append_right _ (List.mem_append_left _ (List.mem_of_getElem? h))))))), hg⟩
theorem gi7 {w : Cond} {i : Nat} (h : tables_1_7[i]? = some w) (hg : goodWord w = true) : w ∈ gw := List.mem_filter.mpr ⟨List.mem_append_right _ (show w ∈ tables_1 from List.mem_append_right _ (List.mem_append_right _ (List.mem_append_right _ (List.mem_append_right _ (List.mem_append_right _ (List.mem_append_right _ (List.mem_append_left _ (List.mem_of_getElem? h)))))))), hg⟩
theorem gi8 {w : Cond} {i : Nat} (h : tables_1_8[i]? = some w) (hg : goodWord w = true) : w ∈ gw := List.mem_filter.mpr ⟨List.mem_append_right _ (show w ∈ tables_1 from List.mem_append_right _ (List.mem_append_right _ (List.mem_append_right _ (List.mem_append_right _ (List.mem_append_right _ (List.mem_append_right _ (List.mem_append_right _ ((List.mem_of_getElem? h))))))))), hg⟩
/-! methods: name, code, locals, result -/
def m_Hou_init : xY := (⟨"BracketHouse", "<init>", "()V"⟩, prog_1_method_1_code, 2, none)
def m_Sta_init : xY := (⟨"BracketHouse$State", "<init>", "()V"⟩, prog_9_method_1_code, 1, none)
def m_Row_init : xY := (⟨"BracketHouse$Row", "<init>", "()V"⟩, prog_7_method_1_code, 1, none)
def m_Tap_init : xY := (⟨"BracketHouse$Tape", "<init>", "()V"⟩, prog_11_method_1_code, 1, none)
def m_Str_toCharArray : xY := (⟨"java/lang/String", "toCharArray", "()[C"⟩, prog_17_method_129_code, 1, some (.array .char))
def m_Str_isLatin1 : xY := (⟨"java/lang/String", "isLatin1", "()Z"⟩, prog_17_method_154_code, 1, some .boolean)
def m_Lat_toChars : xY := (⟨"java/lang/StringLatin1", "toChars", "([B)[C"⟩, prog_18_method_9_code, 2, some (.array .char))
def m_Lat_inflate : xY := (⟨"java/lang/StringLatin1", "inflate", "([BI[CII)V"⟩, prog_18_method_49_code, 6, none)
def m_Str_checkBoundsOffCount : xY := (⟨"java/lang/String", "checkBoundsOffCount", "(III)I"⟩, prog_17_method_157_code, 3, some .int)
def m_Gra_init : xY := (⟨"BracketHouse$Grammar", "<init>", "(LBracketHouse$Tape;)V"⟩, prog_4_method_1_code, 2, none)
def m_Tex_init : xY := (⟨"BracketHouse$Text", "<init>", "()V"⟩, prog_12_method_1_code, 1, none)
def m_Ask_init : xY := (⟨"BracketHouse$Asker", "<init>", "()V"⟩, prog_2_method_1_code, 1, none)
def m_Sum_init : xY := (⟨"BracketHouse$Sums", "<init>", "()V"⟩, prog_10_method_1_code, 1, none)
def m_Dee_init : xY := (⟨"BracketHouse$Deeds", "<init>", "(LBracketHouse$State;LBracketHouse$Asker;)V"⟩, prog_3_method_1_code, 3, none)
def m_Run_init : xY := (⟨"BracketHouse$Runner", "<init>", "(LBracketHouse$State;LBracketHouse$Deeds;)V"⟩, prog_8_method_1_code, 3, none)
def m_Pap_init : xY := (⟨"BracketHouse$Paper", "<init>", "(LBracketHouse$Asker;)V"⟩, prog_6_method_1_code, 2, none)
def m_Num_init : xY := (⟨"BracketHouse$Numbering", "<init>", "()V"⟩, prog_5_method_1_code, 1, none)
def m_Hou_terms : xY := (⟨"BracketHouse", "terms", "(II)I"⟩, prog_1_method_2_code, 4, some .int)
def m_Hou_refuse : xY := (⟨"BracketHouse", "refuse", "(I)I"⟩, prog_1_method_39_code, 2, some .int)
def m_Hou_refusalIndex : xY := (⟨"BracketHouse", "refusalIndex", "(I)I"⟩, prog_1_method_40_code, 1, some .int)
def m_Dee_forget : xY := (⟨"BracketHouse$Deeds", "forget", "()V"⟩, prog_3_method_2_code, 1, none)
def m_Hou_grant : xY := (⟨"BracketHouse", "grant", "(I)I"⟩, prog_1_method_38_code, 2, some .int)
def m_Hou_feed : xY := (⟨"BracketHouse", "feed", "(IIIII)I"⟩, prog_1_method_3_code, 6, some .int)
def m_Tap_addNumber : xY := (⟨"BracketHouse$Tape", "addNumber", "(I)V"⟩, prog_11_method_2_code, 3, none)
def m_Hou_end : xY := (⟨"BracketHouse", "end", "(I)I"⟩, prog_1_method_4_code, 2, some .int)
def m_Hou_row : xY := (⟨"BracketHouse", "row", "()I"⟩, prog_1_method_5_code, 3, some .int)
def m_Row_insert : xY := (⟨"BracketHouse$Row", "insert", "(II)V"⟩, prog_7_method_8_code, 3, none)
def m_Hou_blots : xY := (⟨"BracketHouse", "blots", "()I"⟩, prog_1_method_6_code, 1, some .int)
def m_Hou_law : xY := (⟨"BracketHouse", "law", "()I"⟩, prog_1_method_7_code, 1, some .int)
def m_Gra_readsTape : xY := (⟨"BracketHouse$Grammar", "readsTape", "(Z)Z"⟩, prog_4_method_2_code, 3, some .boolean)
def m_Tex_clear : xY := (⟨"BracketHouse$Text", "clear", "()V"⟩, prog_12_method_3_code, 1, none)
def m_Tap_split : xY := (⟨"BracketHouse$Tape", "split", "()V"⟩, prog_11_method_3_code, 3, none)
def m_Tap_endOf : xY := (⟨"BracketHouse$Tape", "endOf", "(I)I"⟩, prog_11_method_6_code, 5, some .int)
def m_Tap_isLetter : xY := (⟨"BracketHouse$Tape", "isLetter", "(I)Z"⟩, prog_11_method_4_code, 1, some .boolean)
def m_Tap_isDigit : xY := (⟨"BracketHouse$Tape", "isDigit", "(I)Z"⟩, prog_11_method_5_code, 1, some .boolean)
def m_Tap_addToken : xY := (⟨"BracketHouse$Tape", "addToken", "(II)V"⟩, prog_11_method_7_code, 3, none)
def m_Tap_numberOf : xY := (⟨"BracketHouse$Tape", "numberOf", "(II)I"⟩, prog_11_method_8_code, 5, some .int)
def m_Tap_wordOf : xY := (⟨"BracketHouse$Tape", "wordOf", "(II)I"⟩, prog_11_method_9_code, 6, some .int)
def m_Tap_hasWord : xY := (⟨"BracketHouse$Tape", "hasWord", "(III)Z"⟩, prog_11_method_10_code, 5, some .boolean)
def m_Gra_clause : xY := (⟨"BracketHouse$Grammar", "clause", "()Z"⟩, prog_4_method_7_code, 3, some .boolean)
def m_Gra_fail : xY := (⟨"BracketHouse$Grammar", "fail", "()Z"⟩, prog_4_method_4_code, 1, some .boolean)
def m_Gra_advance : xY := (⟨"BracketHouse$Grammar", "advance", "()V"⟩, prog_4_method_3_code, 1, none)
def m_Tex_addClause : xY := (⟨"BracketHouse$Text", "addClause", "(I)I"⟩, prog_12_method_4_code, 3, some .int)
def m_Gra_order : xY := (⟨"BracketHouse$Grammar", "order", "(II)Z"⟩, prog_4_method_8_code, 3, some .boolean)
def m_Gra_startedSum : xY := (⟨"BracketHouse$Grammar", "startedSum", "([II)Z"⟩, prog_4_method_9_code, 3, some .boolean)
def m_Gra_sum : xY := (⟨"BracketHouse$Grammar", "sum", "()Z"⟩, prog_4_method_16_code, 3, some .boolean)
def m_Gra_term : xY := (⟨"BracketHouse$Grammar", "term", "()Z"⟩, prog_4_method_17_code, 3, some .boolean)
def m_Gra_part : xY := (⟨"BracketHouse$Grammar", "part", "()Z"⟩, prog_4_method_18_code, 2, some .boolean)
def m_Gra_openBracket : xY := (⟨"BracketHouse$Grammar", "openBracket", "()Z"⟩, prog_4_method_14_code, 1, some .boolean)
def m_Gra_take : xY := (⟨"BracketHouse$Grammar", "take", "(I)Z"⟩, prog_4_method_5_code, 2, some .boolean)
def m_Gra_isNumber : xY := (⟨"BracketHouse$Grammar", "isNumber", "(II)Z"⟩, prog_4_method_6_code, 3, some .boolean)
def m_Tex_addStep : xY := (⟨"BracketHouse$Text", "addStep", "(II)I"⟩, prog_12_method_5_code, 4, some .int)
def m_Gra_placeWord : xY := (⟨"BracketHouse$Grammar", "placeWord", "()Z"⟩, prog_4_method_20_code, 2, some .boolean)
def m_Gra_word : xY := (⟨"BracketHouse$Grammar", "word", "()Z"⟩, prog_4_method_19_code, 3, some .boolean)
def m_Gra_times : xY := (⟨"BracketHouse$Grammar", "times", "(I)Z"⟩, prog_4_method_10_code, 2, some .boolean)
def m_Gra_test : xY := (⟨"BracketHouse$Grammar", "test", "()Z"⟩, prog_4_method_11_code, 3, some .boolean)
def m_Gra_both : xY := (⟨"BracketHouse$Grammar", "both", "()Z"⟩, prog_4_method_12_code, 3, some .boolean)
def m_Gra_plain : xY := (⟨"BracketHouse$Grammar", "plain", "()Z"⟩, prog_4_method_13_code, 3, some .boolean)
def m_Gra_comparison : xY := (⟨"BracketHouse$Grammar", "comparison", "()Z"⟩, prog_4_method_15_code, 2, some .boolean)
def m_Tex_init2 : xY := (⟨"BracketHouse$Text", "<init>", "(LBracketHouse$Text;)V"⟩, prog_12_method_2_code, 2, none)
def m_Arr_copyOf : xY := (⟨"java/util/Arrays", "copyOf", "([II)[I"⟩, prog_21_method_123_code, 3, some (.array .int))
def m_Hou_orders : xY := (⟨"BracketHouse", "orders", "()I"⟩, prog_1_method_8_code, 1, some .int)
def m_Run_runWhole : xY := (⟨"BracketHouse$Runner", "runWhole", "(LBracketHouse$Text;)I"⟩, prog_8_method_2_code, 4, some .int)
def m_Sta_copyFrom : xY := (⟨"BracketHouse$State", "copyFrom", "(LBracketHouse$State;)V"⟩, prog_9_method_2_code, 3, none)
def m_Row_copyFrom : xY := (⟨"BracketHouse$Row", "copyFrom", "(LBracketHouse$Row;)V"⟩, prog_7_method_11_code, 2, none)
def m_Dee_copyFrom : xY := (⟨"BracketHouse$Deeds", "copyFrom", "(LBracketHouse$Deeds;)V"⟩, prog_3_method_3_code, 2, none)
def m_Run_runOnce : xY := (⟨"BracketHouse$Runner", "runOnce", "(LBracketHouse$Text;I)Z"⟩, prog_8_method_3_code, 6, some .boolean)
def m_Run_look : xY := (⟨"BracketHouse$Runner", "look", "()V"⟩, prog_8_method_4_code, 3, none)
def m_Row_looseOnes : xY := (⟨"BracketHouse$Row", "looseOnes", "()I"⟩, prog_7_method_15_code, 1, some .int)
def m_Row_pairUp : xY := (⟨"BracketHouse$Row", "pairUp", "()V"⟩, prog_7_method_18_code, 1, none)
def m_Row_findMates : xY := (⟨"BracketHouse$Row", "findMates", "()V"⟩, prog_7_method_19_code, 3, none)
def m_Row_opens : xY := (⟨"BracketHouse$Row", "opens", "(I)Z"⟩, prog_7_method_2_code, 1, some .boolean)
def m_Row_closes : xY := (⟨"BracketHouse$Row", "closes", "(I)Z"⟩, prog_7_method_3_code, 1, some .boolean)
def m_Row_kindOf : xY := (⟨"BracketHouse$Row", "kindOf", "(I)I"⟩, prog_7_method_5_code, 1, some .int)
def m_Row_countDepths : xY := (⟨"BracketHouse$Row", "countDepths", "()V"⟩, prog_7_method_20_code, 4, none)
def m_Row_has : xY := (⟨"BracketHouse$Row", "has", "(I)Z"⟩, prog_7_method_7_code, 2, some .boolean)
def m_Row_depthOf : xY := (⟨"BracketHouse$Row", "depthOf", "(I)I"⟩, prog_7_method_13_code, 2, some .int)
def m_Sum_of : xY := (⟨"BracketHouse$Sums", "of", "(LBracketHouse$Text;I[I)I"⟩, prog_10_method_2_code, 11, some .int)
def m_Sum_taken : xY := (⟨"BracketHouse$Sums", "taken", "(I)I"⟩, prog_10_method_3_code, 1, some .int)
def m_Sum_combined : xY := (⟨"BracketHouse$Sums", "combined", "(IJJ)J"⟩, prog_10_method_4_code, 5, some .long)
def m_Dee_putSign : xY := (⟨"BracketHouse$Deeds", "putSign", "(II)I"⟩, prog_3_method_4_code, 5, some .int)
def m_Sta_lawOf : xY := (⟨"BracketHouse$State", "lawOf", "(I)LBracketHouse$Text;"⟩, prog_9_method_4_code, 2, some (.object "BracketHouse$Text"))
def m_Ask_isBarred : xY := (⟨"BracketHouse$Asker", "isBarred", "(LBracketHouse$State;LBracketHouse$Text;II)Z"⟩, prog_2_method_3_code, 6, some .boolean)
def m_Ask_look : xY := (⟨"BracketHouse$Asker", "look", "(LBracketHouse$State;II)V"⟩, prog_2_method_4_code, 4, none)
def m_Row_personOf : xY := (⟨"BracketHouse$Row", "personOf", "(I)I"⟩, prog_7_method_6_code, 1, some .int)
def m_Ask_holds : xY := (⟨"BracketHouse$Asker", "holds", "(LBracketHouse$Text;I)Z"⟩, prog_2_method_5_code, 3, some .boolean)
def m_Ask_amount : xY := (⟨"BracketHouse$Asker", "amount", "(LBracketHouse$State;LBracketHouse$Text;III)I"⟩, prog_2_method_2_code, 7, some .int)
def m_Dee_remember : xY := (⟨"BracketHouse$Deeds", "remember", "(III)V"⟩, prog_3_method_9_code, 4, none)
def m_Dee_cutSign : xY := (⟨"BracketHouse$Deeds", "cutSign", "(I)I"⟩, prog_3_method_5_code, 4, some .int)
def m_Row_remove : xY := (⟨"BracketHouse$Row", "remove", "(I)V"⟩, prog_7_method_9_code, 2, none)
def m_Dee_turnSign : xY := (⟨"BracketHouse$Deeds", "turnSign", "(II)I"⟩, prog_3_method_6_code, 4, some .int)
def m_Row_replace : xY := (⟨"BracketHouse$Row", "replace", "(II)V"⟩, prog_7_method_10_code, 3, none)
def m_Dee_passPage : xY := (⟨"BracketHouse$Deeds", "passPage", "()I"⟩, prog_3_method_7_code, 1, some .int)
def m_Hou_fault : xY := (⟨"BracketHouse", "fault", "()I"⟩, prog_1_method_9_code, 1, some .int)
def m_Hou_stopped : xY := (⟨"BracketHouse", "stopped", "()I"⟩, prog_1_method_10_code, 1, some .int)
def m_Hou_force : xY := (⟨"BracketHouse", "force", "(I)I"⟩, prog_1_method_11_code, 3, some .int)
def m_Sta_hasLaw : xY := (⟨"BracketHouse$State", "hasLaw", "(I)Z"⟩, prog_9_method_3_code, 2, some .boolean)
def m_Hou_asks : xY := (⟨"BracketHouse", "asks", "(III)I"⟩, prog_1_method_12_code, 5, some .int)
def m_Hou_put : xY := (⟨"BracketHouse", "put", "(II)I"⟩, prog_1_method_13_code, 3, some .int)
def m_Hou_answer : xY := (⟨"BracketHouse", "answer", "(I)I"⟩, prog_1_method_41_code, 2, some .int)
def m_Hou_cut : xY := (⟨"BracketHouse", "cut", "(I)I"⟩, prog_1_method_14_code, 2, some .int)
def m_Hou_turn : xY := (⟨"BracketHouse", "turn", "(II)I"⟩, prog_1_method_15_code, 3, some .int)
def m_Hou_pass : xY := (⟨"BracketHouse", "pass", "()I"⟩, prog_1_method_16_code, 1, some .int)
def m_Hou_undo : xY := (⟨"BracketHouse", "undo", "()I"⟩, prog_1_method_17_code, 1, some .int)
def m_Dee_undoLatest : xY := (⟨"BracketHouse$Deeds", "undoLatest", "()I"⟩, prog_3_method_8_code, 1, some .int)
def m_Hou_at : xY := (⟨"BracketHouse", "at", "(II)I"⟩, prog_1_method_18_code, 3, some .int)
def m_Row_mateOf : xY := (⟨"BracketHouse$Row", "mateOf", "(I)I"⟩, prog_7_method_12_code, 2, some .int)
def m_Row_isLoose : xY := (⟨"BracketHouse$Row", "isLoose", "(I)Z"⟩, prog_7_method_14_code, 2, some .boolean)
def m_Row_isName : xY := (⟨"BracketHouse$Row", "isName", "(I)Z"⟩, prog_7_method_4_code, 1, some .boolean)
def m_Hou_said : xY := (⟨"BracketHouse", "said", "()I"⟩, prog_1_method_19_code, 3, some .int)
def m_Hou_whole : xY := (⟨"BracketHouse", "whole", "(II)I"⟩, prog_1_method_20_code, 3, some .int)
def m_Row_isWhole : xY := (⟨"BracketHouse$Row", "isWhole", "(II)Z"⟩, prog_7_method_17_code, 6, some .boolean)
def m_Hou_mend : xY := (⟨"BracketHouse", "mend", "(I)I"⟩, prog_1_method_21_code, 2, some .int)
def m_Pap_mends : xY := (⟨"BracketHouse$Paper", "mends", "(LBracketHouse$State;LBracketHouse$Text;)Z"⟩, prog_6_method_4_code, 6, some .boolean)
def m_Pap_priceAll : xY := (⟨"BracketHouse$Paper", "priceAll", "(LBracketHouse$State;LBracketHouse$Text;)V"⟩, prog_6_method_2_code, 5, none)
def m_Pap_mendRun : xY := (⟨"BracketHouse$Paper", "mendRun", "([III)I"⟩, prog_6_method_5_code, 8, some .int)
def m_Pap_mendOpening : xY := (⟨"BracketHouse$Paper", "mendOpening", "([III)I"⟩, prog_6_method_6_code, 8, some .int)
def m_Pap_newSign : xY := (⟨"BracketHouse$Paper", "newSign", "(II)I"⟩, prog_6_method_7_code, 3, some .int)
def m_Hou_strike : xY := (⟨"BracketHouse", "strike", "(I)I"⟩, prog_1_method_22_code, 3, some .int)
def m_Pap_strikes : xY := (⟨"BracketHouse$Paper", "strikes", "(LBracketHouse$State;)I"⟩, prog_6_method_8_code, 5, some .int)
def m_Pap_stakeAll : xY := (⟨"BracketHouse$Paper", "stakeAll", "(LBracketHouse$State;I)V"⟩, prog_6_method_3_code, 5, none)
def m_Pap_strikeRun : xY := (⟨"BracketHouse$Paper", "strikeRun", "([III)I"⟩, prog_6_method_9_code, 6, some .int)
def m_Pap_chooseStruck : xY := (⟨"BracketHouse$Paper", "chooseStruck", "(LBracketHouse$Row;)V"⟩, prog_6_method_10_code, 6, none)
def m_Pap_chooseMate : xY := (⟨"BracketHouse$Paper", "chooseMate", "([III)I"⟩, prog_6_method_11_code, 5, some .int)
def m_Hou_run : xY := (⟨"BracketHouse", "run", "(I)I"⟩, prog_1_method_23_code, 2, some .int)
def m_Pap_findRun : xY := (⟨"BracketHouse$Paper", "findRun", "(LBracketHouse$Row;)V"⟩, prog_6_method_12_code, 4, none)
def m_Hou_fits : xY := (⟨"BracketHouse", "fits", "(I)I"⟩, prog_1_method_24_code, 2, some .int)
def m_Pap_fitting : xY := (⟨"BracketHouse$Paper", "fitting", "(LBracketHouse$Row;I)I"⟩, prog_6_method_13_code, 5, some .int)
def m_Hou_rows : xY := (⟨"BracketHouse", "rows", "(II)J"⟩, prog_1_method_25_code, 3, some .long)
def m_Num_howMany : xY := (⟨"BracketHouse$Numbering", "howMany", "(II)J"⟩, prog_5_method_3_code, 3, some .long)
def m_Num_findWays : xY := (⟨"BracketHouse$Numbering", "findWays", "(II)V"⟩, prog_5_method_2_code, 9, none)
def m_Arr_fill : xY := (⟨"java/util/Arrays", "fill", "([JJ)V"⟩, prog_21_method_101_code, 5, none)
def m_Hou_nth : xY := (⟨"BracketHouse", "nth", "(IJI)I"⟩, prog_1_method_26_code, 5, some .int)
def m_Num_signOf : xY := (⟨"BracketHouse$Numbering", "signOf", "(IIJI)I"⟩, prog_5_method_4_code, 13, some .int)
def m_Hou_rank : xY := (⟨"BracketHouse", "rank", "()J"⟩, prog_1_method_27_code, 1, some .long)
def m_Num_numberOf : xY := (⟨"BracketHouse$Numbering", "numberOf", "(LBracketHouse$Row;I)J"⟩, prog_5_method_5_code, 10, some .long)
def m_Row_isAllWhole : xY := (⟨"BracketHouse$Row", "isAllWhole", "()Z"⟩, prog_7_method_16_code, 1, some .boolean)
def m_Hou_game : xY := (⟨"BracketHouse", "game", "(I)I"⟩, prog_1_method_28_code, 2, some .int)
def m_Pap_play : xY := (⟨"BracketHouse$Paper", "play", "(LBracketHouse$State;)V"⟩, prog_6_method_14_code, 7, none)
def m_Hou_hide : xY := (⟨"BracketHouse", "hide", "(II)I"⟩, prog_1_method_29_code, 3, some .int)
def m_Pap_hides : xY := (⟨"BracketHouse$Paper", "hides", "(LBracketHouse$State;I)Z"⟩, prog_6_method_15_code, 8, some .boolean)
def m_Pap_isOneOf : xY := (⟨"BracketHouse$Paper", "isOneOf", "(II)Z"⟩, prog_6_method_16_code, 2, some .boolean)
def m_Pap_tryHiding : xY := (⟨"BracketHouse$Paper", "tryHiding", "(II)V"⟩, prog_6_method_17_code, 5, none)
def m_Hou_likely : xY := (⟨"BracketHouse", "likely", "(I)J"⟩, prog_1_method_30_code, 2, some .long)
def m_Num_likelihood : xY := (⟨"BracketHouse$Numbering", "likelihood", "(I)J"⟩, prog_5_method_6_code, 4, some .long)
def m_Hou_compare : xY := (⟨"BracketHouse", "compare", "(I)I"⟩, prog_1_method_31_code, 2, some .int)
def m_Hou_readers : xY := (⟨"BracketHouse", "readers", "(II)I"⟩, prog_1_method_32_code, 6, some .int)
def m_Hou_readPage : xY := (⟨"BracketHouse", "readPage", "(I)I"⟩, prog_1_method_42_code, 6, some .int)
def m_Hou_nextDraw : xY := (⟨"BracketHouse", "nextDraw", "(I)I"⟩, prog_1_method_43_code, 1, some .int)
def m_Hou_drawn : xY := (⟨"BracketHouse", "drawn", "(I)I"⟩, prog_1_method_33_code, 2, some .int)
def m_Hou_image : xY := (⟨"BracketHouse", "image", "(I)I"⟩, prog_1_method_34_code, 2, some .int)
def m_Hou_back : xY := (⟨"BracketHouse", "back", "(I)I"⟩, prog_1_method_35_code, 2, some .int)
def m_Hou_count : xY := (⟨"BracketHouse", "count", "(I)I"⟩, prog_1_method_36_code, 2, some .int)
def m_Hou_status : xY := (⟨"BracketHouse", "status", "()I"⟩, prog_1_method_37_code, 1, some .int)
def m_Mod_init : xY := (⟨"BracketHouseModel", "<init>", "()V"⟩, prog_14_method_12_code, 1, none)
def m_Mod_image : xY := (⟨"BracketHouseModel", "image", "(I)I"⟩, prog_14_method_15_code, 3, some .int)
def m_Mod_lies : xY := (⟨"BracketHouseModel", "lies", "(III)Z"⟩, prog_14_method_1_code, 3, some .boolean)
def m_Mod_refuses : xY := (⟨"BracketHouseModel", "refuses", "(I)I"⟩, prog_14_method_4_code, 2, some .int)
def m_Mod_good : xY := (⟨"BracketHouseModel", "good", "(I)I"⟩, prog_14_method_5_code, 2, some .int)
def m_Mod_back : xY := (⟨"BracketHouseModel", "back", "(I)I"⟩, prog_14_method_16_code, 3, some .int)
def m_Mod_settled : xY := (⟨"BracketHouseModel", "settled", "(I)I"⟩, prog_14_method_6_code, 2, some .int)
def m_Mod_terms : xY := (⟨"BracketHouseModel", "terms", "(II)I"⟩, prog_14_method_22_code, 4, some .int)
def m_Mod_isTerm : xY := (⟨"BracketHouseModel", "isTerm", "(II)Z"⟩, prog_14_method_20_code, 2, some .boolean)
def m_Mod_termAt : xY := (⟨"BracketHouseModel", "termAt", "(I)I"⟩, prog_14_method_21_code, 1, some .int)
def m_Mod_row : xY := (⟨"BracketHouseModel", "row", "()I"⟩, prog_14_method_23_code, 4, some .int)
def m_Mod_length : xY := (⟨"BracketHouseModel", "length", "()I"⟩, prog_14_method_17_code, 1, some .int)
def m_Mod_isSign : xY := (⟨"BracketHouseModel", "isSign", "(I)Z"⟩, prog_14_method_7_code, 1, some .boolean)
def m_Mod_blots : xY := (⟨"BracketHouseModel", "blots", "()I"⟩, prog_14_method_24_code, 1, some .int)
def m_Mod_feed : xY := (⟨"BracketHouseModel", "feed", "(IIIII)I"⟩, prog_14_method_25_code, 7, some .int)
def m_Mod_end : xY := (⟨"BracketHouseModel", "end", "(I)I"⟩, prog_14_method_26_code, 2, some .int)
def m_Mod_law : xY := (⟨"BracketHouseModel", "law", "()I"⟩, prog_14_method_50_code, 1, some .int)
def m_Mod_readsAs : xY := (⟨"BracketHouseModel", "readsAs", "(Z)Z"⟩, prog_14_method_48_code, 2, some .boolean)
def m_Mod_reads : xY := (⟨"BracketHouseModel", "reads", "()Z"⟩, prog_14_method_47_code, 2, some .boolean)
def m_Mod_splits : xY := (⟨"BracketHouseModel", "splits", "(I)V"⟩, prog_14_method_30_code, 6, none)
def m_Mod_isSmall : xY := (⟨"BracketHouseModel", "isSmall", "(I)Z"⟩, prog_14_method_27_code, 1, some .boolean)
def m_Mod_isDigit : xY := (⟨"BracketHouseModel", "isDigit", "(I)Z"⟩, prog_14_method_28_code, 1, some .boolean)
def m_Mod_wordOf : xY := (⟨"BracketHouseModel", "wordOf", "(II)I"⟩, prog_14_method_29_code, 8, some .int)
def m_Mod_readOne : xY := (⟨"BracketHouseModel", "readOne", "()V"⟩, prog_14_method_40_code, 1, none)
def m_Mod_readOrder : xY := (⟨"BracketHouseModel", "readOrder", "()V"⟩, prog_14_method_39_code, 1, none)
def m_Mod_takes0 : xY := (⟨"BracketHouseModel", "takes0", "(I)Z"⟩, prog_14_method_33_code, 3, some .boolean)
def m_Mod_fine : xY := (⟨"BracketHouseModel", "fine", "()Z"⟩, prog_14_method_31_code, 1, some .boolean)
def m_Mod_readSum : xY := (⟨"BracketHouseModel", "readSum", "(I)V"⟩, prog_14_method_44_code, 2, none)
def m_Mod_readTerm : xY := (⟨"BracketHouseModel", "readTerm", "(I)V"⟩, prog_14_method_45_code, 2, none)
def m_Mod_readPart : xY := (⟨"BracketHouseModel", "readPart", "(I)V"⟩, prog_14_method_46_code, 3, none)
def m_Mod_sign : xY := (⟨"BracketHouseModel", "sign", "(C)I"⟩, prog_14_method_36_code, 1, some .int)
def m_Mod_faults : xY := (⟨"BracketHouseModel", "faults", "()V"⟩, prog_14_method_32_code, 1, none)
def m_Mod_must : xY := (⟨"BracketHouseModel", "must", "(I)V"⟩, prog_14_method_34_code, 2, none)
def m_Mod_leaf : xY := (⟨"BracketHouseModel", "leaf", "()V"⟩, prog_14_method_35_code, 1, none)
def m_Mod_mustNumber : xY := (⟨"BracketHouseModel", "mustNumber", "(II)V"⟩, prog_14_method_37_code, 3, none)
def m_Mod_readTest : xY := (⟨"BracketHouseModel", "readTest", "(I)V"⟩, prog_14_method_41_code, 2, none)
def m_Mod_readBoth : xY := (⟨"BracketHouseModel", "readBoth", "(I)V"⟩, prog_14_method_42_code, 2, none)
def m_Mod_readPlain : xY := (⟨"BracketHouseModel", "readPlain", "(I)V"⟩, prog_14_method_43_code, 4, none)
def m_Mod_readClause : xY := (⟨"BracketHouseModel", "readClause", "()V"⟩, prog_14_method_38_code, 1, none)
def m_Mod_lays : xY := (⟨"BracketHouseModel", "lays", "(I)V"⟩, prog_14_method_49_code, 3, none)
def m_Mod_fault : xY := (⟨"BracketHouseModel", "fault", "()I"⟩, prog_14_method_51_code, 1, some .int)
def m_Mod_force : xY := (⟨"BracketHouseModel", "force", "(I)I"⟩, prog_14_method_53_code, 3, some .int)
def m_Mod_isLaw : xY := (⟨"BracketHouseModel", "isLaw", "(I)Z"⟩, prog_14_method_52_code, 2, some .boolean)
def m_Mod_asks : xY := (⟨"BracketHouseModel", "asks", "(III)I"⟩, prog_14_method_71_code, 4, some .int)
def m_Mod_costOf : xY := (⟨"BracketHouseModel", "costOf", "(II)I"⟩, prog_14_method_67_code, 3, some .int)
def m_Mod_tells : xY := (⟨"BracketHouseModel", "tells", "(IIII)I"⟩, prog_14_method_66_code, 12, some .int)
def m_Mod_setsAsked : xY := (⟨"BracketHouseModel", "setsAsked", "(II)V"⟩, prog_14_method_65_code, 3, none)
def m_Mod_kindOf : xY := (⟨"BracketHouseModel", "kindOf", "(I)I"⟩, prog_14_method_11_code, 1, some .int)
def m_Mod_isName : xY := (⟨"BracketHouseModel", "isName", "(I)Z"⟩, prog_14_method_10_code, 1, some .boolean)
def m_Mod_opens0 : xY := (⟨"BracketHouseModel", "opens0", "(I)Z"⟩, prog_14_method_8_code, 1, some .boolean)
def m_Mod_codeAt : xY := (⟨"BracketHouseModel", "codeAt", "(I)I"⟩, prog_14_method_54_code, 2, some .int)
def m_Mod_sumOf : xY := (⟨"BracketHouseModel", "sumOf", "(Z)J"⟩, prog_14_method_57_code, 7, some .long)
def m_Mod_termOf : xY := (⟨"BracketHouseModel", "termOf", "(Z)J"⟩, prog_14_method_58_code, 7, some .long)
def m_Mod_partOf : xY := (⟨"BracketHouseModel", "partOf", "(Z)J"⟩, prog_14_method_59_code, 4, some .long)
def m_Mod_passes0 : xY := (⟨"BracketHouseModel", "passes0", "(I)Z"⟩, prog_14_method_55_code, 3, some .boolean)
def m_Mod_orderValue : xY := (⟨"BracketHouseModel", "orderValue", "(II)I"⟩, prog_14_method_60_code, 3, some .int)
def m_Mod_at : xY := (⟨"BracketHouseModel", "at", "(II)I"⟩, prog_14_method_76_code, 3, some .int)
def m_Mod_isPlace : xY := (⟨"BracketHouseModel", "isPlace", "(I)Z"⟩, prog_14_method_19_code, 2, some .boolean)
def m_Mod_looseMany : xY := (⟨"BracketHouseModel", "looseMany", "()I"⟩, prog_14_method_73_code, 1, some .int)
def m_Mod_pairs : xY := (⟨"BracketHouseModel", "pairs", "(II)I"⟩, prog_14_method_72_code, 7, some .int)
def m_Mod_signAt : xY := (⟨"BracketHouseModel", "signAt", "(I)I"⟩, prog_14_method_18_code, 2, some .int)
def m_Mod_closes0 : xY := (⟨"BracketHouseModel", "closes0", "(I)Z"⟩, prog_14_method_9_code, 1, some .boolean)
def m_Mod_deepOf : xY := (⟨"BracketHouseModel", "deepOf", "(I)I"⟩, prog_14_method_75_code, 4, some .int)
def m_Mod_bounded : xY := (⟨"BracketHouseModel", "bounded", "(JZ)J"⟩, prog_14_method_56_code, 4, some .long)
def m_Mod_testOf : xY := (⟨"BracketHouseModel", "testOf", "(Z)Z"⟩, prog_14_method_61_code, 4, some .boolean)
def m_Mod_bothOf : xY := (⟨"BracketHouseModel", "bothOf", "(Z)Z"⟩, prog_14_method_62_code, 4, some .boolean)
def m_Mod_plainOf : xY := (⟨"BracketHouseModel", "plainOf", "(Z)Z"⟩, prog_14_method_63_code, 3, some .boolean)
def m_Mod_positiveOf : xY := (⟨"BracketHouseModel", "positiveOf", "(Z)Z"⟩, prog_14_method_64_code, 7, some .boolean)
def m_Mod_isBarred : xY := (⟨"BracketHouseModel", "isBarred", "(II)Z"⟩, prog_14_method_70_code, 3, some .boolean)
def m_Mod_said : xY := (⟨"BracketHouseModel", "said", "()I"⟩, prog_14_method_78_code, 3, some .int)
def m_Mod_isSaid : xY := (⟨"BracketHouseModel", "isSaid", "(II)Z"⟩, prog_14_method_77_code, 3, some .boolean)
def m_Mod_whole : xY := (⟨"BracketHouseModel", "whole", "(II)I"⟩, prog_14_method_79_code, 3, some .int)
def m_Mod_isWhole : xY := (⟨"BracketHouseModel", "isWhole", "(II)Z"⟩, prog_14_method_74_code, 3, some .boolean)
def m_Mod_undo : xY := (⟨"BracketHouseModel", "undo", "()I"⟩, prog_14_method_84_code, 3, some .int)
def m_Mod_put : xY := (⟨"BracketHouseModel", "put", "(II)I"⟩, prog_14_method_90_code, 3, some .int)
def m_Mod_putsKept : xY := (⟨"BracketHouseModel", "putsKept", "(II)I"⟩, prog_14_method_86_code, 4, some .int)
def m_Mod_keeps : xY := (⟨"BracketHouseModel", "keeps", "(I)V"⟩, prog_14_method_83_code, 4, none)
def m_Mod_forgetsEldest : xY := (⟨"BracketHouseModel", "forgetsEldest", "()V"⟩, prog_14_method_82_code, 3, none)
def m_Mod_puts : xY := (⟨"BracketHouseModel", "puts", "(II)V"⟩, prog_14_method_80_code, 4, none)
def m_Mod_goodOr : xY := (⟨"BracketHouseModel", "goodOr", "(I)I"⟩, prog_14_method_85_code, 2, some .int)
def m_Mod_cut : xY := (⟨"BracketHouseModel", "cut", "(I)I"⟩, prog_14_method_91_code, 2, some .int)
def m_Mod_cutsKept : xY := (⟨"BracketHouseModel", "cutsKept", "(I)I"⟩, prog_14_method_87_code, 3, some .int)
def m_Mod_strikesFor : xY := (⟨"BracketHouseModel", "strikesFor", "(I)I"⟩, prog_14_method_68_code, 2, some .int)
def m_Mod_cuts : xY := (⟨"BracketHouseModel", "cuts", "(I)V"⟩, prog_14_method_81_code, 3, none)
def m_Mod_turn : xY := (⟨"BracketHouseModel", "turn", "(II)I"⟩, prog_14_method_92_code, 3, some .int)
def m_Mod_turnsKept : xY := (⟨"BracketHouseModel", "turnsKept", "(II)I"⟩, prog_14_method_88_code, 4, some .int)
def m_Mod_pass : xY := (⟨"BracketHouseModel", "pass", "()I"⟩, prog_14_method_93_code, 1, some .int)
def m_Mod_passesKept : xY := (⟨"BracketHouseModel", "passesKept", "()I"⟩, prog_14_method_89_code, 1, some .int)
def m_Mod_mend : xY := (⟨"BracketHouseModel", "mend", "(I)I"⟩, prog_14_method_100_code, 3, some .int)
def m_Mod_laysMended : xY := (⟨"BracketHouseModel", "laysMended", "()I"⟩, prog_14_method_99_code, 5, some .int)
def m_Mod_laysCosts : xY := (⟨"BracketHouseModel", "laysCosts", "()V"⟩, prog_14_method_95_code, 3, none)
def m_Mod_mendsAhead : xY := (⟨"BracketHouseModel", "mendsAhead", "(II)I"⟩, prog_14_method_98_code, 5, some .int)
def m_Mod_leastOf : xY := (⟨"BracketHouseModel", "leastOf", "(II)I"⟩, prog_14_method_94_code, 3, some .int)
def m_Mod_lesser : xY := (⟨"BracketHouseModel", "lesser", "(II)I"⟩, prog_14_method_2_code, 2, some .int)
def m_Mod_mendsOpen : xY := (⟨"BracketHouseModel", "mendsOpen", "(II)I"⟩, prog_14_method_97_code, 6, some .int)
def m_Mod_arePair : xY := (⟨"BracketHouseModel", "arePair", "(II)Z"⟩, prog_14_method_96_code, 3, some .boolean)
def m_Mod_compare : xY := (⟨"BracketHouseModel", "compare", "(I)I"⟩, prog_14_method_101_code, 4, some .int)
def m_Mod_strike : xY := (⟨"BracketHouseModel", "strike", "(I)I"⟩, prog_14_method_105_code, 2, some .int)
def m_Mod_laysStruck : xY := (⟨"BracketHouseModel", "laysStruck", "()V"⟩, prog_14_method_102_code, 6, none)
def m_Mod_laysCut : xY := (⟨"BracketHouseModel", "laysCut", "(II)V"⟩, prog_14_method_104_code, 5, none)
def m_Mod_mateOf : xY := (⟨"BracketHouseModel", "mateOf", "(II)I"⟩, prog_14_method_103_code, 4, some .int)
def m_Mod_run : xY := (⟨"BracketHouseModel", "run", "(I)I"⟩, prog_14_method_106_code, 6, some .int)
def m_Mod_fits : xY := (⟨"BracketHouseModel", "fits", "(I)I"⟩, prog_14_method_107_code, 5, some .int)
def m_Mod_rows : xY := (⟨"BracketHouseModel", "rows", "(II)J"⟩, prog_14_method_110_code, 3, some .long)
def m_Mod_laysRows : xY := (⟨"BracketHouseModel", "laysRows", "(II)V"⟩, prog_14_method_109_code, 7, none)
def m_Mod_goOn : xY := (⟨"BracketHouseModel", "goOn", "(II)J"⟩, prog_14_method_108_code, 3, some .long)
def m_Mod_nth : xY := (⟨"BracketHouseModel", "nth", "(IJI)I"⟩, prog_14_method_111_code, 12, some .int)
def m_Mod_rank : xY := (⟨"BracketHouseModel", "rank", "()J"⟩, prog_14_method_113_code, 8, some .long)
def m_Mod_hasRank : xY := (⟨"BracketHouseModel", "hasRank", "()Z"⟩, prog_14_method_112_code, 3, some .boolean)
def m_Mod_game : xY := (⟨"BracketHouseModel", "game", "(I)I"⟩, prog_14_method_117_code, 3, some .int)
def m_Mod_worthAt : xY := (⟨"BracketHouseModel", "worthAt", "(I)I"⟩, prog_14_method_69_code, 2, some .int)
def m_Mod_laysGame : xY := (⟨"BracketHouseModel", "laysGame", "()V"⟩, prog_14_method_114_code, 3, none)
def m_Mod_byFirst : xY := (⟨"BracketHouseModel", "byFirst", "(II)I"⟩, prog_14_method_115_code, 3, some .int)
def m_Mod_byLast : xY := (⟨"BracketHouseModel", "byLast", "(II)I"⟩, prog_14_method_116_code, 3, some .int)
def m_Mod_greater : xY := (⟨"BracketHouseModel", "greater", "(II)I"⟩, prog_14_method_3_code, 2, some .int)
def m_Mod_hide : xY := (⟨"BracketHouseModel", "hide", "(II)I"⟩, prog_14_method_120_code, 6, some .int)
def m_Mod_hasAll : xY := (⟨"BracketHouseModel", "hasAll", "(III)Z"⟩, prog_14_method_118_code, 6, some .boolean)
def m_Mod_triesPair : xY := (⟨"BracketHouseModel", "triesPair", "(III)V"⟩, prog_14_method_119_code, 7, none)
def m_Mod_likely : xY := (⟨"BracketHouseModel", "likely", "(I)J"⟩, prog_14_method_121_code, 7, some .long)
def m_Mod_stopped : xY := (⟨"BracketHouseModel", "stopped", "()I"⟩, prog_14_method_122_code, 1, some .int)
def m_Mod_orders : xY := (⟨"BracketHouseModel", "orders", "()I"⟩, prog_14_method_125_code, 3, some .int)
def m_Mod_laysAllAside : xY := (⟨"BracketHouseModel", "laysAllAside", "()V"⟩, prog_14_method_123_code, 2, none)
def m_Mod_laysAside : xY := (⟨"BracketHouseModel", "laysAside", "(I)V"⟩, prog_14_method_13_code, 3, none)
def m_Mod_runs : xY := (⟨"BracketHouseModel", "runs", "(I)Z"⟩, prog_14_method_129_code, 5, some .boolean)
def m_Mod_goesAlong : xY := (⟨"BracketHouseModel", "goesAlong", "(IZ)V"⟩, prog_14_method_126_code, 5, none)
def m_Mod_obeys : xY := (⟨"BracketHouseModel", "obeys", "()I"⟩, prog_14_method_128_code, 3, some .int)
def m_Mod_small : xY := (⟨"BracketHouseModel", "small", "(J)I"⟩, prog_14_method_127_code, 2, some .int)
def m_Mod_takesAllBack : xY := (⟨"BracketHouseModel", "takesAllBack", "()V"⟩, prog_14_method_124_code, 2, none)
def m_Mod_takesBack : xY := (⟨"BracketHouseModel", "takesBack", "(I)V"⟩, prog_14_method_14_code, 3, none)
def m_Mod_readers : xY := (⟨"BracketHouseModel", "readers", "(II)I"⟩, prog_14_method_132_code, 5, some .int)
def m_Mod_readsPage : xY := (⟨"BracketHouseModel", "readsPage", "()V"⟩, prog_14_method_131_code, 4, none)
def m_Mod_draws : xY := (⟨"BracketHouseModel", "draws", "(I)I"⟩, prog_14_method_130_code, 2, some .int)
def m_Mod_drawn : xY := (⟨"BracketHouseModel", "drawn", "(I)I"⟩, prog_14_method_133_code, 2, some .int)
def m_Mod_count : xY := (⟨"BracketHouseModel", "count", "(I)I"⟩, prog_14_method_134_code, 2, some .int)
def m_Mod_status : xY := (⟨"BracketHouseModel", "status", "()I"⟩, prog_14_method_135_code, 1, some .int)
theorem cd_Hou_init : Cond.code m_Hou_init.1 m_Hou_init.2.1 m_Hou_init.2.2.1 m_Hou_init.2.2.2 ∈ gw := gi1 (i := 25) rfl (by decide +kernel)
theorem cd_Sta_init : Cond.code m_Sta_init.1 m_Sta_init.2.1 m_Sta_init.2.2.1 m_Sta_init.2.2.2 ∈ gw := gi1 (i := 33) rfl (by decide +kernel)
theorem cd_Row_init : Cond.code m_Row_init.1 m_Row_init.2.1 m_Row_init.2.2.1 m_Row_init.2.2.2 ∈ gw := gi1 (i := 39) rfl (by decide +kernel)
theorem cd_Tap_init : Cond.code m_Tap_init.1 m_Tap_init.2.1 m_Tap_init.2.2.1 m_Tap_init.2.2.2 ∈ gw := gi1 (i := 117) rfl (by decide +kernel)
theorem cd_Str_toCharArray : Cond.code m_Str_toCharArray.1 m_Str_toCharArray.2.1 m_Str_toCharArray.2.2.1 m_Str_toCharArray.2.2.2 ∈ gw := gi1 (i := 123) rfl (by decide +kernel)
theorem cd_Str_isLatin1 : Cond.code m_Str_isLatin1.1 m_Str_isLatin1.2.1 m_Str_isLatin1.2.2.1 m_Str_isLatin1.2.2.2 ∈ gw := gi1 (i := 127) rfl (by decide +kernel)
theorem cd_Lat_toChars : Cond.code m_Lat_toChars.1 m_Lat_toChars.2.1 m_Lat_toChars.2.2.1 m_Lat_toChars.2.2.2 ∈ gw := gi1 (i := 132) rfl (by decide +kernel)
theorem cd_Lat_inflate : Cond.code m_Lat_inflate.1 m_Lat_inflate.2.1 m_Lat_inflate.2.2.1 m_Lat_inflate.2.2.2 ∈ gw := gi1 (i := 135) rfl (by decide +kernel)
theorem cd_Str_checkBoundsOffCount : Cond.code m_Str_checkBoundsOffCount.1 m_Str_checkBoundsOffCount.2.1 m_Str_checkBoundsOffCount.2.2.1 m_Str_checkBoundsOffCount.2.2.2 ∈ gw := gi1 (i := 150) rfl (by decide +kernel)
theorem cd_Gra_init : Cond.code m_Gra_init.1 m_Gra_init.2.1 m_Gra_init.2.2.1 m_Gra_init.2.2.2 ∈ gw := gi1 (i := 201) rfl (by decide +kernel)
theorem cd_Tex_init : Cond.code m_Tex_init.1 m_Tex_init.2.1 m_Tex_init.2.2.1 m_Tex_init.2.2.2 ∈ gw := gi1 (i := 207) rfl (by decide +kernel)
theorem cd_Ask_init : Cond.code m_Ask_init.1 m_Ask_init.2.1 m_Ask_init.2.2.1 m_Ask_init.2.2.2 ∈ gw := gi2 (i := 47) rfl (by decide +kernel)
theorem cd_Sum_init : Cond.code m_Sum_init.1 m_Sum_init.2.1 m_Sum_init.2.2.1 m_Sum_init.2.2.2 ∈ gw := gi2 (i := 53) rfl (by decide +kernel)
theorem cd_Dee_init : Cond.code m_Dee_init.1 m_Dee_init.2.1 m_Dee_init.2.2.1 m_Dee_init.2.2.2 ∈ gw := gi2 (i := 78) rfl (by decide +kernel)
theorem cd_Run_init : Cond.code m_Run_init.1 m_Run_init.2.1 m_Run_init.2.2.1 m_Run_init.2.2.2 ∈ gw := gi2 (i := 105) rfl (by decide +kernel)
theorem cd_Pap_init : Cond.code m_Pap_init.1 m_Pap_init.2.1 m_Pap_init.2.2.1 m_Pap_init.2.2.2 ∈ gw := gi2 (i := 143) rfl (by decide +kernel)
theorem cd_Num_init : Cond.code m_Num_init.1 m_Num_init.2.1 m_Num_init.2.2.1 m_Num_init.2.2.2 ∈ gw := gi2 (i := 216) rfl (by decide +kernel)
theorem cd_Hou_terms : Cond.code m_Hou_terms.1 m_Hou_terms.2.1 m_Hou_terms.2.2.1 m_Hou_terms.2.2.2 ∈ gw := gi3 (i := 49) rfl (by decide +kernel)
theorem cd_Hou_refuse : Cond.code m_Hou_refuse.1 m_Hou_refuse.2.1 m_Hou_refuse.2.2.1 m_Hou_refuse.2.2.2 ∈ gw := gi3 (i := 57) rfl (by decide +kernel)
theorem cd_Hou_refusalIndex : Cond.code m_Hou_refusalIndex.1 m_Hou_refusalIndex.2.1 m_Hou_refusalIndex.2.2.1 m_Hou_refusalIndex.2.2.2 ∈ gw := gi3 (i := 60) rfl (by decide +kernel)
theorem cd_Dee_forget : Cond.code m_Dee_forget.1 m_Dee_forget.2.1 m_Dee_forget.2.2.1 m_Dee_forget.2.2.2 ∈ gw := gi3 (i := 64) rfl (by decide +kernel)
theorem cd_Hou_grant : Cond.code m_Hou_grant.1 m_Hou_grant.2.1 m_Hou_grant.2.2.1 m_Hou_grant.2.2.2 ∈ gw := gi3 (i := 68) rfl (by decide +kernel)
theorem cd_Hou_feed : Cond.code m_Hou_feed.1 m_Hou_feed.2.1 m_Hou_feed.2.2.1 m_Hou_feed.2.2.2 ∈ gw := gi3 (i := 72) rfl (by decide +kernel)
theorem cd_Tap_addNumber : Cond.code m_Tap_addNumber.1 m_Tap_addNumber.2.1 m_Tap_addNumber.2.2.1 m_Tap_addNumber.2.2.2 ∈ gw := gi3 (i := 76) rfl (by decide +kernel)
theorem cd_Hou_end : Cond.code m_Hou_end.1 m_Hou_end.2.1 m_Hou_end.2.2.1 m_Hou_end.2.2.2 ∈ gw := gi3 (i := 80) rfl (by decide +kernel)
theorem cd_Hou_row : Cond.code m_Hou_row.1 m_Hou_row.2.1 m_Hou_row.2.2.1 m_Hou_row.2.2.2 ∈ gw := gi3 (i := 84) rfl (by decide +kernel)
theorem cd_Row_insert : Cond.code m_Row_insert.1 m_Row_insert.2.1 m_Row_insert.2.2.1 m_Row_insert.2.2.2 ∈ gw := gi3 (i := 88) rfl (by decide +kernel)
theorem cd_Hou_blots : Cond.code m_Hou_blots.1 m_Hou_blots.2.1 m_Hou_blots.2.2.1 m_Hou_blots.2.2.2 ∈ gw := gi3 (i := 93) rfl (by decide +kernel)
theorem cd_Hou_law : Cond.code m_Hou_law.1 m_Hou_law.2.1 m_Hou_law.2.2.1 m_Hou_law.2.2.2 ∈ gw := gi3 (i := 97) rfl (by decide +kernel)
theorem cd_Gra_readsTape : Cond.code m_Gra_readsTape.1 m_Gra_readsTape.2.1 m_Gra_readsTape.2.2.1 m_Gra_readsTape.2.2.2 ∈ gw := gi3 (i := 101) rfl (by decide +kernel)
theorem cd_Tex_clear : Cond.code m_Tex_clear.1 m_Tex_clear.2.1 m_Tex_clear.2.2.1 m_Tex_clear.2.2.2 ∈ gw := gi3 (i := 105) rfl (by decide +kernel)
theorem cd_Tap_split : Cond.code m_Tap_split.1 m_Tap_split.2.1 m_Tap_split.2.2.1 m_Tap_split.2.2.2 ∈ gw := gi3 (i := 109) rfl (by decide +kernel)
theorem cd_Tap_endOf : Cond.code m_Tap_endOf.1 m_Tap_endOf.2.1 m_Tap_endOf.2.2.1 m_Tap_endOf.2.2.2 ∈ gw := gi3 (i := 113) rfl (by decide +kernel)
theorem cd_Tap_isLetter : Cond.code m_Tap_isLetter.1 m_Tap_isLetter.2.1 m_Tap_isLetter.2.2.1 m_Tap_isLetter.2.2.2 ∈ gw := gi3 (i := 116) rfl (by decide +kernel)
theorem cd_Tap_isDigit : Cond.code m_Tap_isDigit.1 m_Tap_isDigit.2.1 m_Tap_isDigit.2.2.1 m_Tap_isDigit.2.2.2 ∈ gw := gi3 (i := 119) rfl (by decide +kernel)
theorem cd_Tap_addToken : Cond.code m_Tap_addToken.1 m_Tap_addToken.2.1 m_Tap_addToken.2.2.1 m_Tap_addToken.2.2.2 ∈ gw := gi3 (i := 123) rfl (by decide +kernel)
theorem cd_Tap_numberOf : Cond.code m_Tap_numberOf.1 m_Tap_numberOf.2.1 m_Tap_numberOf.2.2.1 m_Tap_numberOf.2.2.2 ∈ gw := gi3 (i := 127) rfl (by decide +kernel)
theorem cd_Tap_wordOf : Cond.code m_Tap_wordOf.1 m_Tap_wordOf.2.1 m_Tap_wordOf.2.2.1 m_Tap_wordOf.2.2.2 ∈ gw := gi3 (i := 134) rfl (by decide +kernel)
theorem cd_Tap_hasWord : Cond.code m_Tap_hasWord.1 m_Tap_hasWord.2.1 m_Tap_hasWord.2.2.1 m_Tap_hasWord.2.2.2 ∈ gw := gi3 (i := 138) rfl (by decide +kernel)
theorem cd_Gra_clause : Cond.code m_Gra_clause.1 m_Gra_clause.2.1 m_Gra_clause.2.2.1 m_Gra_clause.2.2.2 ∈ gw := gi3 (i := 142) rfl (by decide +kernel)
theorem cd_Gra_fail : Cond.code m_Gra_fail.1 m_Gra_fail.2.1 m_Gra_fail.2.2.1 m_Gra_fail.2.2.2 ∈ gw := gi3 (i := 146) rfl (by decide +kernel)
theorem cd_Gra_advance : Cond.code m_Gra_advance.1 m_Gra_advance.2.1 m_Gra_advance.2.2.1 m_Gra_advance.2.2.2 ∈ gw := gi3 (i := 150) rfl (by decide +kernel)
theorem cd_Tex_addClause : Cond.code m_Tex_addClause.1 m_Tex_addClause.2.1 m_Tex_addClause.2.2.1 m_Tex_addClause.2.2.2 ∈ gw := gi3 (i := 154) rfl (by decide +kernel)
theorem cd_Gra_order : Cond.code m_Gra_order.1 m_Gra_order.2.1 m_Gra_order.2.2.1 m_Gra_order.2.2.2 ∈ gw := gi3 (i := 158) rfl (by decide +kernel)
theorem cd_Gra_startedSum : Cond.code m_Gra_startedSum.1 m_Gra_startedSum.2.1 m_Gra_startedSum.2.2.1 m_Gra_startedSum.2.2.2 ∈ gw := gi3 (i := 162) rfl (by decide +kernel)
theorem cd_Gra_sum : Cond.code m_Gra_sum.1 m_Gra_sum.2.1 m_Gra_sum.2.2.1 m_Gra_sum.2.2.2 ∈ gw := gi3 (i := 166) rfl (by decide +kernel)
theorem cd_Gra_term : Cond.code m_Gra_term.1 m_Gra_term.2.1 m_Gra_term.2.2.1 m_Gra_term.2.2.2 ∈ gw := gi3 (i := 170) rfl (by decide +kernel)
theorem cd_Gra_part : Cond.code m_Gra_part.1 m_Gra_part.2.1 m_Gra_part.2.2.1 m_Gra_part.2.2.2 ∈ gw := gi3 (i := 174) rfl (by decide +kernel)
theorem cd_Gra_openBracket : Cond.code m_Gra_openBracket.1 m_Gra_openBracket.2.1 m_Gra_openBracket.2.2.1 m_Gra_openBracket.2.2.2 ∈ gw := gi3 (i := 178) rfl (by decide +kernel)
theorem cd_Gra_take : Cond.code m_Gra_take.1 m_Gra_take.2.1 m_Gra_take.2.2.1 m_Gra_take.2.2.2 ∈ gw := gi3 (i := 182) rfl (by decide +kernel)
theorem cd_Gra_isNumber : Cond.code m_Gra_isNumber.1 m_Gra_isNumber.2.1 m_Gra_isNumber.2.2.1 m_Gra_isNumber.2.2.2 ∈ gw := gi3 (i := 186) rfl (by decide +kernel)
theorem cd_Tex_addStep : Cond.code m_Tex_addStep.1 m_Tex_addStep.2.1 m_Tex_addStep.2.2.1 m_Tex_addStep.2.2.2 ∈ gw := gi3 (i := 190) rfl (by decide +kernel)
theorem cd_Gra_placeWord : Cond.code m_Gra_placeWord.1 m_Gra_placeWord.2.1 m_Gra_placeWord.2.2.1 m_Gra_placeWord.2.2.2 ∈ gw := gi3 (i := 194) rfl (by decide +kernel)
theorem cd_Gra_word : Cond.code m_Gra_word.1 m_Gra_word.2.1 m_Gra_word.2.2.1 m_Gra_word.2.2.2 ∈ gw := gi3 (i := 198) rfl (by decide +kernel)
theorem cd_Gra_times : Cond.code m_Gra_times.1 m_Gra_times.2.1 m_Gra_times.2.2.1 m_Gra_times.2.2.2 ∈ gw := gi3 (i := 202) rfl (by decide +kernel)
theorem cd_Gra_test : Cond.code m_Gra_test.1 m_Gra_test.2.1 m_Gra_test.2.2.1 m_Gra_test.2.2.2 ∈ gw := gi3 (i := 206) rfl (by decide +kernel)
theorem cd_Gra_both : Cond.code m_Gra_both.1 m_Gra_both.2.1 m_Gra_both.2.2.1 m_Gra_both.2.2.2 ∈ gw := gi3 (i := 210) rfl (by decide +kernel)
theorem cd_Gra_plain : Cond.code m_Gra_plain.1 m_Gra_plain.2.1 m_Gra_plain.2.2.1 m_Gra_plain.2.2.2 ∈ gw := gi3 (i := 214) rfl (by decide +kernel)
theorem cd_Gra_comparison : Cond.code m_Gra_comparison.1 m_Gra_comparison.2.1 m_Gra_comparison.2.2.1 m_Gra_comparison.2.2.2 ∈ gw := gi3 (i := 218) rfl (by decide +kernel)
theorem cd_Tex_init2 : Cond.code m_Tex_init2.1 m_Tex_init2.2.1 m_Tex_init2.2.2.1 m_Tex_init2.2.2.2 ∈ gw := gi3 (i := 222) rfl (by decide +kernel)
theorem cd_Arr_copyOf : Cond.code m_Arr_copyOf.1 m_Arr_copyOf.2.1 m_Arr_copyOf.2.2.1 m_Arr_copyOf.2.2.2 ∈ gw := gi3 (i := 225) rfl (by decide +kernel)
theorem cd_Hou_orders : Cond.code m_Hou_orders.1 m_Hou_orders.2.1 m_Hou_orders.2.2.1 m_Hou_orders.2.2.2 ∈ gw := gi3 (i := 238) rfl (by decide +kernel)
theorem cd_Run_runWhole : Cond.code m_Run_runWhole.1 m_Run_runWhole.2.1 m_Run_runWhole.2.2.1 m_Run_runWhole.2.2.2 ∈ gw := gi4 (i := 2) rfl (by decide +kernel)
theorem cd_Sta_copyFrom : Cond.code m_Sta_copyFrom.1 m_Sta_copyFrom.2.1 m_Sta_copyFrom.2.2.1 m_Sta_copyFrom.2.2.2 ∈ gw := gi4 (i := 6) rfl (by decide +kernel)
theorem cd_Row_copyFrom : Cond.code m_Row_copyFrom.1 m_Row_copyFrom.2.1 m_Row_copyFrom.2.2.1 m_Row_copyFrom.2.2.2 ∈ gw := gi4 (i := 10) rfl (by decide +kernel)
theorem cd_Dee_copyFrom : Cond.code m_Dee_copyFrom.1 m_Dee_copyFrom.2.1 m_Dee_copyFrom.2.2.1 m_Dee_copyFrom.2.2.2 ∈ gw := gi4 (i := 14) rfl (by decide +kernel)
theorem cd_Run_runOnce : Cond.code m_Run_runOnce.1 m_Run_runOnce.2.1 m_Run_runOnce.2.2.1 m_Run_runOnce.2.2.2 ∈ gw := gi4 (i := 19) rfl (by decide +kernel)
theorem cd_Run_look : Cond.code m_Run_look.1 m_Run_look.2.1 m_Run_look.2.2.1 m_Run_look.2.2.2 ∈ gw := gi4 (i := 23) rfl (by decide +kernel)
theorem cd_Row_looseOnes : Cond.code m_Row_looseOnes.1 m_Row_looseOnes.2.1 m_Row_looseOnes.2.2.1 m_Row_looseOnes.2.2.2 ∈ gw := gi4 (i := 27) rfl (by decide +kernel)
theorem cd_Row_pairUp : Cond.code m_Row_pairUp.1 m_Row_pairUp.2.1 m_Row_pairUp.2.2.1 m_Row_pairUp.2.2.2 ∈ gw := gi4 (i := 31) rfl (by decide +kernel)
theorem cd_Row_findMates : Cond.code m_Row_findMates.1 m_Row_findMates.2.1 m_Row_findMates.2.2.1 m_Row_findMates.2.2.2 ∈ gw := gi4 (i := 35) rfl (by decide +kernel)
theorem cd_Row_opens : Cond.code m_Row_opens.1 m_Row_opens.2.1 m_Row_opens.2.2.1 m_Row_opens.2.2.2 ∈ gw := gi4 (i := 38) rfl (by decide +kernel)
theorem cd_Row_closes : Cond.code m_Row_closes.1 m_Row_closes.2.1 m_Row_closes.2.2.1 m_Row_closes.2.2.2 ∈ gw := gi4 (i := 41) rfl (by decide +kernel)
theorem cd_Row_kindOf : Cond.code m_Row_kindOf.1 m_Row_kindOf.2.1 m_Row_kindOf.2.2.1 m_Row_kindOf.2.2.2 ∈ gw := gi4 (i := 44) rfl (by decide +kernel)
theorem cd_Row_countDepths : Cond.code m_Row_countDepths.1 m_Row_countDepths.2.1 m_Row_countDepths.2.2.1 m_Row_countDepths.2.2.2 ∈ gw := gi4 (i := 48) rfl (by decide +kernel)
theorem cd_Row_has : Cond.code m_Row_has.1 m_Row_has.2.1 m_Row_has.2.2.1 m_Row_has.2.2.2 ∈ gw := gi4 (i := 52) rfl (by decide +kernel)
theorem cd_Row_depthOf : Cond.code m_Row_depthOf.1 m_Row_depthOf.2.1 m_Row_depthOf.2.2.1 m_Row_depthOf.2.2.2 ∈ gw := gi4 (i := 56) rfl (by decide +kernel)
theorem cd_Sum_of : Cond.code m_Sum_of.1 m_Sum_of.2.1 m_Sum_of.2.2.1 m_Sum_of.2.2.2 ∈ gw := gi4 (i := 60) rfl (by decide +kernel)
theorem cd_Sum_taken : Cond.code m_Sum_taken.1 m_Sum_taken.2.1 m_Sum_taken.2.2.1 m_Sum_taken.2.2.2 ∈ gw := gi4 (i := 63) rfl (by decide +kernel)
theorem cd_Sum_combined : Cond.code m_Sum_combined.1 m_Sum_combined.2.1 m_Sum_combined.2.2.1 m_Sum_combined.2.2.2 ∈ gw := gi4 (i := 66) rfl (by decide +kernel)
theorem cd_Dee_putSign : Cond.code m_Dee_putSign.1 m_Dee_putSign.2.1 m_Dee_putSign.2.2.1 m_Dee_putSign.2.2.2 ∈ gw := gi4 (i := 73) rfl (by decide +kernel)
theorem cd_Sta_lawOf : Cond.code m_Sta_lawOf.1 m_Sta_lawOf.2.1 m_Sta_lawOf.2.2.1 m_Sta_lawOf.2.2.2 ∈ gw := gi4 (i := 77) rfl (by decide +kernel)
theorem cd_Ask_isBarred : Cond.code m_Ask_isBarred.1 m_Ask_isBarred.2.1 m_Ask_isBarred.2.2.1 m_Ask_isBarred.2.2.2 ∈ gw := gi4 (i := 81) rfl (by decide +kernel)
theorem cd_Ask_look : Cond.code m_Ask_look.1 m_Ask_look.2.1 m_Ask_look.2.2.1 m_Ask_look.2.2.2 ∈ gw := gi4 (i := 85) rfl (by decide +kernel)
theorem cd_Row_personOf : Cond.code m_Row_personOf.1 m_Row_personOf.2.1 m_Row_personOf.2.2.1 m_Row_personOf.2.2.2 ∈ gw := gi4 (i := 90) rfl (by decide +kernel)
theorem cd_Ask_holds : Cond.code m_Ask_holds.1 m_Ask_holds.2.1 m_Ask_holds.2.2.1 m_Ask_holds.2.2.2 ∈ gw := gi4 (i := 94) rfl (by decide +kernel)
theorem cd_Ask_amount : Cond.code m_Ask_amount.1 m_Ask_amount.2.1 m_Ask_amount.2.2.1 m_Ask_amount.2.2.2 ∈ gw := gi4 (i := 99) rfl (by decide +kernel)
theorem cd_Dee_remember : Cond.code m_Dee_remember.1 m_Dee_remember.2.1 m_Dee_remember.2.2.1 m_Dee_remember.2.2.2 ∈ gw := gi4 (i := 108) rfl (by decide +kernel)
theorem cd_Dee_cutSign : Cond.code m_Dee_cutSign.1 m_Dee_cutSign.2.1 m_Dee_cutSign.2.2.1 m_Dee_cutSign.2.2.2 ∈ gw := gi4 (i := 112) rfl (by decide +kernel)
theorem cd_Row_remove : Cond.code m_Row_remove.1 m_Row_remove.2.1 m_Row_remove.2.2.1 m_Row_remove.2.2.2 ∈ gw := gi4 (i := 117) rfl (by decide +kernel)
theorem cd_Dee_turnSign : Cond.code m_Dee_turnSign.1 m_Dee_turnSign.2.1 m_Dee_turnSign.2.2.1 m_Dee_turnSign.2.2.2 ∈ gw := gi4 (i := 122) rfl (by decide +kernel)
theorem cd_Row_replace : Cond.code m_Row_replace.1 m_Row_replace.2.1 m_Row_replace.2.2.1 m_Row_replace.2.2.2 ∈ gw := gi4 (i := 126) rfl (by decide +kernel)
theorem cd_Dee_passPage : Cond.code m_Dee_passPage.1 m_Dee_passPage.2.1 m_Dee_passPage.2.2.1 m_Dee_passPage.2.2.2 ∈ gw := gi4 (i := 130) rfl (by decide +kernel)
theorem cd_Hou_fault : Cond.code m_Hou_fault.1 m_Hou_fault.2.1 m_Hou_fault.2.2.1 m_Hou_fault.2.2.2 ∈ gw := gi4 (i := 134) rfl (by decide +kernel)
theorem cd_Hou_stopped : Cond.code m_Hou_stopped.1 m_Hou_stopped.2.1 m_Hou_stopped.2.2.1 m_Hou_stopped.2.2.2 ∈ gw := gi4 (i := 138) rfl (by decide +kernel)
theorem cd_Hou_force : Cond.code m_Hou_force.1 m_Hou_force.2.1 m_Hou_force.2.2.1 m_Hou_force.2.2.2 ∈ gw := gi4 (i := 142) rfl (by decide +kernel)
theorem cd_Sta_hasLaw : Cond.code m_Sta_hasLaw.1 m_Sta_hasLaw.2.1 m_Sta_hasLaw.2.2.1 m_Sta_hasLaw.2.2.2 ∈ gw := gi4 (i := 146) rfl (by decide +kernel)
theorem cd_Hou_asks : Cond.code m_Hou_asks.1 m_Hou_asks.2.1 m_Hou_asks.2.2.1 m_Hou_asks.2.2.2 ∈ gw := gi4 (i := 150) rfl (by decide +kernel)
theorem cd_Hou_put : Cond.code m_Hou_put.1 m_Hou_put.2.1 m_Hou_put.2.2.1 m_Hou_put.2.2.2 ∈ gw := gi4 (i := 157) rfl (by decide +kernel)
theorem cd_Hou_answer : Cond.code m_Hou_answer.1 m_Hou_answer.2.1 m_Hou_answer.2.2.1 m_Hou_answer.2.2.2 ∈ gw := gi4 (i := 162) rfl (by decide +kernel)
theorem cd_Hou_cut : Cond.code m_Hou_cut.1 m_Hou_cut.2.1 m_Hou_cut.2.2.1 m_Hou_cut.2.2.2 ∈ gw := gi4 (i := 166) rfl (by decide +kernel)
theorem cd_Hou_turn : Cond.code m_Hou_turn.1 m_Hou_turn.2.1 m_Hou_turn.2.2.1 m_Hou_turn.2.2.2 ∈ gw := gi4 (i := 171) rfl (by decide +kernel)
theorem cd_Hou_pass : Cond.code m_Hou_pass.1 m_Hou_pass.2.1 m_Hou_pass.2.2.1 m_Hou_pass.2.2.2 ∈ gw := gi4 (i := 176) rfl (by decide +kernel)
theorem cd_Hou_undo : Cond.code m_Hou_undo.1 m_Hou_undo.2.1 m_Hou_undo.2.2.1 m_Hou_undo.2.2.2 ∈ gw := gi4 (i := 181) rfl (by decide +kernel)
theorem cd_Dee_undoLatest : Cond.code m_Dee_undoLatest.1 m_Dee_undoLatest.2.1 m_Dee_undoLatest.2.2.1 m_Dee_undoLatest.2.2.2 ∈ gw := gi4 (i := 185) rfl (by decide +kernel)
theorem cd_Hou_at : Cond.code m_Hou_at.1 m_Hou_at.2.1 m_Hou_at.2.2.1 m_Hou_at.2.2.2 ∈ gw := gi4 (i := 189) rfl (by decide +kernel)
theorem cd_Row_mateOf : Cond.code m_Row_mateOf.1 m_Row_mateOf.2.1 m_Row_mateOf.2.2.1 m_Row_mateOf.2.2.2 ∈ gw := gi4 (i := 194) rfl (by decide +kernel)
theorem cd_Row_isLoose : Cond.code m_Row_isLoose.1 m_Row_isLoose.2.1 m_Row_isLoose.2.2.1 m_Row_isLoose.2.2.2 ∈ gw := gi4 (i := 199) rfl (by decide +kernel)
theorem cd_Row_isName : Cond.code m_Row_isName.1 m_Row_isName.2.1 m_Row_isName.2.2.1 m_Row_isName.2.2.2 ∈ gw := gi4 (i := 202) rfl (by decide +kernel)
theorem cd_Hou_said : Cond.code m_Hou_said.1 m_Hou_said.2.1 m_Hou_said.2.2.1 m_Hou_said.2.2.2 ∈ gw := gi4 (i := 206) rfl (by decide +kernel)
theorem cd_Hou_whole : Cond.code m_Hou_whole.1 m_Hou_whole.2.1 m_Hou_whole.2.2.1 m_Hou_whole.2.2.2 ∈ gw := gi4 (i := 212) rfl (by decide +kernel)
theorem cd_Row_isWhole : Cond.code m_Row_isWhole.1 m_Row_isWhole.2.1 m_Row_isWhole.2.2.1 m_Row_isWhole.2.2.2 ∈ gw := gi4 (i := 216) rfl (by decide +kernel)
theorem cd_Hou_mend : Cond.code m_Hou_mend.1 m_Hou_mend.2.1 m_Hou_mend.2.2.1 m_Hou_mend.2.2.2 ∈ gw := gi4 (i := 220) rfl (by decide +kernel)
theorem cd_Pap_mends : Cond.code m_Pap_mends.1 m_Pap_mends.2.1 m_Pap_mends.2.2.1 m_Pap_mends.2.2.2 ∈ gw := gi4 (i := 224) rfl (by decide +kernel)
theorem cd_Pap_priceAll : Cond.code m_Pap_priceAll.1 m_Pap_priceAll.2.1 m_Pap_priceAll.2.2.1 m_Pap_priceAll.2.2.2 ∈ gw := gi4 (i := 228) rfl (by decide +kernel)
theorem cd_Pap_mendRun : Cond.code m_Pap_mendRun.1 m_Pap_mendRun.2.1 m_Pap_mendRun.2.2.1 m_Pap_mendRun.2.2.2 ∈ gw := gi4 (i := 235) rfl (by decide +kernel)
theorem cd_Pap_mendOpening : Cond.code m_Pap_mendOpening.1 m_Pap_mendOpening.2.1 m_Pap_mendOpening.2.2.1 m_Pap_mendOpening.2.2.2 ∈ gw := gi5 (i := 1) rfl (by decide +kernel)
theorem cd_Pap_newSign : Cond.code m_Pap_newSign.1 m_Pap_newSign.2.1 m_Pap_newSign.2.2.1 m_Pap_newSign.2.2.2 ∈ gw := gi5 (i := 5) rfl (by decide +kernel)
theorem cd_Hou_strike : Cond.code m_Hou_strike.1 m_Hou_strike.2.1 m_Hou_strike.2.2.1 m_Hou_strike.2.2.2 ∈ gw := gi5 (i := 12) rfl (by decide +kernel)
theorem cd_Pap_strikes : Cond.code m_Pap_strikes.1 m_Pap_strikes.2.1 m_Pap_strikes.2.2.1 m_Pap_strikes.2.2.2 ∈ gw := gi5 (i := 16) rfl (by decide +kernel)
theorem cd_Pap_stakeAll : Cond.code m_Pap_stakeAll.1 m_Pap_stakeAll.2.1 m_Pap_stakeAll.2.2.1 m_Pap_stakeAll.2.2.2 ∈ gw := gi5 (i := 20) rfl (by decide +kernel)
theorem cd_Pap_strikeRun : Cond.code m_Pap_strikeRun.1 m_Pap_strikeRun.2.1 m_Pap_strikeRun.2.2.1 m_Pap_strikeRun.2.2.2 ∈ gw := gi5 (i := 25) rfl (by decide +kernel)
theorem cd_Pap_chooseStruck : Cond.code m_Pap_chooseStruck.1 m_Pap_chooseStruck.2.1 m_Pap_chooseStruck.2.2.1 m_Pap_chooseStruck.2.2.2 ∈ gw := gi5 (i := 29) rfl (by decide +kernel)
theorem cd_Pap_chooseMate : Cond.code m_Pap_chooseMate.1 m_Pap_chooseMate.2.1 m_Pap_chooseMate.2.2.1 m_Pap_chooseMate.2.2.2 ∈ gw := gi5 (i := 33) rfl (by decide +kernel)
theorem cd_Hou_run : Cond.code m_Hou_run.1 m_Hou_run.2.1 m_Hou_run.2.2.1 m_Hou_run.2.2.2 ∈ gw := gi5 (i := 37) rfl (by decide +kernel)
theorem cd_Pap_findRun : Cond.code m_Pap_findRun.1 m_Pap_findRun.2.1 m_Pap_findRun.2.2.1 m_Pap_findRun.2.2.2 ∈ gw := gi5 (i := 41) rfl (by decide +kernel)
theorem cd_Hou_fits : Cond.code m_Hou_fits.1 m_Hou_fits.2.1 m_Hou_fits.2.2.1 m_Hou_fits.2.2.2 ∈ gw := gi5 (i := 46) rfl (by decide +kernel)
theorem cd_Pap_fitting : Cond.code m_Pap_fitting.1 m_Pap_fitting.2.1 m_Pap_fitting.2.2.1 m_Pap_fitting.2.2.2 ∈ gw := gi5 (i := 50) rfl (by decide +kernel)
theorem cd_Hou_rows : Cond.code m_Hou_rows.1 m_Hou_rows.2.1 m_Hou_rows.2.2.1 m_Hou_rows.2.2.2 ∈ gw := gi5 (i := 56) rfl (by decide +kernel)
theorem cd_Num_howMany : Cond.code m_Num_howMany.1 m_Num_howMany.2.1 m_Num_howMany.2.2.1 m_Num_howMany.2.2.2 ∈ gw := gi5 (i := 61) rfl (by decide +kernel)
theorem cd_Num_findWays : Cond.code m_Num_findWays.1 m_Num_findWays.2.1 m_Num_findWays.2.2.1 m_Num_findWays.2.2.2 ∈ gw := gi5 (i := 65) rfl (by decide +kernel)
theorem cd_Arr_fill : Cond.code m_Arr_fill.1 m_Arr_fill.2.1 m_Arr_fill.2.2.1 m_Arr_fill.2.2.2 ∈ gw := gi5 (i := 68) rfl (by decide +kernel)
theorem cd_Hou_nth : Cond.code m_Hou_nth.1 m_Hou_nth.2.1 m_Hou_nth.2.2.1 m_Hou_nth.2.2.2 ∈ gw := gi5 (i := 73) rfl (by decide +kernel)
theorem cd_Num_signOf : Cond.code m_Num_signOf.1 m_Num_signOf.2.1 m_Num_signOf.2.2.1 m_Num_signOf.2.2.2 ∈ gw := gi5 (i := 77) rfl (by decide +kernel)
theorem cd_Hou_rank : Cond.code m_Hou_rank.1 m_Hou_rank.2.1 m_Hou_rank.2.2.1 m_Hou_rank.2.2.2 ∈ gw := gi5 (i := 82) rfl (by decide +kernel)
theorem cd_Num_numberOf : Cond.code m_Num_numberOf.1 m_Num_numberOf.2.1 m_Num_numberOf.2.2.1 m_Num_numberOf.2.2.2 ∈ gw := gi5 (i := 86) rfl (by decide +kernel)
theorem cd_Row_isAllWhole : Cond.code m_Row_isAllWhole.1 m_Row_isAllWhole.2.1 m_Row_isAllWhole.2.2.1 m_Row_isAllWhole.2.2.2 ∈ gw := gi5 (i := 90) rfl (by decide +kernel)
theorem cd_Hou_game : Cond.code m_Hou_game.1 m_Hou_game.2.1 m_Hou_game.2.2.1 m_Hou_game.2.2.2 ∈ gw := gi5 (i := 99) rfl (by decide +kernel)
theorem cd_Pap_play : Cond.code m_Pap_play.1 m_Pap_play.2.1 m_Pap_play.2.2.1 m_Pap_play.2.2.2 ∈ gw := gi5 (i := 104) rfl (by decide +kernel)
theorem cd_Hou_hide : Cond.code m_Hou_hide.1 m_Hou_hide.2.1 m_Hou_hide.2.2.1 m_Hou_hide.2.2.2 ∈ gw := gi5 (i := 109) rfl (by decide +kernel)
theorem cd_Pap_hides : Cond.code m_Pap_hides.1 m_Pap_hides.2.1 m_Pap_hides.2.2.1 m_Pap_hides.2.2.2 ∈ gw := gi5 (i := 113) rfl (by decide +kernel)
theorem cd_Pap_isOneOf : Cond.code m_Pap_isOneOf.1 m_Pap_isOneOf.2.1 m_Pap_isOneOf.2.2.1 m_Pap_isOneOf.2.2.2 ∈ gw := gi5 (i := 116) rfl (by decide +kernel)
theorem cd_Pap_tryHiding : Cond.code m_Pap_tryHiding.1 m_Pap_tryHiding.2.1 m_Pap_tryHiding.2.2.1 m_Pap_tryHiding.2.2.2 ∈ gw := gi5 (i := 122) rfl (by decide +kernel)
theorem cd_Hou_likely : Cond.code m_Hou_likely.1 m_Hou_likely.2.1 m_Hou_likely.2.2.1 m_Hou_likely.2.2.2 ∈ gw := gi5 (i := 126) rfl (by decide +kernel)
theorem cd_Num_likelihood : Cond.code m_Num_likelihood.1 m_Num_likelihood.2.1 m_Num_likelihood.2.2.1 m_Num_likelihood.2.2.2 ∈ gw := gi5 (i := 130) rfl (by decide +kernel)
theorem cd_Hou_compare : Cond.code m_Hou_compare.1 m_Hou_compare.2.1 m_Hou_compare.2.2.1 m_Hou_compare.2.2.2 ∈ gw := gi5 (i := 137) rfl (by decide +kernel)
theorem cd_Hou_readers : Cond.code m_Hou_readers.1 m_Hou_readers.2.1 m_Hou_readers.2.2.1 m_Hou_readers.2.2.2 ∈ gw := gi5 (i := 141) rfl (by decide +kernel)
theorem cd_Hou_readPage : Cond.code m_Hou_readPage.1 m_Hou_readPage.2.1 m_Hou_readPage.2.2.1 m_Hou_readPage.2.2.2 ∈ gw := gi5 (i := 147) rfl (by decide +kernel)
theorem cd_Hou_nextDraw : Cond.code m_Hou_nextDraw.1 m_Hou_nextDraw.2.1 m_Hou_nextDraw.2.2.1 m_Hou_nextDraw.2.2.2 ∈ gw := gi5 (i := 150) rfl (by decide +kernel)
theorem cd_Hou_drawn : Cond.code m_Hou_drawn.1 m_Hou_drawn.2.1 m_Hou_drawn.2.2.1 m_Hou_drawn.2.2.2 ∈ gw := gi5 (i := 156) rfl (by decide +kernel)
theorem cd_Hou_image : Cond.code m_Hou_image.1 m_Hou_image.2.1 m_Hou_image.2.2.1 m_Hou_image.2.2.2 ∈ gw := gi5 (i := 161) rfl (by decide +kernel)
theorem cd_Hou_back : Cond.code m_Hou_back.1 m_Hou_back.2.1 m_Hou_back.2.2.1 m_Hou_back.2.2.2 ∈ gw := gi5 (i := 165) rfl (by decide +kernel)
theorem cd_Hou_count : Cond.code m_Hou_count.1 m_Hou_count.2.1 m_Hou_count.2.2.1 m_Hou_count.2.2.2 ∈ gw := gi5 (i := 169) rfl (by decide +kernel)
theorem cd_Hou_status : Cond.code m_Hou_status.1 m_Hou_status.2.1 m_Hou_status.2.2.1 m_Hou_status.2.2.2 ∈ gw := gi5 (i := 173) rfl (by decide +kernel)
theorem cd_Mod_init : Cond.code m_Mod_init.1 m_Mod_init.2.1 m_Mod_init.2.2.1 m_Mod_init.2.2.2 ∈ gw := gi5 (i := 178) rfl (by decide +kernel)
theorem cd_Mod_image : Cond.code m_Mod_image.1 m_Mod_image.2.1 m_Mod_image.2.2.1 m_Mod_image.2.2.2 ∈ gw := gi6 (i := 103) rfl (by decide +kernel)
theorem cd_Mod_lies : Cond.code m_Mod_lies.1 m_Mod_lies.2.1 m_Mod_lies.2.2.1 m_Mod_lies.2.2.2 ∈ gw := gi6 (i := 106) rfl (by decide +kernel)
theorem cd_Mod_refuses : Cond.code m_Mod_refuses.1 m_Mod_refuses.2.1 m_Mod_refuses.2.2.1 m_Mod_refuses.2.2.2 ∈ gw := gi6 (i := 110) rfl (by decide +kernel)
theorem cd_Mod_good : Cond.code m_Mod_good.1 m_Mod_good.2.1 m_Mod_good.2.2.1 m_Mod_good.2.2.2 ∈ gw := gi6 (i := 114) rfl (by decide +kernel)
theorem cd_Mod_back : Cond.code m_Mod_back.1 m_Mod_back.2.1 m_Mod_back.2.2.1 m_Mod_back.2.2.2 ∈ gw := gi6 (i := 118) rfl (by decide +kernel)
theorem cd_Mod_settled : Cond.code m_Mod_settled.1 m_Mod_settled.2.1 m_Mod_settled.2.2.1 m_Mod_settled.2.2.2 ∈ gw := gi6 (i := 122) rfl (by decide +kernel)
theorem cd_Mod_terms : Cond.code m_Mod_terms.1 m_Mod_terms.2.1 m_Mod_terms.2.2.1 m_Mod_terms.2.2.2 ∈ gw := gi6 (i := 126) rfl (by decide +kernel)
theorem cd_Mod_isTerm : Cond.code m_Mod_isTerm.1 m_Mod_isTerm.2.1 m_Mod_isTerm.2.2.1 m_Mod_isTerm.2.2.2 ∈ gw := gi6 (i := 129) rfl (by decide +kernel)
theorem cd_Mod_termAt : Cond.code m_Mod_termAt.1 m_Mod_termAt.2.1 m_Mod_termAt.2.2.1 m_Mod_termAt.2.2.2 ∈ gw := gi6 (i := 132) rfl (by decide +kernel)
theorem cd_Mod_row : Cond.code m_Mod_row.1 m_Mod_row.2.1 m_Mod_row.2.2.1 m_Mod_row.2.2.2 ∈ gw := gi6 (i := 136) rfl (by decide +kernel)
theorem cd_Mod_length : Cond.code m_Mod_length.1 m_Mod_length.2.1 m_Mod_length.2.2.1 m_Mod_length.2.2.2 ∈ gw := gi6 (i := 140) rfl (by decide +kernel)
theorem cd_Mod_isSign : Cond.code m_Mod_isSign.1 m_Mod_isSign.2.1 m_Mod_isSign.2.2.1 m_Mod_isSign.2.2.2 ∈ gw := gi6 (i := 143) rfl (by decide +kernel)
theorem cd_Mod_blots : Cond.code m_Mod_blots.1 m_Mod_blots.2.1 m_Mod_blots.2.2.1 m_Mod_blots.2.2.2 ∈ gw := gi6 (i := 147) rfl (by decide +kernel)
theorem cd_Mod_feed : Cond.code m_Mod_feed.1 m_Mod_feed.2.1 m_Mod_feed.2.2.1 m_Mod_feed.2.2.2 ∈ gw := gi6 (i := 151) rfl (by decide +kernel)
theorem cd_Mod_end : Cond.code m_Mod_end.1 m_Mod_end.2.1 m_Mod_end.2.2.1 m_Mod_end.2.2.2 ∈ gw := gi6 (i := 155) rfl (by decide +kernel)
theorem cd_Mod_law : Cond.code m_Mod_law.1 m_Mod_law.2.1 m_Mod_law.2.2.1 m_Mod_law.2.2.2 ∈ gw := gi6 (i := 159) rfl (by decide +kernel)
theorem cd_Mod_readsAs : Cond.code m_Mod_readsAs.1 m_Mod_readsAs.2.1 m_Mod_readsAs.2.2.1 m_Mod_readsAs.2.2.2 ∈ gw := gi6 (i := 163) rfl (by decide +kernel)
theorem cd_Mod_reads : Cond.code m_Mod_reads.1 m_Mod_reads.2.1 m_Mod_reads.2.2.1 m_Mod_reads.2.2.2 ∈ gw := gi6 (i := 167) rfl (by decide +kernel)
theorem cd_Mod_splits : Cond.code m_Mod_splits.1 m_Mod_splits.2.1 m_Mod_splits.2.2.1 m_Mod_splits.2.2.2 ∈ gw := gi6 (i := 171) rfl (by decide +kernel)
theorem cd_Mod_isSmall : Cond.code m_Mod_isSmall.1 m_Mod_isSmall.2.1 m_Mod_isSmall.2.2.1 m_Mod_isSmall.2.2.2 ∈ gw := gi6 (i := 174) rfl (by decide +kernel)
theorem cd_Mod_isDigit : Cond.code m_Mod_isDigit.1 m_Mod_isDigit.2.1 m_Mod_isDigit.2.2.1 m_Mod_isDigit.2.2.2 ∈ gw := gi6 (i := 177) rfl (by decide +kernel)
theorem cd_Mod_wordOf : Cond.code m_Mod_wordOf.1 m_Mod_wordOf.2.1 m_Mod_wordOf.2.2.1 m_Mod_wordOf.2.2.2 ∈ gw := gi6 (i := 181) rfl (by decide +kernel)
theorem cd_Mod_readOne : Cond.code m_Mod_readOne.1 m_Mod_readOne.2.1 m_Mod_readOne.2.2.1 m_Mod_readOne.2.2.2 ∈ gw := gi6 (i := 186) rfl (by decide +kernel)
theorem cd_Mod_readOrder : Cond.code m_Mod_readOrder.1 m_Mod_readOrder.2.1 m_Mod_readOrder.2.2.1 m_Mod_readOrder.2.2.2 ∈ gw := gi6 (i := 190) rfl (by decide +kernel)
theorem cd_Mod_takes0 : Cond.code m_Mod_takes0.1 m_Mod_takes0.2.1 m_Mod_takes0.2.2.1 m_Mod_takes0.2.2.2 ∈ gw := gi6 (i := 194) rfl (by decide +kernel)
theorem cd_Mod_fine : Cond.code m_Mod_fine.1 m_Mod_fine.2.1 m_Mod_fine.2.2.1 m_Mod_fine.2.2.2 ∈ gw := gi6 (i := 198) rfl (by decide +kernel)
theorem cd_Mod_readSum : Cond.code m_Mod_readSum.1 m_Mod_readSum.2.1 m_Mod_readSum.2.2.1 m_Mod_readSum.2.2.2 ∈ gw := gi6 (i := 202) rfl (by decide +kernel)
theorem cd_Mod_readTerm : Cond.code m_Mod_readTerm.1 m_Mod_readTerm.2.1 m_Mod_readTerm.2.2.1 m_Mod_readTerm.2.2.2 ∈ gw := gi6 (i := 206) rfl (by decide +kernel)
theorem cd_Mod_readPart : Cond.code m_Mod_readPart.1 m_Mod_readPart.2.1 m_Mod_readPart.2.2.1 m_Mod_readPart.2.2.2 ∈ gw := gi6 (i := 210) rfl (by decide +kernel)
theorem cd_Mod_sign : Cond.code m_Mod_sign.1 m_Mod_sign.2.1 m_Mod_sign.2.2.1 m_Mod_sign.2.2.2 ∈ gw := gi6 (i := 213) rfl (by decide +kernel)
theorem cd_Mod_faults : Cond.code m_Mod_faults.1 m_Mod_faults.2.1 m_Mod_faults.2.2.1 m_Mod_faults.2.2.2 ∈ gw := gi6 (i := 217) rfl (by decide +kernel)
theorem cd_Mod_must : Cond.code m_Mod_must.1 m_Mod_must.2.1 m_Mod_must.2.2.1 m_Mod_must.2.2.2 ∈ gw := gi6 (i := 221) rfl (by decide +kernel)
theorem cd_Mod_leaf : Cond.code m_Mod_leaf.1 m_Mod_leaf.2.1 m_Mod_leaf.2.2.1 m_Mod_leaf.2.2.2 ∈ gw := gi6 (i := 225) rfl (by decide +kernel)
theorem cd_Mod_mustNumber : Cond.code m_Mod_mustNumber.1 m_Mod_mustNumber.2.1 m_Mod_mustNumber.2.2.1 m_Mod_mustNumber.2.2.2 ∈ gw := gi6 (i := 229) rfl (by decide +kernel)
theorem cd_Mod_readTest : Cond.code m_Mod_readTest.1 m_Mod_readTest.2.1 m_Mod_readTest.2.2.1 m_Mod_readTest.2.2.2 ∈ gw := gi6 (i := 233) rfl (by decide +kernel)
theorem cd_Mod_readBoth : Cond.code m_Mod_readBoth.1 m_Mod_readBoth.2.1 m_Mod_readBoth.2.2.1 m_Mod_readBoth.2.2.2 ∈ gw := gi6 (i := 237) rfl (by decide +kernel)
theorem cd_Mod_readPlain : Cond.code m_Mod_readPlain.1 m_Mod_readPlain.2.1 m_Mod_readPlain.2.2.1 m_Mod_readPlain.2.2.2 ∈ gw := gi7 (i := 1) rfl (by decide +kernel)
theorem cd_Mod_readClause : Cond.code m_Mod_readClause.1 m_Mod_readClause.2.1 m_Mod_readClause.2.2.1 m_Mod_readClause.2.2.2 ∈ gw := gi7 (i := 5) rfl (by decide +kernel)
theorem cd_Mod_lays : Cond.code m_Mod_lays.1 m_Mod_lays.2.1 m_Mod_lays.2.2.1 m_Mod_lays.2.2.2 ∈ gw := gi7 (i := 9) rfl (by decide +kernel)
theorem cd_Mod_fault : Cond.code m_Mod_fault.1 m_Mod_fault.2.1 m_Mod_fault.2.2.1 m_Mod_fault.2.2.2 ∈ gw := gi7 (i := 13) rfl (by decide +kernel)
theorem cd_Mod_force : Cond.code m_Mod_force.1 m_Mod_force.2.1 m_Mod_force.2.2.1 m_Mod_force.2.2.2 ∈ gw := gi7 (i := 17) rfl (by decide +kernel)
theorem cd_Mod_isLaw : Cond.code m_Mod_isLaw.1 m_Mod_isLaw.2.1 m_Mod_isLaw.2.2.1 m_Mod_isLaw.2.2.2 ∈ gw := gi7 (i := 21) rfl (by decide +kernel)
theorem cd_Mod_asks : Cond.code m_Mod_asks.1 m_Mod_asks.2.1 m_Mod_asks.2.2.1 m_Mod_asks.2.2.2 ∈ gw := gi7 (i := 25) rfl (by decide +kernel)
theorem cd_Mod_costOf : Cond.code m_Mod_costOf.1 m_Mod_costOf.2.1 m_Mod_costOf.2.2.1 m_Mod_costOf.2.2.2 ∈ gw := gi7 (i := 29) rfl (by decide +kernel)
theorem cd_Mod_tells : Cond.code m_Mod_tells.1 m_Mod_tells.2.1 m_Mod_tells.2.2.1 m_Mod_tells.2.2.2 ∈ gw := gi7 (i := 33) rfl (by decide +kernel)
theorem cd_Mod_setsAsked : Cond.code m_Mod_setsAsked.1 m_Mod_setsAsked.2.1 m_Mod_setsAsked.2.2.1 m_Mod_setsAsked.2.2.2 ∈ gw := gi7 (i := 37) rfl (by decide +kernel)
theorem cd_Mod_kindOf : Cond.code m_Mod_kindOf.1 m_Mod_kindOf.2.1 m_Mod_kindOf.2.2.1 m_Mod_kindOf.2.2.2 ∈ gw := gi7 (i := 40) rfl (by decide +kernel)
theorem cd_Mod_isName : Cond.code m_Mod_isName.1 m_Mod_isName.2.1 m_Mod_isName.2.2.1 m_Mod_isName.2.2.2 ∈ gw := gi7 (i := 43) rfl (by decide +kernel)
theorem cd_Mod_opens0 : Cond.code m_Mod_opens0.1 m_Mod_opens0.2.1 m_Mod_opens0.2.2.1 m_Mod_opens0.2.2.2 ∈ gw := gi7 (i := 46) rfl (by decide +kernel)
theorem cd_Mod_codeAt : Cond.code m_Mod_codeAt.1 m_Mod_codeAt.2.1 m_Mod_codeAt.2.2.1 m_Mod_codeAt.2.2.2 ∈ gw := gi7 (i := 50) rfl (by decide +kernel)
theorem cd_Mod_sumOf : Cond.code m_Mod_sumOf.1 m_Mod_sumOf.2.1 m_Mod_sumOf.2.2.1 m_Mod_sumOf.2.2.2 ∈ gw := gi7 (i := 54) rfl (by decide +kernel)
theorem cd_Mod_termOf : Cond.code m_Mod_termOf.1 m_Mod_termOf.2.1 m_Mod_termOf.2.2.1 m_Mod_termOf.2.2.2 ∈ gw := gi7 (i := 58) rfl (by decide +kernel)
theorem cd_Mod_partOf : Cond.code m_Mod_partOf.1 m_Mod_partOf.2.1 m_Mod_partOf.2.2.1 m_Mod_partOf.2.2.2 ∈ gw := gi7 (i := 62) rfl (by decide +kernel)
theorem cd_Mod_passes0 : Cond.code m_Mod_passes0.1 m_Mod_passes0.2.1 m_Mod_passes0.2.2.1 m_Mod_passes0.2.2.2 ∈ gw := gi7 (i := 66) rfl (by decide +kernel)
theorem cd_Mod_orderValue : Cond.code m_Mod_orderValue.1 m_Mod_orderValue.2.1 m_Mod_orderValue.2.2.1 m_Mod_orderValue.2.2.2 ∈ gw := gi7 (i := 70) rfl (by decide +kernel)
theorem cd_Mod_at : Cond.code m_Mod_at.1 m_Mod_at.2.1 m_Mod_at.2.2.1 m_Mod_at.2.2.2 ∈ gw := gi7 (i := 74) rfl (by decide +kernel)
theorem cd_Mod_isPlace : Cond.code m_Mod_isPlace.1 m_Mod_isPlace.2.1 m_Mod_isPlace.2.2.1 m_Mod_isPlace.2.2.2 ∈ gw := gi7 (i := 78) rfl (by decide +kernel)
theorem cd_Mod_looseMany : Cond.code m_Mod_looseMany.1 m_Mod_looseMany.2.1 m_Mod_looseMany.2.2.1 m_Mod_looseMany.2.2.2 ∈ gw := gi7 (i := 82) rfl (by decide +kernel)
theorem cd_Mod_pairs : Cond.code m_Mod_pairs.1 m_Mod_pairs.2.1 m_Mod_pairs.2.2.1 m_Mod_pairs.2.2.2 ∈ gw := gi7 (i := 86) rfl (by decide +kernel)
theorem cd_Mod_signAt : Cond.code m_Mod_signAt.1 m_Mod_signAt.2.1 m_Mod_signAt.2.2.1 m_Mod_signAt.2.2.2 ∈ gw := gi7 (i := 90) rfl (by decide +kernel)
theorem cd_Mod_closes0 : Cond.code m_Mod_closes0.1 m_Mod_closes0.2.1 m_Mod_closes0.2.2.1 m_Mod_closes0.2.2.2 ∈ gw := gi7 (i := 93) rfl (by decide +kernel)
theorem cd_Mod_deepOf : Cond.code m_Mod_deepOf.1 m_Mod_deepOf.2.1 m_Mod_deepOf.2.2.1 m_Mod_deepOf.2.2.2 ∈ gw := gi7 (i := 97) rfl (by decide +kernel)
theorem cd_Mod_bounded : Cond.code m_Mod_bounded.1 m_Mod_bounded.2.1 m_Mod_bounded.2.2.1 m_Mod_bounded.2.2.2 ∈ gw := gi7 (i := 101) rfl (by decide +kernel)
theorem cd_Mod_testOf : Cond.code m_Mod_testOf.1 m_Mod_testOf.2.1 m_Mod_testOf.2.2.1 m_Mod_testOf.2.2.2 ∈ gw := gi7 (i := 107) rfl (by decide +kernel)
theorem cd_Mod_bothOf : Cond.code m_Mod_bothOf.1 m_Mod_bothOf.2.1 m_Mod_bothOf.2.2.1 m_Mod_bothOf.2.2.2 ∈ gw := gi7 (i := 111) rfl (by decide +kernel)
theorem cd_Mod_plainOf : Cond.code m_Mod_plainOf.1 m_Mod_plainOf.2.1 m_Mod_plainOf.2.2.1 m_Mod_plainOf.2.2.2 ∈ gw := gi7 (i := 115) rfl (by decide +kernel)
theorem cd_Mod_positiveOf : Cond.code m_Mod_positiveOf.1 m_Mod_positiveOf.2.1 m_Mod_positiveOf.2.2.1 m_Mod_positiveOf.2.2.2 ∈ gw := gi7 (i := 119) rfl (by decide +kernel)
theorem cd_Mod_isBarred : Cond.code m_Mod_isBarred.1 m_Mod_isBarred.2.1 m_Mod_isBarred.2.2.1 m_Mod_isBarred.2.2.2 ∈ gw := gi7 (i := 124) rfl (by decide +kernel)
theorem cd_Mod_said : Cond.code m_Mod_said.1 m_Mod_said.2.1 m_Mod_said.2.2.1 m_Mod_said.2.2.2 ∈ gw := gi7 (i := 129) rfl (by decide +kernel)
theorem cd_Mod_isSaid : Cond.code m_Mod_isSaid.1 m_Mod_isSaid.2.1 m_Mod_isSaid.2.2.1 m_Mod_isSaid.2.2.2 ∈ gw := gi7 (i := 133) rfl (by decide +kernel)
theorem cd_Mod_whole : Cond.code m_Mod_whole.1 m_Mod_whole.2.1 m_Mod_whole.2.2.1 m_Mod_whole.2.2.2 ∈ gw := gi7 (i := 137) rfl (by decide +kernel)
theorem cd_Mod_isWhole : Cond.code m_Mod_isWhole.1 m_Mod_isWhole.2.1 m_Mod_isWhole.2.2.1 m_Mod_isWhole.2.2.2 ∈ gw := gi7 (i := 141) rfl (by decide +kernel)
theorem cd_Mod_undo : Cond.code m_Mod_undo.1 m_Mod_undo.2.1 m_Mod_undo.2.2.1 m_Mod_undo.2.2.2 ∈ gw := gi7 (i := 145) rfl (by decide +kernel)
theorem cd_Mod_put : Cond.code m_Mod_put.1 m_Mod_put.2.1 m_Mod_put.2.2.1 m_Mod_put.2.2.2 ∈ gw := gi7 (i := 149) rfl (by decide +kernel)
theorem cd_Mod_putsKept : Cond.code m_Mod_putsKept.1 m_Mod_putsKept.2.1 m_Mod_putsKept.2.2.1 m_Mod_putsKept.2.2.2 ∈ gw := gi7 (i := 153) rfl (by decide +kernel)
theorem cd_Mod_keeps : Cond.code m_Mod_keeps.1 m_Mod_keeps.2.1 m_Mod_keeps.2.2.1 m_Mod_keeps.2.2.2 ∈ gw := gi7 (i := 157) rfl (by decide +kernel)
theorem cd_Mod_forgetsEldest : Cond.code m_Mod_forgetsEldest.1 m_Mod_forgetsEldest.2.1 m_Mod_forgetsEldest.2.2.1 m_Mod_forgetsEldest.2.2.2 ∈ gw := gi7 (i := 161) rfl (by decide +kernel)
theorem cd_Mod_puts : Cond.code m_Mod_puts.1 m_Mod_puts.2.1 m_Mod_puts.2.2.1 m_Mod_puts.2.2.2 ∈ gw := gi7 (i := 165) rfl (by decide +kernel)
theorem cd_Mod_goodOr : Cond.code m_Mod_goodOr.1 m_Mod_goodOr.2.1 m_Mod_goodOr.2.2.1 m_Mod_goodOr.2.2.2 ∈ gw := gi7 (i := 169) rfl (by decide +kernel)
theorem cd_Mod_cut : Cond.code m_Mod_cut.1 m_Mod_cut.2.1 m_Mod_cut.2.2.1 m_Mod_cut.2.2.2 ∈ gw := gi7 (i := 173) rfl (by decide +kernel)
theorem cd_Mod_cutsKept : Cond.code m_Mod_cutsKept.1 m_Mod_cutsKept.2.1 m_Mod_cutsKept.2.2.1 m_Mod_cutsKept.2.2.2 ∈ gw := gi7 (i := 177) rfl (by decide +kernel)
theorem cd_Mod_strikesFor : Cond.code m_Mod_strikesFor.1 m_Mod_strikesFor.2.1 m_Mod_strikesFor.2.2.1 m_Mod_strikesFor.2.2.2 ∈ gw := gi7 (i := 181) rfl (by decide +kernel)
theorem cd_Mod_cuts : Cond.code m_Mod_cuts.1 m_Mod_cuts.2.1 m_Mod_cuts.2.2.1 m_Mod_cuts.2.2.2 ∈ gw := gi7 (i := 185) rfl (by decide +kernel)
theorem cd_Mod_turn : Cond.code m_Mod_turn.1 m_Mod_turn.2.1 m_Mod_turn.2.2.1 m_Mod_turn.2.2.2 ∈ gw := gi7 (i := 189) rfl (by decide +kernel)
theorem cd_Mod_turnsKept : Cond.code m_Mod_turnsKept.1 m_Mod_turnsKept.2.1 m_Mod_turnsKept.2.2.1 m_Mod_turnsKept.2.2.2 ∈ gw := gi7 (i := 193) rfl (by decide +kernel)
theorem cd_Mod_pass : Cond.code m_Mod_pass.1 m_Mod_pass.2.1 m_Mod_pass.2.2.1 m_Mod_pass.2.2.2 ∈ gw := gi7 (i := 197) rfl (by decide +kernel)
theorem cd_Mod_passesKept : Cond.code m_Mod_passesKept.1 m_Mod_passesKept.2.1 m_Mod_passesKept.2.2.1 m_Mod_passesKept.2.2.2 ∈ gw := gi7 (i := 201) rfl (by decide +kernel)
theorem cd_Mod_mend : Cond.code m_Mod_mend.1 m_Mod_mend.2.1 m_Mod_mend.2.2.1 m_Mod_mend.2.2.2 ∈ gw := gi7 (i := 205) rfl (by decide +kernel)
theorem cd_Mod_laysMended : Cond.code m_Mod_laysMended.1 m_Mod_laysMended.2.1 m_Mod_laysMended.2.2.1 m_Mod_laysMended.2.2.2 ∈ gw := gi7 (i := 209) rfl (by decide +kernel)
theorem cd_Mod_laysCosts : Cond.code m_Mod_laysCosts.1 m_Mod_laysCosts.2.1 m_Mod_laysCosts.2.2.1 m_Mod_laysCosts.2.2.2 ∈ gw := gi7 (i := 213) rfl (by decide +kernel)
theorem cd_Mod_mendsAhead : Cond.code m_Mod_mendsAhead.1 m_Mod_mendsAhead.2.1 m_Mod_mendsAhead.2.2.1 m_Mod_mendsAhead.2.2.2 ∈ gw := gi7 (i := 217) rfl (by decide +kernel)
theorem cd_Mod_leastOf : Cond.code m_Mod_leastOf.1 m_Mod_leastOf.2.1 m_Mod_leastOf.2.2.1 m_Mod_leastOf.2.2.2 ∈ gw := gi7 (i := 221) rfl (by decide +kernel)
theorem cd_Mod_lesser : Cond.code m_Mod_lesser.1 m_Mod_lesser.2.1 m_Mod_lesser.2.2.1 m_Mod_lesser.2.2.2 ∈ gw := gi7 (i := 224) rfl (by decide +kernel)
theorem cd_Mod_mendsOpen : Cond.code m_Mod_mendsOpen.1 m_Mod_mendsOpen.2.1 m_Mod_mendsOpen.2.2.1 m_Mod_mendsOpen.2.2.2 ∈ gw := gi7 (i := 228) rfl (by decide +kernel)
theorem cd_Mod_arePair : Cond.code m_Mod_arePair.1 m_Mod_arePair.2.1 m_Mod_arePair.2.2.1 m_Mod_arePair.2.2.2 ∈ gw := gi7 (i := 232) rfl (by decide +kernel)
theorem cd_Mod_compare : Cond.code m_Mod_compare.1 m_Mod_compare.2.1 m_Mod_compare.2.2.1 m_Mod_compare.2.2.2 ∈ gw := gi7 (i := 236) rfl (by decide +kernel)
theorem cd_Mod_strike : Cond.code m_Mod_strike.1 m_Mod_strike.2.1 m_Mod_strike.2.2.1 m_Mod_strike.2.2.2 ∈ gw := gi8 (i := 1) rfl (by decide +kernel)
theorem cd_Mod_laysStruck : Cond.code m_Mod_laysStruck.1 m_Mod_laysStruck.2.1 m_Mod_laysStruck.2.2.1 m_Mod_laysStruck.2.2.2 ∈ gw := gi8 (i := 5) rfl (by decide +kernel)
theorem cd_Mod_laysCut : Cond.code m_Mod_laysCut.1 m_Mod_laysCut.2.1 m_Mod_laysCut.2.2.1 m_Mod_laysCut.2.2.2 ∈ gw := gi8 (i := 9) rfl (by decide +kernel)
theorem cd_Mod_mateOf : Cond.code m_Mod_mateOf.1 m_Mod_mateOf.2.1 m_Mod_mateOf.2.2.1 m_Mod_mateOf.2.2.2 ∈ gw := gi8 (i := 13) rfl (by decide +kernel)
theorem cd_Mod_run : Cond.code m_Mod_run.1 m_Mod_run.2.1 m_Mod_run.2.2.1 m_Mod_run.2.2.2 ∈ gw := gi8 (i := 17) rfl (by decide +kernel)
theorem cd_Mod_fits : Cond.code m_Mod_fits.1 m_Mod_fits.2.1 m_Mod_fits.2.2.1 m_Mod_fits.2.2.2 ∈ gw := gi8 (i := 21) rfl (by decide +kernel)
theorem cd_Mod_rows : Cond.code m_Mod_rows.1 m_Mod_rows.2.1 m_Mod_rows.2.2.1 m_Mod_rows.2.2.2 ∈ gw := gi8 (i := 25) rfl (by decide +kernel)
theorem cd_Mod_laysRows : Cond.code m_Mod_laysRows.1 m_Mod_laysRows.2.1 m_Mod_laysRows.2.2.1 m_Mod_laysRows.2.2.2 ∈ gw := gi8 (i := 30) rfl (by decide +kernel)
theorem cd_Mod_goOn : Cond.code m_Mod_goOn.1 m_Mod_goOn.2.1 m_Mod_goOn.2.2.1 m_Mod_goOn.2.2.2 ∈ gw := gi8 (i := 34) rfl (by decide +kernel)
theorem cd_Mod_nth : Cond.code m_Mod_nth.1 m_Mod_nth.2.1 m_Mod_nth.2.2.1 m_Mod_nth.2.2.2 ∈ gw := gi8 (i := 39) rfl (by decide +kernel)
theorem cd_Mod_rank : Cond.code m_Mod_rank.1 m_Mod_rank.2.1 m_Mod_rank.2.2.1 m_Mod_rank.2.2.2 ∈ gw := gi8 (i := 43) rfl (by decide +kernel)
theorem cd_Mod_hasRank : Cond.code m_Mod_hasRank.1 m_Mod_hasRank.2.1 m_Mod_hasRank.2.2.1 m_Mod_hasRank.2.2.2 ∈ gw := gi8 (i := 47) rfl (by decide +kernel)
theorem cd_Mod_game : Cond.code m_Mod_game.1 m_Mod_game.2.1 m_Mod_game.2.2.1 m_Mod_game.2.2.2 ∈ gw := gi8 (i := 51) rfl (by decide +kernel)
theorem cd_Mod_worthAt : Cond.code m_Mod_worthAt.1 m_Mod_worthAt.2.1 m_Mod_worthAt.2.2.1 m_Mod_worthAt.2.2.2 ∈ gw := gi8 (i := 56) rfl (by decide +kernel)
theorem cd_Mod_laysGame : Cond.code m_Mod_laysGame.1 m_Mod_laysGame.2.1 m_Mod_laysGame.2.2.1 m_Mod_laysGame.2.2.2 ∈ gw := gi8 (i := 60) rfl (by decide +kernel)
theorem cd_Mod_byFirst : Cond.code m_Mod_byFirst.1 m_Mod_byFirst.2.1 m_Mod_byFirst.2.2.1 m_Mod_byFirst.2.2.2 ∈ gw := gi8 (i := 64) rfl (by decide +kernel)
theorem cd_Mod_byLast : Cond.code m_Mod_byLast.1 m_Mod_byLast.2.1 m_Mod_byLast.2.2.1 m_Mod_byLast.2.2.2 ∈ gw := gi8 (i := 68) rfl (by decide +kernel)
theorem cd_Mod_greater : Cond.code m_Mod_greater.1 m_Mod_greater.2.1 m_Mod_greater.2.2.1 m_Mod_greater.2.2.2 ∈ gw := gi8 (i := 71) rfl (by decide +kernel)
theorem cd_Mod_hide : Cond.code m_Mod_hide.1 m_Mod_hide.2.1 m_Mod_hide.2.2.1 m_Mod_hide.2.2.2 ∈ gw := gi8 (i := 75) rfl (by decide +kernel)
theorem cd_Mod_hasAll : Cond.code m_Mod_hasAll.1 m_Mod_hasAll.2.1 m_Mod_hasAll.2.2.1 m_Mod_hasAll.2.2.2 ∈ gw := gi8 (i := 80) rfl (by decide +kernel)
theorem cd_Mod_triesPair : Cond.code m_Mod_triesPair.1 m_Mod_triesPair.2.1 m_Mod_triesPair.2.2.1 m_Mod_triesPair.2.2.2 ∈ gw := gi8 (i := 84) rfl (by decide +kernel)
theorem cd_Mod_likely : Cond.code m_Mod_likely.1 m_Mod_likely.2.1 m_Mod_likely.2.2.1 m_Mod_likely.2.2.2 ∈ gw := gi8 (i := 88) rfl (by decide +kernel)
theorem cd_Mod_stopped : Cond.code m_Mod_stopped.1 m_Mod_stopped.2.1 m_Mod_stopped.2.2.1 m_Mod_stopped.2.2.2 ∈ gw := gi8 (i := 94) rfl (by decide +kernel)
theorem cd_Mod_orders : Cond.code m_Mod_orders.1 m_Mod_orders.2.1 m_Mod_orders.2.2.1 m_Mod_orders.2.2.2 ∈ gw := gi8 (i := 98) rfl (by decide +kernel)
theorem cd_Mod_laysAllAside : Cond.code m_Mod_laysAllAside.1 m_Mod_laysAllAside.2.1 m_Mod_laysAllAside.2.2.1 m_Mod_laysAllAside.2.2.2 ∈ gw := gi8 (i := 102) rfl (by decide +kernel)
theorem cd_Mod_laysAside : Cond.code m_Mod_laysAside.1 m_Mod_laysAside.2.1 m_Mod_laysAside.2.2.1 m_Mod_laysAside.2.2.2 ∈ gw := gi8 (i := 106) rfl (by decide +kernel)
theorem cd_Mod_runs : Cond.code m_Mod_runs.1 m_Mod_runs.2.1 m_Mod_runs.2.2.1 m_Mod_runs.2.2.2 ∈ gw := gi8 (i := 110) rfl (by decide +kernel)
theorem cd_Mod_goesAlong : Cond.code m_Mod_goesAlong.1 m_Mod_goesAlong.2.1 m_Mod_goesAlong.2.2.1 m_Mod_goesAlong.2.2.2 ∈ gw := gi8 (i := 114) rfl (by decide +kernel)
theorem cd_Mod_obeys : Cond.code m_Mod_obeys.1 m_Mod_obeys.2.1 m_Mod_obeys.2.2.1 m_Mod_obeys.2.2.2 ∈ gw := gi8 (i := 118) rfl (by decide +kernel)
theorem cd_Mod_small : Cond.code m_Mod_small.1 m_Mod_small.2.1 m_Mod_small.2.2.1 m_Mod_small.2.2.2 ∈ gw := gi8 (i := 121) rfl (by decide +kernel)
theorem cd_Mod_takesAllBack : Cond.code m_Mod_takesAllBack.1 m_Mod_takesAllBack.2.1 m_Mod_takesAllBack.2.2.1 m_Mod_takesAllBack.2.2.2 ∈ gw := gi8 (i := 126) rfl (by decide +kernel)
theorem cd_Mod_takesBack : Cond.code m_Mod_takesBack.1 m_Mod_takesBack.2.1 m_Mod_takesBack.2.2.1 m_Mod_takesBack.2.2.2 ∈ gw := gi8 (i := 130) rfl (by decide +kernel)
theorem cd_Mod_readers : Cond.code m_Mod_readers.1 m_Mod_readers.2.1 m_Mod_readers.2.2.1 m_Mod_readers.2.2.2 ∈ gw := gi8 (i := 134) rfl (by decide +kernel)
theorem cd_Mod_readsPage : Cond.code m_Mod_readsPage.1 m_Mod_readsPage.2.1 m_Mod_readsPage.2.2.1 m_Mod_readsPage.2.2.2 ∈ gw := gi8 (i := 138) rfl (by decide +kernel)
theorem cd_Mod_draws : Cond.code m_Mod_draws.1 m_Mod_draws.2.1 m_Mod_draws.2.2.1 m_Mod_draws.2.2.2 ∈ gw := gi8 (i := 142) rfl (by decide +kernel)
theorem cd_Mod_drawn : Cond.code m_Mod_drawn.1 m_Mod_drawn.2.1 m_Mod_drawn.2.2.1 m_Mod_drawn.2.2.2 ∈ gw := gi8 (i := 149) rfl (by decide +kernel)
theorem cd_Mod_count : Cond.code m_Mod_count.1 m_Mod_count.2.1 m_Mod_count.2.2.1 m_Mod_count.2.2.2 ∈ gw := gi8 (i := 153) rfl (by decide +kernel)
theorem cd_Mod_status : Cond.code m_Mod_status.1 m_Mod_status.2.1 m_Mod_status.2.2.1 m_Mod_status.2.2.2 ∈ gw := gi8 (i := 157) rfl (by decide +kernel)
theorem in_Hou : Cond.initialized "BracketHouse" ∈ gw := gi1 (i := 1) (by decide +kernel) (by decide +kernel)
theorem in_Sta : Cond.initialized "BracketHouse$State" ∈ gw := gi1 (i := 2) (by decide +kernel) (by decide +kernel)
theorem in_Row : Cond.initialized "BracketHouse$Row" ∈ gw := gi1 (i := 3) (by decide +kernel) (by decide +kernel)
theorem in_Tap : Cond.initialized "BracketHouse$Tape" ∈ gw := gi1 (i := 5) (by decide +kernel) (by decide +kernel)
theorem in_Str : Cond.initialized "java/lang/String" ∈ gw := gi1 (i := 6) (by decide +kernel) (by decide +kernel)
theorem in_Lat : Cond.initialized "java/lang/StringLatin1" ∈ gw := gi1 (i := 7) (by decide +kernel) (by decide +kernel)
theorem in_Gra : Cond.initialized "BracketHouse$Grammar" ∈ gw := gi1 (i := 10) (by decide +kernel) (by decide +kernel)
theorem in_Tex : Cond.initialized "BracketHouse$Text" ∈ gw := gi1 (i := 11) (by decide +kernel) (by decide +kernel)
theorem in_Ask : Cond.initialized "BracketHouse$Asker" ∈ gw := gi1 (i := 12) (by decide +kernel) (by decide +kernel)
theorem in_Sum : Cond.initialized "BracketHouse$Sums" ∈ gw := gi1 (i := 13) (by decide +kernel) (by decide +kernel)
theorem in_Dee : Cond.initialized "BracketHouse$Deeds" ∈ gw := gi1 (i := 14) (by decide +kernel) (by decide +kernel)
theorem in_Run : Cond.initialized "BracketHouse$Runner" ∈ gw := gi1 (i := 15) (by decide +kernel) (by decide +kernel)
theorem in_Pap : Cond.initialized "BracketHouse$Paper" ∈ gw := gi1 (i := 16) (by decide +kernel) (by decide +kernel)
theorem in_Num : Cond.initialized "BracketHouse$Numbering" ∈ gw := gi1 (i := 17) (by decide +kernel) (by decide +kernel)
theorem in_Arr : Cond.initialized "java/util/Arrays" ∈ gw := gi1 (i := 20) (by decide +kernel) (by decide +kernel)
theorem in_Mod : Cond.initialized "BracketHouseModel" ∈ gw := gi1 (i := 18) (by decide +kernel) (by decide +kernel)
/-! links: fields, calls, constants -/
theorem c_Law_9 : x_ci "BracketHouseLaw" 9 m_Hou_init 0 := ⟨⟨cd_Hou_init, in_Hou, gi1 (i := 23) (by decide +kernel) (by decide +kernel), by decide +kernel, by decide⟩, rfl, rfl, gi1 (i := 24) (by decide +kernel) (by decide +kernel)⟩
theorem oi_Hou_3 : Cond.methodLink "BracketHouse" 3 objectInit ∈ gw := gi1 (i := 26) (by decide +kernel) (by decide +kernel)
theorem c_Hou_11 : x_ci "BracketHouse" 11 m_Sta_init 0 := ⟨⟨cd_Sta_init, in_Sta, gi1 (i := 31) (by decide +kernel) (by decide +kernel), by decide +kernel, by decide⟩, rfl, rfl, gi1 (i := 32) (by decide +kernel) (by decide +kernel)⟩
theorem oi_Sta_3 : Cond.methodLink "BracketHouse$State" 3 objectInit ∈ gw := gi1 (i := 34) (by decide +kernel) (by decide +kernel)
theorem oi_Row_3 : Cond.methodLink "BracketHouse$Row" 3 objectInit ∈ gw := gi1 (i := 40) (by decide +kernel) (by decide +kernel)
theorem f_Row_9 : x_fs "BracketHouse$Row" 9 5 0 := ⟨_, rfl, by decide, gi1 (i := 41) (by decide +kernel) (by decide +kernel)⟩
theorem f_Pap_98 : x_fs "BracketHouse$Paper" 98 5 0 := ⟨_, rfl, by decide, gi1 (i := 42) (by decide +kernel) (by decide +kernel)⟩
theorem f_Run_131 : x_fs "BracketHouse$Runner" 131 5 0 := ⟨_, rfl, by decide, gi1 (i := 43) (by decide +kernel) (by decide +kernel)⟩
theorem f_Dee_79 : x_fs "BracketHouse$Deeds" 79 5 0 := ⟨_, rfl, by decide, gi1 (i := 44) (by decide +kernel) (by decide +kernel)⟩
theorem f_Num_55 : x_fs "BracketHouse$Numbering" 55 5 0 := ⟨_, rfl, by decide, gi1 (i := 45) (by decide +kernel) (by decide +kernel)⟩
theorem f_Hou_219 : x_fs "BracketHouse" 219 5 0 := ⟨_, rfl, by decide, gi1 (i := 46) (by decide +kernel) (by decide +kernel)⟩
theorem f_Row_15 : x_fs "BracketHouse$Row" 15 5 1 := ⟨_, rfl, by decide, gi1 (i := 47) (by decide +kernel) (by decide +kernel)⟩
theorem f_Pap_77 : x_fs "BracketHouse$Paper" 77 5 1 := ⟨_, rfl, by decide, gi1 (i := 48) (by decide +kernel) (by decide +kernel)⟩
theorem f_Run_116 : x_fs "BracketHouse$Runner" 116 5 1 := ⟨_, rfl, by decide, gi1 (i := 49) (by decide +kernel) (by decide +kernel)⟩
theorem f_Dee_45 : x_fs "BracketHouse$Deeds" 45 5 1 := ⟨_, rfl, by decide, gi1 (i := 50) (by decide +kernel) (by decide +kernel)⟩
theorem f_Ask_73 : x_fs "BracketHouse$Asker" 73 5 1 := ⟨_, rfl, by decide, gi1 (i := 51) (by decide +kernel) (by decide +kernel)⟩
theorem f_Num_51 : x_fs "BracketHouse$Numbering" 51 5 1 := ⟨_, rfl, by decide, gi1 (i := 52) (by decide +kernel) (by decide +kernel)⟩
theorem f_Hou_138 : x_fs "BracketHouse" 138 5 1 := ⟨_, rfl, by decide, gi1 (i := 53) (by decide +kernel) (by decide +kernel)⟩
theorem f_Row_19 : x_fs "BracketHouse$Row" 19 5 2 := ⟨_, rfl, by decide, gi1 (i := 54) (by decide +kernel) (by decide +kernel)⟩
theorem f_Row_22 : x_fs "BracketHouse$Row" 22 5 3 := ⟨_, rfl, by decide, gi1 (i := 55) (by decide +kernel) (by decide +kernel)⟩
theorem f_Row_25 : x_fs "BracketHouse$Row" 25 5 4 := ⟨_, rfl, by decide, gi1 (i := 56) (by decide +kernel) (by decide +kernel)⟩
theorem f_Row_28 : x_fs "BracketHouse$Row" 28 5 5 := ⟨_, rfl, by decide, gi1 (i := 57) (by decide +kernel) (by decide +kernel)⟩
theorem f_Row_31 : x_fs "BracketHouse$Row" 31 5 6 := ⟨_, rfl, by decide, gi1 (i := 58) (by decide +kernel) (by decide +kernel)⟩
theorem ac_Sta_38 : Cond.methodLink "BracketHouse$State" 38 arraycopyName ∈ gw := gi1 (i := 79) (by decide +kernel) (by decide +kernel)
theorem f_Sta_12 : x_fs "BracketHouse$State" 12 7 0 := ⟨_, rfl, by decide, gi1 (i := 82) (by decide +kernel) (by decide +kernel)⟩
theorem f_Pap_72 : x_fs "BracketHouse$Paper" 72 7 0 := ⟨_, rfl, by decide, gi1 (i := 83) (by decide +kernel) (by decide +kernel)⟩
theorem f_Run_112 : x_fs "BracketHouse$Runner" 112 7 0 := ⟨_, rfl, by decide, gi1 (i := 84) (by decide +kernel) (by decide +kernel)⟩
theorem f_Dee_39 : x_fs "BracketHouse$Deeds" 39 7 0 := ⟨_, rfl, by decide, gi1 (i := 85) (by decide +kernel) (by decide +kernel)⟩
theorem f_Ask_69 : x_fs "BracketHouse$Asker" 69 7 0 := ⟨_, rfl, by decide, gi1 (i := 86) (by decide +kernel) (by decide +kernel)⟩
theorem f_Hou_134 : x_fs "BracketHouse" 134 7 0 := ⟨_, rfl, by decide, gi1 (i := 87) (by decide +kernel) (by decide +kernel)⟩
theorem f_Sta_18 : x_fs "BracketHouse$State" 18 7 1 := ⟨_, rfl, by decide, gi1 (i := 88) (by decide +kernel) (by decide +kernel)⟩
theorem f_Hou_115 : x_fs "BracketHouse" 115 7 1 := ⟨_, rfl, by decide, gi1 (i := 89) (by decide +kernel) (by decide +kernel)⟩
theorem f_Run_121 : x_fs "BracketHouse$Runner" 121 7 1 := ⟨_, rfl, by decide, gi1 (i := 90) (by decide +kernel) (by decide +kernel)⟩
theorem f_Ask_64 : x_fs "BracketHouse$Asker" 64 7 1 := ⟨_, rfl, by decide, gi1 (i := 91) (by decide +kernel) (by decide +kernel)⟩
theorem f_Dee_87 : x_fs "BracketHouse$Deeds" 87 7 1 := ⟨_, rfl, by decide, gi1 (i := 92) (by decide +kernel) (by decide +kernel)⟩
theorem f_Sta_24 : x_fs "BracketHouse$State" 24 7 2 := ⟨_, rfl, by decide, gi1 (i := 93) (by decide +kernel) (by decide +kernel)⟩
theorem f_Hou_154 : x_fs "BracketHouse" 154 7 2 := ⟨_, rfl, by decide, gi1 (i := 94) (by decide +kernel) (by decide +kernel)⟩
theorem f_Sta_28 : x_fs "BracketHouse$State" 28 7 3 := ⟨_, rfl, by decide, gi1 (i := 95) (by decide +kernel) (by decide +kernel)⟩
theorem f_Hou_147 : x_fs "BracketHouse" 147 7 3 := ⟨_, rfl, by decide, gi1 (i := 96) (by decide +kernel) (by decide +kernel)⟩
theorem f_Sta_32 : x_fs "BracketHouse$State" 32 7 4 := ⟨_, rfl, by decide, gi1 (i := 97) (by decide +kernel) (by decide +kernel)⟩
theorem f_Pap_91 : x_fs "BracketHouse$Paper" 91 7 4 := ⟨_, rfl, by decide, gi1 (i := 98) (by decide +kernel) (by decide +kernel)⟩
theorem f_Dee_50 : x_fs "BracketHouse$Deeds" 50 7 4 := ⟨_, rfl, by decide, gi1 (i := 99) (by decide +kernel) (by decide +kernel)⟩
theorem f_Hou_181 : x_fs "BracketHouse" 181 7 4 := ⟨_, rfl, by decide, gi1 (i := 100) (by decide +kernel) (by decide +kernel)⟩
theorem oi_Tap_3 : Cond.methodLink "BracketHouse$Tape" 3 objectInit ∈ gw := gi1 (i := 118) (by decide +kernel) (by decide +kernel)
theorem c_Tap_33 : x_cv "BracketHouse$Tape" 33 m_Str_toCharArray 0 := ⟨⟨cd_Str_toCharArray, in_Str, gi1 (i := 120) (by decide +kernel) (by decide +kernel), by decide +kernel, by decide⟩, gi1 (i := 121) (by decide +kernel) (by decide +kernel), gi1 (i := 122) (by decide +kernel) (by decide +kernel)⟩
theorem c_Str_492 : x_cv "java/lang/String" 492 m_Str_isLatin1 0 := ⟨⟨cd_Str_isLatin1, in_Str, gi1 (i := 124) (by decide +kernel) (by decide +kernel), by decide +kernel, by decide⟩, gi1 (i := 125) (by decide +kernel) (by decide +kernel), gi1 (i := 126) (by decide +kernel) (by decide +kernel)⟩
theorem c_Str_299 : x_cs "java/lang/String" 299 m_Lat_toChars 1 := ⟨⟨cd_Lat_toChars, in_Lat, gi1 (i := 130) (by decide +kernel) (by decide +kernel), by decide +kernel, by decide⟩, gi1 (i := 131) (by decide +kernel) (by decide +kernel)⟩
theorem c_Lat_13 : x_cs "java/lang/StringLatin1" 13 m_Lat_inflate 5 := ⟨⟨cd_Lat_inflate, in_Lat, gi1 (i := 133) (by decide +kernel) (by decide +kernel), by decide +kernel, by decide⟩, gi1 (i := 134) (by decide +kernel) (by decide +kernel)⟩
theorem f_Tap_9 : x_fs "BracketHouse$Tape" 9 9 0 := ⟨_, rfl, by decide, gi1 (i := 165) (by decide +kernel) (by decide +kernel)⟩
theorem f_Hou_131 : x_fs "BracketHouse" 131 9 0 := ⟨_, rfl, by decide, gi1 (i := 166) (by decide +kernel) (by decide +kernel)⟩
theorem f_Tap_15 : x_fs "BracketHouse$Tape" 15 9 1 := ⟨_, rfl, by decide, gi1 (i := 167) (by decide +kernel) (by decide +kernel)⟩
theorem f_Gra_50 : x_fs "BracketHouse$Grammar" 50 9 1 := ⟨_, rfl, by decide, gi1 (i := 168) (by decide +kernel) (by decide +kernel)⟩
theorem f_Hou_124 : x_fs "BracketHouse" 124 9 1 := ⟨_, rfl, by decide, gi1 (i := 169) (by decide +kernel) (by decide +kernel)⟩
theorem f_Tap_19 : x_fs "BracketHouse$Tape" 19 9 2 := ⟨_, rfl, by decide, gi1 (i := 170) (by decide +kernel) (by decide +kernel)⟩
theorem f_Gra_53 : x_fs "BracketHouse$Grammar" 53 9 2 := ⟨_, rfl, by decide, gi1 (i := 171) (by decide +kernel) (by decide +kernel)⟩
theorem f_Tap_22 : x_fs "BracketHouse$Tape" 22 9 3 := ⟨_, rfl, by decide, gi1 (i := 172) (by decide +kernel) (by decide +kernel)⟩
theorem f_Gra_71 : x_fs "BracketHouse$Grammar" 71 9 3 := ⟨_, rfl, by decide, gi1 (i := 173) (by decide +kernel) (by decide +kernel)⟩
theorem f_Tap_25 : x_fs "BracketHouse$Tape" 25 9 4 := ⟨_, rfl, by decide, gi1 (i := 174) (by decide +kernel) (by decide +kernel)⟩
theorem f_Gra_77 : x_fs "BracketHouse$Grammar" 77 9 4 := ⟨_, rfl, by decide, gi1 (i := 175) (by decide +kernel) (by decide +kernel)⟩
theorem f_Tap_28 : x_fs "BracketHouse$Tape" 28 9 5 := ⟨_, rfl, by decide, gi1 (i := 176) (by decide +kernel) (by decide +kernel)⟩
theorem f_Gra_68 : x_fs "BracketHouse$Grammar" 68 9 5 := ⟨_, rfl, by decide, gi1 (i := 177) (by decide +kernel) (by decide +kernel)⟩
theorem f_Tap_39 : x_fs "BracketHouse$Tape" 39 9 6 := ⟨_, rfl, by decide, gi1 (i := 178) (by decide +kernel) (by decide +kernel)⟩
theorem c_Hou_36 : x_ci "BracketHouse" 36 m_Gra_init 1 := ⟨⟨cd_Gra_init, in_Gra, gi1 (i := 199) (by decide +kernel) (by decide +kernel), by decide +kernel, by decide⟩, rfl, rfl, gi1 (i := 200) (by decide +kernel) (by decide +kernel)⟩
theorem oi_Gra_3 : Cond.methodLink "BracketHouse$Grammar" 3 objectInit ∈ gw := gi1 (i := 202) (by decide +kernel) (by decide +kernel)
theorem c_Gra_11 : x_ci "BracketHouse$Grammar" 11 m_Tex_init 0 := ⟨⟨cd_Tex_init, in_Tex, gi1 (i := 205) (by decide +kernel) (by decide +kernel), by decide +kernel, by decide⟩, rfl, rfl, gi1 (i := 206) (by decide +kernel) (by decide +kernel)⟩
theorem oi_Tex_3 : Cond.methodLink "BracketHouse$Text" 3 objectInit ∈ gw := gi1 (i := 208) (by decide +kernel) (by decide +kernel)
theorem f_Tex_18 : x_fs "BracketHouse$Text" 18 10 0 := ⟨_, rfl, by decide, gi1 (i := 209) (by decide +kernel) (by decide +kernel)⟩
theorem f_Ask_35 : x_fs "BracketHouse$Asker" 35 10 0 := ⟨_, rfl, by decide, gi1 (i := 210) (by decide +kernel) (by decide +kernel)⟩
theorem f_Run_94 : x_fs "BracketHouse$Runner" 94 10 0 := ⟨_, rfl, by decide, gi1 (i := 211) (by decide +kernel) (by decide +kernel)⟩
theorem f_Tex_22 : x_fs "BracketHouse$Text" 22 10 1 := ⟨_, rfl, by decide, gi1 (i := 212) (by decide +kernel) (by decide +kernel)⟩
theorem f_Run_84 : x_fs "BracketHouse$Runner" 84 10 1 := ⟨_, rfl, by decide, gi1 (i := 213) (by decide +kernel) (by decide +kernel)⟩
theorem f_Ask_83 : x_fs "BracketHouse$Asker" 83 10 1 := ⟨_, rfl, by decide, gi1 (i := 214) (by decide +kernel) (by decide +kernel)⟩
theorem f_Gra_88 : x_fs "BracketHouse$Grammar" 88 10 1 := ⟨_, rfl, by decide, gi1 (i := 215) (by decide +kernel) (by decide +kernel)⟩
theorem f_Tex_25 : x_fs "BracketHouse$Text" 25 10 2 := ⟨_, rfl, by decide, gi1 (i := 216) (by decide +kernel) (by decide +kernel)⟩
theorem f_Run_91 : x_fs "BracketHouse$Runner" 91 10 2 := ⟨_, rfl, by decide, gi1 (i := 217) (by decide +kernel) (by decide +kernel)⟩
theorem f_Gra_106 : x_fs "BracketHouse$Grammar" 106 10 2 := ⟨_, rfl, by decide, gi1 (i := 218) (by decide +kernel) (by decide +kernel)⟩
theorem f_Tex_28 : x_fs "BracketHouse$Text" 28 10 3 := ⟨_, rfl, by decide, gi1 (i := 219) (by decide +kernel) (by decide +kernel)⟩
theorem f_Run_77 : x_fs "BracketHouse$Runner" 77 10 3 := ⟨_, rfl, by decide, gi1 (i := 220) (by decide +kernel) (by decide +kernel)⟩
theorem f_Ask_76 : x_fs "BracketHouse$Asker" 76 10 3 := ⟨_, rfl, by decide, gi1 (i := 221) (by decide +kernel) (by decide +kernel)⟩
theorem f_Gra_95 : x_fs "BracketHouse$Grammar" 95 10 3 := ⟨_, rfl, by decide, gi1 (i := 222) (by decide +kernel) (by decide +kernel)⟩
theorem f_Tex_31 : x_fs "BracketHouse$Text" 31 10 4 := ⟨_, rfl, by decide, gi1 (i := 223) (by decide +kernel) (by decide +kernel)⟩
theorem f_Run_67 : x_fs "BracketHouse$Runner" 67 10 4 := ⟨_, rfl, by decide, gi1 (i := 224) (by decide +kernel) (by decide +kernel)⟩
theorem f_Gra_118 : x_fs "BracketHouse$Grammar" 118 10 4 := ⟨_, rfl, by decide, gi1 (i := 225) (by decide +kernel) (by decide +kernel)⟩
theorem f_Tex_34 : x_fs "BracketHouse$Text" 34 10 5 := ⟨_, rfl, by decide, gi1 (i := 226) (by decide +kernel) (by decide +kernel)⟩
theorem f_Sum_25 : x_fs "BracketHouse$Sums" 25 10 5 := ⟨_, rfl, by decide, gi1 (i := 227) (by decide +kernel) (by decide +kernel)⟩
theorem f_Tex_37 : x_fs "BracketHouse$Text" 37 10 6 := ⟨_, rfl, by decide, gi1 (i := 228) (by decide +kernel) (by decide +kernel)⟩
theorem f_Sum_28 : x_fs "BracketHouse$Sums" 28 10 6 := ⟨_, rfl, by decide, gi1 (i := 229) (by decide +kernel) (by decide +kernel)⟩
theorem f_Gra_123 : x_fs "BracketHouse$Grammar" 123 10 6 := ⟨_, rfl, by decide, gi1 (i := 230) (by decide +kernel) (by decide +kernel)⟩
theorem f_Tex_9 : x_fs "BracketHouse$Text" 9 10 7 := ⟨_, rfl, by decide, gi1 (i := 231) (by decide +kernel) (by decide +kernel)⟩
theorem f_Ask_30 : x_fs "BracketHouse$Asker" 30 10 7 := ⟨_, rfl, by decide, gi1 (i := 232) (by decide +kernel) (by decide +kernel)⟩
theorem f_Run_62 : x_fs "BracketHouse$Runner" 62 10 7 := ⟨_, rfl, by decide, gi1 (i := 233) (by decide +kernel) (by decide +kernel)⟩
theorem f_Tex_15 : x_fs "BracketHouse$Text" 15 10 8 := ⟨_, rfl, by decide, gi1 (i := 234) (by decide +kernel) (by decide +kernel)⟩
theorem f_Sum_19 : x_fs "BracketHouse$Sums" 19 10 8 := ⟨_, rfl, by decide, gi1 (i := 235) (by decide +kernel) (by decide +kernel)⟩
theorem f_Gra_98 : x_fs "BracketHouse$Grammar" 98 10 8 := ⟨_, rfl, by decide, gi1 (i := 236) (by decide +kernel) (by decide +kernel)⟩
theorem f_Gra_12 : x_fs "BracketHouse$Grammar" 12 2 0 := ⟨_, rfl, by decide, gi2 (i := 16) (by decide +kernel) (by decide +kernel)⟩
theorem f_Hou_160 : x_fs "BracketHouse" 160 2 0 := ⟨_, rfl, by decide, gi2 (i := 17) (by decide +kernel) (by decide +kernel)⟩
theorem f_Gra_18 : x_fs "BracketHouse$Grammar" 18 2 1 := ⟨_, rfl, by decide, gi2 (i := 18) (by decide +kernel) (by decide +kernel)⟩
theorem f_Hou_174 : x_fs "BracketHouse" 174 2 1 := ⟨_, rfl, by decide, gi2 (i := 19) (by decide +kernel) (by decide +kernel)⟩
theorem f_Gra_38 : x_fs "BracketHouse$Grammar" 38 2 2 := ⟨_, rfl, by decide, gi2 (i := 20) (by decide +kernel) (by decide +kernel)⟩
theorem f_Gra_22 : x_fs "BracketHouse$Grammar" 22 2 3 := ⟨_, rfl, by decide, gi2 (i := 21) (by decide +kernel) (by decide +kernel)⟩
theorem f_Gra_26 : x_fs "BracketHouse$Grammar" 26 2 4 := ⟨_, rfl, by decide, gi2 (i := 22) (by decide +kernel) (by decide +kernel)⟩
theorem f_Gra_29 : x_fs "BracketHouse$Grammar" 29 2 5 := ⟨_, rfl, by decide, gi2 (i := 23) (by decide +kernel) (by decide +kernel)⟩
theorem f_Gra_32 : x_fs "BracketHouse$Grammar" 32 2 6 := ⟨_, rfl, by decide, gi2 (i := 24) (by decide +kernel) (by decide +kernel)⟩
theorem f_Gra_35 : x_fs "BracketHouse$Grammar" 35 2 7 := ⟨_, rfl, by decide, gi2 (i := 25) (by decide +kernel) (by decide +kernel)⟩
theorem oi_Ask_3 : Cond.methodLink "BracketHouse$Asker" 3 objectInit ∈ gw := gi2 (i := 48) (by decide +kernel) (by decide +kernel)
theorem oi_Sum_3 : Cond.methodLink "BracketHouse$Sums" 3 objectInit ∈ gw := gi2 (i := 54) (by decide +kernel) (by decide +kernel)
theorem f_Sum_9 : x_fs "BracketHouse$Sums" 9 8 0 := ⟨_, rfl, by decide, gi2 (i := 55) (by decide +kernel) (by decide +kernel)⟩
theorem f_Run_87 : x_fs "BracketHouse$Runner" 87 8 0 := ⟨_, rfl, by decide, gi2 (i := 56) (by decide +kernel) (by decide +kernel)⟩
theorem f_Ask_86 : x_fs "BracketHouse$Asker" 86 8 0 := ⟨_, rfl, by decide, gi2 (i := 57) (by decide +kernel) (by decide +kernel)⟩
theorem f_Sum_15 : x_fs "BracketHouse$Sums" 15 8 1 := ⟨_, rfl, by decide, gi2 (i := 58) (by decide +kernel) (by decide +kernel)⟩
theorem f_Ask_12 : x_fs "BracketHouse$Asker" 12 0 0 := ⟨_, rfl, by decide, gi2 (i := 64) (by decide +kernel) (by decide +kernel)⟩
theorem f_Ask_18 : x_fs "BracketHouse$Asker" 18 0 1 := ⟨_, rfl, by decide, gi2 (i := 65) (by decide +kernel) (by decide +kernel)⟩
theorem f_Ask_22 : x_fs "BracketHouse$Asker" 22 0 2 := ⟨_, rfl, by decide, gi2 (i := 66) (by decide +kernel) (by decide +kernel)⟩
theorem c_Hou_52 : x_ci "BracketHouse" 52 m_Dee_init 2 := ⟨⟨cd_Dee_init, in_Dee, gi2 (i := 76) (by decide +kernel) (by decide +kernel), by decide +kernel, by decide⟩, rfl, rfl, gi2 (i := 77) (by decide +kernel) (by decide +kernel)⟩
theorem oi_Dee_3 : Cond.methodLink "BracketHouse$Deeds" 3 objectInit ∈ gw := gi2 (i := 79) (by decide +kernel) (by decide +kernel)
theorem f_Dee_9 : x_fs "BracketHouse$Deeds" 9 1 0 := ⟨_, rfl, by decide, gi2 (i := 80) (by decide +kernel) (by decide +kernel)⟩
theorem f_Hou_334 : x_fs "BracketHouse" 334 1 0 := ⟨_, rfl, by decide, gi2 (i := 81) (by decide +kernel) (by decide +kernel)⟩
theorem f_Dee_29 : x_fs "BracketHouse$Deeds" 29 1 1 := ⟨_, rfl, by decide, gi2 (i := 82) (by decide +kernel) (by decide +kernel)⟩
theorem f_Run_45 : x_fs "BracketHouse$Runner" 45 1 1 := ⟨_, rfl, by decide, gi2 (i := 83) (by decide +kernel) (by decide +kernel)⟩
theorem f_Dee_25 : x_fs "BracketHouse$Deeds" 25 1 2 := ⟨_, rfl, by decide, gi2 (i := 84) (by decide +kernel) (by decide +kernel)⟩
theorem f_Dee_15 : x_fs "BracketHouse$Deeds" 15 1 3 := ⟨_, rfl, by decide, gi2 (i := 85) (by decide +kernel) (by decide +kernel)⟩
theorem f_Dee_19 : x_fs "BracketHouse$Deeds" 19 1 4 := ⟨_, rfl, by decide, gi2 (i := 86) (by decide +kernel) (by decide +kernel)⟩
theorem f_Dee_22 : x_fs "BracketHouse$Deeds" 22 1 5 := ⟨_, rfl, by decide, gi2 (i := 87) (by decide +kernel) (by decide +kernel)⟩
theorem c_Hou_64 : x_ci "BracketHouse" 64 m_Run_init 2 := ⟨⟨cd_Run_init, in_Run, gi2 (i := 103) (by decide +kernel) (by decide +kernel), by decide +kernel, by decide⟩, rfl, rfl, gi2 (i := 104) (by decide +kernel) (by decide +kernel)⟩
theorem oi_Run_3 : Cond.methodLink "BracketHouse$Runner" 3 objectInit ∈ gw := gi2 (i := 106) (by decide +kernel) (by decide +kernel)
theorem c_Run_17 : x_ci "BracketHouse$Runner" 17 m_Sta_init 0 := ⟨⟨cd_Sta_init, in_Sta, gi2 (i := 108) (by decide +kernel) (by decide +kernel), by decide +kernel, by decide⟩, rfl, rfl, gi1 (i := 32) (by decide +kernel) (by decide +kernel)⟩
theorem c_Run_49 : x_ci "BracketHouse$Runner" 49 m_Dee_init 2 := ⟨⟨cd_Dee_init, in_Dee, gi2 (i := 112) (by decide +kernel) (by decide +kernel), by decide +kernel, by decide⟩, rfl, rfl, gi2 (i := 77) (by decide +kernel) (by decide +kernel)⟩
theorem f_Run_9 : x_fs "BracketHouse$Runner" 9 6 0 := ⟨_, rfl, by decide, gi2 (i := 113) (by decide +kernel) (by decide +kernel)⟩
theorem f_Hou_171 : x_fs "BracketHouse" 171 6 0 := ⟨_, rfl, by decide, gi2 (i := 114) (by decide +kernel) (by decide +kernel)⟩
theorem f_Run_36 : x_fs "BracketHouse$Runner" 36 6 1 := ⟨_, rfl, by decide, gi2 (i := 115) (by decide +kernel) (by decide +kernel)⟩
theorem f_Run_39 : x_fs "BracketHouse$Runner" 39 6 2 := ⟨_, rfl, by decide, gi2 (i := 116) (by decide +kernel) (by decide +kernel)⟩
theorem f_Run_18 : x_fs "BracketHouse$Runner" 18 6 3 := ⟨_, rfl, by decide, gi2 (i := 117) (by decide +kernel) (by decide +kernel)⟩
theorem f_Run_52 : x_fs "BracketHouse$Runner" 52 6 4 := ⟨_, rfl, by decide, gi2 (i := 118) (by decide +kernel) (by decide +kernel)⟩
theorem f_Run_25 : x_fs "BracketHouse$Runner" 25 6 5 := ⟨_, rfl, by decide, gi2 (i := 119) (by decide +kernel) (by decide +kernel)⟩
theorem f_Run_29 : x_fs "BracketHouse$Runner" 29 6 6 := ⟨_, rfl, by decide, gi2 (i := 120) (by decide +kernel) (by decide +kernel)⟩
theorem f_Run_33 : x_fs "BracketHouse$Runner" 33 6 7 := ⟨_, rfl, by decide, gi2 (i := 121) (by decide +kernel) (by decide +kernel)⟩
theorem c_Hou_73 : x_ci "BracketHouse" 73 m_Pap_init 1 := ⟨⟨cd_Pap_init, in_Pap, gi2 (i := 141) (by decide +kernel) (by decide +kernel), by decide +kernel, by decide⟩, rfl, rfl, gi2 (i := 142) (by decide +kernel) (by decide +kernel)⟩
theorem oi_Pap_3 : Cond.methodLink "BracketHouse$Paper" 3 objectInit ∈ gw := gi2 (i := 144) (by decide +kernel) (by decide +kernel)
theorem f_Pap_9 : x_fs "BracketHouse$Paper" 9 4 0 := ⟨_, rfl, by decide, gi2 (i := 149) (by decide +kernel) (by decide +kernel)⟩
theorem f_Hou_245 : x_fs "BracketHouse" 245 4 0 := ⟨_, rfl, by decide, gi2 (i := 150) (by decide +kernel) (by decide +kernel)⟩
theorem f_Pap_15 : x_fs "BracketHouse$Paper" 15 4 1 := ⟨_, rfl, by decide, gi2 (i := 151) (by decide +kernel) (by decide +kernel)⟩
theorem f_Hou_248 : x_fs "BracketHouse" 248 4 1 := ⟨_, rfl, by decide, gi2 (i := 152) (by decide +kernel) (by decide +kernel)⟩
theorem f_Pap_18 : x_fs "BracketHouse$Paper" 18 4 2 := ⟨_, rfl, by decide, gi2 (i := 153) (by decide +kernel) (by decide +kernel)⟩
theorem f_Hou_265 : x_fs "BracketHouse" 265 4 2 := ⟨_, rfl, by decide, gi2 (i := 154) (by decide +kernel) (by decide +kernel)⟩
theorem f_Pap_21 : x_fs "BracketHouse$Paper" 21 4 3 := ⟨_, rfl, by decide, gi2 (i := 155) (by decide +kernel) (by decide +kernel)⟩
theorem f_Hou_268 : x_fs "BracketHouse" 268 4 3 := ⟨_, rfl, by decide, gi2 (i := 156) (by decide +kernel) (by decide +kernel)⟩
theorem f_Pap_24 : x_fs "BracketHouse$Paper" 24 4 4 := ⟨_, rfl, by decide, gi2 (i := 157) (by decide +kernel) (by decide +kernel)⟩
theorem f_Hou_294 : x_fs "BracketHouse" 294 4 4 := ⟨_, rfl, by decide, gi2 (i := 158) (by decide +kernel) (by decide +kernel)⟩
theorem f_Pap_27 : x_fs "BracketHouse$Paper" 27 4 5 := ⟨_, rfl, by decide, gi2 (i := 159) (by decide +kernel) (by decide +kernel)⟩
theorem f_Hou_297 : x_fs "BracketHouse" 297 4 5 := ⟨_, rfl, by decide, gi2 (i := 160) (by decide +kernel) (by decide +kernel)⟩
theorem f_Pap_30 : x_fs "BracketHouse$Paper" 30 4 6 := ⟨_, rfl, by decide, gi2 (i := 161) (by decide +kernel) (by decide +kernel)⟩
theorem f_Hou_304 : x_fs "BracketHouse" 304 4 6 := ⟨_, rfl, by decide, gi2 (i := 162) (by decide +kernel) (by decide +kernel)⟩
theorem f_Pap_33 : x_fs "BracketHouse$Paper" 33 4 7 := ⟨_, rfl, by decide, gi2 (i := 163) (by decide +kernel) (by decide +kernel)⟩
theorem f_Hou_307 : x_fs "BracketHouse" 307 4 7 := ⟨_, rfl, by decide, gi2 (i := 164) (by decide +kernel) (by decide +kernel)⟩
theorem f_Pap_36 : x_fs "BracketHouse$Paper" 36 4 8 := ⟨_, rfl, by decide, gi2 (i := 165) (by decide +kernel) (by decide +kernel)⟩
theorem f_Hou_310 : x_fs "BracketHouse" 310 4 8 := ⟨_, rfl, by decide, gi2 (i := 166) (by decide +kernel) (by decide +kernel)⟩
theorem f_Pap_39 : x_fs "BracketHouse$Paper" 39 4 9 := ⟨_, rfl, by decide, gi2 (i := 167) (by decide +kernel) (by decide +kernel)⟩
theorem f_Hou_313 : x_fs "BracketHouse" 313 4 9 := ⟨_, rfl, by decide, gi2 (i := 168) (by decide +kernel) (by decide +kernel)⟩
theorem f_Pap_42 : x_fs "BracketHouse$Paper" 42 4 10 := ⟨_, rfl, by decide, gi2 (i := 169) (by decide +kernel) (by decide +kernel)⟩
theorem f_Hou_259 : x_fs "BracketHouse" 259 4 10 := ⟨_, rfl, by decide, gi2 (i := 170) (by decide +kernel) (by decide +kernel)⟩
theorem f_Pap_68 : x_fs "BracketHouse$Paper" 68 4 11 := ⟨_, rfl, by decide, gi2 (i := 171) (by decide +kernel) (by decide +kernel)⟩
theorem f_Pap_49 : x_fs "BracketHouse$Paper" 49 4 12 := ⟨_, rfl, by decide, gi2 (i := 172) (by decide +kernel) (by decide +kernel)⟩
theorem f_Pap_55 : x_fs "BracketHouse$Paper" 55 4 13 := ⟨_, rfl, by decide, gi2 (i := 173) (by decide +kernel) (by decide +kernel)⟩
theorem f_Pap_58 : x_fs "BracketHouse$Paper" 58 4 14 := ⟨_, rfl, by decide, gi2 (i := 174) (by decide +kernel) (by decide +kernel)⟩
theorem f_Pap_61 : x_fs "BracketHouse$Paper" 61 4 15 := ⟨_, rfl, by decide, gi2 (i := 175) (by decide +kernel) (by decide +kernel)⟩
theorem f_Pap_65 : x_fs "BracketHouse$Paper" 65 4 16 := ⟨_, rfl, by decide, gi2 (i := 176) (by decide +kernel) (by decide +kernel)⟩
theorem oi_Num_3 : Cond.methodLink "BracketHouse$Numbering" 3 objectInit ∈ gw := gi2 (i := 217) (by decide +kernel) (by decide +kernel)
theorem f_Num_11 : x_fs "BracketHouse$Numbering" 11 3 0 := ⟨_, rfl, by decide, gi2 (i := 220) (by decide +kernel) (by decide +kernel)⟩
theorem f_Num_16 : x_fs "BracketHouse$Numbering" 16 3 1 := ⟨_, rfl, by decide, gi2 (i := 221) (by decide +kernel) (by decide +kernel)⟩
theorem f_Num_20 : x_fs "BracketHouse$Numbering" 20 3 2 := ⟨_, rfl, by decide, gi2 (i := 222) (by decide +kernel) (by decide +kernel)⟩
theorem f_Num_24 : x_fs "BracketHouse$Numbering" 24 3 3 := ⟨_, rfl, by decide, gi2 (i := 223) (by decide +kernel) (by decide +kernel)⟩
theorem f_Hou_12 : x_fs "BracketHouse" 12 11 0 := ⟨_, rfl, by decide, gi2 (i := 234) (by decide +kernel) (by decide +kernel)⟩
theorem f_Hou_16 : x_fs "BracketHouse" 16 11 1 := ⟨_, rfl, by decide, gi2 (i := 235) (by decide +kernel) (by decide +kernel)⟩
theorem f_Hou_19 : x_fs "BracketHouse" 19 11 2 := ⟨_, rfl, by decide, gi2 (i := 236) (by decide +kernel) (by decide +kernel)⟩
theorem f_Hou_23 : x_fs "BracketHouse" 23 11 3 := ⟨_, rfl, by decide, gi2 (i := 237) (by decide +kernel) (by decide +kernel)⟩
theorem f_Hou_30 : x_fs "BracketHouse" 30 11 4 := ⟨_, rfl, by decide, gi2 (i := 238) (by decide +kernel) (by decide +kernel)⟩
theorem f_Hou_39 : x_fs "BracketHouse" 39 11 5 := ⟨_, rfl, by decide, gi2 (i := 239) (by decide +kernel) (by decide +kernel)⟩
theorem f_Hou_46 : x_fs "BracketHouse" 46 11 6 := ⟨_, rfl, by decide, gi3 (i := 0) (by decide +kernel) (by decide +kernel)⟩
theorem f_Hou_55 : x_fs "BracketHouse" 55 11 7 := ⟨_, rfl, by decide, gi3 (i := 1) (by decide +kernel) (by decide +kernel)⟩
theorem f_Hou_59 : x_fs "BracketHouse" 59 11 8 := ⟨_, rfl, by decide, gi3 (i := 2) (by decide +kernel) (by decide +kernel)⟩
theorem f_Hou_67 : x_fs "BracketHouse" 67 11 9 := ⟨_, rfl, by decide, gi3 (i := 3) (by decide +kernel) (by decide +kernel)⟩
theorem f_Hou_76 : x_fs "BracketHouse" 76 11 10 := ⟨_, rfl, by decide, gi3 (i := 4) (by decide +kernel) (by decide +kernel)⟩
theorem f_Hou_83 : x_fs "BracketHouse" 83 11 11 := ⟨_, rfl, by decide, gi3 (i := 5) (by decide +kernel) (by decide +kernel)⟩
theorem f_Hou_87 : x_fs "BracketHouse" 87 11 12 := ⟨_, rfl, by decide, gi3 (i := 6) (by decide +kernel) (by decide +kernel)⟩
theorem f_Hou_91 : x_fs "BracketHouse" 91 11 13 := ⟨_, rfl, by decide, gi3 (i := 7) (by decide +kernel) (by decide +kernel)⟩
theorem f_Hou_95 : x_fs "BracketHouse" 95 11 14 := ⟨_, rfl, by decide, gi3 (i := 8) (by decide +kernel) (by decide +kernel)⟩
theorem f_Hou_99 : x_fs "BracketHouse" 99 11 15 := ⟨_, rfl, by decide, gi3 (i := 9) (by decide +kernel) (by decide +kernel)⟩
theorem f_Hou_102 : x_fs "BracketHouse" 102 11 16 := ⟨_, rfl, by decide, gi3 (i := 10) (by decide +kernel) (by decide +kernel)⟩
theorem c_Law_13 : x_cv "BracketHouseLaw" 13 m_Hou_terms 2 := ⟨⟨cd_Hou_terms, in_Hou, gi3 (i := 46) (by decide +kernel) (by decide +kernel), by decide +kernel, by decide⟩, gi3 (i := 47) (by decide +kernel) (by decide +kernel), gi3 (i := 48) (by decide +kernel) (by decide +kernel)⟩
theorem s_Hou_105 : Cond.fieldLink "BracketHouse" 105 "BracketHouse" (x_sn 0) "[I" ∈ gw := gi3 (i := 50) (by decide +kernel) (by decide +kernel)
theorem s_Hou_108 : Cond.fieldLink "BracketHouse" 108 "BracketHouse" (x_sn 1) "[I" ∈ gw := gi3 (i := 52) (by decide +kernel) (by decide +kernel)
theorem c_Hou_111 : x_cv "BracketHouse" 111 m_Hou_refuse 1 := ⟨⟨cd_Hou_refuse, in_Hou, gi3 (i := 54) (by decide +kernel) (by decide +kernel), by decide +kernel, by decide⟩, gi3 (i := 56) (by decide +kernel) (by decide +kernel), gw_sel (i := 0) (by decide +kernel) (by decide +kernel)⟩
theorem c_Hou_335 : x_cs "BracketHouse" 335 m_Hou_refusalIndex 1 := ⟨⟨cd_Hou_refusalIndex, in_Hou, gi3 (i := 58) (by decide +kernel) (by decide +kernel), by decide +kernel, by decide⟩, gi3 (i := 59) (by decide +kernel) (by decide +kernel)⟩
theorem c_Hou_118 : x_cv "BracketHouse" 118 m_Dee_forget 0 := ⟨⟨cd_Dee_forget, in_Dee, gi3 (i := 61) (by decide +kernel) (by decide +kernel), by decide +kernel, by decide⟩, gi3 (i := 62) (by decide +kernel) (by decide +kernel), gi3 (i := 63) (by decide +kernel) (by decide +kernel)⟩
theorem c_Hou_121 : x_cv "BracketHouse" 121 m_Hou_grant 1 := ⟨⟨cd_Hou_grant, in_Hou, gi3 (i := 65) (by decide +kernel) (by decide +kernel), by decide +kernel, by decide⟩, gi3 (i := 67) (by decide +kernel) (by decide +kernel), gw_sel (i := 1) (by decide +kernel) (by decide +kernel)⟩
theorem c_Law_18 : x_cv "BracketHouseLaw" 18 m_Hou_feed 5 := ⟨⟨cd_Hou_feed, in_Hou, gi3 (i := 69) (by decide +kernel) (by decide +kernel), by decide +kernel, by decide⟩, gi3 (i := 70) (by decide +kernel) (by decide +kernel), gi3 (i := 71) (by decide +kernel) (by decide +kernel)⟩
theorem c_Hou_127 : x_cv "BracketHouse" 127 m_Tap_addNumber 1 := ⟨⟨cd_Tap_addNumber, in_Tap, gi3 (i := 73) (by decide +kernel) (by decide +kernel), by decide +kernel, by decide⟩, gi3 (i := 74) (by decide +kernel) (by decide +kernel), gi3 (i := 75) (by decide +kernel) (by decide +kernel)⟩
theorem c_Law_23 : x_cv "BracketHouseLaw" 23 m_Hou_end 1 := ⟨⟨cd_Hou_end, in_Hou, gi3 (i := 77) (by decide +kernel) (by decide +kernel), by decide +kernel, by decide⟩, gi3 (i := 78) (by decide +kernel) (by decide +kernel), gi3 (i := 79) (by decide +kernel) (by decide +kernel)⟩
theorem c_Law_28 : x_cv "BracketHouseLaw" 28 m_Hou_row 0 := ⟨⟨cd_Hou_row, in_Hou, gi3 (i := 81) (by decide +kernel) (by decide +kernel), by decide +kernel, by decide⟩, gi3 (i := 82) (by decide +kernel) (by decide +kernel), gi3 (i := 83) (by decide +kernel) (by decide +kernel)⟩
theorem c_Hou_143 : x_cv "BracketHouse" 143 m_Row_insert 2 := ⟨⟨cd_Row_insert, in_Row, gi3 (i := 85) (by decide +kernel) (by decide +kernel), by decide +kernel, by decide⟩, gi3 (i := 86) (by decide +kernel) (by decide +kernel), gi3 (i := 87) (by decide +kernel) (by decide +kernel)⟩
theorem ac_Row_35 : Cond.methodLink "BracketHouse$Row" 35 arraycopyName ∈ gw := gi3 (i := 89) (by decide +kernel) (by decide +kernel)
theorem c_Law_33 : x_cv "BracketHouseLaw" 33 m_Hou_blots 0 := ⟨⟨cd_Hou_blots, in_Hou, gi3 (i := 90) (by decide +kernel) (by decide +kernel), by decide +kernel, by decide⟩, gi3 (i := 91) (by decide +kernel) (by decide +kernel), gi3 (i := 92) (by decide +kernel) (by decide +kernel)⟩
theorem c_Law_37 : x_cv "BracketHouseLaw" 37 m_Hou_law 0 := ⟨⟨cd_Hou_law, in_Hou, gi3 (i := 94) (by decide +kernel) (by decide +kernel), by decide +kernel, by decide⟩, gi3 (i := 95) (by decide +kernel) (by decide +kernel), gi3 (i := 96) (by decide +kernel) (by decide +kernel)⟩
theorem c_Hou_150 : x_cv "BracketHouse" 150 m_Gra_readsTape 1 := ⟨⟨cd_Gra_readsTape, in_Gra, gi3 (i := 98) (by decide +kernel) (by decide +kernel), by decide +kernel, by decide⟩, gi3 (i := 99) (by decide +kernel) (by decide +kernel), gi3 (i := 100) (by decide +kernel) (by decide +kernel)⟩
theorem c_Gra_42 : x_cv "BracketHouse$Grammar" 42 m_Tex_clear 0 := ⟨⟨cd_Tex_clear, in_Tex, gi3 (i := 102) (by decide +kernel) (by decide +kernel), by decide +kernel, by decide⟩, gi3 (i := 103) (by decide +kernel) (by decide +kernel), gi3 (i := 104) (by decide +kernel) (by decide +kernel)⟩
theorem c_Gra_45 : x_cv "BracketHouse$Grammar" 45 m_Tap_split 0 := ⟨⟨cd_Tap_split, in_Tap, gi3 (i := 106) (by decide +kernel) (by decide +kernel), by decide +kernel, by decide⟩, gi3 (i := 107) (by decide +kernel) (by decide +kernel), gi3 (i := 108) (by decide +kernel) (by decide +kernel)⟩
theorem c_Tap_43 : x_cv "BracketHouse$Tape" 43 m_Tap_endOf 1 := ⟨⟨cd_Tap_endOf, in_Tap, gi3 (i := 110) (by decide +kernel) (by decide +kernel), by decide +kernel, by decide⟩, gi3 (i := 112) (by decide +kernel) (by decide +kernel), gw_sel (i := 2) (by decide +kernel) (by decide +kernel)⟩
theorem c_Tap_51 : x_cs "BracketHouse$Tape" 51 m_Tap_isLetter 1 := ⟨⟨cd_Tap_isLetter, in_Tap, gi3 (i := 114) (by decide +kernel) (by decide +kernel), by decide +kernel, by decide⟩, gi3 (i := 115) (by decide +kernel) (by decide +kernel)⟩
theorem c_Tap_55 : x_cs "BracketHouse$Tape" 55 m_Tap_isDigit 1 := ⟨⟨cd_Tap_isDigit, in_Tap, gi3 (i := 117) (by decide +kernel) (by decide +kernel), by decide +kernel, by decide⟩, gi3 (i := 118) (by decide +kernel) (by decide +kernel)⟩
theorem c_Tap_47 : x_cv "BracketHouse$Tape" 47 m_Tap_addToken 2 := ⟨⟨cd_Tap_addToken, in_Tap, gi3 (i := 120) (by decide +kernel) (by decide +kernel), by decide +kernel, by decide⟩, gi3 (i := 122) (by decide +kernel) (by decide +kernel), gw_sel (i := 3) (by decide +kernel) (by decide +kernel)⟩
theorem c_Tap_58 : x_cv "BracketHouse$Tape" 58 m_Tap_numberOf 2 := ⟨⟨cd_Tap_numberOf, in_Tap, gi3 (i := 124) (by decide +kernel) (by decide +kernel), by decide +kernel, by decide⟩, gi3 (i := 126) (by decide +kernel) (by decide +kernel), gw_sel (i := 4) (by decide +kernel) (by decide +kernel)⟩
theorem mm_Tap_65 : Cond.methodLink "BracketHouse$Tape" 65 Lib.Math.min.name ∈ gw := gi3 (i := 128) (by decide +kernel) (by decide +kernel)
theorem c_Tap_62 : x_cv "BracketHouse$Tape" 62 m_Tap_wordOf 2 := ⟨⟨cd_Tap_wordOf, in_Tap, gi3 (i := 131) (by decide +kernel) (by decide +kernel), by decide +kernel, by decide⟩, gi3 (i := 133) (by decide +kernel) (by decide +kernel), gw_sel (i := 5) (by decide +kernel) (by decide +kernel)⟩
theorem c_Tap_70 : x_cv "BracketHouse$Tape" 70 m_Tap_hasWord 3 := ⟨⟨cd_Tap_hasWord, in_Tap, gi3 (i := 135) (by decide +kernel) (by decide +kernel), by decide +kernel, by decide⟩, gi3 (i := 137) (by decide +kernel) (by decide +kernel), gw_sel (i := 6) (by decide +kernel) (by decide +kernel)⟩
theorem c_Gra_57 : x_cv "BracketHouse$Grammar" 57 m_Gra_clause 0 := ⟨⟨cd_Gra_clause, in_Gra, gi3 (i := 139) (by decide +kernel) (by decide +kernel), by decide +kernel, by decide⟩, gi3 (i := 141) (by decide +kernel) (by decide +kernel), gw_sel (i := 7) (by decide +kernel) (by decide +kernel)⟩
theorem c_Gra_65 : x_cv "BracketHouse$Grammar" 65 m_Gra_fail 0 := ⟨⟨cd_Gra_fail, in_Gra, gi3 (i := 143) (by decide +kernel) (by decide +kernel), by decide +kernel, by decide⟩, gi3 (i := 145) (by decide +kernel) (by decide +kernel), gw_sel (i := 8) (by decide +kernel) (by decide +kernel)⟩
theorem c_Gra_74 : x_cv "BracketHouse$Grammar" 74 m_Gra_advance 0 := ⟨⟨cd_Gra_advance, in_Gra, gi3 (i := 147) (by decide +kernel) (by decide +kernel), by decide +kernel, by decide⟩, gi3 (i := 149) (by decide +kernel) (by decide +kernel), gw_sel (i := 9) (by decide +kernel) (by decide +kernel)⟩
theorem c_Gra_80 : x_cv "BracketHouse$Grammar" 80 m_Tex_addClause 1 := ⟨⟨cd_Tex_addClause, in_Tex, gi3 (i := 151) (by decide +kernel) (by decide +kernel), by decide +kernel, by decide⟩, gi3 (i := 152) (by decide +kernel) (by decide +kernel), gi3 (i := 153) (by decide +kernel) (by decide +kernel)⟩
theorem c_Gra_84 : x_cv "BracketHouse$Grammar" 84 m_Gra_order 2 := ⟨⟨cd_Gra_order, in_Gra, gi3 (i := 155) (by decide +kernel) (by decide +kernel), by decide +kernel, by decide⟩, gi3 (i := 157) (by decide +kernel) (by decide +kernel), gw_sel (i := 10) (by decide +kernel) (by decide +kernel)⟩
theorem c_Gra_91 : x_cv "BracketHouse$Grammar" 91 m_Gra_startedSum 2 := ⟨⟨cd_Gra_startedSum, in_Gra, gi3 (i := 159) (by decide +kernel) (by decide +kernel), by decide +kernel, by decide⟩, gi3 (i := 161) (by decide +kernel) (by decide +kernel), gw_sel (i := 11) (by decide +kernel) (by decide +kernel)⟩
theorem c_Gra_112 : x_cv "BracketHouse$Grammar" 112 m_Gra_sum 0 := ⟨⟨cd_Gra_sum, in_Gra, gi3 (i := 163) (by decide +kernel) (by decide +kernel), by decide +kernel, by decide⟩, gi3 (i := 165) (by decide +kernel) (by decide +kernel), gw_sel (i := 12) (by decide +kernel) (by decide +kernel)⟩
theorem c_Gra_133 : x_cv "BracketHouse$Grammar" 133 m_Gra_term 0 := ⟨⟨cd_Gra_term, in_Gra, gi3 (i := 167) (by decide +kernel) (by decide +kernel), by decide +kernel, by decide⟩, gi3 (i := 169) (by decide +kernel) (by decide +kernel), gw_sel (i := 13) (by decide +kernel) (by decide +kernel)⟩
theorem c_Gra_136 : x_cv "BracketHouse$Grammar" 136 m_Gra_part 0 := ⟨⟨cd_Gra_part, in_Gra, gi3 (i := 171) (by decide +kernel) (by decide +kernel), by decide +kernel, by decide⟩, gi3 (i := 173) (by decide +kernel) (by decide +kernel), gw_sel (i := 14) (by decide +kernel) (by decide +kernel)⟩
theorem c_Gra_127 : x_cv "BracketHouse$Grammar" 127 m_Gra_openBracket 0 := ⟨⟨cd_Gra_openBracket, in_Gra, gi3 (i := 175) (by decide +kernel) (by decide +kernel), by decide +kernel, by decide⟩, gi3 (i := 177) (by decide +kernel) (by decide +kernel), gw_sel (i := 15) (by decide +kernel) (by decide +kernel)⟩
theorem c_Gra_61 : x_cv "BracketHouse$Grammar" 61 m_Gra_take 1 := ⟨⟨cd_Gra_take, in_Gra, gi3 (i := 179) (by decide +kernel) (by decide +kernel), by decide +kernel, by decide⟩, gi3 (i := 181) (by decide +kernel) (by decide +kernel), gw_sel (i := 16) (by decide +kernel) (by decide +kernel)⟩
theorem c_Gra_115 : x_cv "BracketHouse$Grammar" 115 m_Gra_isNumber 2 := ⟨⟨cd_Gra_isNumber, in_Gra, gi3 (i := 183) (by decide +kernel) (by decide +kernel), by decide +kernel, by decide⟩, gi3 (i := 185) (by decide +kernel) (by decide +kernel), gw_sel (i := 17) (by decide +kernel) (by decide +kernel)⟩
theorem c_Gra_102 : x_cv "BracketHouse$Grammar" 102 m_Tex_addStep 2 := ⟨⟨cd_Tex_addStep, in_Tex, gi3 (i := 187) (by decide +kernel) (by decide +kernel), by decide +kernel, by decide⟩, gi3 (i := 188) (by decide +kernel) (by decide +kernel), gi3 (i := 189) (by decide +kernel) (by decide +kernel)⟩
theorem c_Gra_139 : x_cv "BracketHouse$Grammar" 139 m_Gra_placeWord 0 := ⟨⟨cd_Gra_placeWord, in_Gra, gi3 (i := 191) (by decide +kernel) (by decide +kernel), by decide +kernel, by decide⟩, gi3 (i := 193) (by decide +kernel) (by decide +kernel), gw_sel (i := 18) (by decide +kernel) (by decide +kernel)⟩
theorem c_Gra_142 : x_cv "BracketHouse$Grammar" 142 m_Gra_word 0 := ⟨⟨cd_Gra_word, in_Gra, gi3 (i := 195) (by decide +kernel) (by decide +kernel), by decide +kernel, by decide⟩, gi3 (i := 197) (by decide +kernel) (by decide +kernel), gw_sel (i := 19) (by decide +kernel) (by decide +kernel)⟩
theorem c_Gra_109 : x_cv "BracketHouse$Grammar" 109 m_Gra_times 1 := ⟨⟨cd_Gra_times, in_Gra, gi3 (i := 199) (by decide +kernel) (by decide +kernel), by decide +kernel, by decide⟩, gi3 (i := 201) (by decide +kernel) (by decide +kernel), gw_sel (i := 20) (by decide +kernel) (by decide +kernel)⟩
theorem c_Gra_99 : x_cv "BracketHouse$Grammar" 99 m_Gra_test 0 := ⟨⟨cd_Gra_test, in_Gra, gi3 (i := 203) (by decide +kernel) (by decide +kernel), by decide +kernel, by decide⟩, gi3 (i := 205) (by decide +kernel) (by decide +kernel), gw_sel (i := 21) (by decide +kernel) (by decide +kernel)⟩
theorem c_Gra_120 : x_cv "BracketHouse$Grammar" 120 m_Gra_both 0 := ⟨⟨cd_Gra_both, in_Gra, gi3 (i := 207) (by decide +kernel) (by decide +kernel), by decide +kernel, by decide⟩, gi3 (i := 209) (by decide +kernel) (by decide +kernel), gw_sel (i := 22) (by decide +kernel) (by decide +kernel)⟩
theorem c_Gra_124 : x_cv "BracketHouse$Grammar" 124 m_Gra_plain 0 := ⟨⟨cd_Gra_plain, in_Gra, gi3 (i := 211) (by decide +kernel) (by decide +kernel), by decide +kernel, by decide⟩, gi3 (i := 213) (by decide +kernel) (by decide +kernel), gw_sel (i := 23) (by decide +kernel) (by decide +kernel)⟩
theorem c_Gra_130 : x_cv "BracketHouse$Grammar" 130 m_Gra_comparison 0 := ⟨⟨cd_Gra_comparison, in_Gra, gi3 (i := 215) (by decide +kernel) (by decide +kernel), by decide +kernel, by decide⟩, gi3 (i := 217) (by decide +kernel) (by decide +kernel), gw_sel (i := 24) (by decide +kernel) (by decide +kernel)⟩
theorem c_Hou_164 : x_ci "BracketHouse" 164 m_Tex_init2 1 := ⟨⟨cd_Tex_init2, in_Tex, gi3 (i := 220) (by decide +kernel) (by decide +kernel), by decide +kernel, by decide⟩, rfl, rfl, gi3 (i := 221) (by decide +kernel) (by decide +kernel)⟩
theorem c_Tex_40 : x_cs "BracketHouse$Text" 40 m_Arr_copyOf 2 := ⟨⟨cd_Arr_copyOf, in_Arr, gi3 (i := 223) (by decide +kernel) (by decide +kernel), by decide +kernel, by decide⟩, gi3 (i := 224) (by decide +kernel) (by decide +kernel)⟩
theorem mm_Arr_304 : Cond.methodLink "java/util/Arrays" 304 Lib.Math.min.name ∈ gw := gi3 (i := 233) (by decide +kernel) (by decide +kernel)
theorem ac_Arr_150 : Cond.methodLink "java/util/Arrays" 150 arraycopyName ∈ gw := gi3 (i := 234) (by decide +kernel) (by decide +kernel)
theorem c_Law_41 : x_cv "BracketHouseLaw" 41 m_Hou_orders 0 := ⟨⟨cd_Hou_orders, in_Hou, gi3 (i := 235) (by decide +kernel) (by decide +kernel), by decide +kernel, by decide⟩, gi3 (i := 236) (by decide +kernel) (by decide +kernel), gi3 (i := 237) (by decide +kernel) (by decide +kernel)⟩
theorem c_Hou_167 : x_cv "BracketHouse" 167 m_Run_runWhole 1 := ⟨⟨cd_Run_runWhole, in_Run, gi3 (i := 239) (by decide +kernel) (by decide +kernel), by decide +kernel, by decide⟩, gi4 (i := 0) (by decide +kernel) (by decide +kernel), gi4 (i := 1) (by decide +kernel) (by decide +kernel)⟩
theorem c_Run_55 : x_cv "BracketHouse$Runner" 55 m_Sta_copyFrom 1 := ⟨⟨cd_Sta_copyFrom, in_Sta, gi4 (i := 3) (by decide +kernel) (by decide +kernel), by decide +kernel, by decide⟩, gi4 (i := 4) (by decide +kernel) (by decide +kernel), gi4 (i := 5) (by decide +kernel) (by decide +kernel)⟩
theorem c_Sta_44 : x_cv "BracketHouse$State" 44 m_Row_copyFrom 1 := ⟨⟨cd_Row_copyFrom, in_Row, gi4 (i := 7) (by decide +kernel) (by decide +kernel), by decide +kernel, by decide⟩, gi4 (i := 8) (by decide +kernel) (by decide +kernel), gi4 (i := 9) (by decide +kernel) (by decide +kernel)⟩
theorem c_Run_59 : x_cv "BracketHouse$Runner" 59 m_Dee_copyFrom 1 := ⟨⟨cd_Dee_copyFrom, in_Dee, gi4 (i := 11) (by decide +kernel) (by decide +kernel), by decide +kernel, by decide⟩, gi4 (i := 12) (by decide +kernel) (by decide +kernel), gi4 (i := 13) (by decide +kernel) (by decide +kernel)⟩
theorem ac_Dee_33 : Cond.methodLink "BracketHouse$Deeds" 33 arraycopyName ∈ gw := gi4 (i := 15) (by decide +kernel) (by decide +kernel)
theorem c_Run_70 : x_cv "BracketHouse$Runner" 70 m_Run_runOnce 2 := ⟨⟨cd_Run_runOnce, in_Run, gi4 (i := 16) (by decide +kernel) (by decide +kernel), by decide +kernel, by decide⟩, gi4 (i := 18) (by decide +kernel) (by decide +kernel), gw_sel (i := 25) (by decide +kernel) (by decide +kernel)⟩
theorem c_Run_74 : x_cv "BracketHouse$Runner" 74 m_Run_look 0 := ⟨⟨cd_Run_look, in_Run, gi4 (i := 20) (by decide +kernel) (by decide +kernel), by decide +kernel, by decide⟩, gi4 (i := 22) (by decide +kernel) (by decide +kernel), gw_sel (i := 26) (by decide +kernel) (by decide +kernel)⟩
theorem c_Run_124 : x_cv "BracketHouse$Runner" 124 m_Row_looseOnes 0 := ⟨⟨cd_Row_looseOnes, in_Row, gi4 (i := 24) (by decide +kernel) (by decide +kernel), by decide +kernel, by decide⟩, gi4 (i := 25) (by decide +kernel) (by decide +kernel), gi4 (i := 26) (by decide +kernel) (by decide +kernel)⟩
theorem c_Row_45 : x_cv "BracketHouse$Row" 45 m_Row_pairUp 0 := ⟨⟨cd_Row_pairUp, in_Row, gi4 (i := 28) (by decide +kernel) (by decide +kernel), by decide +kernel, by decide⟩, gi4 (i := 30) (by decide +kernel) (by decide +kernel), gw_sel (i := 27) (by decide +kernel) (by decide +kernel)⟩
theorem c_Row_65 : x_cv "BracketHouse$Row" 65 m_Row_findMates 0 := ⟨⟨cd_Row_findMates, in_Row, gi4 (i := 32) (by decide +kernel) (by decide +kernel), by decide +kernel, by decide⟩, gi4 (i := 34) (by decide +kernel) (by decide +kernel), gw_sel (i := 28) (by decide +kernel) (by decide +kernel)⟩
theorem c_Row_55 : x_cs "BracketHouse$Row" 55 m_Row_opens 1 := ⟨⟨cd_Row_opens, in_Row, gi4 (i := 36) (by decide +kernel) (by decide +kernel), by decide +kernel, by decide⟩, gi4 (i := 37) (by decide +kernel) (by decide +kernel)⟩
theorem c_Row_58 : x_cs "BracketHouse$Row" 58 m_Row_closes 1 := ⟨⟨cd_Row_closes, in_Row, gi4 (i := 39) (by decide +kernel) (by decide +kernel), by decide +kernel, by decide⟩, gi4 (i := 40) (by decide +kernel) (by decide +kernel)⟩
theorem c_Row_61 : x_cs "BracketHouse$Row" 61 m_Row_kindOf 1 := ⟨⟨cd_Row_kindOf, in_Row, gi4 (i := 42) (by decide +kernel) (by decide +kernel), by decide +kernel, by decide⟩, gi4 (i := 43) (by decide +kernel) (by decide +kernel)⟩
theorem c_Row_68 : x_cv "BracketHouse$Row" 68 m_Row_countDepths 0 := ⟨⟨cd_Row_countDepths, in_Row, gi4 (i := 45) (by decide +kernel) (by decide +kernel), by decide +kernel, by decide⟩, gi4 (i := 47) (by decide +kernel) (by decide +kernel), gw_sel (i := 29) (by decide +kernel) (by decide +kernel)⟩
theorem c_Run_127 : x_cv "BracketHouse$Runner" 127 m_Row_has 1 := ⟨⟨cd_Row_has, in_Row, gi4 (i := 49) (by decide +kernel) (by decide +kernel), by decide +kernel, by decide⟩, gi4 (i := 50) (by decide +kernel) (by decide +kernel), gi4 (i := 51) (by decide +kernel) (by decide +kernel)⟩
theorem c_Run_134 : x_cv "BracketHouse$Runner" 134 m_Row_depthOf 1 := ⟨⟨cd_Row_depthOf, in_Row, gi4 (i := 53) (by decide +kernel) (by decide +kernel), by decide +kernel, by decide⟩, gi4 (i := 54) (by decide +kernel) (by decide +kernel), gi4 (i := 55) (by decide +kernel) (by decide +kernel)⟩
theorem c_Run_80 : x_cv "BracketHouse$Runner" 80 m_Sum_of 3 := ⟨⟨cd_Sum_of, in_Sum, gi4 (i := 57) (by decide +kernel) (by decide +kernel), by decide +kernel, by decide⟩, gi4 (i := 58) (by decide +kernel) (by decide +kernel), gi4 (i := 59) (by decide +kernel) (by decide +kernel)⟩
theorem c_Sum_31 : x_cs "BracketHouse$Sums" 31 m_Sum_taken 1 := ⟨⟨cd_Sum_taken, in_Sum, gi4 (i := 61) (by decide +kernel) (by decide +kernel), by decide +kernel, by decide⟩, gi4 (i := 62) (by decide +kernel) (by decide +kernel)⟩
theorem c_Sum_35 : x_cs "BracketHouse$Sums" 35 m_Sum_combined 3 := ⟨⟨cd_Sum_combined, in_Sum, gi4 (i := 64) (by decide +kernel) (by decide +kernel), by decide +kernel, by decide⟩, gi4 (i := 65) (by decide +kernel) (by decide +kernel)⟩
theorem k_Sum_43 : Cond.constantLong "BracketHouse$Sums" 43 (1000000001) ∈ gw := gi4 (i := 67) (by decide +kernel) (by decide +kernel)
theorem k_Sum_39 : Cond.constantLong "BracketHouse$Sums" 39 (1000000000) ∈ gw := gi4 (i := 68) (by decide +kernel) (by decide +kernel)
theorem k_Sum_41 : Cond.constantLong "BracketHouse$Sums" 41 (-1000000000) ∈ gw := gi4 (i := 69) (by decide +kernel) (by decide +kernel)
theorem c_Run_97 : x_cv "BracketHouse$Runner" 97 m_Dee_putSign 2 := ⟨⟨cd_Dee_putSign, in_Dee, gi4 (i := 70) (by decide +kernel) (by decide +kernel), by decide +kernel, by decide⟩, gi4 (i := 71) (by decide +kernel) (by decide +kernel), gi4 (i := 72) (by decide +kernel) (by decide +kernel)⟩
theorem c_Dee_53 : x_cv "BracketHouse$Deeds" 53 m_Sta_lawOf 1 := ⟨⟨cd_Sta_lawOf, in_Sta, gi4 (i := 74) (by decide +kernel) (by decide +kernel), by decide +kernel, by decide⟩, gi4 (i := 75) (by decide +kernel) (by decide +kernel), gi4 (i := 76) (by decide +kernel) (by decide +kernel)⟩
theorem c_Dee_57 : x_cv "BracketHouse$Deeds" 57 m_Ask_isBarred 4 := ⟨⟨cd_Ask_isBarred, in_Ask, gi4 (i := 78) (by decide +kernel) (by decide +kernel), by decide +kernel, by decide⟩, gi4 (i := 79) (by decide +kernel) (by decide +kernel), gi4 (i := 80) (by decide +kernel) (by decide +kernel)⟩
theorem c_Ask_26 : x_cv "BracketHouse$Asker" 26 m_Ask_look 3 := ⟨⟨cd_Ask_look, in_Ask, gi4 (i := 82) (by decide +kernel) (by decide +kernel), by decide +kernel, by decide⟩, gi4 (i := 84) (by decide +kernel) (by decide +kernel), gw_sel (i := 30) (by decide +kernel) (by decide +kernel)⟩
theorem c_Ask_51 : x_cs "BracketHouse$Asker" 51 m_Row_kindOf 1 := ⟨⟨cd_Row_kindOf, in_Row, gi4 (i := 86) (by decide +kernel) (by decide +kernel), by decide +kernel, by decide⟩, gi4 (i := 43) (by decide +kernel) (by decide +kernel)⟩
theorem c_Ask_57 : x_cs "BracketHouse$Asker" 57 m_Row_opens 1 := ⟨⟨cd_Row_opens, in_Row, gi4 (i := 87) (by decide +kernel) (by decide +kernel), by decide +kernel, by decide⟩, gi4 (i := 37) (by decide +kernel) (by decide +kernel)⟩
theorem c_Ask_61 : x_cs "BracketHouse$Asker" 61 m_Row_personOf 1 := ⟨⟨cd_Row_personOf, in_Row, gi4 (i := 88) (by decide +kernel) (by decide +kernel), by decide +kernel, by decide⟩, gi4 (i := 89) (by decide +kernel) (by decide +kernel)⟩
theorem c_Ask_38 : x_cv "BracketHouse$Asker" 38 m_Ask_holds 2 := ⟨⟨cd_Ask_holds, in_Ask, gi4 (i := 91) (by decide +kernel) (by decide +kernel), by decide +kernel, by decide⟩, gi4 (i := 93) (by decide +kernel) (by decide +kernel), gw_sel (i := 31) (by decide +kernel) (by decide +kernel)⟩
theorem c_Ask_79 : x_cv "BracketHouse$Asker" 79 m_Sum_of 3 := ⟨⟨cd_Sum_of, in_Sum, gi4 (i := 95) (by decide +kernel) (by decide +kernel), by decide +kernel, by decide⟩, gi4 (i := 58) (by decide +kernel) (by decide +kernel), gi4 (i := 59) (by decide +kernel) (by decide +kernel)⟩
theorem c_Dee_63 : x_cv "BracketHouse$Deeds" 63 m_Ask_amount 5 := ⟨⟨cd_Ask_amount, in_Ask, gi4 (i := 96) (by decide +kernel) (by decide +kernel), by decide +kernel, by decide⟩, gi4 (i := 97) (by decide +kernel) (by decide +kernel), gi4 (i := 98) (by decide +kernel) (by decide +kernel)⟩
theorem mm_Ask_42 : Cond.methodLink "BracketHouse$Asker" 42 Lib.Math.min.name ∈ gw := gi4 (i := 100) (by decide +kernel) (by decide +kernel)
theorem mm_Ask_48 : Cond.methodLink "BracketHouse$Asker" 48 Lib.Math.max.name ∈ gw := gi4 (i := 101) (by decide +kernel) (by decide +kernel)
theorem c_Dee_67 : x_cv "BracketHouse$Deeds" 67 m_Row_insert 2 := ⟨⟨cd_Row_insert, in_Row, gi4 (i := 104) (by decide +kernel) (by decide +kernel), by decide +kernel, by decide⟩, gi3 (i := 86) (by decide +kernel) (by decide +kernel), gi3 (i := 87) (by decide +kernel) (by decide +kernel)⟩
theorem c_Dee_71 : x_cv "BracketHouse$Deeds" 71 m_Dee_remember 3 := ⟨⟨cd_Dee_remember, in_Dee, gi4 (i := 105) (by decide +kernel) (by decide +kernel), by decide +kernel, by decide⟩, gi4 (i := 107) (by decide +kernel) (by decide +kernel), gw_sel (i := 32) (by decide +kernel) (by decide +kernel)⟩
theorem c_Run_101 : x_cv "BracketHouse$Runner" 101 m_Dee_cutSign 1 := ⟨⟨cd_Dee_cutSign, in_Dee, gi4 (i := 109) (by decide +kernel) (by decide +kernel), by decide +kernel, by decide⟩, gi4 (i := 110) (by decide +kernel) (by decide +kernel), gi4 (i := 111) (by decide +kernel) (by decide +kernel)⟩
theorem c_Dee_75 : x_cv "BracketHouse$Deeds" 75 m_Row_has 1 := ⟨⟨cd_Row_has, in_Row, gi4 (i := 113) (by decide +kernel) (by decide +kernel), by decide +kernel, by decide⟩, gi4 (i := 50) (by decide +kernel) (by decide +kernel), gi4 (i := 51) (by decide +kernel) (by decide +kernel)⟩
theorem c_Dee_80 : x_cv "BracketHouse$Deeds" 80 m_Row_remove 1 := ⟨⟨cd_Row_remove, in_Row, gi4 (i := 114) (by decide +kernel) (by decide +kernel), by decide +kernel, by decide⟩, gi4 (i := 115) (by decide +kernel) (by decide +kernel), gi4 (i := 116) (by decide +kernel) (by decide +kernel)⟩
theorem c_Row_41 : x_cv "BracketHouse$Row" 41 m_Row_has 1 := ⟨⟨cd_Row_has, in_Row, gi4 (i := 118) (by decide +kernel) (by decide +kernel), by decide +kernel, by decide⟩, gi4 (i := 50) (by decide +kernel) (by decide +kernel), gi4 (i := 51) (by decide +kernel) (by decide +kernel)⟩
theorem c_Run_105 : x_cv "BracketHouse$Runner" 105 m_Dee_turnSign 2 := ⟨⟨cd_Dee_turnSign, in_Dee, gi4 (i := 119) (by decide +kernel) (by decide +kernel), by decide +kernel, by decide⟩, gi4 (i := 120) (by decide +kernel) (by decide +kernel), gi4 (i := 121) (by decide +kernel) (by decide +kernel)⟩
theorem c_Dee_84 : x_cv "BracketHouse$Deeds" 84 m_Row_replace 2 := ⟨⟨cd_Row_replace, in_Row, gi4 (i := 123) (by decide +kernel) (by decide +kernel), by decide +kernel, by decide⟩, gi4 (i := 124) (by decide +kernel) (by decide +kernel), gi4 (i := 125) (by decide +kernel) (by decide +kernel)⟩
theorem c_Run_108 : x_cv "BracketHouse$Runner" 108 m_Dee_passPage 0 := ⟨⟨cd_Dee_passPage, in_Dee, gi4 (i := 127) (by decide +kernel) (by decide +kernel), by decide +kernel, by decide⟩, gi4 (i := 128) (by decide +kernel) (by decide +kernel), gi4 (i := 129) (by decide +kernel) (by decide +kernel)⟩
theorem c_Law_45 : x_cv "BracketHouseLaw" 45 m_Hou_fault 0 := ⟨⟨cd_Hou_fault, in_Hou, gi4 (i := 131) (by decide +kernel) (by decide +kernel), by decide +kernel, by decide⟩, gi4 (i := 132) (by decide +kernel) (by decide +kernel), gi4 (i := 133) (by decide +kernel) (by decide +kernel)⟩
theorem c_Law_49 : x_cv "BracketHouseLaw" 49 m_Hou_stopped 0 := ⟨⟨cd_Hou_stopped, in_Hou, gi4 (i := 135) (by decide +kernel) (by decide +kernel), by decide +kernel, by decide⟩, gi4 (i := 136) (by decide +kernel) (by decide +kernel), gi4 (i := 137) (by decide +kernel) (by decide +kernel)⟩
theorem c_Law_53 : x_cv "BracketHouseLaw" 53 m_Hou_force 1 := ⟨⟨cd_Hou_force, in_Hou, gi4 (i := 139) (by decide +kernel) (by decide +kernel), by decide +kernel, by decide⟩, gi4 (i := 140) (by decide +kernel) (by decide +kernel), gi4 (i := 141) (by decide +kernel) (by decide +kernel)⟩
theorem c_Hou_177 : x_cv "BracketHouse" 177 m_Sta_hasLaw 1 := ⟨⟨cd_Sta_hasLaw, in_Sta, gi4 (i := 143) (by decide +kernel) (by decide +kernel), by decide +kernel, by decide⟩, gi4 (i := 144) (by decide +kernel) (by decide +kernel), gi4 (i := 145) (by decide +kernel) (by decide +kernel)⟩
theorem c_Law_57 : x_cv "BracketHouseLaw" 57 m_Hou_asks 3 := ⟨⟨cd_Hou_asks, in_Hou, gi4 (i := 147) (by decide +kernel) (by decide +kernel), by decide +kernel, by decide⟩, gi4 (i := 148) (by decide +kernel) (by decide +kernel), gi4 (i := 149) (by decide +kernel) (by decide +kernel)⟩
theorem c_Hou_184 : x_cv "BracketHouse" 184 m_Sta_lawOf 1 := ⟨⟨cd_Sta_lawOf, in_Sta, gi4 (i := 151) (by decide +kernel) (by decide +kernel), by decide +kernel, by decide⟩, gi4 (i := 75) (by decide +kernel) (by decide +kernel), gi4 (i := 76) (by decide +kernel) (by decide +kernel)⟩
theorem c_Hou_188 : x_cv "BracketHouse" 188 m_Ask_isBarred 4 := ⟨⟨cd_Ask_isBarred, in_Ask, gi4 (i := 152) (by decide +kernel) (by decide +kernel), by decide +kernel, by decide⟩, gi4 (i := 79) (by decide +kernel) (by decide +kernel), gi4 (i := 80) (by decide +kernel) (by decide +kernel)⟩
theorem c_Hou_192 : x_cv "BracketHouse" 192 m_Ask_amount 5 := ⟨⟨cd_Ask_amount, in_Ask, gi4 (i := 153) (by decide +kernel) (by decide +kernel), by decide +kernel, by decide⟩, gi4 (i := 97) (by decide +kernel) (by decide +kernel), gi4 (i := 98) (by decide +kernel) (by decide +kernel)⟩
theorem c_Law_62 : x_cv "BracketHouseLaw" 62 m_Hou_put 2 := ⟨⟨cd_Hou_put, in_Hou, gi4 (i := 154) (by decide +kernel) (by decide +kernel), by decide +kernel, by decide⟩, gi4 (i := 155) (by decide +kernel) (by decide +kernel), gi4 (i := 156) (by decide +kernel) (by decide +kernel)⟩
theorem c_Hou_196 : x_cv "BracketHouse" 196 m_Dee_putSign 2 := ⟨⟨cd_Dee_putSign, in_Dee, gi4 (i := 158) (by decide +kernel) (by decide +kernel), by decide +kernel, by decide⟩, gi4 (i := 71) (by decide +kernel) (by decide +kernel), gi4 (i := 72) (by decide +kernel) (by decide +kernel)⟩
theorem c_Hou_200 : x_cv "BracketHouse" 200 m_Hou_answer 1 := ⟨⟨cd_Hou_answer, in_Hou, gi4 (i := 159) (by decide +kernel) (by decide +kernel), by decide +kernel, by decide⟩, gi4 (i := 161) (by decide +kernel) (by decide +kernel), gw_sel (i := 33) (by decide +kernel) (by decide +kernel)⟩
theorem c_Law_66 : x_cv "BracketHouseLaw" 66 m_Hou_cut 1 := ⟨⟨cd_Hou_cut, in_Hou, gi4 (i := 163) (by decide +kernel) (by decide +kernel), by decide +kernel, by decide⟩, gi4 (i := 164) (by decide +kernel) (by decide +kernel), gi4 (i := 165) (by decide +kernel) (by decide +kernel)⟩
theorem c_Hou_203 : x_cv "BracketHouse" 203 m_Dee_cutSign 1 := ⟨⟨cd_Dee_cutSign, in_Dee, gi4 (i := 167) (by decide +kernel) (by decide +kernel), by decide +kernel, by decide⟩, gi4 (i := 110) (by decide +kernel) (by decide +kernel), gi4 (i := 111) (by decide +kernel) (by decide +kernel)⟩
theorem c_Law_70 : x_cv "BracketHouseLaw" 70 m_Hou_turn 2 := ⟨⟨cd_Hou_turn, in_Hou, gi4 (i := 168) (by decide +kernel) (by decide +kernel), by decide +kernel, by decide⟩, gi4 (i := 169) (by decide +kernel) (by decide +kernel), gi4 (i := 170) (by decide +kernel) (by decide +kernel)⟩
theorem c_Hou_206 : x_cv "BracketHouse" 206 m_Dee_turnSign 2 := ⟨⟨cd_Dee_turnSign, in_Dee, gi4 (i := 172) (by decide +kernel) (by decide +kernel), by decide +kernel, by decide⟩, gi4 (i := 120) (by decide +kernel) (by decide +kernel), gi4 (i := 121) (by decide +kernel) (by decide +kernel)⟩
theorem c_Law_74 : x_cv "BracketHouseLaw" 74 m_Hou_pass 0 := ⟨⟨cd_Hou_pass, in_Hou, gi4 (i := 173) (by decide +kernel) (by decide +kernel), by decide +kernel, by decide⟩, gi4 (i := 174) (by decide +kernel) (by decide +kernel), gi4 (i := 175) (by decide +kernel) (by decide +kernel)⟩
theorem c_Hou_209 : x_cv "BracketHouse" 209 m_Dee_passPage 0 := ⟨⟨cd_Dee_passPage, in_Dee, gi4 (i := 177) (by decide +kernel) (by decide +kernel), by decide +kernel, by decide⟩, gi4 (i := 128) (by decide +kernel) (by decide +kernel), gi4 (i := 129) (by decide +kernel) (by decide +kernel)⟩
theorem c_Law_78 : x_cv "BracketHouseLaw" 78 m_Hou_undo 0 := ⟨⟨cd_Hou_undo, in_Hou, gi4 (i := 178) (by decide +kernel) (by decide +kernel), by decide +kernel, by decide⟩, gi4 (i := 179) (by decide +kernel) (by decide +kernel), gi4 (i := 180) (by decide +kernel) (by decide +kernel)⟩
theorem c_Hou_213 : x_cv "BracketHouse" 213 m_Dee_undoLatest 0 := ⟨⟨cd_Dee_undoLatest, in_Dee, gi4 (i := 182) (by decide +kernel) (by decide +kernel), by decide +kernel, by decide⟩, gi4 (i := 183) (by decide +kernel) (by decide +kernel), gi4 (i := 184) (by decide +kernel) (by decide +kernel)⟩
theorem c_Law_82 : x_cv "BracketHouseLaw" 82 m_Hou_at 2 := ⟨⟨cd_Hou_at, in_Hou, gi4 (i := 186) (by decide +kernel) (by decide +kernel), by decide +kernel, by decide⟩, gi4 (i := 187) (by decide +kernel) (by decide +kernel), gi4 (i := 188) (by decide +kernel) (by decide +kernel)⟩
theorem c_Hou_216 : x_cv "BracketHouse" 216 m_Row_has 1 := ⟨⟨cd_Row_has, in_Row, gi4 (i := 190) (by decide +kernel) (by decide +kernel), by decide +kernel, by decide⟩, gi4 (i := 50) (by decide +kernel) (by decide +kernel), gi4 (i := 51) (by decide +kernel) (by decide +kernel)⟩
theorem c_Hou_222 : x_cv "BracketHouse" 222 m_Row_mateOf 1 := ⟨⟨cd_Row_mateOf, in_Row, gi4 (i := 191) (by decide +kernel) (by decide +kernel), by decide +kernel, by decide⟩, gi4 (i := 192) (by decide +kernel) (by decide +kernel), gi4 (i := 193) (by decide +kernel) (by decide +kernel)⟩
theorem c_Hou_225 : x_cv "BracketHouse" 225 m_Row_depthOf 1 := ⟨⟨cd_Row_depthOf, in_Row, gi4 (i := 195) (by decide +kernel) (by decide +kernel), by decide +kernel, by decide⟩, gi4 (i := 54) (by decide +kernel) (by decide +kernel), gi4 (i := 55) (by decide +kernel) (by decide +kernel)⟩
theorem c_Hou_228 : x_cv "BracketHouse" 228 m_Row_isLoose 1 := ⟨⟨cd_Row_isLoose, in_Row, gi4 (i := 196) (by decide +kernel) (by decide +kernel), by decide +kernel, by decide⟩, gi4 (i := 197) (by decide +kernel) (by decide +kernel), gi4 (i := 198) (by decide +kernel) (by decide +kernel)⟩
theorem c_Row_48 : x_cs "BracketHouse$Row" 48 m_Row_isName 1 := ⟨⟨cd_Row_isName, in_Row, gi4 (i := 200) (by decide +kernel) (by decide +kernel), by decide +kernel, by decide⟩, gi4 (i := 201) (by decide +kernel) (by decide +kernel)⟩
theorem c_Law_86 : x_cv "BracketHouseLaw" 86 m_Hou_said 0 := ⟨⟨cd_Hou_said, in_Hou, gi4 (i := 203) (by decide +kernel) (by decide +kernel), by decide +kernel, by decide⟩, gi4 (i := 204) (by decide +kernel) (by decide +kernel), gi4 (i := 205) (by decide +kernel) (by decide +kernel)⟩
theorem c_Hou_231 : x_cs "BracketHouse" 231 m_Row_isName 1 := ⟨⟨cd_Row_isName, in_Row, gi4 (i := 207) (by decide +kernel) (by decide +kernel), by decide +kernel, by decide⟩, gi4 (i := 201) (by decide +kernel) (by decide +kernel)⟩
theorem c_Hou_234 : x_cs "BracketHouse" 234 m_Row_personOf 1 := ⟨⟨cd_Row_personOf, in_Row, gi4 (i := 208) (by decide +kernel) (by decide +kernel), by decide +kernel, by decide⟩, gi4 (i := 89) (by decide +kernel) (by decide +kernel)⟩
theorem c_Law_90 : x_cv "BracketHouseLaw" 90 m_Hou_whole 2 := ⟨⟨cd_Hou_whole, in_Hou, gi4 (i := 209) (by decide +kernel) (by decide +kernel), by decide +kernel, by decide⟩, gi4 (i := 210) (by decide +kernel) (by decide +kernel), gi4 (i := 211) (by decide +kernel) (by decide +kernel)⟩
theorem c_Hou_237 : x_cv "BracketHouse" 237 m_Row_isWhole 2 := ⟨⟨cd_Row_isWhole, in_Row, gi4 (i := 213) (by decide +kernel) (by decide +kernel), by decide +kernel, by decide⟩, gi4 (i := 214) (by decide +kernel) (by decide +kernel), gi4 (i := 215) (by decide +kernel) (by decide +kernel)⟩
theorem c_Law_94 : x_cv "BracketHouseLaw" 94 m_Hou_mend 1 := ⟨⟨cd_Hou_mend, in_Hou, gi4 (i := 217) (by decide +kernel) (by decide +kernel), by decide +kernel, by decide⟩, gi4 (i := 218) (by decide +kernel) (by decide +kernel), gi4 (i := 219) (by decide +kernel) (by decide +kernel)⟩
theorem c_Hou_241 : x_cv "BracketHouse" 241 m_Pap_mends 2 := ⟨⟨cd_Pap_mends, in_Pap, gi4 (i := 221) (by decide +kernel) (by decide +kernel), by decide +kernel, by decide⟩, gi4 (i := 222) (by decide +kernel) (by decide +kernel), gi4 (i := 223) (by decide +kernel) (by decide +kernel)⟩
theorem c_Pap_101 : x_cv "BracketHouse$Paper" 101 m_Pap_priceAll 2 := ⟨⟨cd_Pap_priceAll, in_Pap, gi4 (i := 225) (by decide +kernel) (by decide +kernel), by decide +kernel, by decide⟩, gi4 (i := 227) (by decide +kernel) (by decide +kernel), gw_sel (i := 34) (by decide +kernel) (by decide +kernel)⟩
theorem c_Pap_80 : x_cv "BracketHouse$Paper" 80 m_Ask_isBarred 4 := ⟨⟨cd_Ask_isBarred, in_Ask, gi4 (i := 229) (by decide +kernel) (by decide +kernel), by decide +kernel, by decide⟩, gi4 (i := 79) (by decide +kernel) (by decide +kernel), gi4 (i := 80) (by decide +kernel) (by decide +kernel)⟩
theorem k_Pap_86 : Cond.constant "BracketHouse$Paper" 86 (100000000) ∈ gw := gi4 (i := 230) (by decide +kernel) (by decide +kernel)
theorem c_Pap_87 : x_cv "BracketHouse$Paper" 87 m_Ask_amount 5 := ⟨⟨cd_Ask_amount, in_Ask, gi4 (i := 231) (by decide +kernel) (by decide +kernel), by decide +kernel, by decide⟩, gi4 (i := 97) (by decide +kernel) (by decide +kernel), gi4 (i := 98) (by decide +kernel) (by decide +kernel)⟩
theorem c_Pap_105 : x_cv "BracketHouse$Paper" 105 m_Pap_mendRun 3 := ⟨⟨cd_Pap_mendRun, in_Pap, gi4 (i := 232) (by decide +kernel) (by decide +kernel), by decide +kernel, by decide⟩, gi4 (i := 234) (by decide +kernel) (by decide +kernel), gw_sel (i := 35) (by decide +kernel) (by decide +kernel)⟩
theorem c_Pap_109 : x_cs "BracketHouse$Paper" 109 m_Row_isName 1 := ⟨⟨cd_Row_isName, in_Row, gi4 (i := 236) (by decide +kernel) (by decide +kernel), by decide +kernel, by decide⟩, gi4 (i := 201) (by decide +kernel) (by decide +kernel)⟩
theorem c_Pap_113 : x_cs "BracketHouse$Paper" 113 m_Row_opens 1 := ⟨⟨cd_Row_opens, in_Row, gi4 (i := 237) (by decide +kernel) (by decide +kernel), by decide +kernel, by decide⟩, gi4 (i := 37) (by decide +kernel) (by decide +kernel)⟩
theorem c_Pap_116 : x_cv "BracketHouse$Paper" 116 m_Pap_mendOpening 3 := ⟨⟨cd_Pap_mendOpening, in_Pap, gi4 (i := 238) (by decide +kernel) (by decide +kernel), by decide +kernel, by decide⟩, gi5 (i := 0) (by decide +kernel) (by decide +kernel), gw_sel (i := 36) (by decide +kernel) (by decide +kernel)⟩
theorem c_Pap_126 : x_cv "BracketHouse$Paper" 126 m_Pap_newSign 2 := ⟨⟨cd_Pap_newSign, in_Pap, gi5 (i := 2) (by decide +kernel) (by decide +kernel), by decide +kernel, by decide⟩, gi5 (i := 4) (by decide +kernel) (by decide +kernel), gw_sel (i := 37) (by decide +kernel) (by decide +kernel)⟩
theorem mm_Pap_130 : Cond.methodLink "BracketHouse$Paper" 130 Lib.Math.min.name ∈ gw := gi5 (i := 6) (by decide +kernel) (by decide +kernel)
theorem c_Pap_119 : x_cs "BracketHouse$Paper" 119 m_Row_closes 1 := ⟨⟨cd_Row_closes, in_Row, gi5 (i := 7) (by decide +kernel) (by decide +kernel), by decide +kernel, by decide⟩, gi4 (i := 40) (by decide +kernel) (by decide +kernel)⟩
theorem c_Pap_122 : x_cs "BracketHouse$Paper" 122 m_Row_kindOf 1 := ⟨⟨cd_Row_kindOf, in_Row, gi5 (i := 8) (by decide +kernel) (by decide +kernel), by decide +kernel, by decide⟩, gi4 (i := 43) (by decide +kernel) (by decide +kernel)⟩
theorem c_Law_98 : x_cv "BracketHouseLaw" 98 m_Hou_strike 1 := ⟨⟨cd_Hou_strike, in_Hou, gi5 (i := 9) (by decide +kernel) (by decide +kernel), by decide +kernel, by decide⟩, gi5 (i := 10) (by decide +kernel) (by decide +kernel), gi5 (i := 11) (by decide +kernel) (by decide +kernel)⟩
theorem c_Hou_251 : x_cv "BracketHouse" 251 m_Pap_strikes 1 := ⟨⟨cd_Pap_strikes, in_Pap, gi5 (i := 13) (by decide +kernel) (by decide +kernel), by decide +kernel, by decide⟩, gi5 (i := 14) (by decide +kernel) (by decide +kernel), gi5 (i := 15) (by decide +kernel) (by decide +kernel)⟩
theorem c_Pap_135 : x_cv "BracketHouse$Paper" 135 m_Pap_stakeAll 2 := ⟨⟨cd_Pap_stakeAll, in_Pap, gi5 (i := 17) (by decide +kernel) (by decide +kernel), by decide +kernel, by decide⟩, gi5 (i := 19) (by decide +kernel) (by decide +kernel), gw_sel (i := 38) (by decide +kernel) (by decide +kernel)⟩
theorem c_Pap_94 : x_cv "BracketHouse$Paper" 94 m_Sta_lawOf 1 := ⟨⟨cd_Sta_lawOf, in_Sta, gi5 (i := 21) (by decide +kernel) (by decide +kernel), by decide +kernel, by decide⟩, gi4 (i := 75) (by decide +kernel) (by decide +kernel), gi4 (i := 76) (by decide +kernel) (by decide +kernel)⟩
theorem c_Pap_139 : x_cv "BracketHouse$Paper" 139 m_Pap_strikeRun 3 := ⟨⟨cd_Pap_strikeRun, in_Pap, gi5 (i := 22) (by decide +kernel) (by decide +kernel), by decide +kernel, by decide⟩, gi5 (i := 24) (by decide +kernel) (by decide +kernel), gw_sel (i := 39) (by decide +kernel) (by decide +kernel)⟩
theorem c_Hou_255 : x_cv "BracketHouse" 255 m_Pap_chooseStruck 1 := ⟨⟨cd_Pap_chooseStruck, in_Pap, gi5 (i := 26) (by decide +kernel) (by decide +kernel), by decide +kernel, by decide⟩, gi5 (i := 27) (by decide +kernel) (by decide +kernel), gi5 (i := 28) (by decide +kernel) (by decide +kernel)⟩
theorem c_Pap_142 : x_cv "BracketHouse$Paper" 142 m_Pap_chooseMate 3 := ⟨⟨cd_Pap_chooseMate, in_Pap, gi5 (i := 30) (by decide +kernel) (by decide +kernel), by decide +kernel, by decide⟩, gi5 (i := 32) (by decide +kernel) (by decide +kernel), gw_sel (i := 40) (by decide +kernel) (by decide +kernel)⟩
theorem c_Law_102 : x_cv "BracketHouseLaw" 102 m_Hou_run 1 := ⟨⟨cd_Hou_run, in_Hou, gi5 (i := 34) (by decide +kernel) (by decide +kernel), by decide +kernel, by decide⟩, gi5 (i := 35) (by decide +kernel) (by decide +kernel), gi5 (i := 36) (by decide +kernel) (by decide +kernel)⟩
theorem c_Hou_262 : x_cv "BracketHouse" 262 m_Pap_findRun 1 := ⟨⟨cd_Pap_findRun, in_Pap, gi5 (i := 38) (by decide +kernel) (by decide +kernel), by decide +kernel, by decide⟩, gi5 (i := 39) (by decide +kernel) (by decide +kernel), gi5 (i := 40) (by decide +kernel) (by decide +kernel)⟩
theorem c_Pap_145 : x_cv "BracketHouse$Paper" 145 m_Row_isWhole 2 := ⟨⟨cd_Row_isWhole, in_Row, gi5 (i := 42) (by decide +kernel) (by decide +kernel), by decide +kernel, by decide⟩, gi4 (i := 214) (by decide +kernel) (by decide +kernel), gi4 (i := 215) (by decide +kernel) (by decide +kernel)⟩
theorem c_Law_106 : x_cv "BracketHouseLaw" 106 m_Hou_fits 1 := ⟨⟨cd_Hou_fits, in_Hou, gi5 (i := 43) (by decide +kernel) (by decide +kernel), by decide +kernel, by decide⟩, gi5 (i := 44) (by decide +kernel) (by decide +kernel), gi5 (i := 45) (by decide +kernel) (by decide +kernel)⟩
theorem c_Hou_271 : x_cv "BracketHouse" 271 m_Pap_fitting 2 := ⟨⟨cd_Pap_fitting, in_Pap, gi5 (i := 47) (by decide +kernel) (by decide +kernel), by decide +kernel, by decide⟩, gi5 (i := 48) (by decide +kernel) (by decide +kernel), gi5 (i := 49) (by decide +kernel) (by decide +kernel)⟩
theorem c_Pap_149 : x_cv "BracketHouse$Paper" 149 m_Row_copyFrom 1 := ⟨⟨cd_Row_copyFrom, in_Row, gi5 (i := 51) (by decide +kernel) (by decide +kernel), by decide +kernel, by decide⟩, gi4 (i := 8) (by decide +kernel) (by decide +kernel), gi4 (i := 9) (by decide +kernel) (by decide +kernel)⟩
theorem c_Pap_153 : x_cv "BracketHouse$Paper" 153 m_Row_replace 2 := ⟨⟨cd_Row_replace, in_Row, gi5 (i := 52) (by decide +kernel) (by decide +kernel), by decide +kernel, by decide⟩, gi4 (i := 124) (by decide +kernel) (by decide +kernel), gi4 (i := 125) (by decide +kernel) (by decide +kernel)⟩
theorem c_Law_110 : x_cv "BracketHouseLaw" 110 m_Hou_rows 2 := ⟨⟨cd_Hou_rows, in_Hou, gi5 (i := 53) (by decide +kernel) (by decide +kernel), by decide +kernel, by decide⟩, gi5 (i := 54) (by decide +kernel) (by decide +kernel), gi5 (i := 55) (by decide +kernel) (by decide +kernel)⟩
theorem k_Hou_275 : Cond.constantLong "BracketHouse" 275 (-1) ∈ gw := gi5 (i := 57) (by decide +kernel) (by decide +kernel)
theorem c_Hou_277 : x_cv "BracketHouse" 277 m_Num_howMany 2 := ⟨⟨cd_Num_howMany, in_Num, gi5 (i := 58) (by decide +kernel) (by decide +kernel), by decide +kernel, by decide⟩, gi5 (i := 59) (by decide +kernel) (by decide +kernel), gi5 (i := 60) (by decide +kernel) (by decide +kernel)⟩
theorem c_Num_35 : x_cv "BracketHouse$Numbering" 35 m_Num_findWays 2 := ⟨⟨cd_Num_findWays, in_Num, gi5 (i := 62) (by decide +kernel) (by decide +kernel), by decide +kernel, by decide⟩, gi5 (i := 64) (by decide +kernel) (by decide +kernel), gw_sel (i := 41) (by decide +kernel) (by decide +kernel)⟩
theorem c_Num_27 : x_cs "BracketHouse$Numbering" 27 m_Arr_fill 2 := ⟨⟨cd_Arr_fill, in_Arr, gi5 (i := 66) (by decide +kernel) (by decide +kernel), by decide +kernel, by decide⟩, gi5 (i := 67) (by decide +kernel) (by decide +kernel)⟩
theorem k_Num_33 : Cond.constantLong "BracketHouse$Numbering" 33 (3) ∈ gw := gi5 (i := 69) (by decide +kernel) (by decide +kernel)
theorem c_Law_117 : x_cv "BracketHouseLaw" 117 m_Hou_nth 3 := ⟨⟨cd_Hou_nth, in_Hou, gi5 (i := 70) (by decide +kernel) (by decide +kernel), by decide +kernel, by decide⟩, gi5 (i := 71) (by decide +kernel) (by decide +kernel), gi5 (i := 72) (by decide +kernel) (by decide +kernel)⟩
theorem c_Hou_281 : x_cv "BracketHouse" 281 m_Num_signOf 4 := ⟨⟨cd_Num_signOf, in_Num, gi5 (i := 74) (by decide +kernel) (by decide +kernel), by decide +kernel, by decide⟩, gi5 (i := 75) (by decide +kernel) (by decide +kernel), gi5 (i := 76) (by decide +kernel) (by decide +kernel)⟩
theorem c_Num_39 : x_cv "BracketHouse$Numbering" 39 m_Num_howMany 2 := ⟨⟨cd_Num_howMany, in_Num, gi5 (i := 78) (by decide +kernel) (by decide +kernel), by decide +kernel, by decide⟩, gi5 (i := 59) (by decide +kernel) (by decide +kernel), gi5 (i := 60) (by decide +kernel) (by decide +kernel)⟩
theorem c_Law_122 : x_cv "BracketHouseLaw" 122 m_Hou_rank 0 := ⟨⟨cd_Hou_rank, in_Hou, gi5 (i := 79) (by decide +kernel) (by decide +kernel), by decide +kernel, by decide⟩, gi5 (i := 80) (by decide +kernel) (by decide +kernel), gi5 (i := 81) (by decide +kernel) (by decide +kernel)⟩
theorem c_Hou_285 : x_cv "BracketHouse" 285 m_Num_numberOf 2 := ⟨⟨cd_Num_numberOf, in_Num, gi5 (i := 83) (by decide +kernel) (by decide +kernel), by decide +kernel, by decide⟩, gi5 (i := 84) (by decide +kernel) (by decide +kernel), gi5 (i := 85) (by decide +kernel) (by decide +kernel)⟩
theorem c_Num_43 : x_cv "BracketHouse$Numbering" 43 m_Row_isAllWhole 0 := ⟨⟨cd_Row_isAllWhole, in_Row, gi5 (i := 87) (by decide +kernel) (by decide +kernel), by decide +kernel, by decide⟩, gi5 (i := 88) (by decide +kernel) (by decide +kernel), gi5 (i := 89) (by decide +kernel) (by decide +kernel)⟩
theorem c_Row_51 : x_cv "BracketHouse$Row" 51 m_Row_looseOnes 0 := ⟨⟨cd_Row_looseOnes, in_Row, gi5 (i := 91) (by decide +kernel) (by decide +kernel), by decide +kernel, by decide⟩, gi4 (i := 25) (by decide +kernel) (by decide +kernel), gi4 (i := 26) (by decide +kernel) (by decide +kernel)⟩
theorem k_Num_49 : Cond.constantLong "BracketHouse$Numbering" 49 (-1) ∈ gw := gi5 (i := 92) (by decide +kernel) (by decide +kernel)
theorem c_Num_58 : x_cs "BracketHouse$Numbering" 58 m_Row_isName 1 := ⟨⟨cd_Row_isName, in_Row, gi5 (i := 93) (by decide +kernel) (by decide +kernel), by decide +kernel, by decide⟩, gi4 (i := 201) (by decide +kernel) (by decide +kernel)⟩
theorem c_Num_62 : x_cs "BracketHouse$Numbering" 62 m_Row_opens 1 := ⟨⟨cd_Row_opens, in_Row, gi5 (i := 94) (by decide +kernel) (by decide +kernel), by decide +kernel, by decide⟩, gi4 (i := 37) (by decide +kernel) (by decide +kernel)⟩
theorem mm_Num_65 : Cond.methodLink "BracketHouse$Numbering" 65 Lib.Math.min.name ∈ gw := gi5 (i := 95) (by decide +kernel) (by decide +kernel)
theorem c_Law_127 : x_cv "BracketHouseLaw" 127 m_Hou_game 1 := ⟨⟨cd_Hou_game, in_Hou, gi5 (i := 96) (by decide +kernel) (by decide +kernel), by decide +kernel, by decide⟩, gi5 (i := 97) (by decide +kernel) (by decide +kernel), gi5 (i := 98) (by decide +kernel) (by decide +kernel)⟩
theorem k_Hou_289 : Cond.constant "BracketHouse" 289 (-100000) ∈ gw := gi5 (i := 100) (by decide +kernel) (by decide +kernel)
theorem c_Hou_290 : x_cv "BracketHouse" 290 m_Pap_play 1 := ⟨⟨cd_Pap_play, in_Pap, gi5 (i := 101) (by decide +kernel) (by decide +kernel), by decide +kernel, by decide⟩, gi5 (i := 102) (by decide +kernel) (by decide +kernel), gi5 (i := 103) (by decide +kernel) (by decide +kernel)⟩
theorem mm_Pap_157 : Cond.methodLink "BracketHouse$Paper" 157 Lib.Math.max.name ∈ gw := gi5 (i := 105) (by decide +kernel) (by decide +kernel)
theorem c_Law_131 : x_cv "BracketHouseLaw" 131 m_Hou_hide 2 := ⟨⟨cd_Hou_hide, in_Hou, gi5 (i := 106) (by decide +kernel) (by decide +kernel), by decide +kernel, by decide⟩, gi5 (i := 107) (by decide +kernel) (by decide +kernel), gi5 (i := 108) (by decide +kernel) (by decide +kernel)⟩
theorem c_Hou_300 : x_cv "BracketHouse" 300 m_Pap_hides 2 := ⟨⟨cd_Pap_hides, in_Pap, gi5 (i := 110) (by decide +kernel) (by decide +kernel), by decide +kernel, by decide⟩, gi5 (i := 111) (by decide +kernel) (by decide +kernel), gi5 (i := 112) (by decide +kernel) (by decide +kernel)⟩
theorem c_Pap_160 : x_cs "BracketHouse$Paper" 160 m_Pap_isOneOf 2 := ⟨⟨cd_Pap_isOneOf, in_Pap, gi5 (i := 114) (by decide +kernel) (by decide +kernel), by decide +kernel, by decide⟩, gi5 (i := 115) (by decide +kernel) (by decide +kernel)⟩
theorem c_Pap_169 : x_cs "BracketHouse$Paper" 169 m_Row_personOf 1 := ⟨⟨cd_Row_personOf, in_Row, gi5 (i := 117) (by decide +kernel) (by decide +kernel), by decide +kernel, by decide⟩, gi4 (i := 89) (by decide +kernel) (by decide +kernel)⟩
theorem c_Pap_163 : x_cv "BracketHouse$Paper" 163 m_Row_depthOf 1 := ⟨⟨cd_Row_depthOf, in_Row, gi5 (i := 118) (by decide +kernel) (by decide +kernel), by decide +kernel, by decide⟩, gi4 (i := 54) (by decide +kernel) (by decide +kernel), gi4 (i := 55) (by decide +kernel) (by decide +kernel)⟩
theorem c_Pap_166 : x_cv "BracketHouse$Paper" 166 m_Pap_tryHiding 2 := ⟨⟨cd_Pap_tryHiding, in_Pap, gi5 (i := 119) (by decide +kernel) (by decide +kernel), by decide +kernel, by decide⟩, gi5 (i := 121) (by decide +kernel) (by decide +kernel), gw_sel (i := 42) (by decide +kernel) (by decide +kernel)⟩
theorem c_Law_135 : x_cv "BracketHouseLaw" 135 m_Hou_likely 1 := ⟨⟨cd_Hou_likely, in_Hou, gi5 (i := 123) (by decide +kernel) (by decide +kernel), by decide +kernel, by decide⟩, gi5 (i := 124) (by decide +kernel) (by decide +kernel), gi5 (i := 125) (by decide +kernel) (by decide +kernel)⟩
theorem c_Hou_316 : x_cv "BracketHouse" 316 m_Num_likelihood 1 := ⟨⟨cd_Num_likelihood, in_Num, gi5 (i := 127) (by decide +kernel) (by decide +kernel), by decide +kernel, by decide⟩, gi5 (i := 128) (by decide +kernel) (by decide +kernel), gi5 (i := 129) (by decide +kernel) (by decide +kernel)⟩
theorem k_Num_71 : Cond.constantLong "BracketHouse$Numbering" 71 (1000000000000) ∈ gw := gi5 (i := 131) (by decide +kernel) (by decide +kernel)
theorem k_Num_73 : Cond.constantLong "BracketHouse$Numbering" 73 (6) ∈ gw := gi5 (i := 132) (by decide +kernel) (by decide +kernel)
theorem ac_Num_75 : Cond.methodLink "BracketHouse$Numbering" 75 arraycopyName ∈ gw := gi5 (i := 133) (by decide +kernel) (by decide +kernel)
theorem c_Law_140 : x_cv "BracketHouseLaw" 140 m_Hou_compare 1 := ⟨⟨cd_Hou_compare, in_Hou, gi5 (i := 134) (by decide +kernel) (by decide +kernel), by decide +kernel, by decide⟩, gi5 (i := 135) (by decide +kernel) (by decide +kernel), gi5 (i := 136) (by decide +kernel) (by decide +kernel)⟩
theorem c_Law_144 : x_cv "BracketHouseLaw" 144 m_Hou_readers 2 := ⟨⟨cd_Hou_readers, in_Hou, gi5 (i := 138) (by decide +kernel) (by decide +kernel), by decide +kernel, by decide⟩, gi5 (i := 139) (by decide +kernel) (by decide +kernel), gi5 (i := 140) (by decide +kernel) (by decide +kernel)⟩
theorem k_Hou_320 : Cond.constant "BracketHouse" 320 (1000000) ∈ gw := gi5 (i := 142) (by decide +kernel) (by decide +kernel)
theorem c_Hou_321 : x_cv "BracketHouse" 321 m_Sta_copyFrom 1 := ⟨⟨cd_Sta_copyFrom, in_Sta, gi5 (i := 143) (by decide +kernel) (by decide +kernel), by decide +kernel, by decide⟩, gi4 (i := 4) (by decide +kernel) (by decide +kernel), gi4 (i := 5) (by decide +kernel) (by decide +kernel)⟩
theorem c_Hou_324 : x_cv "BracketHouse" 324 m_Hou_readPage 1 := ⟨⟨cd_Hou_readPage, in_Hou, gi5 (i := 144) (by decide +kernel) (by decide +kernel), by decide +kernel, by decide⟩, gi5 (i := 146) (by decide +kernel) (by decide +kernel), gw_sel (i := 43) (by decide +kernel) (by decide +kernel)⟩
theorem c_Hou_338 : x_cs "BracketHouse" 338 m_Hou_nextDraw 1 := ⟨⟨cd_Hou_nextDraw, in_Hou, gi5 (i := 148) (by decide +kernel) (by decide +kernel), by decide +kernel, by decide⟩, gi5 (i := 149) (by decide +kernel) (by decide +kernel)⟩
theorem k_Hou_341 : Cond.constant "BracketHouse" 341 (1000003) ∈ gw := gi5 (i := 151) (by decide +kernel) (by decide +kernel)
theorem c_Hou_327 : x_cv "BracketHouse" 327 m_Row_isAllWhole 0 := ⟨⟨cd_Row_isAllWhole, in_Row, gi5 (i := 152) (by decide +kernel) (by decide +kernel), by decide +kernel, by decide⟩, gi5 (i := 88) (by decide +kernel) (by decide +kernel), gi5 (i := 89) (by decide +kernel) (by decide +kernel)⟩
theorem c_Law_148 : x_cv "BracketHouseLaw" 148 m_Hou_drawn 1 := ⟨⟨cd_Hou_drawn, in_Hou, gi5 (i := 153) (by decide +kernel) (by decide +kernel), by decide +kernel, by decide⟩, gi5 (i := 154) (by decide +kernel) (by decide +kernel), gi5 (i := 155) (by decide +kernel) (by decide +kernel)⟩
theorem c_Hou_331 : x_cv "BracketHouse" 331 m_Row_looseOnes 0 := ⟨⟨cd_Row_looseOnes, in_Row, gi5 (i := 157) (by decide +kernel) (by decide +kernel), by decide +kernel, by decide⟩, gi4 (i := 25) (by decide +kernel) (by decide +kernel), gi4 (i := 26) (by decide +kernel) (by decide +kernel)⟩
theorem c_Law_152 : x_cv "BracketHouseLaw" 152 m_Hou_image 1 := ⟨⟨cd_Hou_image, in_Hou, gi5 (i := 158) (by decide +kernel) (by decide +kernel), by decide +kernel, by decide⟩, gi5 (i := 159) (by decide +kernel) (by decide +kernel), gi5 (i := 160) (by decide +kernel) (by decide +kernel)⟩
theorem c_Law_156 : x_cv "BracketHouseLaw" 156 m_Hou_back 1 := ⟨⟨cd_Hou_back, in_Hou, gi5 (i := 162) (by decide +kernel) (by decide +kernel), by decide +kernel, by decide⟩, gi5 (i := 163) (by decide +kernel) (by decide +kernel), gi5 (i := 164) (by decide +kernel) (by decide +kernel)⟩
theorem c_Law_160 : x_cv "BracketHouseLaw" 160 m_Hou_count 1 := ⟨⟨cd_Hou_count, in_Hou, gi5 (i := 166) (by decide +kernel) (by decide +kernel), by decide +kernel, by decide⟩, gi5 (i := 167) (by decide +kernel) (by decide +kernel), gi5 (i := 168) (by decide +kernel) (by decide +kernel)⟩
theorem c_Law_164 : x_cv "BracketHouseLaw" 164 m_Hou_status 0 := ⟨⟨cd_Hou_status, in_Hou, gi5 (i := 170) (by decide +kernel) (by decide +kernel), by decide +kernel, by decide⟩, gi5 (i := 171) (by decide +kernel) (by decide +kernel), gi5 (i := 172) (by decide +kernel) (by decide +kernel)⟩
theorem c_Law_12 : x_ci "BracketHouseLaw" 12 m_Mod_init 0 := ⟨⟨cd_Mod_init, in_Mod, gi5 (i := 176) (by decide +kernel) (by decide +kernel), by decide +kernel, by decide⟩, rfl, rfl, gi5 (i := 177) (by decide +kernel) (by decide +kernel)⟩
theorem oi_Mod_26 : Cond.methodLink "BracketHouseModel" 26 objectInit ∈ gw := gi5 (i := 179) (by decide +kernel) (by decide +kernel)
theorem f_Mod_3 : x_fs "BracketHouseModel" 3 12 0 := ⟨_, rfl, by decide, gi5 (i := 180) (by decide +kernel) (by decide +kernel)⟩
theorem f_Mod_7 : x_fs "BracketHouseModel" 7 12 1 := ⟨_, rfl, by decide, gi5 (i := 181) (by decide +kernel) (by decide +kernel)⟩
theorem f_Mod_32 : x_fs "BracketHouseModel" 32 12 2 := ⟨_, rfl, by decide, gi5 (i := 182) (by decide +kernel) (by decide +kernel)⟩
theorem f_Mod_35 : x_fs "BracketHouseModel" 35 12 3 := ⟨_, rfl, by decide, gi5 (i := 183) (by decide +kernel) (by decide +kernel)⟩
theorem f_Mod_38 : x_fs "BracketHouseModel" 38 12 4 := ⟨_, rfl, by decide, gi5 (i := 184) (by decide +kernel) (by decide +kernel)⟩
theorem f_Mod_42 : x_fs "BracketHouseModel" 42 12 5 := ⟨_, rfl, by decide, gi5 (i := 185) (by decide +kernel) (by decide +kernel)⟩
theorem f_Mod_139 : x_fs "BracketHouseModel" 139 12 6 := ⟨_, rfl, by decide, gi5 (i := 186) (by decide +kernel) (by decide +kernel)⟩
theorem f_Mod_45 : x_fs "BracketHouseModel" 45 12 7 := ⟨_, rfl, by decide, gi5 (i := 187) (by decide +kernel) (by decide +kernel)⟩
theorem f_Mod_218 : x_fs "BracketHouseModel" 218 12 8 := ⟨_, rfl, by decide, gi5 (i := 188) (by decide +kernel) (by decide +kernel)⟩
theorem f_Mod_221 : x_fs "BracketHouseModel" 221 12 9 := ⟨_, rfl, by decide, gi5 (i := 189) (by decide +kernel) (by decide +kernel)⟩
theorem f_Mod_192 : x_fs "BracketHouseModel" 192 12 10 := ⟨_, rfl, by decide, gi5 (i := 190) (by decide +kernel) (by decide +kernel)⟩
theorem f_Mod_49 : x_fs "BracketHouseModel" 49 12 11 := ⟨_, rfl, by decide, gi5 (i := 191) (by decide +kernel) (by decide +kernel)⟩
theorem f_Mod_52 : x_fs "BracketHouseModel" 52 12 12 := ⟨_, rfl, by decide, gi5 (i := 192) (by decide +kernel) (by decide +kernel)⟩
theorem f_Mod_136 : x_fs "BracketHouseModel" 136 12 13 := ⟨_, rfl, by decide, gi5 (i := 193) (by decide +kernel) (by decide +kernel)⟩
theorem f_Mod_55 : x_fs "BracketHouseModel" 55 12 14 := ⟨_, rfl, by decide, gi5 (i := 194) (by decide +kernel) (by decide +kernel)⟩
theorem f_Mod_58 : x_fs "BracketHouseModel" 58 12 15 := ⟨_, rfl, by decide, gi5 (i := 195) (by decide +kernel) (by decide +kernel)⟩
theorem f_Mod_61 : x_fs "BracketHouseModel" 61 12 16 := ⟨_, rfl, by decide, gi5 (i := 196) (by decide +kernel) (by decide +kernel)⟩
theorem f_Mod_64 : x_fs "BracketHouseModel" 64 12 17 := ⟨_, rfl, by decide, gi5 (i := 197) (by decide +kernel) (by decide +kernel)⟩
theorem f_Mod_145 : x_fs "BracketHouseModel" 145 12 18 := ⟨_, rfl, by decide, gi5 (i := 198) (by decide +kernel) (by decide +kernel)⟩
theorem f_Mod_166 : x_fs "BracketHouseModel" 166 12 19 := ⟨_, rfl, by decide, gi5 (i := 199) (by decide +kernel) (by decide +kernel)⟩
theorem f_Mod_175 : x_fs "BracketHouseModel" 175 12 20 := ⟨_, rfl, by decide, gi5 (i := 200) (by decide +kernel) (by decide +kernel)⟩
theorem f_Mod_159 : x_fs "BracketHouseModel" 159 12 21 := ⟨_, rfl, by decide, gi5 (i := 201) (by decide +kernel) (by decide +kernel)⟩
theorem f_Mod_249 : x_fs "BracketHouseModel" 249 12 22 := ⟨_, rfl, by decide, gi5 (i := 202) (by decide +kernel) (by decide +kernel)⟩
theorem f_Mod_246 : x_fs "BracketHouseModel" 246 12 23 := ⟨_, rfl, by decide, gi5 (i := 203) (by decide +kernel) (by decide +kernel)⟩
theorem f_Mod_259 : x_fs "BracketHouseModel" 259 12 24 := ⟨_, rfl, by decide, gi5 (i := 204) (by decide +kernel) (by decide +kernel)⟩
theorem f_Mod_279 : x_fs "BracketHouseModel" 279 12 25 := ⟨_, rfl, by decide, gi5 (i := 205) (by decide +kernel) (by decide +kernel)⟩
theorem f_Mod_67 : x_fs "BracketHouseModel" 67 12 26 := ⟨_, rfl, by decide, gi5 (i := 206) (by decide +kernel) (by decide +kernel)⟩
theorem f_Mod_288 : x_fs "BracketHouseModel" 288 12 27 := ⟨_, rfl, by decide, gi5 (i := 207) (by decide +kernel) (by decide +kernel)⟩
theorem f_Mod_291 : x_fs "BracketHouseModel" 291 12 28 := ⟨_, rfl, by decide, gi5 (i := 208) (by decide +kernel) (by decide +kernel)⟩
theorem f_Mod_70 : x_fs "BracketHouseModel" 70 12 29 := ⟨_, rfl, by decide, gi5 (i := 209) (by decide +kernel) (by decide +kernel)⟩
theorem f_Mod_73 : x_fs "BracketHouseModel" 73 12 30 := ⟨_, rfl, by decide, gi5 (i := 210) (by decide +kernel) (by decide +kernel)⟩
theorem f_Mod_76 : x_fs "BracketHouseModel" 76 12 31 := ⟨_, rfl, by decide, gi5 (i := 211) (by decide +kernel) (by decide +kernel)⟩
theorem f_Mod_79 : x_fs "BracketHouseModel" 79 12 32 := ⟨_, rfl, by decide, gi5 (i := 212) (by decide +kernel) (by decide +kernel)⟩
theorem f_Mod_11 : x_fs "BracketHouseModel" 11 12 33 := ⟨_, rfl, by decide, gi5 (i := 213) (by decide +kernel) (by decide +kernel)⟩
theorem f_Mod_82 : x_fs "BracketHouseModel" 82 12 34 := ⟨_, rfl, by decide, gi5 (i := 214) (by decide +kernel) (by decide +kernel)⟩
theorem f_Mod_85 : x_fs "BracketHouseModel" 85 12 35 := ⟨_, rfl, by decide, gi5 (i := 215) (by decide +kernel) (by decide +kernel)⟩
theorem f_Mod_88 : x_fs "BracketHouseModel" 88 12 36 := ⟨_, rfl, by decide, gi5 (i := 216) (by decide +kernel) (by decide +kernel)⟩
theorem f_Mod_91 : x_fs "BracketHouseModel" 91 12 37 := ⟨_, rfl, by decide, gi5 (i := 217) (by decide +kernel) (by decide +kernel)⟩
theorem f_Mod_94 : x_fs "BracketHouseModel" 94 12 38 := ⟨_, rfl, by decide, gi5 (i := 218) (by decide +kernel) (by decide +kernel)⟩
theorem f_Mod_98 : x_fs "BracketHouseModel" 98 12 39 := ⟨_, rfl, by decide, gi5 (i := 219) (by decide +kernel) (by decide +kernel)⟩
theorem f_Mod_101 : x_fs "BracketHouseModel" 101 12 40 := ⟨_, rfl, by decide, gi5 (i := 220) (by decide +kernel) (by decide +kernel)⟩
theorem f_Mod_104 : x_fs "BracketHouseModel" 104 12 41 := ⟨_, rfl, by decide, gi5 (i := 221) (by decide +kernel) (by decide +kernel)⟩
theorem f_Mod_107 : x_fs "BracketHouseModel" 107 12 42 := ⟨_, rfl, by decide, gi5 (i := 222) (by decide +kernel) (by decide +kernel)⟩
theorem f_Mod_470 : x_fs "BracketHouseModel" 470 12 43 := ⟨_, rfl, by decide, gi5 (i := 223) (by decide +kernel) (by decide +kernel)⟩
theorem f_Mod_485 : x_fs "BracketHouseModel" 485 12 44 := ⟨_, rfl, by decide, gi5 (i := 224) (by decide +kernel) (by decide +kernel)⟩
theorem f_Mod_479 : x_fs "BracketHouseModel" 479 12 45 := ⟨_, rfl, by decide, gi5 (i := 225) (by decide +kernel) (by decide +kernel)⟩
theorem f_Mod_461 : x_fs "BracketHouseModel" 461 12 46 := ⟨_, rfl, by decide, gi5 (i := 226) (by decide +kernel) (by decide +kernel)⟩
theorem f_Mod_482 : x_fs "BracketHouseModel" 482 12 47 := ⟨_, rfl, by decide, gi5 (i := 227) (by decide +kernel) (by decide +kernel)⟩
theorem f_Mod_488 : x_fs "BracketHouseModel" 488 12 48 := ⟨_, rfl, by decide, gi5 (i := 228) (by decide +kernel) (by decide +kernel)⟩
theorem f_Mod_110 : x_fs "BracketHouseModel" 110 12 49 := ⟨_, rfl, by decide, gi5 (i := 229) (by decide +kernel) (by decide +kernel)⟩
theorem f_Mod_113 : x_fs "BracketHouseModel" 113 12 50 := ⟨_, rfl, by decide, gi5 (i := 230) (by decide +kernel) (by decide +kernel)⟩
theorem f_Mod_116 : x_fs "BracketHouseModel" 116 12 51 := ⟨_, rfl, by decide, gi5 (i := 231) (by decide +kernel) (by decide +kernel)⟩
theorem f_Mod_506 : x_fs "BracketHouseModel" 506 12 52 := ⟨_, rfl, by decide, gi5 (i := 232) (by decide +kernel) (by decide +kernel)⟩
theorem c_Law_155 : x_cv "BracketHouseLaw" 155 m_Mod_image 1 := ⟨⟨cd_Mod_image, in_Mod, gi6 (i := 100) (by decide +kernel) (by decide +kernel), by decide +kernel, by decide⟩, gi6 (i := 101) (by decide +kernel) (by decide +kernel), gi6 (i := 102) (by decide +kernel) (by decide +kernel)⟩
theorem c_Mod_18 : x_cs "BracketHouseModel" 18 m_Mod_lies 3 := ⟨⟨cd_Mod_lies, in_Mod, gi6 (i := 104) (by decide +kernel) (by decide +kernel), by decide +kernel, by decide⟩, gi6 (i := 105) (by decide +kernel) (by decide +kernel)⟩
theorem c_Mod_119 : x_cv "BracketHouseModel" 119 m_Mod_refuses 1 := ⟨⟨cd_Mod_refuses, in_Mod, gi6 (i := 107) (by decide +kernel) (by decide +kernel), by decide +kernel, by decide⟩, gi6 (i := 109) (by decide +kernel) (by decide +kernel), gw_sel (i := 44) (by decide +kernel) (by decide +kernel)⟩
theorem c_Mod_14 : x_cv "BracketHouseModel" 14 m_Mod_good 1 := ⟨⟨cd_Mod_good, in_Mod, gi6 (i := 111) (by decide +kernel) (by decide +kernel), by decide +kernel, by decide⟩, gi6 (i := 113) (by decide +kernel) (by decide +kernel), gw_sel (i := 45) (by decide +kernel) (by decide +kernel)⟩
theorem c_Law_159 : x_cv "BracketHouseLaw" 159 m_Mod_back 1 := ⟨⟨cd_Mod_back, in_Mod, gi6 (i := 115) (by decide +kernel) (by decide +kernel), by decide +kernel, by decide⟩, gi6 (i := 116) (by decide +kernel) (by decide +kernel), gi6 (i := 117) (by decide +kernel) (by decide +kernel)⟩
theorem c_Mod_122 : x_cv "BracketHouseModel" 122 m_Mod_settled 1 := ⟨⟨cd_Mod_settled, in_Mod, gi6 (i := 119) (by decide +kernel) (by decide +kernel), by decide +kernel, by decide⟩, gi6 (i := 121) (by decide +kernel) (by decide +kernel), gw_sel (i := 46) (by decide +kernel) (by decide +kernel)⟩
theorem c_Law_17 : x_cv "BracketHouseLaw" 17 m_Mod_terms 2 := ⟨⟨cd_Mod_terms, in_Mod, gi6 (i := 123) (by decide +kernel) (by decide +kernel), by decide +kernel, by decide⟩, gi6 (i := 124) (by decide +kernel) (by decide +kernel), gi6 (i := 125) (by decide +kernel) (by decide +kernel)⟩
theorem c_Mod_129 : x_cs "BracketHouseModel" 129 m_Mod_isTerm 2 := ⟨⟨cd_Mod_isTerm, in_Mod, gi6 (i := 127) (by decide +kernel) (by decide +kernel), by decide +kernel, by decide⟩, gi6 (i := 128) (by decide +kernel) (by decide +kernel)⟩
theorem c_Mod_133 : x_cs "BracketHouseModel" 133 m_Mod_termAt 1 := ⟨⟨cd_Mod_termAt, in_Mod, gi6 (i := 130) (by decide +kernel) (by decide +kernel), by decide +kernel, by decide⟩, gi6 (i := 131) (by decide +kernel) (by decide +kernel)⟩
theorem c_Law_32 : x_cv "BracketHouseLaw" 32 m_Mod_row 0 := ⟨⟨cd_Mod_row, in_Mod, gi6 (i := 133) (by decide +kernel) (by decide +kernel), by decide +kernel, by decide⟩, gi6 (i := 134) (by decide +kernel) (by decide +kernel), gi6 (i := 135) (by decide +kernel) (by decide +kernel)⟩
theorem c_Mod_125 : x_cv "BracketHouseModel" 125 m_Mod_length 0 := ⟨⟨cd_Mod_length, in_Mod, gi6 (i := 137) (by decide +kernel) (by decide +kernel), by decide +kernel, by decide⟩, gi6 (i := 139) (by decide +kernel) (by decide +kernel), gw_sel (i := 47) (by decide +kernel) (by decide +kernel)⟩
theorem c_Mod_142 : x_cs "BracketHouseModel" 142 m_Mod_isSign 1 := ⟨⟨cd_Mod_isSign, in_Mod, gi6 (i := 141) (by decide +kernel) (by decide +kernel), by decide +kernel, by decide⟩, gi6 (i := 142) (by decide +kernel) (by decide +kernel)⟩
theorem c_Law_36 : x_cv "BracketHouseLaw" 36 m_Mod_blots 0 := ⟨⟨cd_Mod_blots, in_Mod, gi6 (i := 144) (by decide +kernel) (by decide +kernel), by decide +kernel, by decide⟩, gi6 (i := 145) (by decide +kernel) (by decide +kernel), gi6 (i := 146) (by decide +kernel) (by decide +kernel)⟩
theorem c_Law_22 : x_cv "BracketHouseLaw" 22 m_Mod_feed 5 := ⟨⟨cd_Mod_feed, in_Mod, gi6 (i := 148) (by decide +kernel) (by decide +kernel), by decide +kernel, by decide⟩, gi6 (i := 149) (by decide +kernel) (by decide +kernel), gi6 (i := 150) (by decide +kernel) (by decide +kernel)⟩
theorem c_Law_27 : x_cv "BracketHouseLaw" 27 m_Mod_end 1 := ⟨⟨cd_Mod_end, in_Mod, gi6 (i := 152) (by decide +kernel) (by decide +kernel), by decide +kernel, by decide⟩, gi6 (i := 153) (by decide +kernel) (by decide +kernel), gi6 (i := 154) (by decide +kernel) (by decide +kernel)⟩
theorem c_Law_40 : x_cv "BracketHouseLaw" 40 m_Mod_law 0 := ⟨⟨cd_Mod_law, in_Mod, gi6 (i := 156) (by decide +kernel) (by decide +kernel), by decide +kernel, by decide⟩, gi6 (i := 157) (by decide +kernel) (by decide +kernel), gi6 (i := 158) (by decide +kernel) (by decide +kernel)⟩
theorem c_Mod_236 : x_cv "BracketHouseModel" 236 m_Mod_readsAs 1 := ⟨⟨cd_Mod_readsAs, in_Mod, gi6 (i := 160) (by decide +kernel) (by decide +kernel), by decide +kernel, by decide⟩, gi6 (i := 162) (by decide +kernel) (by decide +kernel), gw_sel (i := 48) (by decide +kernel) (by decide +kernel)⟩
theorem c_Mod_233 : x_cv "BracketHouseModel" 233 m_Mod_reads 0 := ⟨⟨cd_Mod_reads, in_Mod, gi6 (i := 164) (by decide +kernel) (by decide +kernel), by decide +kernel, by decide⟩, gi6 (i := 166) (by decide +kernel) (by decide +kernel), gw_sel (i := 49) (by decide +kernel) (by decide +kernel)⟩
theorem c_Mod_227 : x_cv "BracketHouseModel" 227 m_Mod_splits 1 := ⟨⟨cd_Mod_splits, in_Mod, gi6 (i := 168) (by decide +kernel) (by decide +kernel), by decide +kernel, by decide⟩, gi6 (i := 170) (by decide +kernel) (by decide +kernel), gw_sel (i := 50) (by decide +kernel) (by decide +kernel)⟩
theorem c_Mod_148 : x_cs "BracketHouseModel" 148 m_Mod_isSmall 1 := ⟨⟨cd_Mod_isSmall, in_Mod, gi6 (i := 172) (by decide +kernel) (by decide +kernel), by decide +kernel, by decide⟩, gi6 (i := 173) (by decide +kernel) (by decide +kernel)⟩
theorem c_Mod_151 : x_cs "BracketHouseModel" 151 m_Mod_isDigit 1 := ⟨⟨cd_Mod_isDigit, in_Mod, gi6 (i := 175) (by decide +kernel) (by decide +kernel), by decide +kernel, by decide⟩, gi6 (i := 176) (by decide +kernel) (by decide +kernel)⟩
theorem c_Mod_154 : x_cv "BracketHouseModel" 154 m_Mod_wordOf 2 := ⟨⟨cd_Mod_wordOf, in_Mod, gi6 (i := 178) (by decide +kernel) (by decide +kernel), by decide +kernel, by decide⟩, gi6 (i := 180) (by decide +kernel) (by decide +kernel), gw_sel (i := 51) (by decide +kernel) (by decide +kernel)⟩
theorem k_Mod_158 : Cond.constant "BracketHouseModel" 158 (1000000) ∈ gw := gi6 (i := 182) (by decide +kernel) (by decide +kernel)
theorem c_Mod_230 : x_cv "BracketHouseModel" 230 m_Mod_readOne 0 := ⟨⟨cd_Mod_readOne, in_Mod, gi6 (i := 183) (by decide +kernel) (by decide +kernel), by decide +kernel, by decide⟩, gi6 (i := 185) (by decide +kernel) (by decide +kernel), gw_sel (i := 52) (by decide +kernel) (by decide +kernel)⟩
theorem c_Mod_196 : x_cv "BracketHouseModel" 196 m_Mod_readOrder 0 := ⟨⟨cd_Mod_readOrder, in_Mod, gi6 (i := 187) (by decide +kernel) (by decide +kernel), by decide +kernel, by decide⟩, gi6 (i := 189) (by decide +kernel) (by decide +kernel), gw_sel (i := 53) (by decide +kernel) (by decide +kernel)⟩
theorem c_Mod_169 : x_cv "BracketHouseModel" 169 m_Mod_takes0 1 := ⟨⟨cd_Mod_takes0, in_Mod, gi6 (i := 191) (by decide +kernel) (by decide +kernel), by decide +kernel, by decide⟩, gi6 (i := 193) (by decide +kernel) (by decide +kernel), gw_sel (i := 54) (by decide +kernel) (by decide +kernel)⟩
theorem c_Mod_162 : x_cv "BracketHouseModel" 162 m_Mod_fine 0 := ⟨⟨cd_Mod_fine, in_Mod, gi6 (i := 195) (by decide +kernel) (by decide +kernel), by decide +kernel, by decide⟩, gi6 (i := 197) (by decide +kernel) (by decide +kernel), gw_sel (i := 55) (by decide +kernel) (by decide +kernel)⟩
theorem c_Mod_178 : x_cv "BracketHouseModel" 178 m_Mod_readSum 1 := ⟨⟨cd_Mod_readSum, in_Mod, gi6 (i := 199) (by decide +kernel) (by decide +kernel), by decide +kernel, by decide⟩, gi6 (i := 201) (by decide +kernel) (by decide +kernel), gw_sel (i := 56) (by decide +kernel) (by decide +kernel)⟩
theorem c_Mod_212 : x_cv "BracketHouseModel" 212 m_Mod_readTerm 1 := ⟨⟨cd_Mod_readTerm, in_Mod, gi6 (i := 203) (by decide +kernel) (by decide +kernel), by decide +kernel, by decide⟩, gi6 (i := 205) (by decide +kernel) (by decide +kernel), gw_sel (i := 57) (by decide +kernel) (by decide +kernel)⟩
theorem c_Mod_215 : x_cv "BracketHouseModel" 215 m_Mod_readPart 1 := ⟨⟨cd_Mod_readPart, in_Mod, gi6 (i := 207) (by decide +kernel) (by decide +kernel), by decide +kernel, by decide⟩, gi6 (i := 209) (by decide +kernel) (by decide +kernel), gw_sel (i := 58) (by decide +kernel) (by decide +kernel)⟩
theorem c_Mod_208 : x_cs "BracketHouseModel" 208 m_Mod_sign 1 := ⟨⟨cd_Mod_sign, in_Mod, gi6 (i := 211) (by decide +kernel) (by decide +kernel), by decide +kernel, by decide⟩, gi6 (i := 212) (by decide +kernel) (by decide +kernel)⟩
theorem c_Mod_172 : x_cv "BracketHouseModel" 172 m_Mod_faults 0 := ⟨⟨cd_Mod_faults, in_Mod, gi6 (i := 214) (by decide +kernel) (by decide +kernel), by decide +kernel, by decide⟩, gi6 (i := 216) (by decide +kernel) (by decide +kernel), gw_sel (i := 59) (by decide +kernel) (by decide +kernel)⟩
theorem c_Mod_182 : x_cv "BracketHouseModel" 182 m_Mod_must 1 := ⟨⟨cd_Mod_must, in_Mod, gi6 (i := 218) (by decide +kernel) (by decide +kernel), by decide +kernel, by decide⟩, gi6 (i := 220) (by decide +kernel) (by decide +kernel), gw_sel (i := 60) (by decide +kernel) (by decide +kernel)⟩
theorem c_Mod_224 : x_cv "BracketHouseModel" 224 m_Mod_leaf 0 := ⟨⟨cd_Mod_leaf, in_Mod, gi6 (i := 222) (by decide +kernel) (by decide +kernel), by decide +kernel, by decide⟩, gi6 (i := 224) (by decide +kernel) (by decide +kernel), gw_sel (i := 61) (by decide +kernel) (by decide +kernel)⟩
theorem c_Mod_188 : x_cv "BracketHouseModel" 188 m_Mod_mustNumber 2 := ⟨⟨cd_Mod_mustNumber, in_Mod, gi6 (i := 226) (by decide +kernel) (by decide +kernel), by decide +kernel, by decide⟩, gi6 (i := 228) (by decide +kernel) (by decide +kernel), gw_sel (i := 62) (by decide +kernel) (by decide +kernel)⟩
theorem c_Mod_185 : x_cv "BracketHouseModel" 185 m_Mod_readTest 1 := ⟨⟨cd_Mod_readTest, in_Mod, gi6 (i := 230) (by decide +kernel) (by decide +kernel), by decide +kernel, by decide⟩, gi6 (i := 232) (by decide +kernel) (by decide +kernel), gw_sel (i := 63) (by decide +kernel) (by decide +kernel)⟩
theorem c_Mod_202 : x_cv "BracketHouseModel" 202 m_Mod_readBoth 1 := ⟨⟨cd_Mod_readBoth, in_Mod, gi6 (i := 234) (by decide +kernel) (by decide +kernel), by decide +kernel, by decide⟩, gi6 (i := 236) (by decide +kernel) (by decide +kernel), gw_sel (i := 64) (by decide +kernel) (by decide +kernel)⟩
theorem c_Mod_205 : x_cv "BracketHouseModel" 205 m_Mod_readPlain 1 := ⟨⟨cd_Mod_readPlain, in_Mod, gi6 (i := 238) (by decide +kernel) (by decide +kernel), by decide +kernel, by decide⟩, gi7 (i := 0) (by decide +kernel) (by decide +kernel), gw_sel (i := 65) (by decide +kernel) (by decide +kernel)⟩
theorem c_Mod_199 : x_cv "BracketHouseModel" 199 m_Mod_readClause 0 := ⟨⟨cd_Mod_readClause, in_Mod, gi7 (i := 2) (by decide +kernel) (by decide +kernel), by decide +kernel, by decide⟩, gi7 (i := 4) (by decide +kernel) (by decide +kernel), gw_sel (i := 66) (by decide +kernel) (by decide +kernel)⟩
theorem c_Mod_240 : x_cv "BracketHouseModel" 240 m_Mod_lays 1 := ⟨⟨cd_Mod_lays, in_Mod, gi7 (i := 6) (by decide +kernel) (by decide +kernel), by decide +kernel, by decide⟩, gi7 (i := 8) (by decide +kernel) (by decide +kernel), gw_sel (i := 67) (by decide +kernel) (by decide +kernel)⟩
theorem c_Law_48 : x_cv "BracketHouseLaw" 48 m_Mod_fault 0 := ⟨⟨cd_Mod_fault, in_Mod, gi7 (i := 10) (by decide +kernel) (by decide +kernel), by decide +kernel, by decide⟩, gi7 (i := 11) (by decide +kernel) (by decide +kernel), gi7 (i := 12) (by decide +kernel) (by decide +kernel)⟩
theorem c_Law_56 : x_cv "BracketHouseLaw" 56 m_Mod_force 1 := ⟨⟨cd_Mod_force, in_Mod, gi7 (i := 14) (by decide +kernel) (by decide +kernel), by decide +kernel, by decide⟩, gi7 (i := 15) (by decide +kernel) (by decide +kernel), gi7 (i := 16) (by decide +kernel) (by decide +kernel)⟩
theorem c_Mod_243 : x_cv "BracketHouseModel" 243 m_Mod_isLaw 1 := ⟨⟨cd_Mod_isLaw, in_Mod, gi7 (i := 18) (by decide +kernel) (by decide +kernel), by decide +kernel, by decide⟩, gi7 (i := 20) (by decide +kernel) (by decide +kernel), gw_sel (i := 68) (by decide +kernel) (by decide +kernel)⟩
theorem c_Law_61 : x_cv "BracketHouseLaw" 61 m_Mod_asks 3 := ⟨⟨cd_Mod_asks, in_Mod, gi7 (i := 22) (by decide +kernel) (by decide +kernel), by decide +kernel, by decide⟩, gi7 (i := 23) (by decide +kernel) (by decide +kernel), gi7 (i := 24) (by decide +kernel) (by decide +kernel)⟩
theorem c_Mod_327 : x_cv "BracketHouseModel" 327 m_Mod_costOf 2 := ⟨⟨cd_Mod_costOf, in_Mod, gi7 (i := 26) (by decide +kernel) (by decide +kernel), by decide +kernel, by decide⟩, gi7 (i := 28) (by decide +kernel) (by decide +kernel), gw_sel (i := 69) (by decide +kernel) (by decide +kernel)⟩
theorem c_Mod_320 : x_cv "BracketHouseModel" 320 m_Mod_tells 4 := ⟨⟨cd_Mod_tells, in_Mod, gi7 (i := 30) (by decide +kernel) (by decide +kernel), by decide +kernel, by decide⟩, gi7 (i := 32) (by decide +kernel) (by decide +kernel), gw_sel (i := 70) (by decide +kernel) (by decide +kernel)⟩
theorem c_Mod_315 : x_cv "BracketHouseModel" 315 m_Mod_setsAsked 2 := ⟨⟨cd_Mod_setsAsked, in_Mod, gi7 (i := 34) (by decide +kernel) (by decide +kernel), by decide +kernel, by decide⟩, gi7 (i := 36) (by decide +kernel) (by decide +kernel), gw_sel (i := 71) (by decide +kernel) (by decide +kernel)⟩
theorem c_Mod_309 : x_cs "BracketHouseModel" 309 m_Mod_kindOf 1 := ⟨⟨cd_Mod_kindOf, in_Mod, gi7 (i := 38) (by decide +kernel) (by decide +kernel), by decide +kernel, by decide⟩, gi7 (i := 39) (by decide +kernel) (by decide +kernel)⟩
theorem c_Mod_22 : x_cs "BracketHouseModel" 22 m_Mod_isName 1 := ⟨⟨cd_Mod_isName, in_Mod, gi7 (i := 41) (by decide +kernel) (by decide +kernel), by decide +kernel, by decide⟩, gi7 (i := 42) (by decide +kernel) (by decide +kernel)⟩
theorem c_Mod_312 : x_cs "BracketHouseModel" 312 m_Mod_opens0 1 := ⟨⟨cd_Mod_opens0, in_Mod, gi7 (i := 44) (by decide +kernel) (by decide +kernel), by decide +kernel, by decide⟩, gi7 (i := 45) (by decide +kernel) (by decide +kernel)⟩
theorem c_Mod_252 : x_cv "BracketHouseModel" 252 m_Mod_codeAt 1 := ⟨⟨cd_Mod_codeAt, in_Mod, gi7 (i := 47) (by decide +kernel) (by decide +kernel), by decide +kernel, by decide⟩, gi7 (i := 49) (by decide +kernel) (by decide +kernel), gw_sel (i := 72) (by decide +kernel) (by decide +kernel)⟩
theorem c_Mod_276 : x_cv "BracketHouseModel" 276 m_Mod_sumOf 1 := ⟨⟨cd_Mod_sumOf, in_Mod, gi7 (i := 51) (by decide +kernel) (by decide +kernel), by decide +kernel, by decide⟩, gi7 (i := 53) (by decide +kernel) (by decide +kernel), gw_sel (i := 73) (by decide +kernel) (by decide +kernel)⟩
theorem c_Mod_262 : x_cv "BracketHouseModel" 262 m_Mod_termOf 1 := ⟨⟨cd_Mod_termOf, in_Mod, gi7 (i := 55) (by decide +kernel) (by decide +kernel), by decide +kernel, by decide⟩, gi7 (i := 57) (by decide +kernel) (by decide +kernel), gw_sel (i := 74) (by decide +kernel) (by decide +kernel)⟩
theorem c_Mod_270 : x_cv "BracketHouseModel" 270 m_Mod_partOf 1 := ⟨⟨cd_Mod_partOf, in_Mod, gi7 (i := 59) (by decide +kernel) (by decide +kernel), by decide +kernel, by decide⟩, gi7 (i := 61) (by decide +kernel) (by decide +kernel), gw_sel (i := 75) (by decide +kernel) (by decide +kernel)⟩
theorem c_Mod_273 : x_cv "BracketHouseModel" 273 m_Mod_passes0 1 := ⟨⟨cd_Mod_passes0, in_Mod, gi7 (i := 63) (by decide +kernel) (by decide +kernel), by decide +kernel, by decide⟩, gi7 (i := 65) (by decide +kernel) (by decide +kernel), gw_sel (i := 76) (by decide +kernel) (by decide +kernel)⟩
theorem c_Mod_282 : x_cv "BracketHouseModel" 282 m_Mod_orderValue 2 := ⟨⟨cd_Mod_orderValue, in_Mod, gi7 (i := 67) (by decide +kernel) (by decide +kernel), by decide +kernel, by decide⟩, gi7 (i := 69) (by decide +kernel) (by decide +kernel), gw_sel (i := 77) (by decide +kernel) (by decide +kernel)⟩
theorem c_Mod_285 : x_cv "BracketHouseModel" 285 m_Mod_at 2 := ⟨⟨cd_Mod_at, in_Mod, gi7 (i := 71) (by decide +kernel) (by decide +kernel), by decide +kernel, by decide⟩, gi7 (i := 72) (by decide +kernel) (by decide +kernel), gi7 (i := 73) (by decide +kernel) (by decide +kernel)⟩
theorem c_Mod_339 : x_cv "BracketHouseModel" 339 m_Mod_isPlace 1 := ⟨⟨cd_Mod_isPlace, in_Mod, gi7 (i := 75) (by decide +kernel) (by decide +kernel), by decide +kernel, by decide⟩, gi7 (i := 77) (by decide +kernel) (by decide +kernel), gw_sel (i := 78) (by decide +kernel) (by decide +kernel)⟩
theorem c_Mod_294 : x_cv "BracketHouseModel" 294 m_Mod_looseMany 0 := ⟨⟨cd_Mod_looseMany, in_Mod, gi7 (i := 79) (by decide +kernel) (by decide +kernel), by decide +kernel, by decide⟩, gi7 (i := 81) (by decide +kernel) (by decide +kernel), gw_sel (i := 79) (by decide +kernel) (by decide +kernel)⟩
theorem c_Mod_336 : x_cv "BracketHouseModel" 336 m_Mod_pairs 2 := ⟨⟨cd_Mod_pairs, in_Mod, gi7 (i := 83) (by decide +kernel) (by decide +kernel), by decide +kernel, by decide⟩, gi7 (i := 85) (by decide +kernel) (by decide +kernel), gw_sel (i := 80) (by decide +kernel) (by decide +kernel)⟩
theorem c_Mod_324 : x_cv "BracketHouseModel" 324 m_Mod_signAt 1 := ⟨⟨cd_Mod_signAt, in_Mod, gi7 (i := 87) (by decide +kernel) (by decide +kernel), by decide +kernel, by decide⟩, gi7 (i := 89) (by decide +kernel) (by decide +kernel), gw_sel (i := 81) (by decide +kernel) (by decide +kernel)⟩
theorem c_Mod_333 : x_cs "BracketHouseModel" 333 m_Mod_closes0 1 := ⟨⟨cd_Mod_closes0, in_Mod, gi7 (i := 91) (by decide +kernel) (by decide +kernel), by decide +kernel, by decide⟩, gi7 (i := 92) (by decide +kernel) (by decide +kernel)⟩
theorem c_Mod_342 : x_cv "BracketHouseModel" 342 m_Mod_deepOf 1 := ⟨⟨cd_Mod_deepOf, in_Mod, gi7 (i := 94) (by decide +kernel) (by decide +kernel), by decide +kernel, by decide⟩, gi7 (i := 96) (by decide +kernel) (by decide +kernel), gw_sel (i := 82) (by decide +kernel) (by decide +kernel)⟩
theorem c_Mod_266 : x_cv "BracketHouseModel" 266 m_Mod_bounded 2 := ⟨⟨cd_Mod_bounded, in_Mod, gi7 (i := 98) (by decide +kernel) (by decide +kernel), by decide +kernel, by decide⟩, gi7 (i := 100) (by decide +kernel) (by decide +kernel), gw_sel (i := 83) (by decide +kernel) (by decide +kernel)⟩
theorem k_Mod_255 : Cond.constantLong "BracketHouseModel" 255 (1000000000) ∈ gw := gi7 (i := 102) (by decide +kernel) (by decide +kernel)
theorem k_Mod_257 : Cond.constantLong "BracketHouseModel" 257 (-1000000000) ∈ gw := gi7 (i := 103) (by decide +kernel) (by decide +kernel)
theorem c_Mod_306 : x_cv "BracketHouseModel" 306 m_Mod_testOf 1 := ⟨⟨cd_Mod_testOf, in_Mod, gi7 (i := 104) (by decide +kernel) (by decide +kernel), by decide +kernel, by decide⟩, gi7 (i := 106) (by decide +kernel) (by decide +kernel), gw_sel (i := 84) (by decide +kernel) (by decide +kernel)⟩
theorem c_Mod_297 : x_cv "BracketHouseModel" 297 m_Mod_bothOf 1 := ⟨⟨cd_Mod_bothOf, in_Mod, gi7 (i := 108) (by decide +kernel) (by decide +kernel), by decide +kernel, by decide⟩, gi7 (i := 110) (by decide +kernel) (by decide +kernel), gw_sel (i := 85) (by decide +kernel) (by decide +kernel)⟩
theorem c_Mod_300 : x_cv "BracketHouseModel" 300 m_Mod_plainOf 1 := ⟨⟨cd_Mod_plainOf, in_Mod, gi7 (i := 112) (by decide +kernel) (by decide +kernel), by decide +kernel, by decide⟩, gi7 (i := 114) (by decide +kernel) (by decide +kernel), gw_sel (i := 86) (by decide +kernel) (by decide +kernel)⟩
theorem c_Mod_303 : x_cv "BracketHouseModel" 303 m_Mod_positiveOf 1 := ⟨⟨cd_Mod_positiveOf, in_Mod, gi7 (i := 116) (by decide +kernel) (by decide +kernel), by decide +kernel, by decide⟩, gi7 (i := 118) (by decide +kernel) (by decide +kernel), gw_sel (i := 87) (by decide +kernel) (by decide +kernel)⟩
theorem k_Mod_318 : Cond.constantLong "BracketHouseModel" 318 (99) ∈ gw := gi7 (i := 120) (by decide +kernel) (by decide +kernel)
theorem c_Mod_330 : x_cv "BracketHouseModel" 330 m_Mod_isBarred 2 := ⟨⟨cd_Mod_isBarred, in_Mod, gi7 (i := 121) (by decide +kernel) (by decide +kernel), by decide +kernel, by decide⟩, gi7 (i := 123) (by decide +kernel) (by decide +kernel), gw_sel (i := 88) (by decide +kernel) (by decide +kernel)⟩
theorem c_Law_85 : x_cv "BracketHouseLaw" 85 m_Mod_at 2 := ⟨⟨cd_Mod_at, in_Mod, gi7 (i := 125) (by decide +kernel) (by decide +kernel), by decide +kernel, by decide⟩, gi7 (i := 72) (by decide +kernel) (by decide +kernel), gi7 (i := 73) (by decide +kernel) (by decide +kernel)⟩
theorem c_Law_89 : x_cv "BracketHouseLaw" 89 m_Mod_said 0 := ⟨⟨cd_Mod_said, in_Mod, gi7 (i := 126) (by decide +kernel) (by decide +kernel), by decide +kernel, by decide⟩, gi7 (i := 127) (by decide +kernel) (by decide +kernel), gi7 (i := 128) (by decide +kernel) (by decide +kernel)⟩
theorem c_Mod_345 : x_cv "BracketHouseModel" 345 m_Mod_isSaid 2 := ⟨⟨cd_Mod_isSaid, in_Mod, gi7 (i := 130) (by decide +kernel) (by decide +kernel), by decide +kernel, by decide⟩, gi7 (i := 132) (by decide +kernel) (by decide +kernel), gw_sel (i := 89) (by decide +kernel) (by decide +kernel)⟩
theorem c_Law_93 : x_cv "BracketHouseLaw" 93 m_Mod_whole 2 := ⟨⟨cd_Mod_whole, in_Mod, gi7 (i := 134) (by decide +kernel) (by decide +kernel), by decide +kernel, by decide⟩, gi7 (i := 135) (by decide +kernel) (by decide +kernel), gi7 (i := 136) (by decide +kernel) (by decide +kernel)⟩
theorem c_Mod_348 : x_cv "BracketHouseModel" 348 m_Mod_isWhole 2 := ⟨⟨cd_Mod_isWhole, in_Mod, gi7 (i := 138) (by decide +kernel) (by decide +kernel), by decide +kernel, by decide⟩, gi7 (i := 140) (by decide +kernel) (by decide +kernel), gw_sel (i := 90) (by decide +kernel) (by decide +kernel)⟩
theorem c_Law_81 : x_cv "BracketHouseLaw" 81 m_Mod_undo 0 := ⟨⟨cd_Mod_undo, in_Mod, gi7 (i := 142) (by decide +kernel) (by decide +kernel), by decide +kernel, by decide⟩, gi7 (i := 143) (by decide +kernel) (by decide +kernel), gi7 (i := 144) (by decide +kernel) (by decide +kernel)⟩
theorem c_Law_65 : x_cv "BracketHouseLaw" 65 m_Mod_put 2 := ⟨⟨cd_Mod_put, in_Mod, gi7 (i := 146) (by decide +kernel) (by decide +kernel), by decide +kernel, by decide⟩, gi7 (i := 147) (by decide +kernel) (by decide +kernel), gi7 (i := 148) (by decide +kernel) (by decide +kernel)⟩
theorem c_Mod_366 : x_cv "BracketHouseModel" 366 m_Mod_putsKept 2 := ⟨⟨cd_Mod_putsKept, in_Mod, gi7 (i := 150) (by decide +kernel) (by decide +kernel), by decide +kernel, by decide⟩, gi7 (i := 152) (by decide +kernel) (by decide +kernel), gw_sel (i := 91) (by decide +kernel) (by decide +kernel)⟩
theorem c_Mod_354 : x_cv "BracketHouseModel" 354 m_Mod_keeps 1 := ⟨⟨cd_Mod_keeps, in_Mod, gi7 (i := 154) (by decide +kernel) (by decide +kernel), by decide +kernel, by decide⟩, gi7 (i := 156) (by decide +kernel) (by decide +kernel), gw_sel (i := 92) (by decide +kernel) (by decide +kernel)⟩
theorem c_Mod_351 : x_cv "BracketHouseModel" 351 m_Mod_forgetsEldest 0 := ⟨⟨cd_Mod_forgetsEldest, in_Mod, gi7 (i := 158) (by decide +kernel) (by decide +kernel), by decide +kernel, by decide⟩, gi7 (i := 160) (by decide +kernel) (by decide +kernel), gw_sel (i := 93) (by decide +kernel) (by decide +kernel)⟩
theorem c_Mod_357 : x_cv "BracketHouseModel" 357 m_Mod_puts 2 := ⟨⟨cd_Mod_puts, in_Mod, gi7 (i := 162) (by decide +kernel) (by decide +kernel), by decide +kernel, by decide⟩, gi7 (i := 164) (by decide +kernel) (by decide +kernel), gw_sel (i := 94) (by decide +kernel) (by decide +kernel)⟩
theorem c_Mod_369 : x_cv "BracketHouseModel" 369 m_Mod_goodOr 1 := ⟨⟨cd_Mod_goodOr, in_Mod, gi7 (i := 166) (by decide +kernel) (by decide +kernel), by decide +kernel, by decide⟩, gi7 (i := 168) (by decide +kernel) (by decide +kernel), gw_sel (i := 95) (by decide +kernel) (by decide +kernel)⟩
theorem c_Law_69 : x_cv "BracketHouseLaw" 69 m_Mod_cut 1 := ⟨⟨cd_Mod_cut, in_Mod, gi7 (i := 170) (by decide +kernel) (by decide +kernel), by decide +kernel, by decide⟩, gi7 (i := 171) (by decide +kernel) (by decide +kernel), gi7 (i := 172) (by decide +kernel) (by decide +kernel)⟩
theorem c_Mod_372 : x_cv "BracketHouseModel" 372 m_Mod_cutsKept 1 := ⟨⟨cd_Mod_cutsKept, in_Mod, gi7 (i := 174) (by decide +kernel) (by decide +kernel), by decide +kernel, by decide⟩, gi7 (i := 176) (by decide +kernel) (by decide +kernel), gw_sel (i := 96) (by decide +kernel) (by decide +kernel)⟩
theorem c_Mod_360 : x_cv "BracketHouseModel" 360 m_Mod_strikesFor 1 := ⟨⟨cd_Mod_strikesFor, in_Mod, gi7 (i := 178) (by decide +kernel) (by decide +kernel), by decide +kernel, by decide⟩, gi7 (i := 180) (by decide +kernel) (by decide +kernel), gw_sel (i := 97) (by decide +kernel) (by decide +kernel)⟩
theorem c_Mod_363 : x_cv "BracketHouseModel" 363 m_Mod_cuts 1 := ⟨⟨cd_Mod_cuts, in_Mod, gi7 (i := 182) (by decide +kernel) (by decide +kernel), by decide +kernel, by decide⟩, gi7 (i := 184) (by decide +kernel) (by decide +kernel), gw_sel (i := 98) (by decide +kernel) (by decide +kernel)⟩
theorem c_Law_73 : x_cv "BracketHouseLaw" 73 m_Mod_turn 2 := ⟨⟨cd_Mod_turn, in_Mod, gi7 (i := 186) (by decide +kernel) (by decide +kernel), by decide +kernel, by decide⟩, gi7 (i := 187) (by decide +kernel) (by decide +kernel), gi7 (i := 188) (by decide +kernel) (by decide +kernel)⟩
theorem c_Mod_375 : x_cv "BracketHouseModel" 375 m_Mod_turnsKept 2 := ⟨⟨cd_Mod_turnsKept, in_Mod, gi7 (i := 190) (by decide +kernel) (by decide +kernel), by decide +kernel, by decide⟩, gi7 (i := 192) (by decide +kernel) (by decide +kernel), gw_sel (i := 99) (by decide +kernel) (by decide +kernel)⟩
theorem c_Law_77 : x_cv "BracketHouseLaw" 77 m_Mod_pass 0 := ⟨⟨cd_Mod_pass, in_Mod, gi7 (i := 194) (by decide +kernel) (by decide +kernel), by decide +kernel, by decide⟩, gi7 (i := 195) (by decide +kernel) (by decide +kernel), gi7 (i := 196) (by decide +kernel) (by decide +kernel)⟩
theorem c_Mod_378 : x_cv "BracketHouseModel" 378 m_Mod_passesKept 0 := ⟨⟨cd_Mod_passesKept, in_Mod, gi7 (i := 198) (by decide +kernel) (by decide +kernel), by decide +kernel, by decide⟩, gi7 (i := 200) (by decide +kernel) (by decide +kernel), gw_sel (i := 100) (by decide +kernel) (by decide +kernel)⟩
theorem c_Law_97 : x_cv "BracketHouseLaw" 97 m_Mod_mend 1 := ⟨⟨cd_Mod_mend, in_Mod, gi7 (i := 202) (by decide +kernel) (by decide +kernel), by decide +kernel, by decide⟩, gi7 (i := 203) (by decide +kernel) (by decide +kernel), gi7 (i := 204) (by decide +kernel) (by decide +kernel)⟩
theorem c_Mod_399 : x_cv "BracketHouseModel" 399 m_Mod_laysMended 0 := ⟨⟨cd_Mod_laysMended, in_Mod, gi7 (i := 206) (by decide +kernel) (by decide +kernel), by decide +kernel, by decide⟩, gi7 (i := 208) (by decide +kernel) (by decide +kernel), gw_sel (i := 101) (by decide +kernel) (by decide +kernel)⟩
theorem c_Mod_390 : x_cv "BracketHouseModel" 390 m_Mod_laysCosts 0 := ⟨⟨cd_Mod_laysCosts, in_Mod, gi7 (i := 210) (by decide +kernel) (by decide +kernel), by decide +kernel, by decide⟩, gi7 (i := 212) (by decide +kernel) (by decide +kernel), gw_sel (i := 102) (by decide +kernel) (by decide +kernel)⟩
theorem c_Mod_393 : x_cv "BracketHouseModel" 393 m_Mod_mendsAhead 2 := ⟨⟨cd_Mod_mendsAhead, in_Mod, gi7 (i := 214) (by decide +kernel) (by decide +kernel), by decide +kernel, by decide⟩, gi7 (i := 216) (by decide +kernel) (by decide +kernel), gw_sel (i := 103) (by decide +kernel) (by decide +kernel)⟩
theorem c_Mod_384 : x_cv "BracketHouseModel" 384 m_Mod_leastOf 2 := ⟨⟨cd_Mod_leastOf, in_Mod, gi7 (i := 218) (by decide +kernel) (by decide +kernel), by decide +kernel, by decide⟩, gi7 (i := 220) (by decide +kernel) (by decide +kernel), gw_sel (i := 104) (by decide +kernel) (by decide +kernel)⟩
theorem c_Mod_387 : x_cs "BracketHouseModel" 387 m_Mod_lesser 2 := ⟨⟨cd_Mod_lesser, in_Mod, gi7 (i := 222) (by decide +kernel) (by decide +kernel), by decide +kernel, by decide⟩, gi7 (i := 223) (by decide +kernel) (by decide +kernel)⟩
theorem c_Mod_396 : x_cv "BracketHouseModel" 396 m_Mod_mendsOpen 2 := ⟨⟨cd_Mod_mendsOpen, in_Mod, gi7 (i := 225) (by decide +kernel) (by decide +kernel), by decide +kernel, by decide⟩, gi7 (i := 227) (by decide +kernel) (by decide +kernel), gw_sel (i := 105) (by decide +kernel) (by decide +kernel)⟩
theorem c_Mod_381 : x_cv "BracketHouseModel" 381 m_Mod_arePair 2 := ⟨⟨cd_Mod_arePair, in_Mod, gi7 (i := 229) (by decide +kernel) (by decide +kernel), by decide +kernel, by decide⟩, gi7 (i := 231) (by decide +kernel) (by decide +kernel), gw_sel (i := 106) (by decide +kernel) (by decide +kernel)⟩
theorem c_Law_143 : x_cv "BracketHouseLaw" 143 m_Mod_compare 1 := ⟨⟨cd_Mod_compare, in_Mod, gi7 (i := 233) (by decide +kernel) (by decide +kernel), by decide +kernel, by decide⟩, gi7 (i := 234) (by decide +kernel) (by decide +kernel), gi7 (i := 235) (by decide +kernel) (by decide +kernel)⟩
theorem c_Mod_402 : x_cv "BracketHouseModel" 402 m_Mod_mend 1 := ⟨⟨cd_Mod_mend, in_Mod, gi7 (i := 237) (by decide +kernel) (by decide +kernel), by decide +kernel, by decide⟩, gi7 (i := 203) (by decide +kernel) (by decide +kernel), gi7 (i := 204) (by decide +kernel) (by decide +kernel)⟩
theorem c_Law_101 : x_cv "BracketHouseLaw" 101 m_Mod_strike 1 := ⟨⟨cd_Mod_strike, in_Mod, gi7 (i := 238) (by decide +kernel) (by decide +kernel), by decide +kernel, by decide⟩, gi7 (i := 239) (by decide +kernel) (by decide +kernel), gi8 (i := 0) (by decide +kernel) (by decide +kernel)⟩
theorem c_Mod_411 : x_cv "BracketHouseModel" 411 m_Mod_laysStruck 0 := ⟨⟨cd_Mod_laysStruck, in_Mod, gi8 (i := 2) (by decide +kernel) (by decide +kernel), by decide +kernel, by decide⟩, gi8 (i := 4) (by decide +kernel) (by decide +kernel), gw_sel (i := 107) (by decide +kernel) (by decide +kernel)⟩
theorem c_Mod_408 : x_cv "BracketHouseModel" 408 m_Mod_laysCut 2 := ⟨⟨cd_Mod_laysCut, in_Mod, gi8 (i := 6) (by decide +kernel) (by decide +kernel), by decide +kernel, by decide⟩, gi8 (i := 8) (by decide +kernel) (by decide +kernel), gw_sel (i := 108) (by decide +kernel) (by decide +kernel)⟩
theorem c_Mod_405 : x_cv "BracketHouseModel" 405 m_Mod_mateOf 2 := ⟨⟨cd_Mod_mateOf, in_Mod, gi8 (i := 10) (by decide +kernel) (by decide +kernel), by decide +kernel, by decide⟩, gi8 (i := 12) (by decide +kernel) (by decide +kernel), gw_sel (i := 109) (by decide +kernel) (by decide +kernel)⟩
theorem c_Law_105 : x_cv "BracketHouseLaw" 105 m_Mod_run 1 := ⟨⟨cd_Mod_run, in_Mod, gi8 (i := 14) (by decide +kernel) (by decide +kernel), by decide +kernel, by decide⟩, gi8 (i := 15) (by decide +kernel) (by decide +kernel), gi8 (i := 16) (by decide +kernel) (by decide +kernel)⟩
theorem c_Law_109 : x_cv "BracketHouseLaw" 109 m_Mod_fits 1 := ⟨⟨cd_Mod_fits, in_Mod, gi8 (i := 18) (by decide +kernel) (by decide +kernel), by decide +kernel, by decide⟩, gi8 (i := 19) (by decide +kernel) (by decide +kernel), gi8 (i := 20) (by decide +kernel) (by decide +kernel)⟩
theorem c_Law_114 : x_cv "BracketHouseLaw" 114 m_Mod_rows 2 := ⟨⟨cd_Mod_rows, in_Mod, gi8 (i := 22) (by decide +kernel) (by decide +kernel), by decide +kernel, by decide⟩, gi8 (i := 23) (by decide +kernel) (by decide +kernel), gi8 (i := 24) (by decide +kernel) (by decide +kernel)⟩
theorem k_Mod_420 : Cond.constantLong "BracketHouseModel" 420 (-1) ∈ gw := gi8 (i := 26) (by decide +kernel) (by decide +kernel)
theorem c_Mod_422 : x_cv "BracketHouseModel" 422 m_Mod_laysRows 2 := ⟨⟨cd_Mod_laysRows, in_Mod, gi8 (i := 27) (by decide +kernel) (by decide +kernel), by decide +kernel, by decide⟩, gi8 (i := 29) (by decide +kernel) (by decide +kernel), gw_sel (i := 110) (by decide +kernel) (by decide +kernel)⟩
theorem c_Mod_414 : x_cv "BracketHouseModel" 414 m_Mod_goOn 2 := ⟨⟨cd_Mod_goOn, in_Mod, gi8 (i := 31) (by decide +kernel) (by decide +kernel), by decide +kernel, by decide⟩, gi8 (i := 33) (by decide +kernel) (by decide +kernel), gw_sel (i := 111) (by decide +kernel) (by decide +kernel)⟩
theorem k_Mod_418 : Cond.constantLong "BracketHouseModel" 418 (3) ∈ gw := gi8 (i := 35) (by decide +kernel) (by decide +kernel)
theorem c_Law_121 : x_cv "BracketHouseLaw" 121 m_Mod_nth 3 := ⟨⟨cd_Mod_nth, in_Mod, gi8 (i := 36) (by decide +kernel) (by decide +kernel), by decide +kernel, by decide⟩, gi8 (i := 37) (by decide +kernel) (by decide +kernel), gi8 (i := 38) (by decide +kernel) (by decide +kernel)⟩
theorem c_Law_126 : x_cv "BracketHouseLaw" 126 m_Mod_rank 0 := ⟨⟨cd_Mod_rank, in_Mod, gi8 (i := 40) (by decide +kernel) (by decide +kernel), by decide +kernel, by decide⟩, gi8 (i := 41) (by decide +kernel) (by decide +kernel), gi8 (i := 42) (by decide +kernel) (by decide +kernel)⟩
theorem c_Mod_425 : x_cv "BracketHouseModel" 425 m_Mod_hasRank 0 := ⟨⟨cd_Mod_hasRank, in_Mod, gi8 (i := 44) (by decide +kernel) (by decide +kernel), by decide +kernel, by decide⟩, gi8 (i := 46) (by decide +kernel) (by decide +kernel), gw_sel (i := 112) (by decide +kernel) (by decide +kernel)⟩
theorem c_Law_130 : x_cv "BracketHouseLaw" 130 m_Mod_game 1 := ⟨⟨cd_Mod_game, in_Mod, gi8 (i := 48) (by decide +kernel) (by decide +kernel), by decide +kernel, by decide⟩, gi8 (i := 49) (by decide +kernel) (by decide +kernel), gi8 (i := 50) (by decide +kernel) (by decide +kernel)⟩
theorem k_Mod_437 : Cond.constant "BracketHouseModel" 437 (-100000) ∈ gw := gi8 (i := 52) (by decide +kernel) (by decide +kernel)
theorem c_Mod_438 : x_cv "BracketHouseModel" 438 m_Mod_worthAt 1 := ⟨⟨cd_Mod_worthAt, in_Mod, gi8 (i := 53) (by decide +kernel) (by decide +kernel), by decide +kernel, by decide⟩, gi8 (i := 55) (by decide +kernel) (by decide +kernel), gw_sel (i := 113) (by decide +kernel) (by decide +kernel)⟩
theorem c_Mod_441 : x_cv "BracketHouseModel" 441 m_Mod_laysGame 0 := ⟨⟨cd_Mod_laysGame, in_Mod, gi8 (i := 57) (by decide +kernel) (by decide +kernel), by decide +kernel, by decide⟩, gi8 (i := 59) (by decide +kernel) (by decide +kernel), gw_sel (i := 114) (by decide +kernel) (by decide +kernel)⟩
theorem c_Mod_428 : x_cv "BracketHouseModel" 428 m_Mod_byFirst 2 := ⟨⟨cd_Mod_byFirst, in_Mod, gi8 (i := 61) (by decide +kernel) (by decide +kernel), by decide +kernel, by decide⟩, gi8 (i := 63) (by decide +kernel) (by decide +kernel), gw_sel (i := 115) (by decide +kernel) (by decide +kernel)⟩
theorem c_Mod_431 : x_cv "BracketHouseModel" 431 m_Mod_byLast 2 := ⟨⟨cd_Mod_byLast, in_Mod, gi8 (i := 65) (by decide +kernel) (by decide +kernel), by decide +kernel, by decide⟩, gi8 (i := 67) (by decide +kernel) (by decide +kernel), gw_sel (i := 116) (by decide +kernel) (by decide +kernel)⟩
theorem c_Mod_434 : x_cs "BracketHouseModel" 434 m_Mod_greater 2 := ⟨⟨cd_Mod_greater, in_Mod, gi8 (i := 69) (by decide +kernel) (by decide +kernel), by decide +kernel, by decide⟩, gi8 (i := 70) (by decide +kernel) (by decide +kernel)⟩
theorem c_Law_134 : x_cv "BracketHouseLaw" 134 m_Mod_hide 2 := ⟨⟨cd_Mod_hide, in_Mod, gi8 (i := 72) (by decide +kernel) (by decide +kernel), by decide +kernel, by decide⟩, gi8 (i := 73) (by decide +kernel) (by decide +kernel), gi8 (i := 74) (by decide +kernel) (by decide +kernel)⟩
theorem c_Mod_444 : x_cv "BracketHouseModel" 444 m_Mod_said 0 := ⟨⟨cd_Mod_said, in_Mod, gi8 (i := 76) (by decide +kernel) (by decide +kernel), by decide +kernel, by decide⟩, gi7 (i := 127) (by decide +kernel) (by decide +kernel), gi7 (i := 128) (by decide +kernel) (by decide +kernel)⟩
theorem c_Mod_447 : x_cv "BracketHouseModel" 447 m_Mod_hasAll 3 := ⟨⟨cd_Mod_hasAll, in_Mod, gi8 (i := 77) (by decide +kernel) (by decide +kernel), by decide +kernel, by decide⟩, gi8 (i := 79) (by decide +kernel) (by decide +kernel), gw_sel (i := 117) (by decide +kernel) (by decide +kernel)⟩
theorem c_Mod_450 : x_cv "BracketHouseModel" 450 m_Mod_triesPair 3 := ⟨⟨cd_Mod_triesPair, in_Mod, gi8 (i := 81) (by decide +kernel) (by decide +kernel), by decide +kernel, by decide⟩, gi8 (i := 83) (by decide +kernel) (by decide +kernel), gw_sel (i := 118) (by decide +kernel) (by decide +kernel)⟩
theorem c_Law_139 : x_cv "BracketHouseLaw" 139 m_Mod_likely 1 := ⟨⟨cd_Mod_likely, in_Mod, gi8 (i := 85) (by decide +kernel) (by decide +kernel), by decide +kernel, by decide⟩, gi8 (i := 86) (by decide +kernel) (by decide +kernel), gi8 (i := 87) (by decide +kernel) (by decide +kernel)⟩
theorem k_Mod_454 : Cond.constantLong "BracketHouseModel" 454 (1000000000000) ∈ gw := gi8 (i := 89) (by decide +kernel) (by decide +kernel)
theorem k_Mod_456 : Cond.constantLong "BracketHouseModel" 456 (6) ∈ gw := gi8 (i := 90) (by decide +kernel) (by decide +kernel)
theorem c_Law_52 : x_cv "BracketHouseLaw" 52 m_Mod_stopped 0 := ⟨⟨cd_Mod_stopped, in_Mod, gi8 (i := 91) (by decide +kernel) (by decide +kernel), by decide +kernel, by decide⟩, gi8 (i := 92) (by decide +kernel) (by decide +kernel), gi8 (i := 93) (by decide +kernel) (by decide +kernel)⟩
theorem c_Law_44 : x_cv "BracketHouseLaw" 44 m_Mod_orders 0 := ⟨⟨cd_Mod_orders, in_Mod, gi8 (i := 95) (by decide +kernel) (by decide +kernel), by decide +kernel, by decide⟩, gi8 (i := 96) (by decide +kernel) (by decide +kernel), gi8 (i := 97) (by decide +kernel) (by decide +kernel)⟩
theorem c_Mod_467 : x_cv "BracketHouseModel" 467 m_Mod_laysAllAside 0 := ⟨⟨cd_Mod_laysAllAside, in_Mod, gi8 (i := 99) (by decide +kernel) (by decide +kernel), by decide +kernel, by decide⟩, gi8 (i := 101) (by decide +kernel) (by decide +kernel), gw_sel (i := 119) (by decide +kernel) (by decide +kernel)⟩
theorem c_Mod_458 : x_cv "BracketHouseModel" 458 m_Mod_laysAside 1 := ⟨⟨cd_Mod_laysAside, in_Mod, gi8 (i := 103) (by decide +kernel) (by decide +kernel), by decide +kernel, by decide⟩, gi8 (i := 105) (by decide +kernel) (by decide +kernel), gw_sel (i := 120) (by decide +kernel) (by decide +kernel)⟩
theorem c_Mod_473 : x_cv "BracketHouseModel" 473 m_Mod_runs 1 := ⟨⟨cd_Mod_runs, in_Mod, gi8 (i := 107) (by decide +kernel) (by decide +kernel), by decide +kernel, by decide⟩, gi8 (i := 109) (by decide +kernel) (by decide +kernel), gw_sel (i := 121) (by decide +kernel) (by decide +kernel)⟩
theorem c_Mod_497 : x_cv "BracketHouseModel" 497 m_Mod_goesAlong 2 := ⟨⟨cd_Mod_goesAlong, in_Mod, gi8 (i := 111) (by decide +kernel) (by decide +kernel), by decide +kernel, by decide⟩, gi8 (i := 113) (by decide +kernel) (by decide +kernel), gw_sel (i := 122) (by decide +kernel) (by decide +kernel)⟩
theorem c_Mod_501 : x_cv "BracketHouseModel" 501 m_Mod_obeys 0 := ⟨⟨cd_Mod_obeys, in_Mod, gi8 (i := 115) (by decide +kernel) (by decide +kernel), by decide +kernel, by decide⟩, gi8 (i := 117) (by decide +kernel) (by decide +kernel), gw_sel (i := 123) (by decide +kernel) (by decide +kernel)⟩
theorem c_Mod_493 : x_cs "BracketHouseModel" 493 m_Mod_small 1 := ⟨⟨cd_Mod_small, in_Mod, gi8 (i := 119) (by decide +kernel) (by decide +kernel), by decide +kernel, by decide⟩, gi8 (i := 120) (by decide +kernel) (by decide +kernel)⟩
theorem k_Mod_491 : Cond.constantLong "BracketHouseModel" 491 (1000000) ∈ gw := gi8 (i := 122) (by decide +kernel) (by decide +kernel)
theorem c_Mod_476 : x_cv "BracketHouseModel" 476 m_Mod_takesAllBack 0 := ⟨⟨cd_Mod_takesAllBack, in_Mod, gi8 (i := 123) (by decide +kernel) (by decide +kernel), by decide +kernel, by decide⟩, gi8 (i := 125) (by decide +kernel) (by decide +kernel), gw_sel (i := 124) (by decide +kernel) (by decide +kernel)⟩
theorem c_Mod_464 : x_cv "BracketHouseModel" 464 m_Mod_takesBack 1 := ⟨⟨cd_Mod_takesBack, in_Mod, gi8 (i := 127) (by decide +kernel) (by decide +kernel), by decide +kernel, by decide⟩, gi8 (i := 129) (by decide +kernel) (by decide +kernel), gw_sel (i := 125) (by decide +kernel) (by decide +kernel)⟩
theorem c_Law_147 : x_cv "BracketHouseLaw" 147 m_Mod_readers 2 := ⟨⟨cd_Mod_readers, in_Mod, gi8 (i := 131) (by decide +kernel) (by decide +kernel), by decide +kernel, by decide⟩, gi8 (i := 132) (by decide +kernel) (by decide +kernel), gi8 (i := 133) (by decide +kernel) (by decide +kernel)⟩
theorem c_Mod_516 : x_cv "BracketHouseModel" 516 m_Mod_readsPage 0 := ⟨⟨cd_Mod_readsPage, in_Mod, gi8 (i := 135) (by decide +kernel) (by decide +kernel), by decide +kernel, by decide⟩, gi8 (i := 137) (by decide +kernel) (by decide +kernel), gw_sel (i := 126) (by decide +kernel) (by decide +kernel)⟩
theorem c_Mod_513 : x_cv "BracketHouseModel" 513 m_Mod_draws 1 := ⟨⟨cd_Mod_draws, in_Mod, gi8 (i := 139) (by decide +kernel) (by decide +kernel), by decide +kernel, by decide⟩, gi8 (i := 141) (by decide +kernel) (by decide +kernel), gw_sel (i := 127) (by decide +kernel) (by decide +kernel)⟩
theorem k_Mod_504 : Cond.constantLong "BracketHouseModel" 504 (1103) ∈ gw := gi8 (i := 143) (by decide +kernel) (by decide +kernel)
theorem k_Mod_509 : Cond.constantLong "BracketHouseModel" 509 (12345) ∈ gw := gi8 (i := 144) (by decide +kernel) (by decide +kernel)
theorem k_Mod_511 : Cond.constantLong "BracketHouseModel" 511 (1000003) ∈ gw := gi8 (i := 145) (by decide +kernel) (by decide +kernel)
theorem c_Law_151 : x_cv "BracketHouseLaw" 151 m_Mod_drawn 1 := ⟨⟨cd_Mod_drawn, in_Mod, gi8 (i := 146) (by decide +kernel) (by decide +kernel), by decide +kernel, by decide⟩, gi8 (i := 147) (by decide +kernel) (by decide +kernel), gi8 (i := 148) (by decide +kernel) (by decide +kernel)⟩
theorem c_Law_163 : x_cv "BracketHouseLaw" 163 m_Mod_count 1 := ⟨⟨cd_Mod_count, in_Mod, gi8 (i := 150) (by decide +kernel) (by decide +kernel), by decide +kernel, by decide⟩, gi8 (i := 151) (by decide +kernel) (by decide +kernel), gi8 (i := 152) (by decide +kernel) (by decide +kernel)⟩
theorem c_Law_167 : x_cv "BracketHouseLaw" 167 m_Mod_status 0 := ⟨⟨cd_Mod_status, in_Mod, gi8 (i := 154) (by decide +kernel) (by decide +kernel), by decide +kernel, by decide⟩, gi8 (i := 155) (by decide +kernel) (by decide +kernel), gi8 (i := 156) (by decide +kernel) (by decide +kernel)⟩
