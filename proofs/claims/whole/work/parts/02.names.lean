def yG_about : MethodName := ⟨"StatRows$RegisterRow", "about", "()J"⟩
def yG_init : MethodName := ⟨"StatRows$RegisterRow", "<init>", "()V"⟩
def yG_rank : MethodName := ⟨"StatRows$RegisterRow", "rank", "(I)I"⟩
def yG_rankOf : MethodName := ⟨"StatRows$RegisterRow", "rankOf", "(I)I"⟩
def yG_tell : MethodName := ⟨"StatRows$RegisterRow", "tell", "(I)V"⟩
def yG_tellAll : MethodName := ⟨"StatRows$RegisterRow", "tellAll", "([I)V"⟩
def yJA_fill : MethodName := ⟨"java/util/Arrays", "fill", "([II)V"⟩
def yJM_max : MethodName := ⟨"java/lang/Math", "max", "(II)I"⟩
def yJM_min : MethodName := ⟨"java/lang/Math", "min", "(II)I"⟩
def yM_aboutFew : MethodName := ⟨"StatRowsModel", "aboutFew", "(I)I"⟩
def yM_areBits : MethodName := ⟨"StatRowsModel", "areBits", "(I)Z"⟩
def yM_between : MethodName := ⟨"StatRowsModel", "between", "(III)I"⟩
def yM_bucket : MethodName := ⟨"StatRowsModel", "bucket", "(III)I"⟩
def yM_chain : MethodName := ⟨"StatRowsModel", "chain", "(II)J"⟩
def yM_count : MethodName := ⟨"StatRowsModel", "count", "(II)I"⟩
def yM_countAt : MethodName := ⟨"StatRowsModel", "countAt", "(II)I"⟩
def yM_countOf : MethodName := ⟨"StatRowsModel", "countOf", "(I)I"⟩
def yM_different : MethodName := ⟨"StatRowsModel", "different", "(IZ)I"⟩
def yM_distinct : MethodName := ⟨"StatRowsModel", "distinct", "(II)J"⟩
def yM_drop : MethodName := ⟨"StatRowsModel", "drop", "(III)I"⟩
def yM_estimate : MethodName := ⟨"StatRowsModel", "estimate", "(III)J"⟩
def yM_find : MethodName := ⟨"StatRowsModel", "find", "(III)I"⟩
def yM_fits : MethodName := ⟨"StatRowsModel", "fits", "(II)Z"⟩
def yM_forget : MethodName := ⟨"StatRowsModel", "forget", "(I)I"⟩
def yM_greatest : MethodName := ⟨"StatRowsModel", "greatest", "(II)I"⟩
def yM_hash : MethodName := ⟨"StatRowsModel", "hash", "(I)I"⟩
def yM_init : MethodName := ⟨"StatRowsModel", "<init>", "()V"⟩
def yM_isPredicate : MethodName := ⟨"StatRowsModel", "isPredicate", "(I)Z"⟩
def yM_isSampled : MethodName := ⟨"StatRowsModel", "isSampled", "(I)Z"⟩
def yM_isTerm : MethodName := ⟨"StatRowsModel", "isTerm", "(I)Z"⟩
def yM_matches : MethodName := ⟨"StatRowsModel", "matches", "(I)I"⟩
def yM_pairs : MethodName := ⟨"StatRowsModel", "pairs", "(IIZZ)J"⟩
def yM_pattern : MethodName := ⟨"StatRowsModel", "pattern", "(III)I"⟩
def yM_quantile : MethodName := ⟨"StatRowsModel", "quantile", "(II)I"⟩
def yM_range : MethodName := ⟨"StatRowsModel", "range", "(III)I"⟩
def yM_register : MethodName := ⟨"StatRowsModel", "register", "(II)I"⟩
def yM_registerOf : MethodName := ⟨"StatRowsModel", "registerOf", "(II)I"⟩
def yM_sample : MethodName := ⟨"StatRowsModel", "sample", "(II)I"⟩
def yM_star : MethodName := ⟨"StatRowsModel", "star", "(II)J"⟩
def yM_told : MethodName := ⟨"StatRowsModel", "told", "(I)I"⟩
def yM_triple : MethodName := ⟨"StatRowsModel", "triple", "(III)I"⟩
def yM_version : MethodName := ⟨"StatRowsModel", "version", "()I"⟩
def yP_allows : MethodName := ⟨"StatRows$PatternRow", "allows", "(II)Z"⟩
def yP_goesWith : MethodName := ⟨"StatRows$PatternRow", "goesWith", "(IIII)Z"⟩
def yP_has : MethodName := ⟨"StatRows$PatternRow", "has", "(I)Z"⟩
def yP_init : MethodName := ⟨"StatRows$PatternRow", "<init>", "()V"⟩
def yP_rowOf : MethodName := ⟨"StatRows$PatternRow", "rowOf", "(III)I"⟩
def yP_size : MethodName := ⟨"StatRows$PatternRow", "size", "()I"⟩
def yT_end : MethodName := ⟨"StatRows$TripleRow", "end", "(I)I"⟩
def yT_init : MethodName := ⟨"StatRows$TripleRow", "<init>", "()V"⟩
def yT_isAt : MethodName := ⟨"StatRows$TripleRow", "isAt", "(III)Z"⟩
def yT_isSampled : MethodName := ⟨"StatRows$TripleRow", "isSampled", "(I)Z"⟩
def yT_moveStartsAfter : MethodName := ⟨"StatRows$TripleRow", "moveStartsAfter", "(II)V"⟩
def yT_objectAt : MethodName := ⟨"StatRows$TripleRow", "objectAt", "(I)I"⟩
def yT_pairAt : MethodName := ⟨"StatRows$TripleRow", "pairAt", "(I)I"⟩
def yT_placeOf : MethodName := ⟨"StatRows$TripleRow", "placeOf", "(II)I"⟩
def yT_put : MethodName := ⟨"StatRows$TripleRow", "put", "(II)I"⟩
def yT_remove : MethodName := ⟨"StatRows$TripleRow", "remove", "(II)I"⟩
def yT_size : MethodName := ⟨"StatRows$TripleRow", "size", "()I"⟩
def yT_sizeOf : MethodName := ⟨"StatRows$TripleRow", "sizeOf", "(I)I"⟩
def yT_start : MethodName := ⟨"StatRows$TripleRow", "start", "(I)I"⟩
def yT_subjectAt : MethodName := ⟨"StatRows$TripleRow", "subjectAt", "(I)I"⟩
def yV_ended : MethodName := ⟨"StatRows$VersionRow", "ended", "()I"⟩
def yV_finish : MethodName := ⟨"StatRows$VersionRow", "finish", "(LStatRows$TripleRow;)I"⟩
def yV_forgetBelow : MethodName := ⟨"StatRows$VersionRow", "forgetBelow", "(I)I"⟩
def yV_hasEnded : MethodName := ⟨"StatRows$VersionRow", "hasEnded", "(I)Z"⟩
def yV_init : MethodName := ⟨"StatRows$VersionRow", "<init>", "()V"⟩
def yV_kept : MethodName := ⟨"StatRows$VersionRow", "kept", "()I"⟩
def yV_place : MethodName := ⟨"StatRows$VersionRow", "place", "(II)I"⟩
def yV_sizeAt : MethodName := ⟨"StatRows$VersionRow", "sizeAt", "(II)I"⟩
def yX_bucket : MethodName := ⟨"StatRows", "bucket", "(III)I"⟩
def yX_chain : MethodName := ⟨"StatRows", "chain", "(II)J"⟩
def yX_clearTally : MethodName := ⟨"StatRows", "clearTally", "()V"⟩
def yX_count : MethodName := ⟨"StatRows", "count", "(II)I"⟩
def yX_countAt : MethodName := ⟨"StatRows", "countAt", "(II)I"⟩
def yX_differentInTally : MethodName := ⟨"StatRows", "differentInTally", "()I"⟩
def yX_distinct : MethodName := ⟨"StatRows", "distinct", "(II)J"⟩
def yX_drop : MethodName := ⟨"StatRows", "drop", "(III)I"⟩
def yX_estimate : MethodName := ⟨"StatRows", "estimate", "(III)J"⟩
def yX_forget : MethodName := ⟨"StatRows", "forget", "(I)I"⟩
def yX_hash : MethodName := ⟨"StatRows", "hash", "(I)I"⟩
def yX_init : MethodName := ⟨"StatRows", "<init>", "()V"⟩
def yX_isNumber : MethodName := ⟨"StatRows", "isNumber", "(I)Z"⟩
def yX_isNumberOrAny : MethodName := ⟨"StatRows", "isNumberOrAny", "(I)Z"⟩
def yX_isPredicate : MethodName := ⟨"StatRows", "isPredicate", "(I)Z"⟩
def yX_isPredicateOrAny : MethodName := ⟨"StatRows", "isPredicateOrAny", "(I)Z"⟩
def yX_isPredicateSet : MethodName := ⟨"StatRows", "isPredicateSet", "(I)Z"⟩
def yX_isTriple : MethodName := ⟨"StatRows", "isTriple", "(III)Z"⟩
def yX_joinEstimate : MethodName := ⟨"StatRows", "joinEstimate", "(III)J"⟩
def yX_matches : MethodName := ⟨"StatRows", "matches", "(I)I"⟩
def yX_objectsOf : MethodName := ⟨"StatRows", "objectsOf", "(I)I"⟩
def yX_pair : MethodName := ⟨"StatRows", "pair", "(II)I"⟩
def yX_pattern : MethodName := ⟨"StatRows", "pattern", "(III)I"⟩
def yX_quantile : MethodName := ⟨"StatRows", "quantile", "(II)I"⟩
def yX_range : MethodName := ⟨"StatRows", "range", "(III)I"⟩
def yX_register : MethodName := ⟨"StatRows", "register", "(II)I"⟩
def yX_sample : MethodName := ⟨"StatRows", "sample", "(II)I"⟩
def yX_sampledChainEstimate : MethodName := ⟨"StatRows", "sampledChainEstimate", "(II)J"⟩
def yX_shared : MethodName := ⟨"StatRows", "shared", "(IIII)I"⟩
def yX_star : MethodName := ⟨"StatRows", "star", "(II)J"⟩
def yX_subjectsOf : MethodName := ⟨"StatRows", "subjectsOf", "(I)I"⟩
def yX_sumAtSubjects : MethodName := ⟨"StatRows", "sumAtSubjects", "(IZ)J"⟩
def yX_tallyObjects : MethodName := ⟨"StatRows", "tallyObjects", "(IZ)V"⟩
def yX_tallySubjects : MethodName := ⟨"StatRows", "tallySubjects", "(I)V"⟩
def yX_tallySubjectsOfAll : MethodName := ⟨"StatRows", "tallySubjectsOfAll", "(I)V"⟩
def yX_told : MethodName := ⟨"StatRows", "told", "(I)I"⟩
def yX_triple : MethodName := ⟨"StatRows", "triple", "(III)I"⟩
def yX_version : MethodName := ⟨"StatRows", "version", "()I"⟩
def yX_withObjectBetween : MethodName := ⟨"StatRows", "withObjectBetween", "(III)I"⟩
abbrev cX_init : ByteArray := prog_1_method_1_code
abbrev cT_init : ByteArray := prog_4_method_1_code
abbrev cP_init : ByteArray := prog_2_method_1_code
abbrev cV_init : ByteArray := prog_5_method_1_code
abbrev cG_init : ByteArray := prog_3_method_1_code
abbrev cX_triple : ByteArray := prog_1_method_2_code
abbrev cX_isTriple : ByteArray := prog_1_method_24_code
abbrev cX_isNumber : ByteArray := prog_1_method_20_code
abbrev cX_isPredicate : ByteArray := prog_1_method_22_code
abbrev cX_pair : ByteArray := prog_1_method_26_code
abbrev cT_put : ByteArray := prog_4_method_10_code
abbrev cT_placeOf : ByteArray := prog_4_method_12_code
abbrev cT_end : ByteArray := prog_4_method_3_code
abbrev cT_start : ByteArray := prog_4_method_2_code
abbrev cT_isAt : ByteArray := prog_4_method_13_code
abbrev cT_size : ByteArray := prog_4_method_5_code
abbrev cT_moveStartsAfter : ByteArray := prog_4_method_14_code
abbrev cX_drop : ByteArray := prog_1_method_3_code
abbrev cT_remove : ByteArray := prog_4_method_11_code
abbrev cX_count : ByteArray := prog_1_method_4_code
abbrev cT_sizeOf : ByteArray := prog_4_method_4_code
abbrev cX_subjectsOf : ByteArray := prog_1_method_35_code
abbrev cX_clearTally : ByteArray := prog_1_method_29_code
abbrev cJA_fill : ByteArray := prog_10_method_103_code
abbrev cX_tallySubjects : ByteArray := prog_1_method_30_code
abbrev cT_subjectAt : ByteArray := prog_4_method_7_code
abbrev cX_differentInTally : ByteArray := prog_1_method_33_code
abbrev cX_objectsOf : ByteArray := prog_1_method_36_code
abbrev cX_tallyObjects : ByteArray := prog_1_method_32_code
abbrev cT_isSampled : ByteArray := prog_4_method_9_code
abbrev cX_hash : ByteArray := prog_1_method_27_code
abbrev cT_objectAt : ByteArray := prog_4_method_8_code
abbrev cX_chain : ByteArray := prog_1_method_5_code
abbrev cX_sumAtSubjects : ByteArray := prog_1_method_34_code
abbrev cX_star : ByteArray := prog_1_method_6_code
abbrev cX_bucket : ByteArray := prog_1_method_7_code
abbrev cX_withObjectBetween : ByteArray := prog_1_method_37_code
abbrev cX_quantile : ByteArray := prog_1_method_8_code
abbrev cX_register : ByteArray := prog_1_method_9_code
abbrev cX_isPredicateSet : ByteArray := prog_1_method_25_code
abbrev cX_tallySubjectsOfAll : ByteArray := prog_1_method_31_code
abbrev cG_tellAll : ByteArray := prog_3_method_3_code
abbrev cG_tell : ByteArray := prog_3_method_5_code
abbrev cG_rankOf : ByteArray := prog_3_method_6_code
abbrev cJM_max : ByteArray := prog_8_method_65_code
abbrev cG_rank : ByteArray := prog_3_method_2_code
abbrev cX_distinct : ByteArray := prog_1_method_10_code
abbrev cG_about : ByteArray := prog_3_method_4_code
abbrev cX_estimate : ByteArray := prog_1_method_11_code
abbrev cX_joinEstimate : ByteArray := prog_1_method_38_code
abbrev cX_sampledChainEstimate : ByteArray := prog_1_method_39_code
abbrev cX_range : ByteArray := prog_1_method_12_code
abbrev cX_shared : ByteArray := prog_1_method_28_code
abbrev cJM_min : ByteArray := prog_8_method_69_code
abbrev cX_sample : ByteArray := prog_1_method_13_code
abbrev cT_pairAt : ByteArray := prog_4_method_6_code
abbrev cX_pattern : ByteArray := prog_1_method_14_code
abbrev cX_isNumberOrAny : ByteArray := prog_1_method_21_code
abbrev cX_isPredicateOrAny : ByteArray := prog_1_method_23_code
abbrev cP_rowOf : ByteArray := prog_2_method_4_code
abbrev cX_matches : ByteArray := prog_1_method_15_code
abbrev cP_has : ByteArray := prog_2_method_3_code
abbrev cP_goesWith : ByteArray := prog_2_method_5_code
abbrev cP_allows : ByteArray := prog_2_method_6_code
abbrev cX_version : ByteArray := prog_1_method_16_code
abbrev cV_finish : ByteArray := prog_5_method_4_code
abbrev cV_kept : ByteArray := prog_5_method_3_code
abbrev cV_place : ByteArray := prog_5_method_8_code
abbrev cX_countAt : ByteArray := prog_1_method_17_code
abbrev cV_sizeAt : ByteArray := prog_5_method_5_code
abbrev cV_hasEnded : ByteArray := prog_5_method_7_code
abbrev cX_forget : ByteArray := prog_1_method_18_code
abbrev cV_forgetBelow : ByteArray := prog_5_method_6_code
abbrev cX_told : ByteArray := prog_1_method_19_code
abbrev cP_size : ByteArray := prog_2_method_2_code
abbrev cV_ended : ByteArray := prog_5_method_2_code
abbrev cM_init : ByteArray := prog_7_method_1_code
abbrev cM_triple : ByteArray := prog_7_method_5_code
abbrev cM_isTerm : ByteArray := prog_7_method_2_code
abbrev cM_isPredicate : ByteArray := prog_7_method_3_code
abbrev cM_find : ByteArray := prog_7_method_4_code
abbrev cM_drop : ByteArray := prog_7_method_6_code
abbrev cM_count : ByteArray := prog_7_method_9_code
abbrev cM_countOf : ByteArray := prog_7_method_7_code
abbrev cM_different : ByteArray := prog_7_method_8_code
abbrev cM_chain : ByteArray := prog_7_method_13_code
abbrev cM_pairs : ByteArray := prog_7_method_12_code
abbrev cM_isSampled : ByteArray := prog_7_method_11_code
abbrev cM_hash : ByteArray := prog_7_method_10_code
abbrev cM_star : ByteArray := prog_7_method_14_code
abbrev cM_bucket : ByteArray := prog_7_method_16_code
abbrev cM_between : ByteArray := prog_7_method_15_code
abbrev cM_quantile : ByteArray := prog_7_method_17_code
abbrev cM_register : ByteArray := prog_7_method_20_code
abbrev cM_areBits : ByteArray := prog_7_method_19_code
abbrev cM_registerOf : ByteArray := prog_7_method_18_code
abbrev cM_distinct : ByteArray := prog_7_method_22_code
abbrev cM_aboutFew : ByteArray := prog_7_method_21_code
abbrev cM_estimate : ByteArray := prog_7_method_24_code
abbrev cM_greatest : ByteArray := prog_7_method_23_code
abbrev cM_range : ByteArray := prog_7_method_25_code
abbrev cM_sample : ByteArray := prog_7_method_26_code
abbrev cM_pattern : ByteArray := prog_7_method_27_code
abbrev cM_matches : ByteArray := prog_7_method_29_code
abbrev cM_fits : ByteArray := prog_7_method_28_code
abbrev cM_version : ByteArray := prog_7_method_30_code
abbrev cM_countAt : ByteArray := prog_7_method_31_code
abbrev cM_forget : ByteArray := prog_7_method_32_code
abbrev cM_told : ByteArray := prog_7_method_33_code
def TT : u_T := fun k => match k with
  | 0 => ("StatRows$TripleRow", "pairs", "[I", true)
  | _ => ("StatRows$TripleRow", "starts", "[I", true)
def tyT : Nat → FieldType := fun k => match k with
  | 0 => .array .int
  | _ => .array .int
theorem nmT : ∀ a, a < 2 → ∀ b, b < 2 → a ≠ b → (TT a).2.1 ≠ (TT b).2.1 := by decide +kernel
theorem okT : ∀ k, k < 2 → parseFieldDescriptor (TT k).2.2.1 = some (tyT k) := by decide +kernel
def TP : u_T := fun k => match k with
  | 0 => ("StatRows$PatternRow", "subjects", "[I", true)
  | 1 => ("StatRows$PatternRow", "predicates", "[I", true)
  | 2 => ("StatRows$PatternRow", "objects", "[I", true)
  | _ => ("StatRows$PatternRow", "used", "I", false)
def tyP : Nat → FieldType := fun k => match k with
  | 0 => .array .int
  | 1 => .array .int
  | 2 => .array .int
  | _ => .int
theorem nmP : ∀ a, a < 4 → ∀ b, b < 4 → a ≠ b → (TP a).2.1 ≠ (TP b).2.1 := by decide +kernel
theorem okP : ∀ k, k < 4 → parseFieldDescriptor (TP k).2.2.1 = some (tyP k) := by decide +kernel
def TV : u_T := fun k => match k with
  | 0 => ("StatRows$VersionRow", "sizes", "[I", true)
  | 1 => ("StatRows$VersionRow", "oldest", "I", false)
  | _ => ("StatRows$VersionRow", "next", "I", false)
def tyV : Nat → FieldType := fun k => match k with
  | 0 => .array .int
  | 1 => .int
  | _ => .int
theorem nmV : ∀ a, a < 3 → ∀ b, b < 3 → a ≠ b → (TV a).2.1 ≠ (TV b).2.1 := by decide +kernel
theorem okV : ∀ k, k < 3 → parseFieldDescriptor (TV k).2.2.1 = some (tyV k) := by decide +kernel
def TG : u_T := fun k => match k with
  | _ => ("StatRows$RegisterRow", "ranks", "[I", true)
def tyG : Nat → FieldType := fun k => match k with
  | _ => .array .int
theorem nmG : ∀ a, a < 1 → ∀ b, b < 1 → a ≠ b → (TG a).2.1 ≠ (TG b).2.1 := by decide +kernel
theorem okG : ∀ k, k < 1 → parseFieldDescriptor (TG k).2.2.1 = some (tyG k) := by decide +kernel
def TX : u_T := fun k => match k with
  | 0 => ("StatRows", "triples", "LStatRows$TripleRow;", true)
  | 1 => ("StatRows", "patterns", "LStatRows$PatternRow;", true)
  | 2 => ("StatRows", "versions", "LStatRows$VersionRow;", true)
  | 3 => ("StatRows", "registers", "LStatRows$RegisterRow;", true)
  | _ => ("StatRows", "tally", "[I", true)
def tyX : Nat → FieldType := fun k => match k with
  | 0 => .object "StatRows$TripleRow"
  | 1 => .object "StatRows$PatternRow"
  | 2 => .object "StatRows$VersionRow"
  | 3 => .object "StatRows$RegisterRow"
  | _ => .array .int
theorem nmX : ∀ a, a < 5 → ∀ b, b < 5 → a ≠ b → (TX a).2.1 ≠ (TX b).2.1 := by decide +kernel
theorem okX : ∀ k, k < 5 → parseFieldDescriptor (TX k).2.2.1 = some (tyX k) := by decide +kernel
def TM : u_T := fun k => match k with
  | 0 => ("StatRowsModel", "triples", "I", false)
  | 1 => ("StatRowsModel", "subjects", "[I", true)
  | 2 => ("StatRowsModel", "predicates", "[I", true)
  | 3 => ("StatRowsModel", "objects", "[I", true)
  | 4 => ("StatRowsModel", "patterns", "I", false)
  | 5 => ("StatRowsModel", "asked", "[I", true)
  | 6 => ("StatRowsModel", "ended", "I", false)
  | 7 => ("StatRowsModel", "firstKept", "I", false)
  | 8 => ("StatRowsModel", "counts", "[I", true)
  | _ => ("StatRowsModel", "seen", "[Z", true)
def tyM : Nat → FieldType := fun k => match k with
  | 0 => .int
  | 1 => .array .int
  | 2 => .array .int
  | 3 => .array .int
  | 4 => .int
  | 5 => .array .int
  | 6 => .int
  | 7 => .int
  | 8 => .array .int
  | _ => .array .boolean
theorem nmM : ∀ a, a < 10 → ∀ b, b < 10 → a ≠ b → (TM a).2.1 ≠ (TM b).2.1 := by decide +kernel
theorem okM : ∀ k, k < 10 → parseFieldDescriptor (TM k).2.2.1 = some (tyM k) := by decide +kernel
abbrev vwCl : List vw_C := [("StatRows$TripleRow", TT, 2), ("StatRows$PatternRow", TP, 4), ("StatRows$VersionRow", TV, 3), ("StatRows$RegisterRow", TG, 1), ("StatRows", TX, 5), ("StatRowsModel", TM, 10)]
def W0 : List Cond := lw_tbl.filter goodWord
theorem w0_tbl : ∀ w ∈ W0, w ∈ lw_tbl := fun w h => (List.mem_filter.mp h).1
theorem w0_good {w : Cond} (h : w ∈ W0) : (w.onTables && w.keeps) = true ∨ ∃ ty, w = .arrayClass ty := good_of_word (List.mem_filter.mp h).2
theorem w0_in {w : Cond} (i : Nat) (h : tables_1[i]? = some w) (hg : goodWord w = true) : w ∈ W0 := List.mem_filter.mpr ⟨List.mem_append_right _ (List.mem_of_getElem? h), hg⟩
theorem w0_sel {w : Cond} (i : Nat) (h : (k2_sels lw_privs)[i]? = some w) (hg : goodWord w = true) : w ∈ W0 := List.mem_filter.mpr ⟨List.mem_append_left _ (List.mem_of_getElem? h), hg⟩
theorem wd0 : Cond.initialized "StatRowsLaw" ∈ W0 := w0_in 0 (by decide +kernel) rfl
theorem wd1 : Cond.initialized "StatRows" ∈ W0 := w0_in 1 (by decide +kernel) rfl
theorem wd2 : Cond.initialized "StatRows$TripleRow" ∈ W0 := w0_in 2 (by decide +kernel) rfl
theorem wd3 : Cond.initialized "StatRows$PatternRow" ∈ W0 := w0_in 3 (by decide +kernel) rfl
theorem wd4 : Cond.initialized "StatRows$VersionRow" ∈ W0 := w0_in 4 (by decide +kernel) rfl
theorem wd5 : Cond.initialized "StatRows$RegisterRow" ∈ W0 := w0_in 5 (by decide +kernel) rfl
theorem wd6 : Cond.initialized "StatRowsModel" ∈ W0 := w0_in 6 (by decide +kernel) rfl
theorem wd7 : Cond.initialized "java/lang/System" ∈ W0 := w0_in 7 (by decide +kernel) rfl
theorem wd8 : Cond.initialized "java/util/Arrays" ∈ W0 := w0_in 8 (by decide +kernel) rfl
theorem wd9 : Cond.initialized "java/lang/Math" ∈ W0 := w0_in 9 (by decide +kernel) rfl
theorem wd10 : Cond.classLink "StatRowsLaw" 7 "StatRows" ∈ W0 := w0_in 10 (by decide +kernel) rfl
theorem wd11 : Cond.instantiable "StatRows" 5 ∈ W0 := w0_in 11 (by decide +kernel) rfl
theorem wd12 : Cond.methodLink "StatRowsLaw" 9 yX_init ∈ W0 := w0_in 12 (by decide +kernel) rfl
theorem wd13 : Cond.instanceMethod yX_init ∈ W0 := w0_in 13 (by decide +kernel) rfl
set_option maxRecDepth 20000 in
theorem wd14 : Cond.code yX_init cX_init 1 none ∈ W0 := w0_in 14 rfl rfl
theorem wd15 : Cond.methodLink "StatRows" 1 objectInit ∈ W0 := w0_in 15 (by decide +kernel) rfl
theorem wd16 : Cond.instanceMethod objectInit ∈ W0 := w0_in 16 (by decide +kernel) rfl
set_option maxRecDepth 20000 in
theorem wd17 : Cond.code objectInit ⟨#[0xb1]⟩ 1 none ∈ W0 := w0_in 17 rfl rfl
theorem wd18 : Cond.classLink "StatRows" 7 "StatRows$TripleRow" ∈ W0 := w0_in 18 (by decide +kernel) rfl
theorem wd19 : Cond.instantiable "StatRows$TripleRow" 2 ∈ W0 := w0_in 19 (by decide +kernel) rfl
theorem wd20 : Cond.methodLink "StatRows" 9 yT_init ∈ W0 := w0_in 20 (by decide +kernel) rfl
theorem wd21 : Cond.instanceMethod yT_init ∈ W0 := w0_in 21 (by decide +kernel) rfl
set_option maxRecDepth 20000 in
theorem wd22 : Cond.code yT_init cT_init 1 none ∈ W0 := w0_in 22 rfl rfl
theorem wd23 : Cond.methodLink "StatRows$TripleRow" 3 objectInit ∈ W0 := w0_in 23 (by decide +kernel) rfl
theorem wd24 : Cond.fieldLink "StatRows$TripleRow" 11 "StatRows$TripleRow" "pairs" "[I" ∈ W0 := w0_in 24 (by decide +kernel) rfl
theorem wd25 : Cond.fieldLink "StatRows$TripleRow" 15 "StatRows$TripleRow" "starts" "[I" ∈ W0 := w0_in 25 (by decide +kernel) rfl
theorem wd26 : Cond.laysFinal "StatRows$TripleRow" "StatRows$TripleRow" "pairs" "[I" ∈ W0 := w0_in 26 (by decide +kernel) rfl
theorem wd28 : Cond.laysFinal "StatRows$TripleRow" "StatRows$TripleRow" "starts" "[I" ∈ W0 := w0_in 28 (by decide +kernel) rfl
theorem wd31 : Cond.arrayClass .int ∈ W0 := w0_in 31 (by decide +kernel) rfl
theorem wd32 : Cond.classLink "StatRows" 16 "StatRows$PatternRow" ∈ W0 := w0_in 32 (by decide +kernel) rfl
theorem wd33 : Cond.instantiable "StatRows$PatternRow" 4 ∈ W0 := w0_in 33 (by decide +kernel) rfl
theorem wd34 : Cond.methodLink "StatRows" 18 yP_init ∈ W0 := w0_in 34 (by decide +kernel) rfl
theorem wd35 : Cond.instanceMethod yP_init ∈ W0 := w0_in 35 (by decide +kernel) rfl
set_option maxRecDepth 20000 in
theorem wd36 : Cond.code yP_init cP_init 1 none ∈ W0 := w0_in 36 rfl rfl
theorem wd37 : Cond.methodLink "StatRows$PatternRow" 3 objectInit ∈ W0 := w0_in 37 (by decide +kernel) rfl
theorem wd38 : Cond.fieldLink "StatRows$PatternRow" 11 "StatRows$PatternRow" "subjects" "[I" ∈ W0 := w0_in 38 (by decide +kernel) rfl
theorem wd39 : Cond.fieldLink "StatRows$PatternRow" 15 "StatRows$PatternRow" "predicates" "[I" ∈ W0 := w0_in 39 (by decide +kernel) rfl
theorem wd40 : Cond.fieldLink "StatRows$PatternRow" 18 "StatRows$PatternRow" "objects" "[I" ∈ W0 := w0_in 40 (by decide +kernel) rfl
theorem wd41 : Cond.fieldLink "StatRows$PatternRow" 21 "StatRows$PatternRow" "used" "I" ∈ W0 := w0_in 41 (by decide +kernel) rfl
theorem wd42 : Cond.laysFinal "StatRows$PatternRow" "StatRows$PatternRow" "subjects" "[I" ∈ W0 := w0_in 42 (by decide +kernel) rfl
theorem wd44 : Cond.laysFinal "StatRows$PatternRow" "StatRows$PatternRow" "predicates" "[I" ∈ W0 := w0_in 44 (by decide +kernel) rfl
theorem wd46 : Cond.laysFinal "StatRows$PatternRow" "StatRows$PatternRow" "objects" "[I" ∈ W0 := w0_in 46 (by decide +kernel) rfl
theorem wd48 : Cond.lays "StatRows$PatternRow" "StatRows$PatternRow" "used" "I" ∈ W0 := w0_in 48 (by decide +kernel) rfl
theorem wd51 : Cond.classLink "StatRows" 23 "StatRows$VersionRow" ∈ W0 := w0_in 51 (by decide +kernel) rfl
theorem wd52 : Cond.instantiable "StatRows$VersionRow" 3 ∈ W0 := w0_in 52 (by decide +kernel) rfl
theorem wd53 : Cond.methodLink "StatRows" 25 yV_init ∈ W0 := w0_in 53 (by decide +kernel) rfl
theorem wd54 : Cond.instanceMethod yV_init ∈ W0 := w0_in 54 (by decide +kernel) rfl
set_option maxRecDepth 20000 in
theorem wd55 : Cond.code yV_init cV_init 1 none ∈ W0 := w0_in 55 rfl rfl
theorem wd56 : Cond.methodLink "StatRows$VersionRow" 3 objectInit ∈ W0 := w0_in 56 (by decide +kernel) rfl
theorem wd57 : Cond.fieldLink "StatRows$VersionRow" 11 "StatRows$VersionRow" "sizes" "[I" ∈ W0 := w0_in 57 (by decide +kernel) rfl
theorem wd58 : Cond.fieldLink "StatRows$VersionRow" 15 "StatRows$VersionRow" "oldest" "I" ∈ W0 := w0_in 58 (by decide +kernel) rfl
theorem wd59 : Cond.fieldLink "StatRows$VersionRow" 19 "StatRows$VersionRow" "next" "I" ∈ W0 := w0_in 59 (by decide +kernel) rfl
theorem wd60 : Cond.laysFinal "StatRows$VersionRow" "StatRows$VersionRow" "sizes" "[I" ∈ W0 := w0_in 60 (by decide +kernel) rfl
theorem wd62 : Cond.lays "StatRows$VersionRow" "StatRows$VersionRow" "oldest" "I" ∈ W0 := w0_in 62 (by decide +kernel) rfl
theorem wd64 : Cond.lays "StatRows$VersionRow" "StatRows$VersionRow" "next" "I" ∈ W0 := w0_in 64 (by decide +kernel) rfl
theorem wd67 : Cond.classLink "StatRows" 30 "StatRows$RegisterRow" ∈ W0 := w0_in 67 (by decide +kernel) rfl
theorem wd68 : Cond.instantiable "StatRows$RegisterRow" 1 ∈ W0 := w0_in 68 (by decide +kernel) rfl
theorem wd69 : Cond.methodLink "StatRows" 32 yG_init ∈ W0 := w0_in 69 (by decide +kernel) rfl
theorem wd70 : Cond.instanceMethod yG_init ∈ W0 := w0_in 70 (by decide +kernel) rfl
set_option maxRecDepth 20000 in
theorem wd71 : Cond.code yG_init cG_init 1 none ∈ W0 := w0_in 71 rfl rfl
theorem wd72 : Cond.methodLink "StatRows$RegisterRow" 1 objectInit ∈ W0 := w0_in 72 (by decide +kernel) rfl
theorem wd73 : Cond.fieldLink "StatRows$RegisterRow" 9 "StatRows$RegisterRow" "ranks" "[I" ∈ W0 := w0_in 73 (by decide +kernel) rfl
theorem wd74 : Cond.laysFinal "StatRows$RegisterRow" "StatRows$RegisterRow" "ranks" "[I" ∈ W0 := w0_in 74 (by decide +kernel) rfl
theorem wd77 : Cond.fieldLink "StatRows" 10 "StatRows" "triples" "LStatRows$TripleRow;" ∈ W0 := w0_in 77 (by decide +kernel) rfl
theorem wd78 : Cond.fieldLink "StatRows" 19 "StatRows" "patterns" "LStatRows$PatternRow;" ∈ W0 := w0_in 78 (by decide +kernel) rfl
theorem wd79 : Cond.fieldLink "StatRows" 26 "StatRows" "versions" "LStatRows$VersionRow;" ∈ W0 := w0_in 79 (by decide +kernel) rfl
theorem wd80 : Cond.fieldLink "StatRows" 33 "StatRows" "registers" "LStatRows$RegisterRow;" ∈ W0 := w0_in 80 (by decide +kernel) rfl
theorem wd81 : Cond.fieldLink "StatRows" 37 "StatRows" "tally" "[I" ∈ W0 := w0_in 81 (by decide +kernel) rfl
theorem wd82 : Cond.laysFinal "StatRows" "StatRows" "triples" "LStatRows$TripleRow;" ∈ W0 := w0_in 82 (by decide +kernel) rfl
theorem wd84 : Cond.laysFinal "StatRows" "StatRows" "patterns" "LStatRows$PatternRow;" ∈ W0 := w0_in 84 (by decide +kernel) rfl
theorem wd86 : Cond.laysFinal "StatRows" "StatRows" "versions" "LStatRows$VersionRow;" ∈ W0 := w0_in 86 (by decide +kernel) rfl
theorem wd88 : Cond.laysFinal "StatRows" "StatRows" "registers" "LStatRows$RegisterRow;" ∈ W0 := w0_in 88 (by decide +kernel) rfl
theorem wd90 : Cond.laysFinal "StatRows" "StatRows" "tally" "[I" ∈ W0 := w0_in 90 (by decide +kernel) rfl
theorem wd93 : Cond.methodLink "StatRowsLaw" 13 yX_triple ∈ W0 := w0_in 93 (by decide +kernel) rfl
theorem wd94 : Cond.instanceMethod yX_triple ∈ W0 := w0_in 94 (by decide +kernel) rfl
theorem wd95 : Cond.selects "StatRows" yX_triple yX_triple ∈ W0 := w0_in 95 (by decide +kernel) rfl
set_option maxRecDepth 20000 in
theorem wd96 : Cond.code yX_triple cX_triple 4 (some .int) ∈ W0 := w0_in 96 rfl rfl
theorem wd97 : Cond.methodLink "StatRows" 41 yX_isTriple ∈ W0 := w0_in 97 (by decide +kernel) rfl
theorem wd98 : Cond.static yX_isTriple ∈ W0 := w0_in 98 (by decide +kernel) rfl
set_option maxRecDepth 20000 in
theorem wd99 : Cond.code yX_isTriple cX_isTriple 3 (some .boolean) ∈ W0 := w0_in 99 rfl rfl
theorem wd100 : Cond.methodLink "StatRows" 177 yX_isNumber ∈ W0 := w0_in 100 (by decide +kernel) rfl
theorem wd101 : Cond.static yX_isNumber ∈ W0 := w0_in 101 (by decide +kernel) rfl
set_option maxRecDepth 20000 in
theorem wd102 : Cond.code yX_isNumber cX_isNumber 1 (some .boolean) ∈ W0 := w0_in 102 rfl rfl
theorem wd103 : Cond.methodLink "StatRows" 55 yX_isPredicate ∈ W0 := w0_in 103 (by decide +kernel) rfl
theorem wd104 : Cond.static yX_isPredicate ∈ W0 := w0_in 104 (by decide +kernel) rfl
set_option maxRecDepth 20000 in
theorem wd105 : Cond.code yX_isPredicate cX_isPredicate 1 (some .boolean) ∈ W0 := w0_in 105 rfl rfl
theorem wd106 : Cond.methodLink "StatRows" 45 yX_pair ∈ W0 := w0_in 106 (by decide +kernel) rfl
theorem wd107 : Cond.static yX_pair ∈ W0 := w0_in 107 (by decide +kernel) rfl
set_option maxRecDepth 20000 in
theorem wd108 : Cond.code yX_pair cX_pair 2 (some .int) ∈ W0 := w0_in 108 rfl rfl
theorem wd109 : Cond.methodLink "StatRows" 49 yT_put ∈ W0 := w0_in 109 (by decide +kernel) rfl
theorem wd110 : Cond.instanceMethod yT_put ∈ W0 := w0_in 110 (by decide +kernel) rfl
theorem wd111 : Cond.selects "StatRows$TripleRow" yT_put yT_put ∈ W0 := w0_in 111 (by decide +kernel) rfl
set_option maxRecDepth 20000 in
theorem wd112 : Cond.code yT_put cT_put 4 (some .int) ∈ W0 := w0_in 112 rfl rfl
theorem wd113 : Cond.methodLink "StatRows$TripleRow" 28 yT_placeOf ∈ W0 := w0_in 113 (by decide +kernel) rfl
theorem wd115 : Cond.instanceMethod yT_placeOf ∈ W0 := w0_in 115 (by decide +kernel) rfl
set_option maxRecDepth 20000 in
theorem wd116 : Cond.code yT_placeOf cT_placeOf 5 (some .int) ∈ W0 := w0_in 116 rfl rfl
theorem wd117 : Cond.methodLink "StatRows$TripleRow" 18 yT_end ∈ W0 := w0_in 117 (by decide +kernel) rfl
theorem wd118 : Cond.instanceMethod yT_end ∈ W0 := w0_in 118 (by decide +kernel) rfl
theorem wd119 : Cond.selects "StatRows$TripleRow" yT_end yT_end ∈ W0 := w0_in 119 (by decide +kernel) rfl
set_option maxRecDepth 20000 in
theorem wd120 : Cond.code yT_end cT_end 2 (some .int) ∈ W0 := w0_in 120 rfl rfl
theorem wd121 : Cond.methodLink "StatRows$TripleRow" 22 yT_start ∈ W0 := w0_in 121 (by decide +kernel) rfl
theorem wd122 : Cond.instanceMethod yT_start ∈ W0 := w0_in 122 (by decide +kernel) rfl
theorem wd123 : Cond.selects "StatRows$TripleRow" yT_start yT_start ∈ W0 := w0_in 123 (by decide +kernel) rfl
set_option maxRecDepth 20000 in
theorem wd124 : Cond.code yT_start cT_start 2 (some .int) ∈ W0 := w0_in 124 rfl rfl
theorem wd125 : Cond.methodLink "StatRows$TripleRow" 32 yT_isAt ∈ W0 := w0_in 125 (by decide +kernel) rfl
theorem wd127 : Cond.instanceMethod yT_isAt ∈ W0 := w0_in 127 (by decide +kernel) rfl
set_option maxRecDepth 20000 in
theorem wd128 : Cond.code yT_isAt cT_isAt 4 (some .boolean) ∈ W0 := w0_in 128 rfl rfl
theorem wd129 : Cond.methodLink "StatRows$TripleRow" 36 yT_size ∈ W0 := w0_in 129 (by decide +kernel) rfl
theorem wd130 : Cond.instanceMethod yT_size ∈ W0 := w0_in 130 (by decide +kernel) rfl
theorem wd131 : Cond.selects "StatRows$TripleRow" yT_size yT_size ∈ W0 := w0_in 131 (by decide +kernel) rfl
set_option maxRecDepth 20000 in
theorem wd132 : Cond.code yT_size cT_size 1 (some .int) ∈ W0 := w0_in 132 rfl rfl
theorem wd133 : Cond.methodLink "StatRows$TripleRow" 40 arraycopyName ∈ W0 := w0_in 133 (by decide +kernel) rfl
theorem wd134 : Cond.static arraycopyName ∈ W0 := w0_in 134 (by decide +kernel) rfl
theorem wd135 : Cond.native arraycopyName ∈ W0 := w0_in 135 (by decide +kernel) rfl
theorem wd136 : Cond.methodLink "StatRows$TripleRow" 46 yT_moveStartsAfter ∈ W0 := w0_in 136 (by decide +kernel) rfl
theorem wd138 : Cond.instanceMethod yT_moveStartsAfter ∈ W0 := w0_in 138 (by decide +kernel) rfl
set_option maxRecDepth 20000 in
theorem wd139 : Cond.code yT_moveStartsAfter cT_moveStartsAfter 4 none ∈ W0 := w0_in 139 rfl rfl
theorem wd140 : Cond.methodLink "StatRowsLaw" 18 yX_drop ∈ W0 := w0_in 140 (by decide +kernel) rfl
theorem wd141 : Cond.instanceMethod yX_drop ∈ W0 := w0_in 141 (by decide +kernel) rfl
theorem wd142 : Cond.selects "StatRows" yX_drop yX_drop ∈ W0 := w0_in 142 (by decide +kernel) rfl
set_option maxRecDepth 20000 in
theorem wd143 : Cond.code yX_drop cX_drop 4 (some .int) ∈ W0 := w0_in 143 rfl rfl
theorem wd144 : Cond.methodLink "StatRows" 52 yT_remove ∈ W0 := w0_in 144 (by decide +kernel) rfl
theorem wd145 : Cond.instanceMethod yT_remove ∈ W0 := w0_in 145 (by decide +kernel) rfl
theorem wd146 : Cond.selects "StatRows$TripleRow" yT_remove yT_remove ∈ W0 := w0_in 146 (by decide +kernel) rfl
set_option maxRecDepth 20000 in
theorem wd147 : Cond.code yT_remove cT_remove 4 (some .int) ∈ W0 := w0_in 147 rfl rfl
theorem wd148 : Cond.methodLink "StatRowsLaw" 22 yX_count ∈ W0 := w0_in 148 (by decide +kernel) rfl
theorem wd149 : Cond.instanceMethod yX_count ∈ W0 := w0_in 149 (by decide +kernel) rfl
theorem wd150 : Cond.selects "StatRows" yX_count yX_count ∈ W0 := w0_in 150 (by decide +kernel) rfl
set_option maxRecDepth 20000 in
theorem wd151 : Cond.code yX_count cX_count 3 (some .int) ∈ W0 := w0_in 151 rfl rfl
theorem wd152 : Cond.methodLink "StatRows" 59 yT_sizeOf ∈ W0 := w0_in 152 (by decide +kernel) rfl
theorem wd153 : Cond.instanceMethod yT_sizeOf ∈ W0 := w0_in 153 (by decide +kernel) rfl
theorem wd154 : Cond.selects "StatRows$TripleRow" yT_sizeOf yT_sizeOf ∈ W0 := w0_in 154 (by decide +kernel) rfl
set_option maxRecDepth 20000 in
theorem wd155 : Cond.code yT_sizeOf cT_sizeOf 2 (some .int) ∈ W0 := w0_in 155 rfl rfl
theorem wd156 : Cond.methodLink "StatRows" 63 yX_subjectsOf ∈ W0 := w0_in 156 (by decide +kernel) rfl
theorem wd158 : Cond.instanceMethod yX_subjectsOf ∈ W0 := w0_in 158 (by decide +kernel) rfl
set_option maxRecDepth 20000 in
theorem wd159 : Cond.code yX_subjectsOf cX_subjectsOf 2 (some .int) ∈ W0 := w0_in 159 rfl rfl
theorem wd160 : Cond.methodLink "StatRows" 79 yX_clearTally ∈ W0 := w0_in 160 (by decide +kernel) rfl
theorem wd162 : Cond.instanceMethod yX_clearTally ∈ W0 := w0_in 162 (by decide +kernel) rfl
set_option maxRecDepth 20000 in
theorem wd163 : Cond.code yX_clearTally cX_clearTally 1 none ∈ W0 := w0_in 163 rfl rfl
theorem wd164 : Cond.methodLink "StatRows" 190 yJA_fill ∈ W0 := w0_in 164 (by decide +kernel) rfl
theorem wd165 : Cond.static yJA_fill ∈ W0 := w0_in 165 (by decide +kernel) rfl
set_option maxRecDepth 20000 in
theorem wd166 : Cond.code yJA_fill cJA_fill 4 none ∈ W0 := w0_in 166 rfl rfl
theorem wd167 : Cond.methodLink "StatRows" 82 yX_tallySubjects ∈ W0 := w0_in 167 (by decide +kernel) rfl
theorem wd169 : Cond.instanceMethod yX_tallySubjects ∈ W0 := w0_in 169 (by decide +kernel) rfl
set_option maxRecDepth 20000 in
theorem wd170 : Cond.code yX_tallySubjects cX_tallySubjects 4 none ∈ W0 := w0_in 170 rfl rfl
theorem wd171 : Cond.methodLink "StatRows" 123 yT_end ∈ W0 := w0_in 171 (by decide +kernel) rfl
theorem wd172 : Cond.methodLink "StatRows" 126 yT_start ∈ W0 := w0_in 172 (by decide +kernel) rfl
theorem wd173 : Cond.methodLink "StatRows" 147 yT_subjectAt ∈ W0 := w0_in 173 (by decide +kernel) rfl
theorem wd174 : Cond.instanceMethod yT_subjectAt ∈ W0 := w0_in 174 (by decide +kernel) rfl
theorem wd175 : Cond.selects "StatRows$TripleRow" yT_subjectAt yT_subjectAt ∈ W0 := w0_in 175 (by decide +kernel) rfl
set_option maxRecDepth 20000 in
theorem wd176 : Cond.code yT_subjectAt cT_subjectAt 2 (some .int) ∈ W0 := w0_in 176 rfl rfl
theorem wd177 : Cond.methodLink "StatRows" 103 yX_differentInTally ∈ W0 := w0_in 177 (by decide +kernel) rfl
theorem wd179 : Cond.instanceMethod yX_differentInTally ∈ W0 := w0_in 179 (by decide +kernel) rfl
set_option maxRecDepth 20000 in
theorem wd180 : Cond.code yX_differentInTally cX_differentInTally 3 (some .int) ∈ W0 := w0_in 180 rfl rfl
theorem wd181 : Cond.methodLink "StatRows" 66 yX_objectsOf ∈ W0 := w0_in 181 (by decide +kernel) rfl
theorem wd183 : Cond.instanceMethod yX_objectsOf ∈ W0 := w0_in 183 (by decide +kernel) rfl
set_option maxRecDepth 20000 in
theorem wd184 : Cond.code yX_objectsOf cX_objectsOf 2 (some .int) ∈ W0 := w0_in 184 rfl rfl
theorem wd185 : Cond.methodLink "StatRows" 71 yX_tallyObjects ∈ W0 := w0_in 185 (by decide +kernel) rfl
theorem wd187 : Cond.instanceMethod yX_tallyObjects ∈ W0 := w0_in 187 (by decide +kernel) rfl
set_option maxRecDepth 20000 in
theorem wd188 : Cond.code yX_tallyObjects cX_tallyObjects 5 none ∈ W0 := w0_in 188 rfl rfl
theorem wd189 : Cond.methodLink "StatRows" 129 yT_isSampled ∈ W0 := w0_in 189 (by decide +kernel) rfl
theorem wd190 : Cond.instanceMethod yT_isSampled ∈ W0 := w0_in 190 (by decide +kernel) rfl
theorem wd191 : Cond.selects "StatRows$TripleRow" yT_isSampled yT_isSampled ∈ W0 := w0_in 191 (by decide +kernel) rfl
set_option maxRecDepth 20000 in
theorem wd192 : Cond.code yT_isSampled cT_isSampled 2 (some .boolean) ∈ W0 := w0_in 192 rfl rfl
theorem wd194 : Cond.static yX_hash ∈ W0 := w0_in 194 (by decide +kernel) rfl
set_option maxRecDepth 20000 in
theorem wd195 : Cond.code yX_hash cX_hash 2 (some .int) ∈ W0 := w0_in 195 rfl rfl
theorem wd196 : Cond.constant "StatRows" 180 (-1640531535) ∈ W0 := w0_in 196 (by decide +kernel) rfl
theorem wd197 : Cond.constant "StatRows" 181 (-2048144777) ∈ W0 := w0_in 197 (by decide +kernel) rfl
theorem wd198 : Cond.methodLink "StatRows" 150 yT_objectAt ∈ W0 := w0_in 198 (by decide +kernel) rfl
theorem wd199 : Cond.instanceMethod yT_objectAt ∈ W0 := w0_in 199 (by decide +kernel) rfl
theorem wd200 : Cond.selects "StatRows$TripleRow" yT_objectAt yT_objectAt ∈ W0 := w0_in 200 (by decide +kernel) rfl
set_option maxRecDepth 20000 in
theorem wd201 : Cond.code yT_objectAt cT_objectAt 2 (some .int) ∈ W0 := w0_in 201 rfl rfl
theorem wd202 : Cond.methodLink "StatRowsLaw" 27 yX_chain ∈ W0 := w0_in 202 (by decide +kernel) rfl
theorem wd203 : Cond.instanceMethod yX_chain ∈ W0 := w0_in 203 (by decide +kernel) rfl
theorem wd204 : Cond.selects "StatRows" yX_chain yX_chain ∈ W0 := w0_in 204 (by decide +kernel) rfl
set_option maxRecDepth 20000 in
theorem wd205 : Cond.code yX_chain cX_chain 3 (some .long) ∈ W0 := w0_in 205 rfl rfl
theorem wd206 : Cond.constantLong "StatRows" 69 (-1) ∈ W0 := w0_in 206 (by decide +kernel) rfl
theorem wd207 : Cond.methodLink "StatRows" 75 yX_sumAtSubjects ∈ W0 := w0_in 207 (by decide +kernel) rfl
theorem wd209 : Cond.instanceMethod yX_sumAtSubjects ∈ W0 := w0_in 209 (by decide +kernel) rfl
set_option maxRecDepth 20000 in
theorem wd210 : Cond.code yX_sumAtSubjects cX_sumAtSubjects 7 (some .long) ∈ W0 := w0_in 210 rfl rfl
theorem wd211 : Cond.methodLink "StatRowsLaw" 32 yX_star ∈ W0 := w0_in 211 (by decide +kernel) rfl
theorem wd212 : Cond.instanceMethod yX_star ∈ W0 := w0_in 212 (by decide +kernel) rfl
theorem wd213 : Cond.selects "StatRows" yX_star yX_star ∈ W0 := w0_in 213 (by decide +kernel) rfl
set_option maxRecDepth 20000 in
theorem wd214 : Cond.code yX_star cX_star 3 (some .long) ∈ W0 := w0_in 214 rfl rfl
theorem wd215 : Cond.methodLink "StatRowsLaw" 36 yX_bucket ∈ W0 := w0_in 215 (by decide +kernel) rfl
theorem wd216 : Cond.instanceMethod yX_bucket ∈ W0 := w0_in 216 (by decide +kernel) rfl
theorem wd217 : Cond.selects "StatRows" yX_bucket yX_bucket ∈ W0 := w0_in 217 (by decide +kernel) rfl
set_option maxRecDepth 20000 in
theorem wd218 : Cond.code yX_bucket cX_bucket 4 (some .int) ∈ W0 := w0_in 218 rfl rfl
theorem wd219 : Cond.methodLink "StatRows" 86 yX_withObjectBetween ∈ W0 := w0_in 219 (by decide +kernel) rfl
theorem wd221 : Cond.instanceMethod yX_withObjectBetween ∈ W0 := w0_in 221 (by decide +kernel) rfl
set_option maxRecDepth 20000 in
theorem wd222 : Cond.code yX_withObjectBetween cX_withObjectBetween 8 (some .int) ∈ W0 := w0_in 222 rfl rfl
theorem wd223 : Cond.methodLink "StatRowsLaw" 40 yX_quantile ∈ W0 := w0_in 223 (by decide +kernel) rfl
theorem wd224 : Cond.instanceMethod yX_quantile ∈ W0 := w0_in 224 (by decide +kernel) rfl
theorem wd225 : Cond.selects "StatRows" yX_quantile yX_quantile ∈ W0 := w0_in 225 (by decide +kernel) rfl
set_option maxRecDepth 20000 in
theorem wd226 : Cond.code yX_quantile cX_quantile 6 (some .int) ∈ W0 := w0_in 226 rfl rfl
theorem wd227 : Cond.methodLink "StatRowsLaw" 44 yX_register ∈ W0 := w0_in 227 (by decide +kernel) rfl
theorem wd228 : Cond.instanceMethod yX_register ∈ W0 := w0_in 228 (by decide +kernel) rfl
theorem wd229 : Cond.selects "StatRows" yX_register yX_register ∈ W0 := w0_in 229 (by decide +kernel) rfl
set_option maxRecDepth 20000 in
theorem wd230 : Cond.code yX_register cX_register 3 (some .int) ∈ W0 := w0_in 230 rfl rfl
theorem wd231 : Cond.methodLink "StatRows" 90 yX_isPredicateSet ∈ W0 := w0_in 231 (by decide +kernel) rfl
theorem wd232 : Cond.static yX_isPredicateSet ∈ W0 := w0_in 232 (by decide +kernel) rfl
set_option maxRecDepth 20000 in
theorem wd233 : Cond.code yX_isPredicateSet cX_isPredicateSet 1 (some .boolean) ∈ W0 := w0_in 233 rfl rfl
theorem wd234 : Cond.methodLink "StatRows" 93 yX_tallySubjectsOfAll ∈ W0 := w0_in 234 (by decide +kernel) rfl
theorem wd236 : Cond.instanceMethod yX_tallySubjectsOfAll ∈ W0 := w0_in 236 (by decide +kernel) rfl
set_option maxRecDepth 20000 in
theorem wd237 : Cond.code yX_tallySubjectsOfAll cX_tallySubjectsOfAll 3 none ∈ W0 := w0_in 237 rfl rfl
theorem wd238 : Cond.methodLink "StatRows" 96 yG_tellAll ∈ W0 := w0_in 238 (by decide +kernel) rfl
theorem wd239 : Cond.instanceMethod yG_tellAll ∈ W0 := w0_in 239 (by decide +kernel) rfl
theorem wd240 : Cond.selects "StatRows$RegisterRow" yG_tellAll yG_tellAll ∈ W0 := w0_in 240 (by decide +kernel) rfl
set_option maxRecDepth 20000 in
theorem wd241 : Cond.code yG_tellAll cG_tellAll 3 none ∈ W0 := w0_in 241 rfl rfl
theorem wd242 : Cond.methodLink "StatRows$RegisterRow" 13 yJA_fill ∈ W0 := w0_in 242 (by decide +kernel) rfl
theorem wd244 : Cond.methodLink "StatRows$RegisterRow" 25 yG_tell ∈ W0 := w0_in 244 (by decide +kernel) rfl
theorem wd246 : Cond.instanceMethod yG_tell ∈ W0 := w0_in 246 (by decide +kernel) rfl
set_option maxRecDepth 20000 in
theorem wd247 : Cond.code yG_tell cG_tell 3 none ∈ W0 := w0_in 247 rfl rfl
theorem wd248 : Cond.methodLink "StatRows$RegisterRow" 36 yG_rankOf ∈ W0 := w0_in 248 (by decide +kernel) rfl
theorem wd249 : Cond.static yG_rankOf ∈ W0 := w0_in 249 (by decide +kernel) rfl
set_option maxRecDepth 20000 in
theorem wd250 : Cond.code yG_rankOf cG_rankOf 2 (some .int) ∈ W0 := w0_in 250 rfl rfl
theorem wd251 : Cond.methodLink "StatRows$RegisterRow" 39 yJM_max ∈ W0 := w0_in 251 (by decide +kernel) rfl
theorem wd252 : Cond.static yJM_max ∈ W0 := w0_in 252 (by decide +kernel) rfl
set_option maxRecDepth 20000 in
theorem wd253 : Cond.code yJM_max cJM_max 2 (some .int) ∈ W0 := w0_in 253 rfl rfl
theorem wd254 : Cond.methodLink "StatRows" 100 yG_rank ∈ W0 := w0_in 254 (by decide +kernel) rfl
theorem wd255 : Cond.instanceMethod yG_rank ∈ W0 := w0_in 255 (by decide +kernel) rfl
theorem wd256 : Cond.selects "StatRows$RegisterRow" yG_rank yG_rank ∈ W0 := w0_in 256 (by decide +kernel) rfl
set_option maxRecDepth 20000 in
theorem wd257 : Cond.code yG_rank cG_rank 2 (some .int) ∈ W0 := w0_in 257 rfl rfl
theorem wd258 : Cond.methodLink "StatRowsLaw" 48 yX_distinct ∈ W0 := w0_in 258 (by decide +kernel) rfl
theorem wd259 : Cond.instanceMethod yX_distinct ∈ W0 := w0_in 259 (by decide +kernel) rfl
theorem wd260 : Cond.selects "StatRows" yX_distinct yX_distinct ∈ W0 := w0_in 260 (by decide +kernel) rfl
set_option maxRecDepth 20000 in
theorem wd261 : Cond.code yX_distinct cX_distinct 4 (some .long) ∈ W0 := w0_in 261 rfl rfl
theorem wd262 : Cond.methodLink "StatRows" 107 yG_about ∈ W0 := w0_in 262 (by decide +kernel) rfl
theorem wd263 : Cond.instanceMethod yG_about ∈ W0 := w0_in 263 (by decide +kernel) rfl
theorem wd264 : Cond.selects "StatRows$RegisterRow" yG_about yG_about ∈ W0 := w0_in 264 (by decide +kernel) rfl
set_option maxRecDepth 20000 in
theorem wd265 : Cond.code yG_about cG_about 5 (some .long) ∈ W0 := w0_in 265 rfl rfl
theorem wd266 : Cond.fieldLink "StatRows$RegisterRow" 29 "StatRows$RegisterRow" "ABOUT_BY_ZEROS" "[I" ∈ W0 := w0_in 266 (by decide +kernel) rfl
theorem wd268 : Cond.constantLong "StatRows$RegisterRow" 32 184992831373312 ∈ W0 := w0_in 268 (by decide +kernel) rfl
theorem wd269 : Cond.constantLong "StatRows$RegisterRow" 34 1000 ∈ W0 := w0_in 269 (by decide +kernel) rfl
theorem wd270 : Cond.methodLink "StatRowsLaw" 52 yX_estimate ∈ W0 := w0_in 270 (by decide +kernel) rfl
theorem wd271 : Cond.instanceMethod yX_estimate ∈ W0 := w0_in 271 (by decide +kernel) rfl
theorem wd272 : Cond.selects "StatRows" yX_estimate yX_estimate ∈ W0 := w0_in 272 (by decide +kernel) rfl
set_option maxRecDepth 20000 in
theorem wd273 : Cond.code yX_estimate cX_estimate 4 (some .long) ∈ W0 := w0_in 273 rfl rfl
theorem wd274 : Cond.methodLink "StatRows" 111 yX_joinEstimate ∈ W0 := w0_in 274 (by decide +kernel) rfl
theorem wd276 : Cond.instanceMethod yX_joinEstimate ∈ W0 := w0_in 276 (by decide +kernel) rfl
set_option maxRecDepth 20000 in
theorem wd277 : Cond.code yX_joinEstimate cX_joinEstimate 5 (some .long) ∈ W0 := w0_in 277 rfl rfl
theorem wd278 : Cond.methodLink "StatRows" 182 yJM_max ∈ W0 := w0_in 278 (by decide +kernel) rfl
theorem wd279 : Cond.methodLink "StatRows" 115 yX_sampledChainEstimate ∈ W0 := w0_in 279 (by decide +kernel) rfl
theorem wd281 : Cond.instanceMethod yX_sampledChainEstimate ∈ W0 := w0_in 281 (by decide +kernel) rfl
set_option maxRecDepth 20000 in
theorem wd282 : Cond.code yX_sampledChainEstimate cX_sampledChainEstimate 3 (some .long) ∈ W0 := w0_in 282 rfl rfl
theorem wd283 : Cond.constantLong "StatRows" 196 16 ∈ W0 := w0_in 283 (by decide +kernel) rfl
theorem wd284 : Cond.methodLink "StatRowsLaw" 57 yX_range ∈ W0 := w0_in 284 (by decide +kernel) rfl
theorem wd285 : Cond.instanceMethod yX_range ∈ W0 := w0_in 285 (by decide +kernel) rfl
theorem wd286 : Cond.selects "StatRows" yX_range yX_range ∈ W0 := w0_in 286 (by decide +kernel) rfl
set_option maxRecDepth 20000 in
theorem wd287 : Cond.code yX_range cX_range 9 (some .int) ∈ W0 := w0_in 287 rfl rfl
theorem wd288 : Cond.methodLink "StatRows" 119 yX_shared ∈ W0 := w0_in 288 (by decide +kernel) rfl
theorem wd289 : Cond.static yX_shared ∈ W0 := w0_in 289 (by decide +kernel) rfl
set_option maxRecDepth 20000 in
theorem wd290 : Cond.code yX_shared cX_shared 6 (some .int) ∈ W0 := w0_in 290 rfl rfl
theorem wd291 : Cond.methodLink "StatRows" 187 yJM_min ∈ W0 := w0_in 291 (by decide +kernel) rfl
theorem wd292 : Cond.static yJM_min ∈ W0 := w0_in 292 (by decide +kernel) rfl
set_option maxRecDepth 20000 in
theorem wd293 : Cond.code yJM_min cJM_min 2 (some .int) ∈ W0 := w0_in 293 rfl rfl
theorem wd294 : Cond.methodLink "StatRowsLaw" 61 yX_sample ∈ W0 := w0_in 294 (by decide +kernel) rfl
theorem wd295 : Cond.instanceMethod yX_sample ∈ W0 := w0_in 295 (by decide +kernel) rfl
theorem wd296 : Cond.selects "StatRows" yX_sample yX_sample ∈ W0 := w0_in 296 (by decide +kernel) rfl
set_option maxRecDepth 20000 in
theorem wd297 : Cond.code yX_sample cX_sample 6 (some .int) ∈ W0 := w0_in 297 rfl rfl
theorem wd298 : Cond.methodLink "StatRows" 132 yT_pairAt ∈ W0 := w0_in 298 (by decide +kernel) rfl
theorem wd299 : Cond.instanceMethod yT_pairAt ∈ W0 := w0_in 299 (by decide +kernel) rfl
theorem wd300 : Cond.selects "StatRows$TripleRow" yT_pairAt yT_pairAt ∈ W0 := w0_in 300 (by decide +kernel) rfl
set_option maxRecDepth 20000 in
theorem wd301 : Cond.code yT_pairAt cT_pairAt 2 (some .int) ∈ W0 := w0_in 301 rfl rfl
theorem wd302 : Cond.methodLink "StatRowsLaw" 65 yX_pattern ∈ W0 := w0_in 302 (by decide +kernel) rfl
theorem wd303 : Cond.instanceMethod yX_pattern ∈ W0 := w0_in 303 (by decide +kernel) rfl
theorem wd304 : Cond.selects "StatRows" yX_pattern yX_pattern ∈ W0 := w0_in 304 (by decide +kernel) rfl
set_option maxRecDepth 20000 in
theorem wd305 : Cond.code yX_pattern cX_pattern 4 (some .int) ∈ W0 := w0_in 305 rfl rfl
theorem wd306 : Cond.methodLink "StatRows" 135 yX_isNumberOrAny ∈ W0 := w0_in 306 (by decide +kernel) rfl
theorem wd307 : Cond.static yX_isNumberOrAny ∈ W0 := w0_in 307 (by decide +kernel) rfl
set_option maxRecDepth 20000 in
theorem wd308 : Cond.code yX_isNumberOrAny cX_isNumberOrAny 1 (some .boolean) ∈ W0 := w0_in 308 rfl rfl
theorem wd309 : Cond.methodLink "StatRows" 138 yX_isPredicateOrAny ∈ W0 := w0_in 309 (by decide +kernel) rfl
theorem wd310 : Cond.static yX_isPredicateOrAny ∈ W0 := w0_in 310 (by decide +kernel) rfl
set_option maxRecDepth 20000 in
theorem wd311 : Cond.code yX_isPredicateOrAny cX_isPredicateOrAny 1 (some .boolean) ∈ W0 := w0_in 311 rfl rfl
theorem wd312 : Cond.methodLink "StatRows" 141 yP_rowOf ∈ W0 := w0_in 312 (by decide +kernel) rfl
theorem wd313 : Cond.instanceMethod yP_rowOf ∈ W0 := w0_in 313 (by decide +kernel) rfl
theorem wd314 : Cond.selects "StatRows$PatternRow" yP_rowOf yP_rowOf ∈ W0 := w0_in 314 (by decide +kernel) rfl
set_option maxRecDepth 20000 in
theorem wd315 : Cond.code yP_rowOf cP_rowOf 5 (some .int) ∈ W0 := w0_in 315 rfl rfl
theorem wd316 : Cond.methodLink "StatRowsLaw" 69 yX_matches ∈ W0 := w0_in 316 (by decide +kernel) rfl
theorem wd317 : Cond.instanceMethod yX_matches ∈ W0 := w0_in 317 (by decide +kernel) rfl
theorem wd318 : Cond.selects "StatRows" yX_matches yX_matches ∈ W0 := w0_in 318 (by decide +kernel) rfl
set_option maxRecDepth 20000 in
theorem wd319 : Cond.code yX_matches cX_matches 6 (some .int) ∈ W0 := w0_in 319 rfl rfl
theorem wd320 : Cond.methodLink "StatRows" 144 yP_has ∈ W0 := w0_in 320 (by decide +kernel) rfl
theorem wd321 : Cond.instanceMethod yP_has ∈ W0 := w0_in 321 (by decide +kernel) rfl
theorem wd322 : Cond.selects "StatRows$PatternRow" yP_has yP_has ∈ W0 := w0_in 322 (by decide +kernel) rfl
set_option maxRecDepth 20000 in
theorem wd323 : Cond.code yP_has cP_has 2 (some .boolean) ∈ W0 := w0_in 323 rfl rfl
theorem wd324 : Cond.methodLink "StatRows" 153 yP_goesWith ∈ W0 := w0_in 324 (by decide +kernel) rfl
theorem wd325 : Cond.instanceMethod yP_goesWith ∈ W0 := w0_in 325 (by decide +kernel) rfl
theorem wd326 : Cond.selects "StatRows$PatternRow" yP_goesWith yP_goesWith ∈ W0 := w0_in 326 (by decide +kernel) rfl
set_option maxRecDepth 20000 in
theorem wd327 : Cond.code yP_goesWith cP_goesWith 5 (some .boolean) ∈ W0 := w0_in 327 rfl rfl
theorem wd328 : Cond.methodLink "StatRows$PatternRow" 25 yP_allows ∈ W0 := w0_in 328 (by decide +kernel) rfl
theorem wd329 : Cond.static yP_allows ∈ W0 := w0_in 329 (by decide +kernel) rfl
set_option maxRecDepth 20000 in
theorem wd330 : Cond.code yP_allows cP_allows 2 (some .boolean) ∈ W0 := w0_in 330 rfl rfl
theorem wd331 : Cond.methodLink "StatRowsLaw" 74 yX_version ∈ W0 := w0_in 331 (by decide +kernel) rfl
theorem wd332 : Cond.instanceMethod yX_version ∈ W0 := w0_in 332 (by decide +kernel) rfl
theorem wd333 : Cond.selects "StatRows" yX_version yX_version ∈ W0 := w0_in 333 (by decide +kernel) rfl
set_option maxRecDepth 20000 in
theorem wd334 : Cond.code yX_version cX_version 1 (some .int) ∈ W0 := w0_in 334 rfl rfl
theorem wd335 : Cond.methodLink "StatRows" 157 yV_finish ∈ W0 := w0_in 335 (by decide +kernel) rfl
theorem wd336 : Cond.instanceMethod yV_finish ∈ W0 := w0_in 336 (by decide +kernel) rfl
theorem wd337 : Cond.selects "StatRows$VersionRow" yV_finish yV_finish ∈ W0 := w0_in 337 (by decide +kernel) rfl
set_option maxRecDepth 20000 in
theorem wd338 : Cond.code yV_finish cV_finish 3 (some .int) ∈ W0 := w0_in 338 rfl rfl
theorem wd339 : Cond.methodLink "StatRows$VersionRow" 22 yV_kept ∈ W0 := w0_in 339 (by decide +kernel) rfl
theorem wd340 : Cond.instanceMethod yV_kept ∈ W0 := w0_in 340 (by decide +kernel) rfl
theorem wd341 : Cond.selects "StatRows$VersionRow" yV_kept yV_kept ∈ W0 := w0_in 341 (by decide +kernel) rfl
set_option maxRecDepth 20000 in
theorem wd342 : Cond.code yV_kept cV_kept 1 (some .int) ∈ W0 := w0_in 342 rfl rfl
theorem wd343 : Cond.constant "StatRows$VersionRow" 28 2147483647 ∈ W0 := w0_in 343 (by decide +kernel) rfl
theorem wd344 : Cond.methodLink "StatRows$VersionRow" 29 yV_place ∈ W0 := w0_in 344 (by decide +kernel) rfl
theorem wd345 : Cond.static yV_place ∈ W0 := w0_in 345 (by decide +kernel) rfl
set_option maxRecDepth 20000 in
theorem wd346 : Cond.code yV_place cV_place 2 (some .int) ∈ W0 := w0_in 346 rfl rfl
theorem wd347 : Cond.methodLink "StatRows$VersionRow" 33 yT_sizeOf ∈ W0 := w0_in 347 (by decide +kernel) rfl
theorem wd348 : Cond.methodLink "StatRowsLaw" 79 yX_countAt ∈ W0 := w0_in 348 (by decide +kernel) rfl
theorem wd349 : Cond.instanceMethod yX_countAt ∈ W0 := w0_in 349 (by decide +kernel) rfl
theorem wd350 : Cond.selects "StatRows" yX_countAt yX_countAt ∈ W0 := w0_in 350 (by decide +kernel) rfl
set_option maxRecDepth 20000 in
theorem wd351 : Cond.code yX_countAt cX_countAt 3 (some .int) ∈ W0 := w0_in 351 rfl rfl
theorem wd352 : Cond.methodLink "StatRows" 161 yV_sizeAt ∈ W0 := w0_in 352 (by decide +kernel) rfl
theorem wd353 : Cond.instanceMethod yV_sizeAt ∈ W0 := w0_in 353 (by decide +kernel) rfl
theorem wd354 : Cond.selects "StatRows$VersionRow" yV_sizeAt yV_sizeAt ∈ W0 := w0_in 354 (by decide +kernel) rfl
set_option maxRecDepth 20000 in
theorem wd355 : Cond.code yV_sizeAt cV_sizeAt 3 (some .int) ∈ W0 := w0_in 355 rfl rfl
theorem wd356 : Cond.methodLink "StatRows$VersionRow" 39 yV_hasEnded ∈ W0 := w0_in 356 (by decide +kernel) rfl
theorem wd358 : Cond.instanceMethod yV_hasEnded ∈ W0 := w0_in 358 (by decide +kernel) rfl
set_option maxRecDepth 20000 in
theorem wd359 : Cond.code yV_hasEnded cV_hasEnded 2 (some .boolean) ∈ W0 := w0_in 359 rfl rfl
theorem wd360 : Cond.methodLink "StatRowsLaw" 83 yX_forget ∈ W0 := w0_in 360 (by decide +kernel) rfl
theorem wd361 : Cond.instanceMethod yX_forget ∈ W0 := w0_in 361 (by decide +kernel) rfl
theorem wd362 : Cond.selects "StatRows" yX_forget yX_forget ∈ W0 := w0_in 362 (by decide +kernel) rfl
set_option maxRecDepth 20000 in
theorem wd363 : Cond.code yX_forget cX_forget 2 (some .int) ∈ W0 := w0_in 363 rfl rfl
theorem wd364 : Cond.methodLink "StatRows" 164 yV_forgetBelow ∈ W0 := w0_in 364 (by decide +kernel) rfl
theorem wd365 : Cond.instanceMethod yV_forgetBelow ∈ W0 := w0_in 365 (by decide +kernel) rfl
theorem wd366 : Cond.selects "StatRows$VersionRow" yV_forgetBelow yV_forgetBelow ∈ W0 := w0_in 366 (by decide +kernel) rfl
set_option maxRecDepth 20000 in
theorem wd367 : Cond.code yV_forgetBelow cV_forgetBelow 3 (some .int) ∈ W0 := w0_in 367 rfl rfl
theorem wd368 : Cond.methodLink "StatRows$VersionRow" 43 yJM_max ∈ W0 := w0_in 368 (by decide +kernel) rfl
theorem wd369 : Cond.methodLink "StatRowsLaw" 87 yX_told ∈ W0 := w0_in 369 (by decide +kernel) rfl
theorem wd370 : Cond.instanceMethod yX_told ∈ W0 := w0_in 370 (by decide +kernel) rfl
theorem wd371 : Cond.selects "StatRows" yX_told yX_told ∈ W0 := w0_in 371 (by decide +kernel) rfl
set_option maxRecDepth 20000 in
theorem wd372 : Cond.code yX_told cX_told 2 (some .int) ∈ W0 := w0_in 372 rfl rfl
theorem wd373 : Cond.methodLink "StatRows" 167 yT_size ∈ W0 := w0_in 373 (by decide +kernel) rfl
theorem wd374 : Cond.methodLink "StatRows" 170 yP_size ∈ W0 := w0_in 374 (by decide +kernel) rfl
theorem wd375 : Cond.instanceMethod yP_size ∈ W0 := w0_in 375 (by decide +kernel) rfl
theorem wd376 : Cond.selects "StatRows$PatternRow" yP_size yP_size ∈ W0 := w0_in 376 (by decide +kernel) rfl
set_option maxRecDepth 20000 in
theorem wd377 : Cond.code yP_size cP_size 1 (some .int) ∈ W0 := w0_in 377 rfl rfl
theorem wd378 : Cond.methodLink "StatRows" 171 yV_ended ∈ W0 := w0_in 378 (by decide +kernel) rfl
theorem wd379 : Cond.instanceMethod yV_ended ∈ W0 := w0_in 379 (by decide +kernel) rfl
theorem wd380 : Cond.selects "StatRows$VersionRow" yV_ended yV_ended ∈ W0 := w0_in 380 (by decide +kernel) rfl
set_option maxRecDepth 20000 in
theorem wd381 : Cond.code yV_ended cV_ended 1 (some .int) ∈ W0 := w0_in 381 rfl rfl
theorem wd382 : Cond.methodLink "StatRows" 174 yV_kept ∈ W0 := w0_in 382 (by decide +kernel) rfl
theorem wd383 : Cond.classLink "StatRowsLaw" 10 "StatRowsModel" ∈ W0 := w0_in 383 (by decide +kernel) rfl
theorem wd384 : Cond.instantiable "StatRowsModel" 10 ∈ W0 := w0_in 384 (by decide +kernel) rfl
theorem wd385 : Cond.methodLink "StatRowsLaw" 12 yM_init ∈ W0 := w0_in 385 (by decide +kernel) rfl
theorem wd386 : Cond.instanceMethod yM_init ∈ W0 := w0_in 386 (by decide +kernel) rfl
set_option maxRecDepth 20000 in
theorem wd387 : Cond.code yM_init cM_init 1 none ∈ W0 := w0_in 387 rfl rfl
theorem wd388 : Cond.methodLink "StatRowsModel" 1 objectInit ∈ W0 := w0_in 388 (by decide +kernel) rfl
theorem wd389 : Cond.fieldLink "StatRowsModel" 29 "StatRowsModel" "triples" "I" ∈ W0 := w0_in 389 (by decide +kernel) rfl
theorem wd390 : Cond.fieldLink "StatRowsModel" 7 "StatRowsModel" "subjects" "[I" ∈ W0 := w0_in 390 (by decide +kernel) rfl
theorem wd391 : Cond.fieldLink "StatRowsModel" 13 "StatRowsModel" "predicates" "[I" ∈ W0 := w0_in 391 (by decide +kernel) rfl
theorem wd392 : Cond.fieldLink "StatRowsModel" 16 "StatRowsModel" "objects" "[I" ∈ W0 := w0_in 392 (by decide +kernel) rfl
theorem wd393 : Cond.fieldLink "StatRowsModel" 89 "StatRowsModel" "patterns" "I" ∈ W0 := w0_in 393 (by decide +kernel) rfl
theorem wd394 : Cond.fieldLink "StatRowsModel" 19 "StatRowsModel" "asked" "[I" ∈ W0 := w0_in 394 (by decide +kernel) rfl
theorem wd395 : Cond.fieldLink "StatRowsModel" 96 "StatRowsModel" "ended" "I" ∈ W0 := w0_in 395 (by decide +kernel) rfl
theorem wd396 : Cond.fieldLink "StatRowsModel" 99 "StatRowsModel" "firstKept" "I" ∈ W0 := w0_in 396 (by decide +kernel) rfl
theorem wd397 : Cond.fieldLink "StatRowsModel" 22 "StatRowsModel" "counts" "[I" ∈ W0 := w0_in 397 (by decide +kernel) rfl
theorem wd398 : Cond.fieldLink "StatRowsModel" 25 "StatRowsModel" "seen" "[Z" ∈ W0 := w0_in 398 (by decide +kernel) rfl
theorem wd399 : Cond.lays "StatRowsModel" "StatRowsModel" "triples" "I" ∈ W0 := w0_in 399 (by decide +kernel) rfl
theorem wd401 : Cond.laysFinal "StatRowsModel" "StatRowsModel" "subjects" "[I" ∈ W0 := w0_in 401 (by decide +kernel) rfl
theorem wd403 : Cond.laysFinal "StatRowsModel" "StatRowsModel" "predicates" "[I" ∈ W0 := w0_in 403 (by decide +kernel) rfl
theorem wd405 : Cond.laysFinal "StatRowsModel" "StatRowsModel" "objects" "[I" ∈ W0 := w0_in 405 (by decide +kernel) rfl
theorem wd407 : Cond.lays "StatRowsModel" "StatRowsModel" "patterns" "I" ∈ W0 := w0_in 407 (by decide +kernel) rfl
theorem wd409 : Cond.laysFinal "StatRowsModel" "StatRowsModel" "asked" "[I" ∈ W0 := w0_in 409 (by decide +kernel) rfl
theorem wd411 : Cond.lays "StatRowsModel" "StatRowsModel" "ended" "I" ∈ W0 := w0_in 411 (by decide +kernel) rfl
theorem wd413 : Cond.lays "StatRowsModel" "StatRowsModel" "firstKept" "I" ∈ W0 := w0_in 413 (by decide +kernel) rfl
theorem wd415 : Cond.laysFinal "StatRowsModel" "StatRowsModel" "counts" "[I" ∈ W0 := w0_in 415 (by decide +kernel) rfl
theorem wd417 : Cond.laysFinal "StatRowsModel" "StatRowsModel" "seen" "[Z" ∈ W0 := w0_in 417 (by decide +kernel) rfl
theorem wd420 : Cond.arrayClass .boolean ∈ W0 := w0_in 420 (by decide +kernel) rfl
theorem wd421 : Cond.methodLink "StatRowsLaw" 17 yM_triple ∈ W0 := w0_in 421 (by decide +kernel) rfl
theorem wd422 : Cond.instanceMethod yM_triple ∈ W0 := w0_in 422 (by decide +kernel) rfl
theorem wd423 : Cond.selects "StatRowsModel" yM_triple yM_triple ∈ W0 := w0_in 423 (by decide +kernel) rfl
set_option maxRecDepth 20000 in
theorem wd424 : Cond.code yM_triple cM_triple 4 (some .int) ∈ W0 := w0_in 424 rfl rfl
theorem wd425 : Cond.methodLink "StatRowsModel" 33 yM_isTerm ∈ W0 := w0_in 425 (by decide +kernel) rfl
theorem wd426 : Cond.static yM_isTerm ∈ W0 := w0_in 426 (by decide +kernel) rfl
set_option maxRecDepth 20000 in
theorem wd427 : Cond.code yM_isTerm cM_isTerm 1 (some .boolean) ∈ W0 := w0_in 427 rfl rfl
theorem wd428 : Cond.methodLink "StatRowsModel" 37 yM_isPredicate ∈ W0 := w0_in 428 (by decide +kernel) rfl
theorem wd429 : Cond.static yM_isPredicate ∈ W0 := w0_in 429 (by decide +kernel) rfl
set_option maxRecDepth 20000 in
theorem wd430 : Cond.code yM_isPredicate cM_isPredicate 1 (some .boolean) ∈ W0 := w0_in 430 rfl rfl
theorem wd431 : Cond.methodLink "StatRowsModel" 40 yM_find ∈ W0 := w0_in 431 (by decide +kernel) rfl
theorem wd433 : Cond.instanceMethod yM_find ∈ W0 := w0_in 433 (by decide +kernel) rfl
set_option maxRecDepth 20000 in
theorem wd434 : Cond.code yM_find cM_find 6 (some .int) ∈ W0 := w0_in 434 rfl rfl
theorem wd435 : Cond.methodLink "StatRowsLaw" 21 yM_drop ∈ W0 := w0_in 435 (by decide +kernel) rfl
theorem wd436 : Cond.instanceMethod yM_drop ∈ W0 := w0_in 436 (by decide +kernel) rfl
theorem wd437 : Cond.selects "StatRowsModel" yM_drop yM_drop ∈ W0 := w0_in 437 (by decide +kernel) rfl
set_option maxRecDepth 20000 in
theorem wd438 : Cond.code yM_drop cM_drop 5 (some .int) ∈ W0 := w0_in 438 rfl rfl
theorem wd439 : Cond.methodLink "StatRowsLaw" 26 yM_count ∈ W0 := w0_in 439 (by decide +kernel) rfl
theorem wd440 : Cond.instanceMethod yM_count ∈ W0 := w0_in 440 (by decide +kernel) rfl
theorem wd441 : Cond.selects "StatRowsModel" yM_count yM_count ∈ W0 := w0_in 441 (by decide +kernel) rfl
set_option maxRecDepth 20000 in
theorem wd442 : Cond.code yM_count cM_count 3 (some .int) ∈ W0 := w0_in 442 rfl rfl
theorem wd443 : Cond.methodLink "StatRowsModel" 44 yM_countOf ∈ W0 := w0_in 443 (by decide +kernel) rfl
theorem wd445 : Cond.instanceMethod yM_countOf ∈ W0 := w0_in 445 (by decide +kernel) rfl
set_option maxRecDepth 20000 in
theorem wd446 : Cond.code yM_countOf cM_countOf 4 (some .int) ∈ W0 := w0_in 446 rfl rfl
theorem wd447 : Cond.methodLink "StatRowsModel" 48 yM_different ∈ W0 := w0_in 447 (by decide +kernel) rfl
theorem wd449 : Cond.instanceMethod yM_different ∈ W0 := w0_in 449 (by decide +kernel) rfl
set_option maxRecDepth 20000 in
theorem wd450 : Cond.code yM_different cM_different 6 (some .int) ∈ W0 := w0_in 450 rfl rfl
theorem wd451 : Cond.methodLink "StatRowsLaw" 31 yM_chain ∈ W0 := w0_in 451 (by decide +kernel) rfl
theorem wd452 : Cond.instanceMethod yM_chain ∈ W0 := w0_in 452 (by decide +kernel) rfl
theorem wd453 : Cond.selects "StatRowsModel" yM_chain yM_chain ∈ W0 := w0_in 453 (by decide +kernel) rfl
set_option maxRecDepth 20000 in
theorem wd454 : Cond.code yM_chain cM_chain 3 (some .long) ∈ W0 := w0_in 454 rfl rfl
theorem wd455 : Cond.methodLink "StatRowsModel" 60 yM_pairs ∈ W0 := w0_in 455 (by decide +kernel) rfl
theorem wd457 : Cond.instanceMethod yM_pairs ∈ W0 := w0_in 457 (by decide +kernel) rfl
set_option maxRecDepth 20000 in
theorem wd458 : Cond.code yM_pairs cM_pairs 11 (some .long) ∈ W0 := w0_in 458 rfl rfl
theorem wd459 : Cond.methodLink "StatRowsModel" 57 yM_isSampled ∈ W0 := w0_in 459 (by decide +kernel) rfl
theorem wd461 : Cond.instanceMethod yM_isSampled ∈ W0 := w0_in 461 (by decide +kernel) rfl
set_option maxRecDepth 20000 in
theorem wd462 : Cond.code yM_isSampled cM_isSampled 2 (some .boolean) ∈ W0 := w0_in 462 rfl rfl
theorem wd463 : Cond.methodLink "StatRowsModel" 54 yM_hash ∈ W0 := w0_in 463 (by decide +kernel) rfl
theorem wd464 : Cond.static yM_hash ∈ W0 := w0_in 464 (by decide +kernel) rfl
set_option maxRecDepth 20000 in
theorem wd465 : Cond.code yM_hash cM_hash 2 (some .int) ∈ W0 := w0_in 465 rfl rfl
theorem wd466 : Cond.constant "StatRowsModel" 52 (-1640531535) ∈ W0 := w0_in 466 (by decide +kernel) rfl
theorem wd467 : Cond.constant "StatRowsModel" 53 (-2048144777) ∈ W0 := w0_in 467 (by decide +kernel) rfl
theorem wd468 : Cond.constantLong "StatRowsModel" 64 (-1) ∈ W0 := w0_in 468 (by decide +kernel) rfl
theorem wd469 : Cond.methodLink "StatRowsLaw" 35 yM_star ∈ W0 := w0_in 469 (by decide +kernel) rfl
theorem wd470 : Cond.instanceMethod yM_star ∈ W0 := w0_in 470 (by decide +kernel) rfl
theorem wd471 : Cond.selects "StatRowsModel" yM_star yM_star ∈ W0 := w0_in 471 (by decide +kernel) rfl
set_option maxRecDepth 20000 in
theorem wd472 : Cond.code yM_star cM_star 3 (some .long) ∈ W0 := w0_in 472 rfl rfl
theorem wd473 : Cond.methodLink "StatRowsLaw" 39 yM_bucket ∈ W0 := w0_in 473 (by decide +kernel) rfl
theorem wd474 : Cond.instanceMethod yM_bucket ∈ W0 := w0_in 474 (by decide +kernel) rfl
theorem wd475 : Cond.selects "StatRowsModel" yM_bucket yM_bucket ∈ W0 := w0_in 475 (by decide +kernel) rfl
set_option maxRecDepth 20000 in
theorem wd476 : Cond.code yM_bucket cM_bucket 4 (some .int) ∈ W0 := w0_in 476 rfl rfl
theorem wd477 : Cond.methodLink "StatRowsModel" 66 yM_between ∈ W0 := w0_in 477 (by decide +kernel) rfl
theorem wd479 : Cond.instanceMethod yM_between ∈ W0 := w0_in 479 (by decide +kernel) rfl
set_option maxRecDepth 20000 in
theorem wd480 : Cond.code yM_between cM_between 6 (some .int) ∈ W0 := w0_in 480 rfl rfl
theorem wd481 : Cond.methodLink "StatRowsLaw" 43 yM_quantile ∈ W0 := w0_in 481 (by decide +kernel) rfl
theorem wd482 : Cond.instanceMethod yM_quantile ∈ W0 := w0_in 482 (by decide +kernel) rfl
theorem wd483 : Cond.selects "StatRowsModel" yM_quantile yM_quantile ∈ W0 := w0_in 483 (by decide +kernel) rfl
set_option maxRecDepth 20000 in
theorem wd484 : Cond.code yM_quantile cM_quantile 5 (some .int) ∈ W0 := w0_in 484 rfl rfl
theorem wd485 : Cond.methodLink "StatRowsLaw" 47 yM_register ∈ W0 := w0_in 485 (by decide +kernel) rfl
theorem wd486 : Cond.instanceMethod yM_register ∈ W0 := w0_in 486 (by decide +kernel) rfl
theorem wd487 : Cond.selects "StatRowsModel" yM_register yM_register ∈ W0 := w0_in 487 (by decide +kernel) rfl
set_option maxRecDepth 20000 in
theorem wd488 : Cond.code yM_register cM_register 3 (some .int) ∈ W0 := w0_in 488 rfl rfl
theorem wd489 : Cond.methodLink "StatRowsModel" 69 yM_areBits ∈ W0 := w0_in 489 (by decide +kernel) rfl
theorem wd490 : Cond.static yM_areBits ∈ W0 := w0_in 490 (by decide +kernel) rfl
set_option maxRecDepth 20000 in
theorem wd491 : Cond.code yM_areBits cM_areBits 1 (some .boolean) ∈ W0 := w0_in 491 rfl rfl
theorem wd492 : Cond.methodLink "StatRowsModel" 72 yM_registerOf ∈ W0 := w0_in 492 (by decide +kernel) rfl
theorem wd494 : Cond.instanceMethod yM_registerOf ∈ W0 := w0_in 494 (by decide +kernel) rfl
set_option maxRecDepth 20000 in
theorem wd495 : Cond.code yM_registerOf cM_registerOf 7 (some .int) ∈ W0 := w0_in 495 rfl rfl
theorem wd496 : Cond.methodLink "StatRowsLaw" 51 yM_distinct ∈ W0 := w0_in 496 (by decide +kernel) rfl
theorem wd497 : Cond.instanceMethod yM_distinct ∈ W0 := w0_in 497 (by decide +kernel) rfl
theorem wd498 : Cond.selects "StatRowsModel" yM_distinct yM_distinct ∈ W0 := w0_in 498 (by decide +kernel) rfl
set_option maxRecDepth 20000 in
theorem wd499 : Cond.code yM_distinct cM_distinct 9 (some .long) ∈ W0 := w0_in 499 rfl rfl
theorem wd500 : Cond.methodLink "StatRowsModel" 76 yM_aboutFew ∈ W0 := w0_in 500 (by decide +kernel) rfl
theorem wd501 : Cond.static yM_aboutFew ∈ W0 := w0_in 501 (by decide +kernel) rfl
set_option maxRecDepth 20000 in
theorem wd502 : Cond.code yM_aboutFew cM_aboutFew 1 (some .int) ∈ W0 := w0_in 502 rfl rfl
theorem wd503 : Cond.constantLong "StatRowsModel" 79 184992831373312 ∈ W0 := w0_in 503 (by decide +kernel) rfl
theorem wd504 : Cond.constantLong "StatRowsModel" 81 1000 ∈ W0 := w0_in 504 (by decide +kernel) rfl
theorem wd505 : Cond.methodLink "StatRowsLaw" 56 yM_estimate ∈ W0 := w0_in 505 (by decide +kernel) rfl
theorem wd506 : Cond.instanceMethod yM_estimate ∈ W0 := w0_in 506 (by decide +kernel) rfl
theorem wd507 : Cond.selects "StatRowsModel" yM_estimate yM_estimate ∈ W0 := w0_in 507 (by decide +kernel) rfl
set_option maxRecDepth 20000 in
theorem wd508 : Cond.code yM_estimate cM_estimate 10 (some .long) ∈ W0 := w0_in 508 rfl rfl
theorem wd509 : Cond.constantLong "StatRowsModel" 83 16 ∈ W0 := w0_in 509 (by decide +kernel) rfl
theorem wd510 : Cond.methodLink "StatRowsModel" 85 yM_greatest ∈ W0 := w0_in 510 (by decide +kernel) rfl
theorem wd511 : Cond.static yM_greatest ∈ W0 := w0_in 511 (by decide +kernel) rfl
set_option maxRecDepth 20000 in
theorem wd512 : Cond.code yM_greatest cM_greatest 3 (some .int) ∈ W0 := w0_in 512 rfl rfl
theorem wd513 : Cond.methodLink "StatRowsLaw" 60 yM_range ∈ W0 := w0_in 513 (by decide +kernel) rfl
theorem wd514 : Cond.instanceMethod yM_range ∈ W0 := w0_in 514 (by decide +kernel) rfl
theorem wd515 : Cond.selects "StatRowsModel" yM_range yM_range ∈ W0 := w0_in 515 (by decide +kernel) rfl
set_option maxRecDepth 20000 in
theorem wd516 : Cond.code yM_range cM_range 8 (some .int) ∈ W0 := w0_in 516 rfl rfl
theorem wd517 : Cond.methodLink "StatRowsLaw" 64 yM_sample ∈ W0 := w0_in 517 (by decide +kernel) rfl
theorem wd518 : Cond.instanceMethod yM_sample ∈ W0 := w0_in 518 (by decide +kernel) rfl
theorem wd519 : Cond.selects "StatRowsModel" yM_sample yM_sample ∈ W0 := w0_in 519 (by decide +kernel) rfl
set_option maxRecDepth 20000 in
theorem wd520 : Cond.code yM_sample cM_sample 8 (some .int) ∈ W0 := w0_in 520 rfl rfl
theorem wd521 : Cond.constant "StatRowsModel" 88 65536 ∈ W0 := w0_in 521 (by decide +kernel) rfl
theorem wd522 : Cond.methodLink "StatRowsLaw" 68 yM_pattern ∈ W0 := w0_in 522 (by decide +kernel) rfl
theorem wd523 : Cond.instanceMethod yM_pattern ∈ W0 := w0_in 523 (by decide +kernel) rfl
theorem wd524 : Cond.selects "StatRowsModel" yM_pattern yM_pattern ∈ W0 := w0_in 524 (by decide +kernel) rfl
set_option maxRecDepth 20000 in
theorem wd525 : Cond.code yM_pattern cM_pattern 5 (some .int) ∈ W0 := w0_in 525 rfl rfl
theorem wd526 : Cond.methodLink "StatRowsLaw" 73 yM_matches ∈ W0 := w0_in 526 (by decide +kernel) rfl
theorem wd527 : Cond.instanceMethod yM_matches ∈ W0 := w0_in 527 (by decide +kernel) rfl
theorem wd528 : Cond.selects "StatRowsModel" yM_matches yM_matches ∈ W0 := w0_in 528 (by decide +kernel) rfl
set_option maxRecDepth 20000 in
theorem wd529 : Cond.code yM_matches cM_matches 4 (some .int) ∈ W0 := w0_in 529 rfl rfl
theorem wd530 : Cond.methodLink "StatRowsModel" 92 yM_fits ∈ W0 := w0_in 530 (by decide +kernel) rfl
theorem wd531 : Cond.static yM_fits ∈ W0 := w0_in 531 (by decide +kernel) rfl
set_option maxRecDepth 20000 in
theorem wd532 : Cond.code yM_fits cM_fits 2 (some .boolean) ∈ W0 := w0_in 532 rfl rfl
theorem wd533 : Cond.methodLink "StatRowsLaw" 78 yM_version ∈ W0 := w0_in 533 (by decide +kernel) rfl
theorem wd534 : Cond.instanceMethod yM_version ∈ W0 := w0_in 534 (by decide +kernel) rfl
theorem wd535 : Cond.selects "StatRowsModel" yM_version yM_version ∈ W0 := w0_in 535 (by decide +kernel) rfl
set_option maxRecDepth 20000 in
theorem wd536 : Cond.code yM_version cM_version 2 (some .int) ∈ W0 := w0_in 536 rfl rfl
theorem wd537 : Cond.methodLink "StatRowsLaw" 82 yM_countAt ∈ W0 := w0_in 537 (by decide +kernel) rfl
theorem wd538 : Cond.instanceMethod yM_countAt ∈ W0 := w0_in 538 (by decide +kernel) rfl
theorem wd539 : Cond.selects "StatRowsModel" yM_countAt yM_countAt ∈ W0 := w0_in 539 (by decide +kernel) rfl
set_option maxRecDepth 20000 in
theorem wd540 : Cond.code yM_countAt cM_countAt 3 (some .int) ∈ W0 := w0_in 540 rfl rfl
theorem wd541 : Cond.methodLink "StatRowsLaw" 86 yM_forget ∈ W0 := w0_in 541 (by decide +kernel) rfl
theorem wd542 : Cond.instanceMethod yM_forget ∈ W0 := w0_in 542 (by decide +kernel) rfl
theorem wd543 : Cond.selects "StatRowsModel" yM_forget yM_forget ∈ W0 := w0_in 543 (by decide +kernel) rfl
set_option maxRecDepth 20000 in
theorem wd544 : Cond.code yM_forget cM_forget 3 (some .int) ∈ W0 := w0_in 544 rfl rfl
theorem wd545 : Cond.methodLink "StatRowsLaw" 90 yM_told ∈ W0 := w0_in 545 (by decide +kernel) rfl
theorem wd546 : Cond.instanceMethod yM_told ∈ W0 := w0_in 546 (by decide +kernel) rfl
theorem wd547 : Cond.selects "StatRowsModel" yM_told yM_told ∈ W0 := w0_in 547 (by decide +kernel) rfl
set_option maxRecDepth 20000 in
theorem wd548 : Cond.code yM_told cM_told 2 (some .int) ∈ W0 := w0_in 548 rfl rfl
theorem wp0 : Cond.selects "StatRows$TripleRow" yT_placeOf yT_placeOf ∈ W0 := w0_sel 0 (by decide +kernel) rfl
theorem wp1 : Cond.selects "StatRows$TripleRow" yT_isAt yT_isAt ∈ W0 := w0_sel 1 (by decide +kernel) rfl
theorem wp2 : Cond.selects "StatRows$TripleRow" yT_moveStartsAfter yT_moveStartsAfter ∈ W0 := w0_sel 2 (by decide +kernel) rfl
theorem wp3 : Cond.selects "StatRows" yX_subjectsOf yX_subjectsOf ∈ W0 := w0_sel 3 (by decide +kernel) rfl
theorem wp4 : Cond.selects "StatRows" yX_clearTally yX_clearTally ∈ W0 := w0_sel 4 (by decide +kernel) rfl
theorem wp5 : Cond.selects "StatRows" yX_tallySubjects yX_tallySubjects ∈ W0 := w0_sel 5 (by decide +kernel) rfl
theorem wp6 : Cond.selects "StatRows" yX_differentInTally yX_differentInTally ∈ W0 := w0_sel 6 (by decide +kernel) rfl
theorem wp7 : Cond.selects "StatRows" yX_objectsOf yX_objectsOf ∈ W0 := w0_sel 7 (by decide +kernel) rfl
theorem wp8 : Cond.selects "StatRows" yX_tallyObjects yX_tallyObjects ∈ W0 := w0_sel 8 (by decide +kernel) rfl
theorem wp9 : Cond.selects "StatRows" yX_sumAtSubjects yX_sumAtSubjects ∈ W0 := w0_sel 9 (by decide +kernel) rfl
theorem wp10 : Cond.selects "StatRows" yX_withObjectBetween yX_withObjectBetween ∈ W0 := w0_sel 10 (by decide +kernel) rfl
theorem wp11 : Cond.selects "StatRows" yX_tallySubjectsOfAll yX_tallySubjectsOfAll ∈ W0 := w0_sel 11 (by decide +kernel) rfl
theorem wp12 : Cond.selects "StatRows$RegisterRow" yG_tell yG_tell ∈ W0 := w0_sel 12 (by decide +kernel) rfl
theorem wp13 : Cond.selects "StatRows" yX_joinEstimate yX_joinEstimate ∈ W0 := w0_sel 13 (by decide +kernel) rfl
theorem wp14 : Cond.selects "StatRows" yX_sampledChainEstimate yX_sampledChainEstimate ∈ W0 := w0_sel 14 (by decide +kernel) rfl
theorem wp15 : Cond.selects "StatRows$VersionRow" yV_hasEnded yV_hasEnded ∈ W0 := w0_sel 15 (by decide +kernel) rfl
theorem wp16 : Cond.selects "StatRowsModel" yM_find yM_find ∈ W0 := w0_sel 16 (by decide +kernel) rfl
theorem wp17 : Cond.selects "StatRowsModel" yM_countOf yM_countOf ∈ W0 := w0_sel 17 (by decide +kernel) rfl
theorem wp18 : Cond.selects "StatRowsModel" yM_different yM_different ∈ W0 := w0_sel 18 (by decide +kernel) rfl
theorem wp19 : Cond.selects "StatRowsModel" yM_pairs yM_pairs ∈ W0 := w0_sel 19 (by decide +kernel) rfl
theorem wp20 : Cond.selects "StatRowsModel" yM_isSampled yM_isSampled ∈ W0 := w0_sel 20 (by decide +kernel) rfl
theorem wp21 : Cond.selects "StatRowsModel" yM_between yM_between ∈ W0 := w0_sel 21 (by decide +kernel) rfl
theorem wp22 : Cond.selects "StatRowsModel" yM_registerOf yM_registerOf ∈ W0 := w0_sel 22 (by decide +kernel) rfl
theorem inT : ∀ w ∈ u_ws "StatRows$TripleRow" TT 2, w ∈ W0 := List.forall_mem_cons.mpr ⟨wd26, List.forall_mem_cons.mpr ⟨wd28, fun _ h => absurd h List.not_mem_nil⟩⟩
theorem inP : ∀ w ∈ u_ws "StatRows$PatternRow" TP 4, w ∈ W0 := List.forall_mem_cons.mpr ⟨wd42, List.forall_mem_cons.mpr ⟨wd44, List.forall_mem_cons.mpr ⟨wd46, List.forall_mem_cons.mpr ⟨wd48, fun _ h => absurd h List.not_mem_nil⟩⟩⟩⟩
theorem inV : ∀ w ∈ u_ws "StatRows$VersionRow" TV 3, w ∈ W0 := List.forall_mem_cons.mpr ⟨wd60, List.forall_mem_cons.mpr ⟨wd62, List.forall_mem_cons.mpr ⟨wd64, fun _ h => absurd h List.not_mem_nil⟩⟩⟩
theorem inG : ∀ w ∈ u_ws "StatRows$RegisterRow" TG 1, w ∈ W0 := List.forall_mem_cons.mpr ⟨wd74, fun _ h => absurd h List.not_mem_nil⟩
theorem inX : ∀ w ∈ u_ws "StatRows" TX 5, w ∈ W0 := List.forall_mem_cons.mpr ⟨wd82, List.forall_mem_cons.mpr ⟨wd84, List.forall_mem_cons.mpr ⟨wd86, List.forall_mem_cons.mpr ⟨wd88, List.forall_mem_cons.mpr ⟨wd90, fun _ h => absurd h List.not_mem_nil⟩⟩⟩⟩⟩
theorem inM : ∀ w ∈ u_ws "StatRowsModel" TM 10, w ∈ W0 := List.forall_mem_cons.mpr ⟨wd399, List.forall_mem_cons.mpr ⟨wd401, List.forall_mem_cons.mpr ⟨wd403, List.forall_mem_cons.mpr ⟨wd405, List.forall_mem_cons.mpr ⟨wd407, List.forall_mem_cons.mpr ⟨wd409, List.forall_mem_cons.mpr ⟨wd411, List.forall_mem_cons.mpr ⟨wd413, List.forall_mem_cons.mpr ⟨wd415, List.forall_mem_cons.mpr ⟨wd417, fun _ h => absurd h List.not_mem_nil⟩⟩⟩⟩⟩⟩⟩⟩⟩⟩
def wX_init : List Cond := .code yX_init cX_init 1 none :: W0
def wT_init : List Cond := .code yT_init cT_init 1 none :: W0
def wP_init : List Cond := .code yP_init cP_init 1 none :: W0
def wV_init : List Cond := .code yV_init cV_init 1 none :: W0
def wG_init : List Cond := .code yG_init cG_init 1 none :: W0
def wX_triple : List Cond := .code yX_triple cX_triple 4 (some .int) :: W0
def wX_isTriple : List Cond := .code yX_isTriple cX_isTriple 3 (some .boolean) :: W0
def wX_isNumber : List Cond := .code yX_isNumber cX_isNumber 1 (some .boolean) :: W0
def wX_isPredicate : List Cond := .code yX_isPredicate cX_isPredicate 1 (some .boolean) :: W0
def wX_pair : List Cond := .code yX_pair cX_pair 2 (some .int) :: W0
def wT_put : List Cond := .code yT_put cT_put 4 (some .int) :: W0
def wT_placeOf : List Cond := .code yT_placeOf cT_placeOf 5 (some .int) :: W0
def wT_end : List Cond := .code yT_end cT_end 2 (some .int) :: W0
def wT_start : List Cond := .code yT_start cT_start 2 (some .int) :: W0
def wT_isAt : List Cond := .code yT_isAt cT_isAt 4 (some .boolean) :: W0
def wT_size : List Cond := .code yT_size cT_size 1 (some .int) :: W0
def wT_moveStartsAfter : List Cond := .code yT_moveStartsAfter cT_moveStartsAfter 4 none :: W0
def wX_drop : List Cond := .code yX_drop cX_drop 4 (some .int) :: W0
def wT_remove : List Cond := .code yT_remove cT_remove 4 (some .int) :: W0
def wX_count : List Cond := .code yX_count cX_count 3 (some .int) :: W0
def wT_sizeOf : List Cond := .code yT_sizeOf cT_sizeOf 2 (some .int) :: W0
def wX_subjectsOf : List Cond := .code yX_subjectsOf cX_subjectsOf 2 (some .int) :: W0
def wX_clearTally : List Cond := .code yX_clearTally cX_clearTally 1 none :: W0
def wJA_fill : List Cond := .code yJA_fill cJA_fill 4 none :: W0
def wX_tallySubjects : List Cond := .code yX_tallySubjects cX_tallySubjects 4 none :: W0
def wT_subjectAt : List Cond := .code yT_subjectAt cT_subjectAt 2 (some .int) :: W0
def wX_differentInTally : List Cond := .code yX_differentInTally cX_differentInTally 3 (some .int) :: W0
def wX_objectsOf : List Cond := .code yX_objectsOf cX_objectsOf 2 (some .int) :: W0
def wX_tallyObjects : List Cond := .code yX_tallyObjects cX_tallyObjects 5 none :: W0
def wT_isSampled : List Cond := .code yT_isSampled cT_isSampled 2 (some .boolean) :: W0
def wX_hash : List Cond := .code yX_hash cX_hash 2 (some .int) :: W0
def wT_objectAt : List Cond := .code yT_objectAt cT_objectAt 2 (some .int) :: W0
def wX_chain : List Cond := .code yX_chain cX_chain 3 (some .long) :: W0
def wX_sumAtSubjects : List Cond := .code yX_sumAtSubjects cX_sumAtSubjects 7 (some .long) :: W0
def wX_star : List Cond := .code yX_star cX_star 3 (some .long) :: W0
def wX_bucket : List Cond := .code yX_bucket cX_bucket 4 (some .int) :: W0
def wX_withObjectBetween : List Cond := .code yX_withObjectBetween cX_withObjectBetween 8 (some .int) :: W0
def wX_quantile : List Cond := .code yX_quantile cX_quantile 6 (some .int) :: W0
def wX_register : List Cond := .code yX_register cX_register 3 (some .int) :: W0
def wX_isPredicateSet : List Cond := .code yX_isPredicateSet cX_isPredicateSet 1 (some .boolean) :: W0
def wX_tallySubjectsOfAll : List Cond := .code yX_tallySubjectsOfAll cX_tallySubjectsOfAll 3 none :: W0
def wG_tellAll : List Cond := .code yG_tellAll cG_tellAll 3 none :: W0
def wG_tell : List Cond := .code yG_tell cG_tell 3 none :: W0
def wG_rankOf : List Cond := .code yG_rankOf cG_rankOf 2 (some .int) :: W0
def wJM_max : List Cond := .code yJM_max cJM_max 2 (some .int) :: W0
def wG_rank : List Cond := .code yG_rank cG_rank 2 (some .int) :: W0
def wX_distinct : List Cond := .code yX_distinct cX_distinct 4 (some .long) :: W0
def wG_about : List Cond := .code yG_about cG_about 5 (some .long) :: W0
def wX_estimate : List Cond := .code yX_estimate cX_estimate 4 (some .long) :: W0
def wX_joinEstimate : List Cond := .code yX_joinEstimate cX_joinEstimate 5 (some .long) :: W0
def wX_sampledChainEstimate : List Cond := .code yX_sampledChainEstimate cX_sampledChainEstimate 3 (some .long) :: W0
def wX_range : List Cond := .code yX_range cX_range 9 (some .int) :: W0
def wX_shared : List Cond := .code yX_shared cX_shared 6 (some .int) :: W0
def wJM_min : List Cond := .code yJM_min cJM_min 2 (some .int) :: W0
def wX_sample : List Cond := .code yX_sample cX_sample 6 (some .int) :: W0
def wT_pairAt : List Cond := .code yT_pairAt cT_pairAt 2 (some .int) :: W0
def wX_pattern : List Cond := .code yX_pattern cX_pattern 4 (some .int) :: W0
def wX_isNumberOrAny : List Cond := .code yX_isNumberOrAny cX_isNumberOrAny 1 (some .boolean) :: W0
def wX_isPredicateOrAny : List Cond := .code yX_isPredicateOrAny cX_isPredicateOrAny 1 (some .boolean) :: W0
def wP_rowOf : List Cond := .code yP_rowOf cP_rowOf 5 (some .int) :: W0
def wX_matches : List Cond := .code yX_matches cX_matches 6 (some .int) :: W0
def wP_has : List Cond := .code yP_has cP_has 2 (some .boolean) :: W0
def wP_goesWith : List Cond := .code yP_goesWith cP_goesWith 5 (some .boolean) :: W0
def wP_allows : List Cond := .code yP_allows cP_allows 2 (some .boolean) :: W0
def wX_version : List Cond := .code yX_version cX_version 1 (some .int) :: W0
def wV_finish : List Cond := .code yV_finish cV_finish 3 (some .int) :: W0
def wV_kept : List Cond := .code yV_kept cV_kept 1 (some .int) :: W0
def wV_place : List Cond := .code yV_place cV_place 2 (some .int) :: W0
def wX_countAt : List Cond := .code yX_countAt cX_countAt 3 (some .int) :: W0
def wV_sizeAt : List Cond := .code yV_sizeAt cV_sizeAt 3 (some .int) :: W0
def wV_hasEnded : List Cond := .code yV_hasEnded cV_hasEnded 2 (some .boolean) :: W0
def wX_forget : List Cond := .code yX_forget cX_forget 2 (some .int) :: W0
def wV_forgetBelow : List Cond := .code yV_forgetBelow cV_forgetBelow 3 (some .int) :: W0
def wX_told : List Cond := .code yX_told cX_told 2 (some .int) :: W0
def wP_size : List Cond := .code yP_size cP_size 1 (some .int) :: W0
def wV_ended : List Cond := .code yV_ended cV_ended 1 (some .int) :: W0
def wM_init : List Cond := .code yM_init cM_init 1 none :: W0
def wM_triple : List Cond := .code yM_triple cM_triple 4 (some .int) :: W0
def wM_isTerm : List Cond := .code yM_isTerm cM_isTerm 1 (some .boolean) :: W0
def wM_isPredicate : List Cond := .code yM_isPredicate cM_isPredicate 1 (some .boolean) :: W0
def wM_find : List Cond := .code yM_find cM_find 6 (some .int) :: W0
def wM_drop : List Cond := .code yM_drop cM_drop 5 (some .int) :: W0
def wM_count : List Cond := .code yM_count cM_count 3 (some .int) :: W0
def wM_countOf : List Cond := .code yM_countOf cM_countOf 4 (some .int) :: W0
def wM_different : List Cond := .code yM_different cM_different 6 (some .int) :: W0
def wM_chain : List Cond := .code yM_chain cM_chain 3 (some .long) :: W0
def wM_pairs : List Cond := .code yM_pairs cM_pairs 11 (some .long) :: W0
def wM_isSampled : List Cond := .code yM_isSampled cM_isSampled 2 (some .boolean) :: W0
def wM_hash : List Cond := .code yM_hash cM_hash 2 (some .int) :: W0
def wM_star : List Cond := .code yM_star cM_star 3 (some .long) :: W0
def wM_bucket : List Cond := .code yM_bucket cM_bucket 4 (some .int) :: W0
def wM_between : List Cond := .code yM_between cM_between 6 (some .int) :: W0
def wM_quantile : List Cond := .code yM_quantile cM_quantile 5 (some .int) :: W0
def wM_register : List Cond := .code yM_register cM_register 3 (some .int) :: W0
def wM_areBits : List Cond := .code yM_areBits cM_areBits 1 (some .boolean) :: W0
def wM_registerOf : List Cond := .code yM_registerOf cM_registerOf 7 (some .int) :: W0
def wM_distinct : List Cond := .code yM_distinct cM_distinct 9 (some .long) :: W0
def wM_aboutFew : List Cond := .code yM_aboutFew cM_aboutFew 1 (some .int) :: W0
def wM_estimate : List Cond := .code yM_estimate cM_estimate 10 (some .long) :: W0
def wM_greatest : List Cond := .code yM_greatest cM_greatest 3 (some .int) :: W0
def wM_range : List Cond := .code yM_range cM_range 8 (some .int) :: W0
def wM_sample : List Cond := .code yM_sample cM_sample 8 (some .int) :: W0
def wM_pattern : List Cond := .code yM_pattern cM_pattern 5 (some .int) :: W0
def wM_matches : List Cond := .code yM_matches cM_matches 4 (some .int) :: W0
def wM_fits : List Cond := .code yM_fits cM_fits 2 (some .boolean) :: W0
def wM_version : List Cond := .code yM_version cM_version 2 (some .int) :: W0
def wM_countAt : List Cond := .code yM_countAt cM_countAt 3 (some .int) :: W0
def wM_forget : List Cond := .code yM_forget cM_forget 3 (some .int) :: W0
def wM_told : List Cond := .code yM_told cM_told 2 (some .int) :: W0
theorem gd_1 {c1 : Cond} (h : c1 ∈ W0) : GoodIn W0 (c1 :: W0) := fun w hw => (List.mem_cons.mp hw).elim (fun e => by rw [e]; exact ⟨h, w0_good h⟩) (fun h => ⟨h, w0_good h⟩)
theorem gd_V {c1 : Cond} {own C : String} {idx : Nat} {y : MethodName} (h1 : .methodLink own idx y ∈ W0) (h2 : .instanceMethod y ∈ W0) (h3 : .selects C y y ∈ W0) (h4 : .initialized C ∈ W0) (h : c1 ∈ W0) : GoodIn W0 (wsV own idx C y (c1 :: W0)) := fun w hw => by
  rcases List.mem_append.mp hw with hw | hw
  · simp only [List.mem_cons, List.not_mem_nil, or_false] at hw
    rcases hw with rfl | rfl | rfl | rfl
    · exact ⟨h1, w0_good h1⟩
    · exact ⟨h2, w0_good h2⟩
    · exact ⟨h3, w0_good h3⟩
    · exact ⟨h4, w0_good h4⟩
  · exact gd_1 h w hw
theorem gd_S {c1 : Cond} {own : String} {idx : Nat} {y : MethodName} (h1 : .methodLink own idx y ∈ W0) (h2 : .static y ∈ W0) (h4 : .initialized y.cls ∈ W0) (h : c1 ∈ W0) : GoodIn W0 (va_wsS own idx y (c1 :: W0)) := fun w hw => by
  rcases List.mem_append.mp hw with hw | hw
  · simp only [List.mem_cons, List.not_mem_nil, or_false] at hw
    rcases hw with rfl | rfl | rfl
    · exact ⟨h1, w0_good h1⟩
    · exact ⟨h2, w0_good h2⟩
    · exact ⟨h4, w0_good h4⟩
  · exact gd_1 h w hw
