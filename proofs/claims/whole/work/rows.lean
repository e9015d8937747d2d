section
-- ===== PART A: goes FIRST, ahead of the names: the tables' words, and 'selects' of the private methods out of them =====
/-- a private method of a class that the tables say can be made, by its rows of tables_1 -/
def lw_okq (q : MethodName × Nat) : Prop := (q.1.cls ≠ "java/lang/invoke/MethodHandle" ∧ q.1.cls ≠ "java/lang/invoke/VarHandle") ∧ Cond.instantiable q.1.cls q.2 ∈ tables_1 ∧ Cond.privateMethod q.1 ∈ tables_1 ∧ Cond.instanceMethod q.1 ∈ tables_1
theorem lw_p0 : lw_okq (⟨"StatRows$TripleRow", "placeOf", "(II)I"⟩, 2) := ⟨⟨by decide +kernel, by decide +kernel⟩, List.mem_of_getElem? (i := 19) (by decide +kernel), List.mem_of_getElem? (i := 114) (by decide +kernel), List.mem_of_getElem? (i := 115) (by decide +kernel)⟩
theorem lw_p1 : lw_okq (⟨"StatRows$TripleRow", "isAt", "(III)Z"⟩, 2) := ⟨⟨by decide +kernel, by decide +kernel⟩, List.mem_of_getElem? (i := 19) (by decide +kernel), List.mem_of_getElem? (i := 126) (by decide +kernel), List.mem_of_getElem? (i := 127) (by decide +kernel)⟩
theorem lw_p2 : lw_okq (⟨"StatRows$TripleRow", "moveStartsAfter", "(II)V"⟩, 2) := ⟨⟨by decide +kernel, by decide +kernel⟩, List.mem_of_getElem? (i := 19) (by decide +kernel), List.mem_of_getElem? (i := 137) (by decide +kernel), List.mem_of_getElem? (i := 138) (by decide +kernel)⟩
theorem lw_p3 : lw_okq (⟨"StatRows", "subjectsOf", "(I)I"⟩, 5) := ⟨⟨by decide +kernel, by decide +kernel⟩, List.mem_of_getElem? (i := 11) (by decide +kernel), List.mem_of_getElem? (i := 157) (by decide +kernel), List.mem_of_getElem? (i := 158) (by decide +kernel)⟩
theorem lw_p4 : lw_okq (⟨"StatRows", "clearTally", "()V"⟩, 5) := ⟨⟨by decide +kernel, by decide +kernel⟩, List.mem_of_getElem? (i := 11) (by decide +kernel), List.mem_of_getElem? (i := 161) (by decide +kernel), List.mem_of_getElem? (i := 162) (by decide +kernel)⟩
theorem lw_p5 : lw_okq (⟨"StatRows", "tallySubjects", "(I)V"⟩, 5) := ⟨⟨by decide +kernel, by decide +kernel⟩, List.mem_of_getElem? (i := 11) (by decide +kernel), List.mem_of_getElem? (i := 168) (by decide +kernel), List.mem_of_getElem? (i := 169) (by decide +kernel)⟩
theorem lw_p6 : lw_okq (⟨"StatRows", "differentInTally", "()I"⟩, 5) := ⟨⟨by decide +kernel, by decide +kernel⟩, List.mem_of_getElem? (i := 11) (by decide +kernel), List.mem_of_getElem? (i := 178) (by decide +kernel), List.mem_of_getElem? (i := 179) (by decide +kernel)⟩
theorem lw_p7 : lw_okq (⟨"StatRows", "objectsOf", "(I)I"⟩, 5) := ⟨⟨by decide +kernel, by decide +kernel⟩, List.mem_of_getElem? (i := 11) (by decide +kernel), List.mem_of_getElem? (i := 182) (by decide +kernel), List.mem_of_getElem? (i := 183) (by decide +kernel)⟩
theorem lw_p8 : lw_okq (⟨"StatRows", "tallyObjects", "(IZ)V"⟩, 5) := ⟨⟨by decide +kernel, by decide +kernel⟩, List.mem_of_getElem? (i := 11) (by decide +kernel), List.mem_of_getElem? (i := 186) (by decide +kernel), List.mem_of_getElem? (i := 187) (by decide +kernel)⟩
theorem lw_p9 : lw_okq (⟨"StatRows", "sumAtSubjects", "(IZ)J"⟩, 5) := ⟨⟨by decide +kernel, by decide +kernel⟩, List.mem_of_getElem? (i := 11) (by decide +kernel), List.mem_of_getElem? (i := 208) (by decide +kernel), List.mem_of_getElem? (i := 209) (by decide +kernel)⟩
theorem lw_p10 : lw_okq (⟨"StatRows", "withObjectBetween", "(III)I"⟩, 5) := ⟨⟨by decide +kernel, by decide +kernel⟩, List.mem_of_getElem? (i := 11) (by decide +kernel), List.mem_of_getElem? (i := 220) (by decide +kernel), List.mem_of_getElem? (i := 221) (by decide +kernel)⟩
theorem lw_p11 : lw_okq (⟨"StatRows", "tallySubjectsOfAll", "(I)V"⟩, 5) := ⟨⟨by decide +kernel, by decide +kernel⟩, List.mem_of_getElem? (i := 11) (by decide +kernel), List.mem_of_getElem? (i := 235) (by decide +kernel), List.mem_of_getElem? (i := 236) (by decide +kernel)⟩
theorem lw_p12 : lw_okq (⟨"StatRows$RegisterRow", "tell", "(I)V"⟩, 1) := ⟨⟨by decide +kernel, by decide +kernel⟩, List.mem_of_getElem? (i := 68) (by decide +kernel), List.mem_of_getElem? (i := 245) (by decide +kernel), List.mem_of_getElem? (i := 246) (by decide +kernel)⟩
theorem lw_p13 : lw_okq (⟨"StatRows", "joinEstimate", "(III)J"⟩, 5) := ⟨⟨by decide +kernel, by decide +kernel⟩, List.mem_of_getElem? (i := 11) (by decide +kernel), List.mem_of_getElem? (i := 275) (by decide +kernel), List.mem_of_getElem? (i := 276) (by decide +kernel)⟩
theorem lw_p14 : lw_okq (⟨"StatRows", "sampledChainEstimate", "(II)J"⟩, 5) := ⟨⟨by decide +kernel, by decide +kernel⟩, List.mem_of_getElem? (i := 11) (by decide +kernel), List.mem_of_getElem? (i := 280) (by decide +kernel), List.mem_of_getElem? (i := 281) (by decide +kernel)⟩
theorem lw_p15 : lw_okq (⟨"StatRows$VersionRow", "hasEnded", "(I)Z"⟩, 3) := ⟨⟨by decide +kernel, by decide +kernel⟩, List.mem_of_getElem? (i := 52) (by decide +kernel), List.mem_of_getElem? (i := 357) (by decide +kernel), List.mem_of_getElem? (i := 358) (by decide +kernel)⟩
def lw_privs_1 : List (MethodName × Nat) := [(⟨"StatRows$TripleRow", "placeOf", "(II)I"⟩, 2), (⟨"StatRows$TripleRow", "isAt", "(III)Z"⟩, 2), (⟨"StatRows$TripleRow", "moveStartsAfter", "(II)V"⟩, 2), (⟨"StatRows", "subjectsOf", "(I)I"⟩, 5), (⟨"StatRows", "clearTally", "()V"⟩, 5), (⟨"StatRows", "tallySubjects", "(I)V"⟩, 5), (⟨"StatRows", "differentInTally", "()I"⟩, 5), (⟨"StatRows", "objectsOf", "(I)I"⟩, 5), (⟨"StatRows", "tallyObjects", "(IZ)V"⟩, 5), (⟨"StatRows", "sumAtSubjects", "(IZ)J"⟩, 5), (⟨"StatRows", "withObjectBetween", "(III)I"⟩, 5), (⟨"StatRows", "tallySubjectsOfAll", "(I)V"⟩, 5), (⟨"StatRows$RegisterRow", "tell", "(I)V"⟩, 1), (⟨"StatRows", "joinEstimate", "(III)J"⟩, 5), (⟨"StatRows", "sampledChainEstimate", "(II)J"⟩, 5), (⟨"StatRows$VersionRow", "hasEnded", "(I)Z"⟩, 3)]
theorem lw_r1 : ∀ q ∈ lw_privs_1, lw_okq q := List.forall_mem_cons.mpr ⟨lw_p0, List.forall_mem_cons.mpr ⟨lw_p1, List.forall_mem_cons.mpr ⟨lw_p2, List.forall_mem_cons.mpr ⟨lw_p3, List.forall_mem_cons.mpr ⟨lw_p4, List.forall_mem_cons.mpr ⟨lw_p5, List.forall_mem_cons.mpr ⟨lw_p6, List.forall_mem_cons.mpr ⟨lw_p7, List.forall_mem_cons.mpr ⟨lw_p8, List.forall_mem_cons.mpr ⟨lw_p9, List.forall_mem_cons.mpr ⟨lw_p10, List.forall_mem_cons.mpr ⟨lw_p11, List.forall_mem_cons.mpr ⟨lw_p12, List.forall_mem_cons.mpr ⟨lw_p13, List.forall_mem_cons.mpr ⟨lw_p14, List.forall_mem_cons.mpr ⟨lw_p15, fun _ h => absurd h List.not_mem_nil⟩⟩⟩⟩⟩⟩⟩⟩⟩⟩⟩⟩⟩⟩⟩⟩
theorem lw_p16 : lw_okq (⟨"StatRowsModel", "find", "(III)I"⟩, 10) := ⟨⟨by decide +kernel, by decide +kernel⟩, List.mem_of_getElem? (i := 384) (by decide +kernel), List.mem_of_getElem? (i := 432) (by decide +kernel), List.mem_of_getElem? (i := 433) (by decide +kernel)⟩
theorem lw_p17 : lw_okq (⟨"StatRowsModel", "countOf", "(I)I"⟩, 10) := ⟨⟨by decide +kernel, by decide +kernel⟩, List.mem_of_getElem? (i := 384) (by decide +kernel), List.mem_of_getElem? (i := 444) (by decide +kernel), List.mem_of_getElem? (i := 445) (by decide +kernel)⟩
theorem lw_p18 : lw_okq (⟨"StatRowsModel", "different", "(IZ)I"⟩, 10) := ⟨⟨by decide +kernel, by decide +kernel⟩, List.mem_of_getElem? (i := 384) (by decide +kernel), List.mem_of_getElem? (i := 448) (by decide +kernel), List.mem_of_getElem? (i := 449) (by decide +kernel)⟩
theorem lw_p19 : lw_okq (⟨"StatRowsModel", "pairs", "(IIZZ)J"⟩, 10) := ⟨⟨by decide +kernel, by decide +kernel⟩, List.mem_of_getElem? (i := 384) (by decide +kernel), List.mem_of_getElem? (i := 456) (by decide +kernel), List.mem_of_getElem? (i := 457) (by decide +kernel)⟩
theorem lw_p20 : lw_okq (⟨"StatRowsModel", "isSampled", "(I)Z"⟩, 10) := ⟨⟨by decide +kernel, by decide +kernel⟩, List.mem_of_getElem? (i := 384) (by decide +kernel), List.mem_of_getElem? (i := 460) (by decide +kernel), List.mem_of_getElem? (i := 461) (by decide +kernel)⟩
theorem lw_p21 : lw_okq (⟨"StatRowsModel", "between", "(III)I"⟩, 10) := ⟨⟨by decide +kernel, by decide +kernel⟩, List.mem_of_getElem? (i := 384) (by decide +kernel), List.mem_of_getElem? (i := 478) (by decide +kernel), List.mem_of_getElem? (i := 479) (by decide +kernel)⟩
theorem lw_p22 : lw_okq (⟨"StatRowsModel", "registerOf", "(II)I"⟩, 10) := ⟨⟨by decide +kernel, by decide +kernel⟩, List.mem_of_getElem? (i := 384) (by decide +kernel), List.mem_of_getElem? (i := 493) (by decide +kernel), List.mem_of_getElem? (i := 494) (by decide +kernel)⟩
def lw_privs_2 : List (MethodName × Nat) := [(⟨"StatRowsModel", "find", "(III)I"⟩, 10), (⟨"StatRowsModel", "countOf", "(I)I"⟩, 10), (⟨"StatRowsModel", "different", "(IZ)I"⟩, 10), (⟨"StatRowsModel", "pairs", "(IIZZ)J"⟩, 10), (⟨"StatRowsModel", "isSampled", "(I)Z"⟩, 10), (⟨"StatRowsModel", "between", "(III)I"⟩, 10), (⟨"StatRowsModel", "registerOf", "(II)I"⟩, 10)]
theorem lw_r2 : ∀ q ∈ lw_privs_2, lw_okq q := List.forall_mem_cons.mpr ⟨lw_p16, List.forall_mem_cons.mpr ⟨lw_p17, List.forall_mem_cons.mpr ⟨lw_p18, List.forall_mem_cons.mpr ⟨lw_p19, List.forall_mem_cons.mpr ⟨lw_p20, List.forall_mem_cons.mpr ⟨lw_p21, List.forall_mem_cons.mpr ⟨lw_p22, fun _ h => absurd h List.not_mem_nil⟩⟩⟩⟩⟩⟩⟩
def lw_privs : List (MethodName × Nat) := lw_privs_1 ++ (lw_privs_2)
def lw_tbl : List Cond := k2_sels lw_privs ++ tables_1
theorem lw_privs_ok : ∀ q ∈ lw_privs, lw_okq q := by
  show ∀ q ∈ lw_privs_1 ++ (lw_privs_2), lw_okq q
  exact List.forall_mem_append.mpr ⟨lw_r1, lw_r2⟩
end
section
def yG_about : MethodName := ⟨"StatRows$RegisterRow", "about", "()J"⟩
def yG_init : MethodName := ⟨"StatRows$RegisterRow", "<init>", "()V"⟩
def yG_rank : MethodName := ⟨"StatRows$RegisterRow", "rank", "(I)I"⟩
def yG_rankOf : MethodName := ⟨"StatRows$RegisterRow", "rankOf", "(I)I"⟩
def yG_tell : MethodName := ⟨"StatRows$RegisterRow", "tell", "(I)V"⟩
def yG_tellAll : MethodName := ⟨"StatRows$RegisterRow", "tellAll", "([I)V"⟩
def yJA_fill : MethodName := ⟨"java/util/Arrays", "fill", "([II)V"⟩
def yJM_max : MethodName := ⟨"java/lang/Math", "max", "(II)I"⟩
def yJM_min : MethodName := ⟨"java/lang/Math", "min", "(II)I"⟩
def yM_aboutFew : MethodName := ⟨"StatRowsModel", "aboutFew", "(I)I"⟩
def yM_areBits : MethodName := ⟨"StatRowsModel", "areBits", "(I)Z"⟩
def yM_between : MethodName := ⟨"StatRowsModel", "between", "(III)I"⟩
def yM_bucket : MethodName := ⟨"StatRowsModel", "bucket", "(III)I"⟩
def yM_chain : MethodName := ⟨"StatRowsModel", "chain", "(II)J"⟩
def yM_count : MethodName := ⟨"StatRowsModel", "count", "(II)I"⟩
def yM_countAt : MethodName := ⟨"StatRowsModel", "countAt", "(II)I"⟩
def yM_countOf : MethodName := ⟨"StatRowsModel", "countOf", "(I)I"⟩
def yM_different : MethodName := ⟨"StatRowsModel", "different", "(IZ)I"⟩
def yM_distinct : MethodName := ⟨"StatRowsModel", "distinct", "(II)J"⟩
def yM_drop : MethodName := ⟨"StatRowsModel", "drop", "(III)I"⟩
def yM_estimate : MethodName := ⟨"StatRowsModel", "estimate", "(III)J"⟩
def yM_find : MethodName := ⟨"StatRowsModel", "find", "(III)I"⟩
def yM_fits : MethodName := ⟨"StatRowsModel", "fits", "(II)Z"⟩
def yM_forget : MethodName := ⟨"StatRowsModel", "forget", "(I)I"⟩
def yM_greatest : MethodName := ⟨"StatRowsModel", "greatest", "(II)I"⟩
def yM_hash : MethodName := ⟨"StatRowsModel", "hash", "(I)I"⟩
def yM_init : MethodName := ⟨"StatRowsModel", "<init>", "()V"⟩
def yM_isPredicate : MethodName := ⟨"StatRowsModel", "isPredicate", "(I)Z"⟩
def yM_isSampled : MethodName := ⟨"StatRowsModel", "isSampled", "(I)Z"⟩
def yM_isTerm : MethodName := ⟨"StatRowsModel", "isTerm", "(I)Z"⟩
def yM_matches : MethodName := ⟨"StatRowsModel", "matches", "(I)I"⟩
def yM_pairs : MethodName := ⟨"StatRowsModel", "pairs", "(IIZZ)J"⟩
def yM_pattern : MethodName := ⟨"StatRowsModel", "pattern", "(III)I"⟩
def yM_quantile : MethodName := ⟨"StatRowsModel", "quantile", "(II)I"⟩
def yM_range : MethodName := ⟨"StatRowsModel", "range", "(III)I"⟩
def yM_register : MethodName := ⟨"StatRowsModel", "register", "(II)I"⟩
def yM_registerOf : MethodName := ⟨"StatRowsModel", "registerOf", "(II)I"⟩
def yM_sample : MethodName := ⟨"StatRowsModel", "sample", "(II)I"⟩
def yM_star : MethodName := ⟨"StatRowsModel", "star", "(II)J"⟩
def yM_told : MethodName := ⟨"StatRowsModel", "told", "(I)I"⟩
def yM_triple : MethodName := ⟨"StatRowsModel", "triple", "(III)I"⟩
def yM_version : MethodName := ⟨"StatRowsModel", "version", "()I"⟩
def yP_allows : MethodName := ⟨"StatRows$PatternRow", "allows", "(II)Z"⟩
def yP_goesWith : MethodName := ⟨"StatRows$PatternRow", "goesWith", "(IIII)Z"⟩
def yP_has : MethodName := ⟨"StatRows$PatternRow", "has", "(I)Z"⟩
def yP_init : MethodName := ⟨"StatRows$PatternRow", "<init>", "()V"⟩
def yP_rowOf : MethodName := ⟨"StatRows$PatternRow", "rowOf", "(III)I"⟩
def yP_size : MethodName := ⟨"StatRows$PatternRow", "size", "()I"⟩
def yT_end : MethodName := ⟨"StatRows$TripleRow", "end", "(I)I"⟩
def yT_init : MethodName := ⟨"StatRows$TripleRow", "<init>", "()V"⟩
def yT_isAt : MethodName := ⟨"StatRows$TripleRow", "isAt", "(III)Z"⟩
def yT_isSampled : MethodName := ⟨"StatRows$TripleRow", "isSampled", "(I)Z"⟩
def yT_moveStartsAfter : MethodName := ⟨"StatRows$TripleRow", "moveStartsAfter", "(II)V"⟩
def yT_objectAt : MethodName := ⟨"StatRows$TripleRow", "objectAt", "(I)I"⟩
def yT_pairAt : MethodName := ⟨"StatRows$TripleRow", "pairAt", "(I)I"⟩
def yT_placeOf : MethodName := ⟨"StatRows$TripleRow", "placeOf", "(II)I"⟩
def yT_put : MethodName := ⟨"StatRows$TripleRow", "put", "(II)I"⟩
def yT_remove : MethodName := ⟨"StatRows$TripleRow", "remove", "(II)I"⟩
def yT_size : MethodName := ⟨"StatRows$TripleRow", "size", "()I"⟩
def yT_sizeOf : MethodName := ⟨"StatRows$TripleRow", "sizeOf", "(I)I"⟩
def yT_start : MethodName := ⟨"StatRows$TripleRow", "start", "(I)I"⟩
def yT_subjectAt : MethodName := ⟨"StatRows$TripleRow", "subjectAt", "(I)I"⟩
def yV_ended : MethodName := ⟨"StatRows$VersionRow", "ended", "()I"⟩
def yV_finish : MethodName := ⟨"StatRows$VersionRow", "finish", "(LStatRows$TripleRow;)I"⟩
def yV_forgetBelow : MethodName := ⟨"StatRows$VersionRow", "forgetBelow", "(I)I"⟩
def yV_hasEnded : MethodName := ⟨"StatRows$VersionRow", "hasEnded", "(I)Z"⟩
def yV_init : MethodName := ⟨"StatRows$VersionRow", "<init>", "()V"⟩
def yV_kept : MethodName := ⟨"StatRows$VersionRow", "kept", "()I"⟩
def yV_place : MethodName := ⟨"StatRows$VersionRow", "place", "(II)I"⟩
def yV_sizeAt : MethodName := ⟨"StatRows$VersionRow", "sizeAt", "(II)I"⟩
def yX_bucket : MethodName := ⟨"StatRows", "bucket", "(III)I"⟩
def yX_chain : MethodName := ⟨"StatRows", "chain", "(II)J"⟩
def yX_clearTally : MethodName := ⟨"StatRows", "clearTally", "()V"⟩
def yX_count : MethodName := ⟨"StatRows", "count", "(II)I"⟩
def yX_countAt : MethodName := ⟨"StatRows", "countAt", "(II)I"⟩
def yX_differentInTally : MethodName := ⟨"StatRows", "differentInTally", "()I"⟩
def yX_distinct : MethodName := ⟨"StatRows", "distinct", "(II)J"⟩
def yX_drop : MethodName := ⟨"StatRows", "drop", "(III)I"⟩
def yX_estimate : MethodName := ⟨"StatRows", "estimate", "(III)J"⟩
def yX_forget : MethodName := ⟨"StatRows", "forget", "(I)I"⟩
def yX_hash : MethodName := ⟨"StatRows", "hash", "(I)I"⟩
def yX_init : MethodName := ⟨"StatRows", "<init>", "()V"⟩
def yX_isNumber : MethodName := ⟨"StatRows", "isNumber", "(I)Z"⟩
def yX_isNumberOrAny : MethodName := ⟨"StatRows", "isNumberOrAny", "(I)Z"⟩
def yX_isPredicate : MethodName := ⟨"StatRows", "isPredicate", "(I)Z"⟩
def yX_isPredicateOrAny : MethodName := ⟨"StatRows", "isPredicateOrAny", "(I)Z"⟩
def yX_isPredicateSet : MethodName := ⟨"StatRows", "isPredicateSet", "(I)Z"⟩
def yX_isTriple : MethodName := ⟨"StatRows", "isTriple", "(III)Z"⟩
def yX_joinEstimate : MethodName := ⟨"StatRows", "joinEstimate", "(III)J"⟩
def yX_matches : MethodName := ⟨"StatRows", "matches", "(I)I"⟩
def yX_objectsOf : MethodName := ⟨"StatRows", "objectsOf", "(I)I"⟩
def yX_pair : MethodName := ⟨"StatRows", "pair", "(II)I"⟩
def yX_pattern : MethodName := ⟨"StatRows", "pattern", "(III)I"⟩
def yX_quantile : MethodName := ⟨"StatRows", "quantile", "(II)I"⟩
def yX_range : MethodName := ⟨"StatRows", "range", "(III)I"⟩
def yX_register : MethodName := ⟨"StatRows", "register", "(II)I"⟩
def yX_sample : MethodName := ⟨"StatRows", "sample", "(II)I"⟩
def yX_sampledChainEstimate : MethodName := ⟨"StatRows", "sampledChainEstimate", "(II)J"⟩
def yX_shared : MethodName := ⟨"StatRows", "shared", "(IIII)I"⟩
def yX_star : MethodName := ⟨"StatRows", "star", "(II)J"⟩
def yX_subjectsOf : MethodName := ⟨"StatRows", "subjectsOf", "(I)I"⟩
def yX_sumAtSubjects : MethodName := ⟨"StatRows", "sumAtSubjects", "(IZ)J"⟩
def yX_tallyObjects : MethodName := ⟨"StatRows", "tallyObjects", "(IZ)V"⟩
def yX_tallySubjects : MethodName := ⟨"StatRows", "tallySubjects", "(I)V"⟩
def yX_tallySubjectsOfAll : MethodName := ⟨"StatRows", "tallySubjectsOfAll", "(I)V"⟩
def yX_told : MethodName := ⟨"StatRows", "told", "(I)I"⟩
def yX_triple : MethodName := ⟨"StatRows", "triple", "(III)I"⟩
def yX_version : MethodName := ⟨"StatRows", "version", "()I"⟩
def yX_withObjectBetween : MethodName := ⟨"StatRows", "withObjectBetween", "(III)I"⟩
abbrev cX_init : ByteArray := prog_1_method_1_code
abbrev cT_init : ByteArray := prog_4_method_1_code
abbrev cP_init : ByteArray := prog_2_method_1_code
abbrev cV_init : ByteArray := prog_5_method_1_code
abbrev cG_init : ByteArray := prog_3_method_1_code
abbrev cX_triple : ByteArray := prog_1_method_2_code
abbrev cX_isTriple : ByteArray := prog_1_method_24_code
abbrev cX_isNumber : ByteArray := prog_1_method_20_code
abbrev cX_isPredicate : ByteArray := prog_1_method_22_code
abbrev cX_pair : ByteArray := prog_1_method_26_code
abbrev cT_put : ByteArray := prog_4_method_10_code
abbrev cT_placeOf : ByteArray := prog_4_method_12_code
abbrev cT_end : ByteArray := prog_4_method_3_code
abbrev cT_start : ByteArray := prog_4_method_2_code
abbrev cT_isAt : ByteArray := prog_4_method_13_code
abbrev cT_size : ByteArray := prog_4_method_5_code
abbrev cT_moveStartsAfter : ByteArray := prog_4_method_14_code
abbrev cX_drop : ByteArray := prog_1_method_3_code
abbrev cT_remove : ByteArray := prog_4_method_11_code
abbrev cX_count : ByteArray := prog_1_method_4_code
abbrev cT_sizeOf : ByteArray := prog_4_method_4_code
abbrev cX_subjectsOf : ByteArray := prog_1_method_35_code
abbrev cX_clearTally : ByteArray := prog_1_method_29_code
abbrev cJA_fill : ByteArray := prog_10_method_103_code
abbrev cX_tallySubjects : ByteArray := prog_1_method_30_code
abbrev cT_subjectAt : ByteArray := prog_4_method_7_code
abbrev cX_differentInTally : ByteArray := prog_1_method_33_code
abbrev cX_objectsOf : ByteArray := prog_1_method_36_code
abbrev cX_tallyObjects : ByteArray := prog_1_method_32_code
abbrev cT_isSampled : ByteArray := prog_4_method_9_code
abbrev cX_hash : ByteArray := prog_1_method_27_code
abbrev cT_objectAt : ByteArray := prog_4_method_8_code
abbrev cX_chain : ByteArray := prog_1_method_5_code
abbrev cX_sumAtSubjects : ByteArray := prog_1_method_34_code
abbrev cX_star : ByteArray := prog_1_method_6_code
abbrev cX_bucket : ByteArray := prog_1_method_7_code
abbrev cX_withObjectBetween : ByteArray := prog_1_method_37_code
abbrev cX_quantile : ByteArray := prog_1_method_8_code
abbrev cX_register : ByteArray := prog_1_method_9_code
abbrev cX_isPredicateSet : ByteArray := prog_1_method_25_code
abbrev cX_tallySubjectsOfAll : ByteArray := prog_1_method_31_code
abbrev cG_tellAll : ByteArray := prog_3_method_3_code
abbrev cG_tell : ByteArray := prog_3_method_5_code
abbrev cG_rankOf : ByteArray := prog_3_method_6_code
abbrev cJM_max : ByteArray := prog_8_method_65_code
abbrev cG_rank : ByteArray := prog_3_method_2_code
abbrev cX_distinct : ByteArray := prog_1_method_10_code
abbrev cG_about : ByteArray := prog_3_method_4_code
abbrev cX_estimate : ByteArray := prog_1_method_11_code
abbrev cX_joinEstimate : ByteArray := prog_1_method_38_code
abbrev cX_sampledChainEstimate : ByteArray := prog_1_method_39_code
abbrev cX_range : ByteArray := prog_1_method_12_code
abbrev cX_shared : ByteArray := prog_1_method_28_code
abbrev cJM_min : ByteArray := prog_8_method_69_code
abbrev cX_sample : ByteArray := prog_1_method_13_code
abbrev cT_pairAt : ByteArray := prog_4_method_6_code
abbrev cX_pattern : ByteArray := prog_1_method_14_code
abbrev cX_isNumberOrAny : ByteArray := prog_1_method_21_code
abbrev cX_isPredicateOrAny : ByteArray := prog_1_method_23_code
abbrev cP_rowOf : ByteArray := prog_2_method_4_code
abbrev cX_matches : ByteArray := prog_1_method_15_code
abbrev cP_has : ByteArray := prog_2_method_3_code
abbrev cP_goesWith : ByteArray := prog_2_method_5_code
abbrev cP_allows : ByteArray := prog_2_method_6_code
abbrev cX_version : ByteArray := prog_1_method_16_code
abbrev cV_finish : ByteArray := prog_5_method_4_code
abbrev cV_kept : ByteArray := prog_5_method_3_code
abbrev cV_place : ByteArray := prog_5_method_8_code
abbrev cX_countAt : ByteArray := prog_1_method_17_code
abbrev cV_sizeAt : ByteArray := prog_5_method_5_code
abbrev cV_hasEnded : ByteArray := prog_5_method_7_code
abbrev cX_forget : ByteArray := prog_1_method_18_code
abbrev cV_forgetBelow : ByteArray := prog_5_method_6_code
abbrev cX_told : ByteArray := prog_1_method_19_code
abbrev cP_size : ByteArray := prog_2_method_2_code
abbrev cV_ended : ByteArray := prog_5_method_2_code
abbrev cM_init : ByteArray := prog_7_method_1_code
abbrev cM_triple : ByteArray := prog_7_method_5_code
abbrev cM_isTerm : ByteArray := prog_7_method_2_code
abbrev cM_isPredicate : ByteArray := prog_7_method_3_code
abbrev cM_find : ByteArray := prog_7_method_4_code
abbrev cM_drop : ByteArray := prog_7_method_6_code
abbrev cM_count : ByteArray := prog_7_method_9_code
abbrev cM_countOf : ByteArray := prog_7_method_7_code
abbrev cM_different : ByteArray := prog_7_method_8_code
abbrev cM_chain : ByteArray := prog_7_method_13_code
abbrev cM_pairs : ByteArray := prog_7_method_12_code
abbrev cM_isSampled : ByteArray := prog_7_method_11_code
abbrev cM_hash : ByteArray := prog_7_method_10_code
abbrev cM_star : ByteArray := prog_7_method_14_code
abbrev cM_bucket : ByteArray := prog_7_method_16_code
abbrev cM_between : ByteArray := prog_7_method_15_code
abbrev cM_quantile : ByteArray := prog_7_method_17_code
abbrev cM_register : ByteArray := prog_7_method_20_code
abbrev cM_areBits : ByteArray := prog_7_method_19_code
abbrev cM_registerOf : ByteArray := prog_7_method_18_code
abbrev cM_distinct : ByteArray := prog_7_method_22_code
abbrev cM_aboutFew : ByteArray := prog_7_method_21_code
abbrev cM_estimate : ByteArray := prog_7_method_24_code
abbrev cM_greatest : ByteArray := prog_7_method_23_code
abbrev cM_range : ByteArray := prog_7_method_25_code
abbrev cM_sample : ByteArray := prog_7_method_26_code
abbrev cM_pattern : ByteArray := prog_7_method_27_code
abbrev cM_matches : ByteArray := prog_7_method_29_code
abbrev cM_fits : ByteArray := prog_7_method_28_code
abbrev cM_version : ByteArray := prog_7_method_30_code
abbrev cM_countAt : ByteArray := prog_7_method_31_code
abbrev cM_forget : ByteArray := prog_7_method_32_code
abbrev cM_told : ByteArray := prog_7_method_33_code
def TT : u_T := fun k => match k with
  | 0 => ("StatRows$TripleRow", "pairs", "[I", true)
  | _ => ("StatRows$TripleRow", "starts", "[I", true)
def tyT : Nat → FieldType := fun k => match k with
  | 0 => .array .int
  | _ => .array .int
theorem nmT : ∀ a, a < 2 → ∀ b, b < 2 → a ≠ b → (TT a).2.1 ≠ (TT b).2.1 := by decide +kernel
theorem okT : ∀ k, k < 2 → parseFieldDescriptor (TT k).2.2.1 = some (tyT k) := by decide +kernel
def TP : u_T := fun k => match k with
  | 0 => ("StatRows$PatternRow", "subjects", "[I", true)
  | 1 => ("StatRows$PatternRow", "predicates", "[I", true)
  | 2 => ("StatRows$PatternRow", "objects", "[I", true)
  | _ => ("StatRows$PatternRow", "used", "I", false)
def tyP : Nat → FieldType := fun k => match k with
  | 0 => .array .int
  | 1 => .array .int
  | 2 => .array .int
  | _ => .int
theorem nmP : ∀ a, a < 4 → ∀ b, b < 4 → a ≠ b → (TP a).2.1 ≠ (TP b).2.1 := by decide +kernel
theorem okP : ∀ k, k < 4 → parseFieldDescriptor (TP k).2.2.1 = some (tyP k) := by decide +kernel
def TV : u_T := fun k => match k with
  | 0 => ("StatRows$VersionRow", "sizes", "[I", true)
  | 1 => ("StatRows$VersionRow", "oldest", "I", false)
  | _ => ("StatRows$VersionRow", "next", "I", false)
def tyV : Nat → FieldType := fun k => match k with
  | 0 => .array .int
  | 1 => .int
  | _ => .int
theorem nmV : ∀ a, a < 3 → ∀ b, b < 3 → a ≠ b → (TV a).2.1 ≠ (TV b).2.1 := by decide +kernel
theorem okV : ∀ k, k < 3 → parseFieldDescriptor (TV k).2.2.1 = some (tyV k) := by decide +kernel
def TG : u_T := fun k => match k with
  | _ => ("StatRows$RegisterRow", "ranks", "[I", true)
def tyG : Nat → FieldType := fun k => match k with
  | _ => .array .int
theorem nmG : ∀ a, a < 1 → ∀ b, b < 1 → a ≠ b → (TG a).2.1 ≠ (TG b).2.1 := by decide +kernel
theorem okG : ∀ k, k < 1 → parseFieldDescriptor (TG k).2.2.1 = some (tyG k) := by decide +kernel
def TX : u_T := fun k => match k with
  | 0 => ("StatRows", "triples", "LStatRows$TripleRow;", true)
  | 1 => ("StatRows", "patterns", "LStatRows$PatternRow;", true)
  | 2 => ("StatRows", "versions", "LStatRows$VersionRow;", true)
  | 3 => ("StatRows", "registers", "LStatRows$RegisterRow;", true)
  | _ => ("StatRows", "tally", "[I", true)
def tyX : Nat → FieldType := fun k => match k with
  | 0 => .object "StatRows$TripleRow"
  | 1 => .object "StatRows$PatternRow"
  | 2 => .object "StatRows$VersionRow"
  | 3 => .object "StatRows$RegisterRow"
  | _ => .array .int
theorem nmX : ∀ a, a < 5 → ∀ b, b < 5 → a ≠ b → (TX a).2.1 ≠ (TX b).2.1 := by decide +kernel
theorem okX : ∀ k, k < 5 → parseFieldDescriptor (TX k).2.2.1 = some (tyX k) := by decide +kernel
def TM : u_T := fun k => match k with
  | 0 => ("StatRowsModel", "triples", "I", false)
  | 1 => ("StatRowsModel", "subjects", "[I", true)
  | 2 => ("StatRowsModel", "predicates", "[I", true)
  | 3 => ("StatRowsModel", "objects", "[I", true)
  | 4 => ("StatRowsModel", "patterns", "I", false)
  | 5 => ("StatRowsModel", "asked", "[I", true)
  | 6 => ("StatRowsModel", "ended", "I", false)
  | 7 => ("StatRowsModel", "firstKept", "I", false)
  | 8 => ("StatRowsModel", "counts", "[I", true)
  | _ => ("StatRowsModel", "seen", "[Z", true)
def tyM : Nat → FieldType := fun k => match k with
  | 0 => .int
  | 1 => .array .int
  | 2 => .array .int
  | 3 => .array .int
  | 4 => .int
  | 5 => .array .int
  | 6 => .int
  | 7 => .int
  | 8 => .array .int
  | _ => .array .boolean
theorem nmM : ∀ a, a < 10 → ∀ b, b < 10 → a ≠ b → (TM a).2.1 ≠ (TM b).2.1 := by decide +kernel
theorem okM : ∀ k, k < 10 → parseFieldDescriptor (TM k).2.2.1 = some (tyM k) := by decide +kernel
abbrev vwCl : List vw_C := [("StatRows$TripleRow", TT, 2), ("StatRows$PatternRow", TP, 4), ("StatRows$VersionRow", TV, 3), ("StatRows$RegisterRow", TG, 1), ("StatRows", TX, 5), ("StatRowsModel", TM, 10)]
def W0 : List Cond := lw_tbl.filter goodWord
theorem w0_tbl : ∀ w ∈ W0, w ∈ lw_tbl := fun w h => (List.mem_filter.mp h).1
theorem w0_good {w : Cond} (h : w ∈ W0) : (w.onTables && w.keeps) = true ∨ ∃ ty, w = .arrayClass ty := good_of_word (List.mem_filter.mp h).2
theorem w0_in {w : Cond} (i : Nat) (h : tables_1[i]? = some w) (hg : goodWord w = true) : w ∈ W0 := List.mem_filter.mpr ⟨List.mem_append_right _ (List.mem_of_getElem? h), hg⟩
theorem w0_sel {w : Cond} (i : Nat) (h : (k2_sels lw_privs)[i]? = some w) (hg : goodWord w = true) : w ∈ W0 := List.mem_filter.mpr ⟨List.mem_append_left _ (List.mem_of_getElem? h), hg⟩
theorem q0 : Cond.initialized "StatRowsLaw" ∈ W0 := w0_in 0 (by decide +kernel) rfl
theorem q1 : Cond.initialized "StatRows" ∈ W0 := w0_in 1 (by decide +kernel) rfl
theorem q2 : Cond.initialized "StatRows$TripleRow" ∈ W0 := w0_in 2 (by decide +kernel) rfl
theorem q3 : Cond.initialized "StatRows$PatternRow" ∈ W0 := w0_in 3 (by decide +kernel) rfl
theorem q4 : Cond.initialized "StatRows$VersionRow" ∈ W0 := w0_in 4 (by decide +kernel) rfl
theorem q5 : Cond.initialized "StatRows$RegisterRow" ∈ W0 := w0_in 5 (by decide +kernel) rfl
theorem q6 : Cond.initialized "StatRowsModel" ∈ W0 := w0_in 6 (by decide +kernel) rfl
theorem q7 : Cond.initialized "java/lang/System" ∈ W0 := w0_in 7 (by decide +kernel) rfl
theorem q8 : Cond.initialized "java/util/Arrays" ∈ W0 := w0_in 8 (by decide +kernel) rfl
theorem q9 : Cond.initialized "java/lang/Math" ∈ W0 := w0_in 9 (by decide +kernel) rfl
theorem q10 : Cond.classLink "StatRowsLaw" 7 "StatRows" ∈ W0 := w0_in 10 (by decide +kernel) rfl
theorem q11 : Cond.instantiable "StatRows" 5 ∈ W0 := w0_in 11 (by decide +kernel) rfl
theorem q12 : Cond.methodLink "StatRowsLaw" 9 yX_init ∈ W0 := w0_in 12 (by decide +kernel) rfl
theorem q13 : Cond.instanceMethod yX_init ∈ W0 := w0_in 13 (by decide +kernel) rfl
set_option maxRecDepth 20000 in
theorem q14 : Cond.code yX_init cX_init 1 none ∈ W0 := w0_in 14 rfl rfl
theorem q15 : Cond.methodLink "StatRows" 1 objectInit ∈ W0 := w0_in 15 (by decide +kernel) rfl
theorem q16 : Cond.instanceMethod objectInit ∈ W0 := w0_in 16 (by decide +kernel) rfl
set_option maxRecDepth 20000 in
theorem q17 : Cond.code objectInit ⟨#[0xb1]⟩ 1 none ∈ W0 := w0_in 17 rfl rfl
theorem q18 : Cond.classLink "StatRows" 7 "StatRows$TripleRow" ∈ W0 := w0_in 18 (by decide +kernel) rfl
theorem q19 : Cond.instantiable "StatRows$TripleRow" 2 ∈ W0 := w0_in 19 (by decide +kernel) rfl
theorem q20 : Cond.methodLink "StatRows" 9 yT_init ∈ W0 := w0_in 20 (by decide +kernel) rfl
theorem q21 : Cond.instanceMethod yT_init ∈ W0 := w0_in 21 (by decide +kernel) rfl
set_option maxRecDepth 20000 in
theorem q22 : Cond.code yT_init cT_init 1 none ∈ W0 := w0_in 22 rfl rfl
theorem q23 : Cond.methodLink "StatRows$TripleRow" 3 objectInit ∈ W0 := w0_in 23 (by decide +kernel) rfl
theorem q24 : Cond.fieldLink "StatRows$TripleRow" 11 "StatRows$TripleRow" "pairs" "[I" ∈ W0 := w0_in 24 (by decide +kernel) rfl
theorem q25 : Cond.fieldLink "StatRows$TripleRow" 15 "StatRows$TripleRow" "starts" "[I" ∈ W0 := w0_in 25 (by decide +kernel) rfl
theorem q26 : Cond.laysFinal "StatRows$TripleRow" "StatRows$TripleRow" "pairs" "[I" ∈ W0 := w0_in 26 (by decide +kernel) rfl
theorem q28 : Cond.laysFinal "StatRows$TripleRow" "StatRows$TripleRow" "starts" "[I" ∈ W0 := w0_in 28 (by decide +kernel) rfl
theorem q31 : Cond.arrayClass .int ∈ W0 := w0_in 31 (by decide +kernel) rfl
theorem q32 : Cond.classLink "StatRows" 16 "StatRows$PatternRow" ∈ W0 := w0_in 32 (by decide +kernel) rfl
theorem q33 : Cond.instantiable "StatRows$PatternRow" 4 ∈ W0 := w0_in 33 (by decide +kernel) rfl
theorem q34 : Cond.methodLink "StatRows" 18 yP_init ∈ W0 := w0_in 34 (by decide +kernel) rfl
theorem q35 : Cond.instanceMethod yP_init ∈ W0 := w0_in 35 (by decide +kernel) rfl
set_option maxRecDepth 20000 in
theorem q36 : Cond.code yP_init cP_init 1 none ∈ W0 := w0_in 36 rfl rfl
theorem q37 : Cond.methodLink "StatRows$PatternRow" 3 objectInit ∈ W0 := w0_in 37 (by decide +kernel) rfl
theorem q38 : Cond.fieldLink "StatRows$PatternRow" 11 "StatRows$PatternRow" "subjects" "[I" ∈ W0 := w0_in 38 (by decide +kernel) rfl
theorem q39 : Cond.fieldLink "StatRows$PatternRow" 15 "StatRows$PatternRow" "predicates" "[I" ∈ W0 := w0_in 39 (by decide +kernel) rfl
theorem q40 : Cond.fieldLink "StatRows$PatternRow" 18 "StatRows$PatternRow" "objects" "[I" ∈ W0 := w0_in 40 (by decide +kernel) rfl
theorem q41 : Cond.fieldLink "StatRows$PatternRow" 21 "StatRows$PatternRow" "used" "I" ∈ W0 := w0_in 41 (by decide +kernel) rfl
theorem q42 : Cond.laysFinal "StatRows$PatternRow" "StatRows$PatternRow" "subjects" "[I" ∈ W0 := w0_in 42 (by decide +kernel) rfl
theorem q44 : Cond.laysFinal "StatRows$PatternRow" "StatRows$PatternRow" "predicates" "[I" ∈ W0 := w0_in 44 (by decide +kernel) rfl
theorem q46 : Cond.laysFinal "StatRows$PatternRow" "StatRows$PatternRow" "objects" "[I" ∈ W0 := w0_in 46 (by decide +kernel) rfl
theorem q48 : Cond.lays "StatRows$PatternRow" "StatRows$PatternRow" "used" "I" ∈ W0 := w0_in 48 (by decide +kernel) rfl
theorem q51 : Cond.classLink "StatRows" 23 "StatRows$VersionRow" ∈ W0 := w0_in 51 (by decide +kernel) rfl
theorem q52 : Cond.instantiable "StatRows$VersionRow" 3 ∈ W0 := w0_in 52 (by decide +kernel) rfl
theorem q53 : Cond.methodLink "StatRows" 25 yV_init ∈ W0 := w0_in 53 (by decide +kernel) rfl
theorem q54 : Cond.instanceMethod yV_init ∈ W0 := w0_in 54 (by decide +kernel) rfl
set_option maxRecDepth 20000 in
theorem q55 : Cond.code yV_init cV_init 1 none ∈ W0 := w0_in 55 rfl rfl
theorem q56 : Cond.methodLink "StatRows$VersionRow" 3 objectInit ∈ W0 := w0_in 56 (by decide +kernel) rfl
theorem q57 : Cond.fieldLink "StatRows$VersionRow" 11 "StatRows$VersionRow" "sizes" "[I" ∈ W0 := w0_in 57 (by decide +kernel) rfl
theorem q58 : Cond.fieldLink "StatRows$VersionRow" 15 "StatRows$VersionRow" "oldest" "I" ∈ W0 := w0_in 58 (by decide +kernel) rfl
theorem q59 : Cond.fieldLink "StatRows$VersionRow" 19 "StatRows$VersionRow" "next" "I" ∈ W0 := w0_in 59 (by decide +kernel) rfl
theorem q60 : Cond.laysFinal "StatRows$VersionRow" "StatRows$VersionRow" "sizes" "[I" ∈ W0 := w0_in 60 (by decide +kernel) rfl
theorem q62 : Cond.lays "StatRows$VersionRow" "StatRows$VersionRow" "oldest" "I" ∈ W0 := w0_in 62 (by decide +kernel) rfl
theorem q64 : Cond.lays "StatRows$VersionRow" "StatRows$VersionRow" "next" "I" ∈ W0 := w0_in 64 (by decide +kernel) rfl
theorem q67 : Cond.classLink "StatRows" 30 "StatRows$RegisterRow" ∈ W0 := w0_in 67 (by decide +kernel) rfl
theorem q68 : Cond.instantiable "StatRows$RegisterRow" 1 ∈ W0 := w0_in 68 (by decide +kernel) rfl
theorem q69 : Cond.methodLink "StatRows" 32 yG_init ∈ W0 := w0_in 69 (by decide +kernel) rfl
theorem q70 : Cond.instanceMethod yG_init ∈ W0 := w0_in 70 (by decide +kernel) rfl
set_option maxRecDepth 20000 in
theorem q71 : Cond.code yG_init cG_init 1 none ∈ W0 := w0_in 71 rfl rfl
theorem q72 : Cond.methodLink "StatRows$RegisterRow" 1 objectInit ∈ W0 := w0_in 72 (by decide +kernel) rfl
theorem q73 : Cond.fieldLink "StatRows$RegisterRow" 9 "StatRows$RegisterRow" "ranks" "[I" ∈ W0 := w0_in 73 (by decide +kernel) rfl
theorem q74 : Cond.laysFinal "StatRows$RegisterRow" "StatRows$RegisterRow" "ranks" "[I" ∈ W0 := w0_in 74 (by decide +kernel) rfl
theorem q77 : Cond.fieldLink "StatRows" 10 "StatRows" "triples" "LStatRows$TripleRow;" ∈ W0 := w0_in 77 (by decide +kernel) rfl
theorem q78 : Cond.fieldLink "StatRows" 19 "StatRows" "patterns" "LStatRows$PatternRow;" ∈ W0 := w0_in 78 (by decide +kernel) rfl
theorem q79 : Cond.fieldLink "StatRows" 26 "StatRows" "versions" "LStatRows$VersionRow;" ∈ W0 := w0_in 79 (by decide +kernel) rfl
theorem q80 : Cond.fieldLink "StatRows" 33 "StatRows" "registers" "LStatRows$RegisterRow;" ∈ W0 := w0_in 80 (by decide +kernel) rfl
theorem q81 : Cond.fieldLink "StatRows" 37 "StatRows" "tally" "[I" ∈ W0 := w0_in 81 (by decide +kernel) rfl
theorem q82 : Cond.laysFinal "StatRows" "StatRows" "triples" "LStatRows$TripleRow;" ∈ W0 := w0_in 82 (by decide +kernel) rfl
theorem q84 : Cond.laysFinal "StatRows" "StatRows" "patterns" "LStatRows$PatternRow;" ∈ W0 := w0_in 84 (by decide +kernel) rfl
theorem q86 : Cond.laysFinal "StatRows" "StatRows" "versions" "LStatRows$VersionRow;" ∈ W0 := w0_in 86 (by decide +kernel) rfl
theorem q88 : Cond.laysFinal "StatRows" "StatRows" "registers" "LStatRows$RegisterRow;" ∈ W0 := w0_in 88 (by decide +kernel) rfl
theorem q90 : Cond.laysFinal "StatRows" "StatRows" "tally" "[I" ∈ W0 := w0_in 90 (by decide +kernel) rfl
theorem q93 : Cond.methodLink "StatRowsLaw" 13 yX_triple ∈ W0 := w0_in 93 (by decide +kernel) rfl
theorem q94 : Cond.instanceMethod yX_triple ∈ W0 := w0_in 94 (by decide +kernel) rfl
theorem q95 : Cond.selects "StatRows" yX_triple yX_triple ∈ W0 := w0_in 95 (by decide +kernel) rfl
set_option maxRecDepth 20000 in
theorem q96 : Cond.code yX_triple cX_triple 4 (some .int) ∈ W0 := w0_in 96 rfl rfl
theorem q97 : Cond.methodLink "StatRows" 41 yX_isTriple ∈ W0 := w0_in 97 (by decide +kernel) rfl
theorem q98 : Cond.static yX_isTriple ∈ W0 := w0_in 98 (by decide +kernel) rfl
set_option maxRecDepth 20000 in
theorem q99 : Cond.code yX_isTriple cX_isTriple 3 (some .boolean) ∈ W0 := w0_in 99 rfl rfl
theorem q100 : Cond.methodLink "StatRows" 177 yX_isNumber ∈ W0 := w0_in 100 (by decide +kernel) rfl
theorem q101 : Cond.static yX_isNumber ∈ W0 := w0_in 101 (by decide +kernel) rfl
set_option maxRecDepth 20000 in
theorem q102 : Cond.code yX_isNumber cX_isNumber 1 (some .boolean) ∈ W0 := w0_in 102 rfl rfl
theorem q103 : Cond.methodLink "StatRows" 55 yX_isPredicate ∈ W0 := w0_in 103 (by decide +kernel) rfl
theorem q104 : Cond.static yX_isPredicate ∈ W0 := w0_in 104 (by decide +kernel) rfl
set_option maxRecDepth 20000 in
theorem q105 : Cond.code yX_isPredicate cX_isPredicate 1 (some .boolean) ∈ W0 := w0_in 105 rfl rfl
theorem q106 : Cond.methodLink "StatRows" 45 yX_pair ∈ W0 := w0_in 106 (by decide +kernel) rfl
theorem q107 : Cond.static yX_pair ∈ W0 := w0_in 107 (by decide +kernel) rfl
set_option maxRecDepth 20000 in
theorem q108 : Cond.code yX_pair cX_pair 2 (some .int) ∈ W0 := w0_in 108 rfl rfl
theorem q109 : Cond.methodLink "StatRows" 49 yT_put ∈ W0 := w0_in 109 (by decide +kernel) rfl
theorem q110 : Cond.instanceMethod yT_put ∈ W0 := w0_in 110 (by decide +kernel) rfl
theorem q111 : Cond.selects "StatRows$TripleRow" yT_put yT_put ∈ W0 := w0_in 111 (by decide +kernel) rfl
set_option maxRecDepth 20000 in
theorem q112 : Cond.code yT_put cT_put 4 (some .int) ∈ W0 := w0_in 112 rfl rfl
theorem q113 : Cond.methodLink "StatRows$TripleRow" 28 yT_placeOf ∈ W0 := w0_in 113 (by decide +kernel) rfl
theorem q115 : Cond.instanceMethod yT_placeOf ∈ W0 := w0_in 115 (by decide +kernel) rfl
set_option maxRecDepth 20000 in
theorem q116 : Cond.code yT_placeOf cT_placeOf 5 (some .int) ∈ W0 := w0_in 116 rfl rfl
theorem q117 : Cond.methodLink "StatRows$TripleRow" 18 yT_end ∈ W0 := w0_in 117 (by decide +kernel) rfl
theorem q118 : Cond.instanceMethod yT_end ∈ W0 := w0_in 118 (by decide +kernel) rfl
theorem q119 : Cond.selects "StatRows$TripleRow" yT_end yT_end ∈ W0 := w0_in 119 (by decide +kernel) rfl
set_option maxRecDepth 20000 in
theorem q120 : Cond.code yT_end cT_end 2 (some .int) ∈ W0 := w0_in 120 rfl rfl
theorem q121 : Cond.methodLink "StatRows$TripleRow" 22 yT_start ∈ W0 := w0_in 121 (by decide +kernel) rfl
theorem q122 : Cond.instanceMethod yT_start ∈ W0 := w0_in 122 (by decide +kernel) rfl
theorem q123 : Cond.selects "StatRows$TripleRow" yT_start yT_start ∈ W0 := w0_in 123 (by decide +kernel) rfl
set_option maxRecDepth 20000 in
theorem q124 : Cond.code yT_start cT_start 2 (some .int) ∈ W0 := w0_in 124 rfl rfl
theorem q125 : Cond.methodLink "StatRows$TripleRow" 32 yT_isAt ∈ W0 := w0_in 125 (by decide +kernel) rfl
theorem q127 : Cond.instanceMethod yT_isAt ∈ W0 := w0_in 127 (by decide +kernel) rfl
set_option maxRecDepth 20000 in
theorem q128 : Cond.code yT_isAt cT_isAt 4 (some .boolean) ∈ W0 := w0_in 128 rfl rfl
theorem q129 : Cond.methodLink "StatRows$TripleRow" 36 yT_size ∈ W0 := w0_in 129 (by decide +kernel) rfl
theorem q130 : Cond.instanceMethod yT_size ∈ W0 := w0_in 130 (by decide +kernel) rfl
theorem q131 : Cond.selects "StatRows$TripleRow" yT_size yT_size ∈ W0 := w0_in 131 (by decide +kernel) rfl
set_option maxRecDepth 20000 in
theorem q132 : Cond.code yT_size cT_size 1 (some .int) ∈ W0 := w0_in 132 rfl rfl
theorem q133 : Cond.methodLink "StatRows$TripleRow" 40 arraycopyName ∈ W0 := w0_in 133 (by decide +kernel) rfl
theorem q134 : Cond.static arraycopyName ∈ W0 := w0_in 134 (by decide +kernel) rfl
theorem q136 : Cond.methodLink "StatRows$TripleRow" 46 yT_moveStartsAfter ∈ W0 := w0_in 136 (by decide +kernel) rfl
theorem q138 : Cond.instanceMethod yT_moveStartsAfter ∈ W0 := w0_in 138 (by decide +kernel) rfl
set_option maxRecDepth 20000 in
theorem q139 : Cond.code yT_moveStartsAfter cT_moveStartsAfter 4 none ∈ W0 := w0_in 139 rfl rfl
theorem q140 : Cond.methodLink "StatRowsLaw" 18 yX_drop ∈ W0 := w0_in 140 (by decide +kernel) rfl
theorem q141 : Cond.instanceMethod yX_drop ∈ W0 := w0_in 141 (by decide +kernel) rfl
theorem q142 : Cond.selects "StatRows" yX_drop yX_drop ∈ W0 := w0_in 142 (by decide +kernel) rfl
set_option maxRecDepth 20000 in
theorem q143 : Cond.code yX_drop cX_drop 4 (some .int) ∈ W0 := w0_in 143 rfl rfl
theorem q144 : Cond.methodLink "StatRows" 52 yT_remove ∈ W0 := w0_in 144 (by decide +kernel) rfl
theorem q145 : Cond.instanceMethod yT_remove ∈ W0 := w0_in 145 (by decide +kernel) rfl
theorem q146 : Cond.selects "StatRows$TripleRow" yT_remove yT_remove ∈ W0 := w0_in 146 (by decide +kernel) rfl
set_option maxRecDepth 20000 in
theorem q147 : Cond.code yT_remove cT_remove 4 (some .int) ∈ W0 := w0_in 147 rfl rfl
theorem q148 : Cond.methodLink "StatRowsLaw" 22 yX_count ∈ W0 := w0_in 148 (by decide +kernel) rfl
theorem q149 : Cond.instanceMethod yX_count ∈ W0 := w0_in 149 (by decide +kernel) rfl
theorem q150 : Cond.selects "StatRows" yX_count yX_count ∈ W0 := w0_in 150 (by decide +kernel) rfl
set_option maxRecDepth 20000 in
theorem q151 : Cond.code yX_count cX_count 3 (some .int) ∈ W0 := w0_in 151 rfl rfl
theorem q152 : Cond.methodLink "StatRows" 59 yT_sizeOf ∈ W0 := w0_in 152 (by decide +kernel) rfl
theorem q153 : Cond.instanceMethod yT_sizeOf ∈ W0 := w0_in 153 (by decide +kernel) rfl
theorem q154 : Cond.selects "StatRows$TripleRow" yT_sizeOf yT_sizeOf ∈ W0 := w0_in 154 (by decide +kernel) rfl
set_option maxRecDepth 20000 in
theorem q155 : Cond.code yT_sizeOf cT_sizeOf 2 (some .int) ∈ W0 := w0_in 155 rfl rfl
theorem q156 : Cond.methodLink "StatRows" 63 yX_subjectsOf ∈ W0 := w0_in 156 (by decide +kernel) rfl
theorem q158 : Cond.instanceMethod yX_subjectsOf ∈ W0 := w0_in 158 (by decide +kernel) rfl
set_option maxRecDepth 20000 in
theorem q159 : Cond.code yX_subjectsOf cX_subjectsOf 2 (some .int) ∈ W0 := w0_in 159 rfl rfl
theorem q160 : Cond.methodLink "StatRows" 79 yX_clearTally ∈ W0 := w0_in 160 (by decide +kernel) rfl
theorem q162 : Cond.instanceMethod yX_clearTally ∈ W0 := w0_in 162 (by decide +kernel) rfl
set_option maxRecDepth 20000 in
theorem q163 : Cond.code yX_clearTally cX_clearTally 1 none ∈ W0 := w0_in 163 rfl rfl
theorem q164 : Cond.methodLink "StatRows" 190 yJA_fill ∈ W0 := w0_in 164 (by decide +kernel) rfl
theorem q165 : Cond.static yJA_fill ∈ W0 := w0_in 165 (by decide +kernel) rfl
set_option maxRecDepth 20000 in
theorem q166 : Cond.code yJA_fill cJA_fill 4 none ∈ W0 := w0_in 166 rfl rfl
theorem q167 : Cond.methodLink "StatRows" 82 yX_tallySubjects ∈ W0 := w0_in 167 (by decide +kernel) rfl
theorem q169 : Cond.instanceMethod yX_tallySubjects ∈ W0 := w0_in 169 (by decide +kernel) rfl
set_option maxRecDepth 20000 in
theorem q170 : Cond.code yX_tallySubjects cX_tallySubjects 4 none ∈ W0 := w0_in 170 rfl rfl
theorem q171 : Cond.methodLink "StatRows" 123 yT_end ∈ W0 := w0_in 171 (by decide +kernel) rfl
theorem q172 : Cond.methodLink "StatRows" 126 yT_start ∈ W0 := w0_in 172 (by decide +kernel) rfl
theorem q173 : Cond.methodLink "StatRows" 147 yT_subjectAt ∈ W0 := w0_in 173 (by decide +kernel) rfl
theorem q174 : Cond.instanceMethod yT_subjectAt ∈ W0 := w0_in 174 (by decide +kernel) rfl
theorem q175 : Cond.selects "StatRows$TripleRow" yT_subjectAt yT_subjectAt ∈ W0 := w0_in 175 (by decide +kernel) rfl
set_option maxRecDepth 20000 in
theorem q176 : Cond.code yT_subjectAt cT_subjectAt 2 (some .int) ∈ W0 := w0_in 176 rfl rfl
theorem q177 : Cond.methodLink "StatRows" 103 yX_differentInTally ∈ W0 := w0_in 177 (by decide +kernel) rfl
theorem q179 : Cond.instanceMethod yX_differentInTally ∈ W0 := w0_in 179 (by decide +kernel) rfl
set_option maxRecDepth 20000 in
theorem q180 : Cond.code yX_differentInTally cX_differentInTally 3 (some .int) ∈ W0 := w0_in 180 rfl rfl
theorem q181 : Cond.methodLink "StatRows" 66 yX_objectsOf ∈ W0 := w0_in 181 (by decide +kernel) rfl
theorem q183 : Cond.instanceMethod yX_objectsOf ∈ W0 := w0_in 183 (by decide +kernel) rfl
set_option maxRecDepth 20000 in
theorem q184 : Cond.code yX_objectsOf cX_objectsOf 2 (some .int) ∈ W0 := w0_in 184 rfl rfl
theorem q185 : Cond.methodLink "StatRows" 71 yX_tallyObjects ∈ W0 := w0_in 185 (by decide +kernel) rfl
theorem q187 : Cond.instanceMethod yX_tallyObjects ∈ W0 := w0_in 187 (by decide +kernel) rfl
set_option maxRecDepth 20000 in
theorem q188 : Cond.code yX_tallyObjects cX_tallyObjects 5 none ∈ W0 := w0_in 188 rfl rfl
theorem q189 : Cond.methodLink "StatRows" 129 yT_isSampled ∈ W0 := w0_in 189 (by decide +kernel) rfl
theorem q190 : Cond.instanceMethod yT_isSampled ∈ W0 := w0_in 190 (by decide +kernel) rfl
theorem q191 : Cond.selects "StatRows$TripleRow" yT_isSampled yT_isSampled ∈ W0 := w0_in 191 (by decide +kernel) rfl
set_option maxRecDepth 20000 in
theorem q192 : Cond.code yT_isSampled cT_isSampled 2 (some .boolean) ∈ W0 := w0_in 192 rfl rfl
theorem q194 : Cond.static yX_hash ∈ W0 := w0_in 194 (by decide +kernel) rfl
set_option maxRecDepth 20000 in
theorem q195 : Cond.code yX_hash cX_hash 2 (some .int) ∈ W0 := w0_in 195 rfl rfl
theorem q196 : Cond.constant "StatRows" 180 (-1640531535) ∈ W0 := w0_in 196 (by decide +kernel) rfl
theorem q197 : Cond.constant "StatRows" 181 (-2048144777) ∈ W0 := w0_in 197 (by decide +kernel) rfl
theorem q198 : Cond.methodLink "StatRows" 150 yT_objectAt ∈ W0 := w0_in 198 (by decide +kernel) rfl
theorem q199 : Cond.instanceMethod yT_objectAt ∈ W0 := w0_in 199 (by decide +kernel) rfl
theorem q200 : Cond.selects "StatRows$TripleRow" yT_objectAt yT_objectAt ∈ W0 := w0_in 200 (by decide +kernel) rfl
set_option maxRecDepth 20000 in
theorem q201 : Cond.code yT_objectAt cT_objectAt 2 (some .int) ∈ W0 := w0_in 201 rfl rfl
theorem q202 : Cond.methodLink "StatRowsLaw" 27 yX_chain ∈ W0 := w0_in 202 (by decide +kernel) rfl
theorem q203 : Cond.instanceMethod yX_chain ∈ W0 := w0_in 203 (by decide +kernel) rfl
theorem q204 : Cond.selects "StatRows" yX_chain yX_chain ∈ W0 := w0_in 204 (by decide +kernel) rfl
set_option maxRecDepth 20000 in
theorem q205 : Cond.code yX_chain cX_chain 3 (some .long) ∈ W0 := w0_in 205 rfl rfl
theorem q206 : Cond.constantLong "StatRows" 69 (-1) ∈ W0 := w0_in 206 (by decide +kernel) rfl
theorem q207 : Cond.methodLink "StatRows" 75 yX_sumAtSubjects ∈ W0 := w0_in 207 (by decide +kernel) rfl
theorem q209 : Cond.instanceMethod yX_sumAtSubjects ∈ W0 := w0_in 209 (by decide +kernel) rfl
set_option maxRecDepth 20000 in
theorem q210 : Cond.code yX_sumAtSubjects cX_sumAtSubjects 7 (some .long) ∈ W0 := w0_in 210 rfl rfl
theorem q211 : Cond.methodLink "StatRowsLaw" 32 yX_star ∈ W0 := w0_in 211 (by decide +kernel) rfl
theorem q212 : Cond.instanceMethod yX_star ∈ W0 := w0_in 212 (by decide +kernel) rfl
theorem q213 : Cond.selects "StatRows" yX_star yX_star ∈ W0 := w0_in 213 (by decide +kernel) rfl
set_option maxRecDepth 20000 in
theorem q214 : Cond.code yX_star cX_star 3 (some .long) ∈ W0 := w0_in 214 rfl rfl
theorem q215 : Cond.methodLink "StatRowsLaw" 36 yX_bucket ∈ W0 := w0_in 215 (by decide +kernel) rfl
theorem q216 : Cond.instanceMethod yX_bucket ∈ W0 := w0_in 216 (by decide +kernel) rfl
theorem q217 : Cond.selects "StatRows" yX_bucket yX_bucket ∈ W0 := w0_in 217 (by decide +kernel) rfl
set_option maxRecDepth 20000 in
theorem q218 : Cond.code yX_bucket cX_bucket 4 (some .int) ∈ W0 := w0_in 218 rfl rfl
theorem q219 : Cond.methodLink "StatRows" 86 yX_withObjectBetween ∈ W0 := w0_in 219 (by decide +kernel) rfl
theorem q221 : Cond.instanceMethod yX_withObjectBetween ∈ W0 := w0_in 221 (by decide +kernel) rfl
set_option maxRecDepth 20000 in
theorem q222 : Cond.code yX_withObjectBetween cX_withObjectBetween 8 (some .int) ∈ W0 := w0_in 222 rfl rfl
theorem q223 : Cond.methodLink "StatRowsLaw" 40 yX_quantile ∈ W0 := w0_in 223 (by decide +kernel) rfl
theorem q224 : Cond.instanceMethod yX_quantile ∈ W0 := w0_in 224 (by decide +kernel) rfl
theorem q225 : Cond.selects "StatRows" yX_quantile yX_quantile ∈ W0 := w0_in 225 (by decide +kernel) rfl
set_option maxRecDepth 20000 in
theorem q226 : Cond.code yX_quantile cX_quantile 6 (some .int) ∈ W0 := w0_in 226 rfl rfl
theorem q227 : Cond.methodLink "StatRowsLaw" 44 yX_register ∈ W0 := w0_in 227 (by decide +kernel) rfl
theorem q228 : Cond.instanceMethod yX_register ∈ W0 := w0_in 228 (by decide +kernel) rfl
theorem q229 : Cond.selects "StatRows" yX_register yX_register ∈ W0 := w0_in 229 (by decide +kernel) rfl
set_option maxRecDepth 20000 in
theorem q230 : Cond.code yX_register cX_register 3 (some .int) ∈ W0 := w0_in 230 rfl rfl
theorem q231 : Cond.methodLink "StatRows" 90 yX_isPredicateSet ∈ W0 := w0_in 231 (by decide +kernel) rfl
theorem q232 : Cond.static yX_isPredicateSet ∈ W0 := w0_in 232 (by decide +kernel) rfl
set_option maxRecDepth 20000 in
theorem q233 : Cond.code yX_isPredicateSet cX_isPredicateSet 1 (some .boolean) ∈ W0 := w0_in 233 rfl rfl
theorem q234 : Cond.methodLink "StatRows" 93 yX_tallySubjectsOfAll ∈ W0 := w0_in 234 (by decide +kernel) rfl
theorem q236 : Cond.instanceMethod yX_tallySubjectsOfAll ∈ W0 := w0_in 236 (by decide +kernel) rfl
set_option maxRecDepth 20000 in
theorem q237 : Cond.code yX_tallySubjectsOfAll cX_tallySubjectsOfAll 3 none ∈ W0 := w0_in 237 rfl rfl
theorem q238 : Cond.methodLink "StatRows" 96 yG_tellAll ∈ W0 := w0_in 238 (by decide +kernel) rfl
theorem q239 : Cond.instanceMethod yG_tellAll ∈ W0 := w0_in 239 (by decide +kernel) rfl
theorem q240 : Cond.selects "StatRows$RegisterRow" yG_tellAll yG_tellAll ∈ W0 := w0_in 240 (by decide +kernel) rfl
set_option maxRecDepth 20000 in
theorem q241 : Cond.code yG_tellAll cG_tellAll 3 none ∈ W0 := w0_in 241 rfl rfl
theorem q242 : Cond.methodLink "StatRows$RegisterRow" 13 yJA_fill ∈ W0 := w0_in 242 (by decide +kernel) rfl
theorem q244 : Cond.methodLink "StatRows$RegisterRow" 25 yG_tell ∈ W0 := w0_in 244 (by decide +kernel) rfl
theorem q246 : Cond.instanceMethod yG_tell ∈ W0 := w0_in 246 (by decide +kernel) rfl
set_option maxRecDepth 20000 in
theorem q247 : Cond.code yG_tell cG_tell 3 none ∈ W0 := w0_in 247 rfl rfl
theorem q248 : Cond.methodLink "StatRows$RegisterRow" 36 yG_rankOf ∈ W0 := w0_in 248 (by decide +kernel) rfl
theorem q249 : Cond.static yG_rankOf ∈ W0 := w0_in 249 (by decide +kernel) rfl
set_option maxRecDepth 20000 in
theorem q250 : Cond.code yG_rankOf cG_rankOf 2 (some .int) ∈ W0 := w0_in 250 rfl rfl
theorem q251 : Cond.methodLink "StatRows$RegisterRow" 39 yJM_max ∈ W0 := w0_in 251 (by decide +kernel) rfl
theorem q252 : Cond.static yJM_max ∈ W0 := w0_in 252 (by decide +kernel) rfl
set_option maxRecDepth 20000 in
theorem q253 : Cond.code yJM_max cJM_max 2 (some .int) ∈ W0 := w0_in 253 rfl rfl
theorem q254 : Cond.methodLink "StatRows" 100 yG_rank ∈ W0 := w0_in 254 (by decide +kernel) rfl
theorem q255 : Cond.instanceMethod yG_rank ∈ W0 := w0_in 255 (by decide +kernel) rfl
theorem q256 : Cond.selects "StatRows$RegisterRow" yG_rank yG_rank ∈ W0 := w0_in 256 (by decide +kernel) rfl
set_option maxRecDepth 20000 in
theorem q257 : Cond.code yG_rank cG_rank 2 (some .int) ∈ W0 := w0_in 257 rfl rfl
theorem q258 : Cond.methodLink "StatRowsLaw" 48 yX_distinct ∈ W0 := w0_in 258 (by decide +kernel) rfl
theorem q259 : Cond.instanceMethod yX_distinct ∈ W0 := w0_in 259 (by decide +kernel) rfl
theorem q260 : Cond.selects "StatRows" yX_distinct yX_distinct ∈ W0 := w0_in 260 (by decide +kernel) rfl
set_option maxRecDepth 20000 in
theorem q261 : Cond.code yX_distinct cX_distinct 4 (some .long) ∈ W0 := w0_in 261 rfl rfl
theorem q262 : Cond.methodLink "StatRows" 107 yG_about ∈ W0 := w0_in 262 (by decide +kernel) rfl
theorem q263 : Cond.instanceMethod yG_about ∈ W0 := w0_in 263 (by decide +kernel) rfl
theorem q264 : Cond.selects "StatRows$RegisterRow" yG_about yG_about ∈ W0 := w0_in 264 (by decide +kernel) rfl
set_option maxRecDepth 20000 in
theorem q265 : Cond.code yG_about cG_about 5 (some .long) ∈ W0 := w0_in 265 rfl rfl
theorem q266 : Cond.fieldLink "StatRows$RegisterRow" 29 "StatRows$RegisterRow" "ABOUT_BY_ZEROS" "[I" ∈ W0 := w0_in 266 (by decide +kernel) rfl
theorem q268 : Cond.constantLong "StatRows$RegisterRow" 32 184992831373312 ∈ W0 := w0_in 268 (by decide +kernel) rfl
theorem q269 : Cond.constantLong "StatRows$RegisterRow" 34 1000 ∈ W0 := w0_in 269 (by decide +kernel) rfl
theorem q270 : Cond.methodLink "StatRowsLaw" 52 yX_estimate ∈ W0 := w0_in 270 (by decide +kernel) rfl
theorem q271 : Cond.instanceMethod yX_estimate ∈ W0 := w0_in 271 (by decide +kernel) rfl
theorem q272 : Cond.selects "StatRows" yX_estimate yX_estimate ∈ W0 := w0_in 272 (by decide +kernel) rfl
set_option maxRecDepth 20000 in
theorem q273 : Cond.code yX_estimate cX_estimate 4 (some .long) ∈ W0 := w0_in 273 rfl rfl
theorem q274 : Cond.methodLink "StatRows" 111 yX_joinEstimate ∈ W0 := w0_in 274 (by decide +kernel) rfl
theorem q276 : Cond.instanceMethod yX_joinEstimate ∈ W0 := w0_in 276 (by decide +kernel) rfl
set_option maxRecDepth 20000 in
theorem q277 : Cond.code yX_joinEstimate cX_joinEstimate 5 (some .long) ∈ W0 := w0_in 277 rfl rfl
theorem q278 : Cond.methodLink "StatRows" 182 yJM_max ∈ W0 := w0_in 278 (by decide +kernel) rfl
theorem q279 : Cond.methodLink "StatRows" 115 yX_sampledChainEstimate ∈ W0 := w0_in 279 (by decide +kernel) rfl
theorem q281 : Cond.instanceMethod yX_sampledChainEstimate ∈ W0 := w0_in 281 (by decide +kernel) rfl
set_option maxRecDepth 20000 in
theorem q282 : Cond.code yX_sampledChainEstimate cX_sampledChainEstimate 3 (some .long) ∈ W0 := w0_in 282 rfl rfl
theorem q283 : Cond.constantLong "StatRows" 196 16 ∈ W0 := w0_in 283 (by decide +kernel) rfl
theorem q284 : Cond.methodLink "StatRowsLaw" 57 yX_range ∈ W0 := w0_in 284 (by decide +kernel) rfl
theorem q285 : Cond.instanceMethod yX_range ∈ W0 := w0_in 285 (by decide +kernel) rfl
theorem q286 : Cond.selects "StatRows" yX_range yX_range ∈ W0 := w0_in 286 (by decide +kernel) rfl
set_option maxRecDepth 20000 in
theorem q287 : Cond.code yX_range cX_range 9 (some .int) ∈ W0 := w0_in 287 rfl rfl
theorem q288 : Cond.methodLink "StatRows" 119 yX_shared ∈ W0 := w0_in 288 (by decide +kernel) rfl
theorem q289 : Cond.static yX_shared ∈ W0 := w0_in 289 (by decide +kernel) rfl
set_option maxRecDepth 20000 in
theorem q290 : Cond.code yX_shared cX_shared 6 (some .int) ∈ W0 := w0_in 290 rfl rfl
theorem q291 : Cond.methodLink "StatRows" 187 yJM_min ∈ W0 := w0_in 291 (by decide +kernel) rfl
theorem q292 : Cond.static yJM_min ∈ W0 := w0_in 292 (by decide +kernel) rfl
set_option maxRecDepth 20000 in
theorem q293 : Cond.code yJM_min cJM_min 2 (some .int) ∈ W0 := w0_in 293 rfl rfl
theorem q294 : Cond.methodLink "StatRowsLaw" 61 yX_sample ∈ W0 := w0_in 294 (by decide +kernel) rfl
theorem q295 : Cond.instanceMethod yX_sample ∈ W0 := w0_in 295 (by decide +kernel) rfl
theorem q296 : Cond.selects "StatRows" yX_sample yX_sample ∈ W0 := w0_in 296 (by decide +kernel) rfl
set_option maxRecDepth 20000 in
theorem q297 : Cond.code yX_sample cX_sample 6 (some .int) ∈ W0 := w0_in 297 rfl rfl
theorem q298 : Cond.methodLink "StatRows" 132 yT_pairAt ∈ W0 := w0_in 298 (by decide +kernel) rfl
theorem q299 : Cond.instanceMethod yT_pairAt ∈ W0 := w0_in 299 (by decide +kernel) rfl
theorem q300 : Cond.selects "StatRows$TripleRow" yT_pairAt yT_pairAt ∈ W0 := w0_in 300 (by decide +kernel) rfl
set_option maxRecDepth 20000 in
theorem q301 : Cond.code yT_pairAt cT_pairAt 2 (some .int) ∈ W0 := w0_in 301 rfl rfl
theorem q302 : Cond.methodLink "StatRowsLaw" 65 yX_pattern ∈ W0 := w0_in 302 (by decide +kernel) rfl
theorem q303 : Cond.instanceMethod yX_pattern ∈ W0 := w0_in 303 (by decide +kernel) rfl
theorem q304 : Cond.selects "StatRows" yX_pattern yX_pattern ∈ W0 := w0_in 304 (by decide +kernel) rfl
set_option maxRecDepth 20000 in
theorem q305 : Cond.code yX_pattern cX_pattern 4 (some .int) ∈ W0 := w0_in 305 rfl rfl
theorem q306 : Cond.methodLink "StatRows" 135 yX_isNumberOrAny ∈ W0 := w0_in 306 (by decide +kernel) rfl
theorem q307 : Cond.static yX_isNumberOrAny ∈ W0 := w0_in 307 (by decide +kernel) rfl
set_option maxRecDepth 20000 in
theorem q308 : Cond.code yX_isNumberOrAny cX_isNumberOrAny 1 (some .boolean) ∈ W0 := w0_in 308 rfl rfl
theorem q309 : Cond.methodLink "StatRows" 138 yX_isPredicateOrAny ∈ W0 := w0_in 309 (by decide +kernel) rfl
theorem q310 : Cond.static yX_isPredicateOrAny ∈ W0 := w0_in 310 (by decide +kernel) rfl
set_option maxRecDepth 20000 in
theorem q311 : Cond.code yX_isPredicateOrAny cX_isPredicateOrAny 1 (some .boolean) ∈ W0 := w0_in 311 rfl rfl
theorem q312 : Cond.methodLink "StatRows" 141 yP_rowOf ∈ W0 := w0_in 312 (by decide +kernel) rfl
theorem q313 : Cond.instanceMethod yP_rowOf ∈ W0 := w0_in 313 (by decide +kernel) rfl
theorem q314 : Cond.selects "StatRows$PatternRow" yP_rowOf yP_rowOf ∈ W0 := w0_in 314 (by decide +kernel) rfl
set_option maxRecDepth 20000 in
theorem q315 : Cond.code yP_rowOf cP_rowOf 5 (some .int) ∈ W0 := w0_in 315 rfl rfl
theorem q316 : Cond.methodLink "StatRowsLaw" 69 yX_matches ∈ W0 := w0_in 316 (by decide +kernel) rfl
theorem q317 : Cond.instanceMethod yX_matches ∈ W0 := w0_in 317 (by decide +kernel) rfl
theorem q318 : Cond.selects "StatRows" yX_matches yX_matches ∈ W0 := w0_in 318 (by decide +kernel) rfl
set_option maxRecDepth 20000 in
theorem q319 : Cond.code yX_matches cX_matches 6 (some .int) ∈ W0 := w0_in 319 rfl rfl
theorem q320 : Cond.methodLink "StatRows" 144 yP_has ∈ W0 := w0_in 320 (by decide +kernel) rfl
theorem q321 : Cond.instanceMethod yP_has ∈ W0 := w0_in 321 (by decide +kernel) rfl
theorem q322 : Cond.selects "StatRows$PatternRow" yP_has yP_has ∈ W0 := w0_in 322 (by decide +kernel) rfl
set_option maxRecDepth 20000 in
theorem q323 : Cond.code yP_has cP_has 2 (some .boolean) ∈ W0 := w0_in 323 rfl rfl
theorem q324 : Cond.methodLink "StatRows" 153 yP_goesWith ∈ W0 := w0_in 324 (by decide +kernel) rfl
theorem q325 : Cond.instanceMethod yP_goesWith ∈ W0 := w0_in 325 (by decide +kernel) rfl
theorem q326 : Cond.selects "StatRows$PatternRow" yP_goesWith yP_goesWith ∈ W0 := w0_in 326 (by decide +kernel) rfl
set_option maxRecDepth 20000 in
theorem q327 : Cond.code yP_goesWith cP_goesWith 5 (some .boolean) ∈ W0 := w0_in 327 rfl rfl
theorem q328 : Cond.methodLink "StatRows$PatternRow" 25 yP_allows ∈ W0 := w0_in 328 (by decide +kernel) rfl
theorem q329 : Cond.static yP_allows ∈ W0 := w0_in 329 (by decide +kernel) rfl
set_option maxRecDepth 20000 in
theorem q330 : Cond.code yP_allows cP_allows 2 (some .boolean) ∈ W0 := w0_in 330 rfl rfl
theorem q331 : Cond.methodLink "StatRowsLaw" 74 yX_version ∈ W0 := w0_in 331 (by decide +kernel) rfl
theorem q332 : Cond.instanceMethod yX_version ∈ W0 := w0_in 332 (by decide +kernel) rfl
theorem q333 : Cond.selects "StatRows" yX_version yX_version ∈ W0 := w0_in 333 (by decide +kernel) rfl
set_option maxRecDepth 20000 in
theorem q334 : Cond.code yX_version cX_version 1 (some .int) ∈ W0 := w0_in 334 rfl rfl
theorem q335 : Cond.methodLink "StatRows" 157 yV_finish ∈ W0 := w0_in 335 (by decide +kernel) rfl
theorem q336 : Cond.instanceMethod yV_finish ∈ W0 := w0_in 336 (by decide +kernel) rfl
theorem q337 : Cond.selects "StatRows$VersionRow" yV_finish yV_finish ∈ W0 := w0_in 337 (by decide +kernel) rfl
set_option maxRecDepth 20000 in
theorem q338 : Cond.code yV_finish cV_finish 3 (some .int) ∈ W0 := w0_in 338 rfl rfl
theorem q339 : Cond.methodLink "StatRows$VersionRow" 22 yV_kept ∈ W0 := w0_in 339 (by decide +kernel) rfl
theorem q340 : Cond.instanceMethod yV_kept ∈ W0 := w0_in 340 (by decide +kernel) rfl
theorem q341 : Cond.selects "StatRows$VersionRow" yV_kept yV_kept ∈ W0 := w0_in 341 (by decide +kernel) rfl
set_option maxRecDepth 20000 in
theorem q342 : Cond.code yV_kept cV_kept 1 (some .int) ∈ W0 := w0_in 342 rfl rfl
theorem q343 : Cond.constant "StatRows$VersionRow" 28 2147483647 ∈ W0 := w0_in 343 (by decide +kernel) rfl
theorem q344 : Cond.methodLink "StatRows$VersionRow" 29 yV_place ∈ W0 := w0_in 344 (by decide +kernel) rfl
theorem q345 : Cond.static yV_place ∈ W0 := w0_in 345 (by decide +kernel) rfl
set_option maxRecDepth 20000 in
theorem q346 : Cond.code yV_place cV_place 2 (some .int) ∈ W0 := w0_in 346 rfl rfl
theorem q347 : Cond.methodLink "StatRows$VersionRow" 33 yT_sizeOf ∈ W0 := w0_in 347 (by decide +kernel) rfl
theorem q348 : Cond.methodLink "StatRowsLaw" 79 yX_countAt ∈ W0 := w0_in 348 (by decide +kernel) rfl
theorem q349 : Cond.instanceMethod yX_countAt ∈ W0 := w0_in 349 (by decide +kernel) rfl
theorem q350 : Cond.selects "StatRows" yX_countAt yX_countAt ∈ W0 := w0_in 350 (by decide +kernel) rfl
set_option maxRecDepth 20000 in
theorem q351 : Cond.code yX_countAt cX_countAt 3 (some .int) ∈ W0 := w0_in 351 rfl rfl
theorem q352 : Cond.methodLink "StatRows" 161 yV_sizeAt ∈ W0 := w0_in 352 (by decide +kernel) rfl
theorem q353 : Cond.instanceMethod yV_sizeAt ∈ W0 := w0_in 353 (by decide +kernel) rfl
theorem q354 : Cond.selects "StatRows$VersionRow" yV_sizeAt yV_sizeAt ∈ W0 := w0_in 354 (by decide +kernel) rfl
set_option maxRecDepth 20000 in
theorem q355 : Cond.code yV_sizeAt cV_sizeAt 3 (some .int) ∈ W0 := w0_in 355 rfl rfl
theorem q356 : Cond.methodLink "StatRows$VersionRow" 39 yV_hasEnded ∈ W0 := w0_in 356 (by decide +kernel) rfl
theorem q358 : Cond.instanceMethod yV_hasEnded ∈ W0 := w0_in 358 (by decide +kernel) rfl
set_option maxRecDepth 20000 in
theorem q359 : Cond.code yV_hasEnded cV_hasEnded 2 (some .boolean) ∈ W0 := w0_in 359 rfl rfl
theorem q360 : Cond.methodLink "StatRowsLaw" 83 yX_forget ∈ W0 := w0_in 360 (by decide +kernel) rfl
theorem q361 : Cond.instanceMethod yX_forget ∈ W0 := w0_in 361 (by decide +kernel) rfl
theorem q362 : Cond.selects "StatRows" yX_forget yX_forget ∈ W0 := w0_in 362 (by decide +kernel) rfl
set_option maxRecDepth 20000 in
theorem q363 : Cond.code yX_forget cX_forget 2 (some .int) ∈ W0 := w0_in 363 rfl rfl
theorem q364 : Cond.methodLink "StatRows" 164 yV_forgetBelow ∈ W0 := w0_in 364 (by decide +kernel) rfl
theorem q365 : Cond.instanceMethod yV_forgetBelow ∈ W0 := w0_in 365 (by decide +kernel) rfl
theorem q366 : Cond.selects "StatRows$VersionRow" yV_forgetBelow yV_forgetBelow ∈ W0 := w0_in 366 (by decide +kernel) rfl
set_option maxRecDepth 20000 in
theorem q367 : Cond.code yV_forgetBelow cV_forgetBelow 3 (some .int) ∈ W0 := w0_in 367 rfl rfl
theorem q368 : Cond.methodLink "StatRows$VersionRow" 43 yJM_max ∈ W0 := w0_in 368 (by decide +kernel) rfl
theorem q369 : Cond.methodLink "StatRowsLaw" 87 yX_told ∈ W0 := w0_in 369 (by decide +kernel) rfl
theorem q370 : Cond.instanceMethod yX_told ∈ W0 := w0_in 370 (by decide +kernel) rfl
theorem q371 : Cond.selects "StatRows" yX_told yX_told ∈ W0 := w0_in 371 (by decide +kernel) rfl
set_option maxRecDepth 20000 in
theorem q372 : Cond.code yX_told cX_told 2 (some .int) ∈ W0 := w0_in 372 rfl rfl
theorem q373 : Cond.methodLink "StatRows" 167 yT_size ∈ W0 := w0_in 373 (by decide +kernel) rfl
theorem q374 : Cond.methodLink "StatRows" 170 yP_size ∈ W0 := w0_in 374 (by decide +kernel) rfl
theorem q375 : Cond.instanceMethod yP_size ∈ W0 := w0_in 375 (by decide +kernel) rfl
theorem q376 : Cond.selects "StatRows$PatternRow" yP_size yP_size ∈ W0 := w0_in 376 (by decide +kernel) rfl
set_option maxRecDepth 20000 in
theorem q377 : Cond.code yP_size cP_size 1 (some .int) ∈ W0 := w0_in 377 rfl rfl
theorem q378 : Cond.methodLink "StatRows" 171 yV_ended ∈ W0 := w0_in 378 (by decide +kernel) rfl
theorem q379 : Cond.instanceMethod yV_ended ∈ W0 := w0_in 379 (by decide +kernel) rfl
theorem q380 : Cond.selects "StatRows$VersionRow" yV_ended yV_ended ∈ W0 := w0_in 380 (by decide +kernel) rfl
set_option maxRecDepth 20000 in
theorem q381 : Cond.code yV_ended cV_ended 1 (some .int) ∈ W0 := w0_in 381 rfl rfl
theorem q382 : Cond.methodLink "StatRows" 174 yV_kept ∈ W0 := w0_in 382 (by decide +kernel) rfl
theorem q383 : Cond.classLink "StatRowsLaw" 10 "StatRowsModel" ∈ W0 := w0_in 383 (by decide +kernel) rfl
theorem q384 : Cond.instantiable "StatRowsModel" 10 ∈ W0 := w0_in 384 (by decide +kernel) rfl
theorem q385 : Cond.methodLink "StatRowsLaw" 12 yM_init ∈ W0 := w0_in 385 (by decide +kernel) rfl
theorem q386 : Cond.instanceMethod yM_init ∈ W0 := w0_in 386 (by decide +kernel) rfl
set_option maxRecDepth 20000 in
theorem q387 : Cond.code yM_init cM_init 1 none ∈ W0 := w0_in 387 rfl rfl
theorem q388 : Cond.methodLink "StatRowsModel" 1 objectInit ∈ W0 := w0_in 388 (by decide +kernel) rfl
theorem q389 : Cond.fieldLink "StatRowsModel" 29 "StatRowsModel" "triples" "I" ∈ W0 := w0_in 389 (by decide +kernel) rfl
theorem q390 : Cond.fieldLink "StatRowsModel" 7 "StatRowsModel" "subjects" "[I" ∈ W0 := w0_in 390 (by decide +kernel) rfl
theorem q391 : Cond.fieldLink "StatRowsModel" 13 "StatRowsModel" "predicates" "[I" ∈ W0 := w0_in 391 (by decide +kernel) rfl
theorem q392 : Cond.fieldLink "StatRowsModel" 16 "StatRowsModel" "objects" "[I" ∈ W0 := w0_in 392 (by decide +kernel) rfl
theorem q393 : Cond.fieldLink "StatRowsModel" 89 "StatRowsModel" "patterns" "I" ∈ W0 := w0_in 393 (by decide +kernel) rfl
theorem q394 : Cond.fieldLink "StatRowsModel" 19 "StatRowsModel" "asked" "[I" ∈ W0 := w0_in 394 (by decide +kernel) rfl
theorem q395 : Cond.fieldLink "StatRowsModel" 96 "StatRowsModel" "ended" "I" ∈ W0 := w0_in 395 (by decide +kernel) rfl
theorem q396 : Cond.fieldLink "StatRowsModel" 99 "StatRowsModel" "firstKept" "I" ∈ W0 := w0_in 396 (by decide +kernel) rfl
theorem q397 : Cond.fieldLink "StatRowsModel" 22 "StatRowsModel" "counts" "[I" ∈ W0 := w0_in 397 (by decide +kernel) rfl
theorem q398 : Cond.fieldLink "StatRowsModel" 25 "StatRowsModel" "seen" "[Z" ∈ W0 := w0_in 398 (by decide +kernel) rfl
theorem q399 : Cond.lays "StatRowsModel" "StatRowsModel" "triples" "I" ∈ W0 := w0_in 399 (by decide +kernel) rfl
theorem q401 : Cond.laysFinal "StatRowsModel" "StatRowsModel" "subjects" "[I" ∈ W0 := w0_in 401 (by decide +kernel) rfl
theorem q403 : Cond.laysFinal "StatRowsModel" "StatRowsModel" "predicates" "[I" ∈ W0 := w0_in 403 (by decide +kernel) rfl
theorem q405 : Cond.laysFinal "StatRowsModel" "StatRowsModel" "objects" "[I" ∈ W0 := w0_in 405 (by decide +kernel) rfl
theorem q407 : Cond.lays "StatRowsModel" "StatRowsModel" "patterns" "I" ∈ W0 := w0_in 407 (by decide +kernel) rfl
theorem q409 : Cond.laysFinal "StatRowsModel" "StatRowsModel" "asked" "[I" ∈ W0 := w0_in 409 (by decide +kernel) rfl
theorem q411 : Cond.lays "StatRowsModel" "StatRowsModel" "ended" "I" ∈ W0 := w0_in 411 (by decide +kernel) rfl
theorem q413 : Cond.lays "StatRowsModel" "StatRowsModel" "firstKept" "I" ∈ W0 := w0_in 413 (by decide +kernel) rfl
theorem q415 : Cond.laysFinal "StatRowsModel" "StatRowsModel" "counts" "[I" ∈ W0 := w0_in 415 (by decide +kernel) rfl
theorem q417 : Cond.laysFinal "StatRowsModel" "StatRowsModel" "seen" "[Z" ∈ W0 := w0_in 417 (by decide +kernel) rfl
theorem q420 : Cond.arrayClass .boolean ∈ W0 := w0_in 420 (by decide +kernel) rfl
theorem q421 : Cond.methodLink "StatRowsLaw" 17 yM_triple ∈ W0 := w0_in 421 (by decide +kernel) rfl
theorem q422 : Cond.instanceMethod yM_triple ∈ W0 := w0_in 422 (by decide +kernel) rfl
theorem q423 : Cond.selects "StatRowsModel" yM_triple yM_triple ∈ W0 := w0_in 423 (by decide +kernel) rfl
set_option maxRecDepth 20000 in
theorem q424 : Cond.code yM_triple cM_triple 4 (some .int) ∈ W0 := w0_in 424 rfl rfl
theorem q425 : Cond.methodLink "StatRowsModel" 33 yM_isTerm ∈ W0 := w0_in 425 (by decide +kernel) rfl
theorem q426 : Cond.static yM_isTerm ∈ W0 := w0_in 426 (by decide +kernel) rfl
set_option maxRecDepth 20000 in
theorem q427 : Cond.code yM_isTerm cM_isTerm 1 (some .boolean) ∈ W0 := w0_in 427 rfl rfl
theorem q428 : Cond.methodLink "StatRowsModel" 37 yM_isPredicate ∈ W0 := w0_in 428 (by decide +kernel) rfl
theorem q429 : Cond.static yM_isPredicate ∈ W0 := w0_in 429 (by decide +kernel) rfl
set_option maxRecDepth 20000 in
theorem q430 : Cond.code yM_isPredicate cM_isPredicate 1 (some .boolean) ∈ W0 := w0_in 430 rfl rfl
theorem q431 : Cond.methodLink "StatRowsModel" 40 yM_find ∈ W0 := w0_in 431 (by decide +kernel) rfl
theorem q433 : Cond.instanceMethod yM_find ∈ W0 := w0_in 433 (by decide +kernel) rfl
set_option maxRecDepth 20000 in
theorem q434 : Cond.code yM_find cM_find 6 (some .int) ∈ W0 := w0_in 434 rfl rfl
theorem q435 : Cond.methodLink "StatRowsLaw" 21 yM_drop ∈ W0 := w0_in 435 (by decide +kernel) rfl
theorem q436 : Cond.instanceMethod yM_drop ∈ W0 := w0_in 436 (by decide +kernel) rfl
theorem q437 : Cond.selects "StatRowsModel" yM_drop yM_drop ∈ W0 := w0_in 437 (by decide +kernel) rfl
set_option maxRecDepth 20000 in
theorem q438 : Cond.code yM_drop cM_drop 5 (some .int) ∈ W0 := w0_in 438 rfl rfl
theorem q439 : Cond.methodLink "StatRowsLaw" 26 yM_count ∈ W0 := w0_in 439 (by decide +kernel) rfl
theorem q440 : Cond.instanceMethod yM_count ∈ W0 := w0_in 440 (by decide +kernel) rfl
theorem q441 : Cond.selects "StatRowsModel" yM_count yM_count ∈ W0 := w0_in 441 (by decide +kernel) rfl
set_option maxRecDepth 20000 in
theorem q442 : Cond.code yM_count cM_count 3 (some .int) ∈ W0 := w0_in 442 rfl rfl
theorem q443 : Cond.methodLink "StatRowsModel" 44 yM_countOf ∈ W0 := w0_in 443 (by decide +kernel) rfl
theorem q445 : Cond.instanceMethod yM_countOf ∈ W0 := w0_in 445 (by decide +kernel) rfl
set_option maxRecDepth 20000 in
theorem q446 : Cond.code yM_countOf cM_countOf 4 (some .int) ∈ W0 := w0_in 446 rfl rfl
theorem q447 : Cond.methodLink "StatRowsModel" 48 yM_different ∈ W0 := w0_in 447 (by decide +kernel) rfl
theorem q449 : Cond.instanceMethod yM_different ∈ W0 := w0_in 449 (by decide +kernel) rfl
set_option maxRecDepth 20000 in
theorem q450 : Cond.code yM_different cM_different 6 (some .int) ∈ W0 := w0_in 450 rfl rfl
theorem q451 : Cond.methodLink "StatRowsLaw" 31 yM_chain ∈ W0 := w0_in 451 (by decide +kernel) rfl
theorem q452 : Cond.instanceMethod yM_chain ∈ W0 := w0_in 452 (by decide +kernel) rfl
theorem q453 : Cond.selects "StatRowsModel" yM_chain yM_chain ∈ W0 := w0_in 453 (by decide +kernel) rfl
set_option maxRecDepth 20000 in
theorem q454 : Cond.code yM_chain cM_chain 3 (some .long) ∈ W0 := w0_in 454 rfl rfl
theorem q455 : Cond.methodLink "StatRowsModel" 60 yM_pairs ∈ W0 := w0_in 455 (by decide +kernel) rfl
theorem q457 : Cond.instanceMethod yM_pairs ∈ W0 := w0_in 457 (by decide +kernel) rfl
set_option maxRecDepth 20000 in
theorem q458 : Cond.code yM_pairs cM_pairs 11 (some .long) ∈ W0 := w0_in 458 rfl rfl
theorem q459 : Cond.methodLink "StatRowsModel" 57 yM_isSampled ∈ W0 := w0_in 459 (by decide +kernel) rfl
theorem q461 : Cond.instanceMethod yM_isSampled ∈ W0 := w0_in 461 (by decide +kernel) rfl
set_option maxRecDepth 20000 in
theorem q462 : Cond.code yM_isSampled cM_isSampled 2 (some .boolean) ∈ W0 := w0_in 462 rfl rfl
theorem q463 : Cond.methodLink "StatRowsModel" 54 yM_hash ∈ W0 := w0_in 463 (by decide +kernel) rfl
theorem q464 : Cond.static yM_hash ∈ W0 := w0_in 464 (by decide +kernel) rfl
set_option maxRecDepth 20000 in
theorem q465 : Cond.code yM_hash cM_hash 2 (some .int) ∈ W0 := w0_in 465 rfl rfl
theorem q466 : Cond.constant "StatRowsModel" 52 (-1640531535) ∈ W0 := w0_in 466 (by decide +kernel) rfl
theorem q467 : Cond.constant "StatRowsModel" 53 (-2048144777) ∈ W0 := w0_in 467 (by decide +kernel) rfl
theorem q468 : Cond.constantLong "StatRowsModel" 64 (-1) ∈ W0 := w0_in 468 (by decide +kernel) rfl
theorem q469 : Cond.methodLink "StatRowsLaw" 35 yM_star ∈ W0 := w0_in 469 (by decide +kernel) rfl
theorem q470 : Cond.instanceMethod yM_star ∈ W0 := w0_in 470 (by decide +kernel) rfl
theorem q471 : Cond.selects "StatRowsModel" yM_star yM_star ∈ W0 := w0_in 471 (by decide +kernel) rfl
set_option maxRecDepth 20000 in
theorem q472 : Cond.code yM_star cM_star 3 (some .long) ∈ W0 := w0_in 472 rfl rfl
theorem q473 : Cond.methodLink "StatRowsLaw" 39 yM_bucket ∈ W0 := w0_in 473 (by decide +kernel) rfl
theorem q474 : Cond.instanceMethod yM_bucket ∈ W0 := w0_in 474 (by decide +kernel) rfl
theorem q475 : Cond.selects "StatRowsModel" yM_bucket yM_bucket ∈ W0 := w0_in 475 (by decide +kernel) rfl
set_option maxRecDepth 20000 in
theorem q476 : Cond.code yM_bucket cM_bucket 4 (some .int) ∈ W0 := w0_in 476 rfl rfl
theorem q477 : Cond.methodLink "StatRowsModel" 66 yM_between ∈ W0 := w0_in 477 (by decide +kernel) rfl
theorem q479 : Cond.instanceMethod yM_between ∈ W0 := w0_in 479 (by decide +kernel) rfl
set_option maxRecDepth 20000 in
theorem q480 : Cond.code yM_between cM_between 6 (some .int) ∈ W0 := w0_in 480 rfl rfl
theorem q481 : Cond.methodLink "StatRowsLaw" 43 yM_quantile ∈ W0 := w0_in 481 (by decide +kernel) rfl
theorem q482 : Cond.instanceMethod yM_quantile ∈ W0 := w0_in 482 (by decide +kernel) rfl
theorem q483 : Cond.selects "StatRowsModel" yM_quantile yM_quantile ∈ W0 := w0_in 483 (by decide +kernel) rfl
set_option maxRecDepth 20000 in
theorem q484 : Cond.code yM_quantile cM_quantile 5 (some .int) ∈ W0 := w0_in 484 rfl rfl
theorem q485 : Cond.methodLink "StatRowsLaw" 47 yM_register ∈ W0 := w0_in 485 (by decide +kernel) rfl
theorem q486 : Cond.instanceMethod yM_register ∈ W0 := w0_in 486 (by decide +kernel) rfl
theorem q487 : Cond.selects "StatRowsModel" yM_register yM_register ∈ W0 := w0_in 487 (by decide +kernel) rfl
set_option maxRecDepth 20000 in
theorem q488 : Cond.code yM_register cM_register 3 (some .int) ∈ W0 := w0_in 488 rfl rfl
theorem q489 : Cond.methodLink "StatRowsModel" 69 yM_areBits ∈ W0 := w0_in 489 (by decide +kernel) rfl
theorem q490 : Cond.static yM_areBits ∈ W0 := w0_in 490 (by decide +kernel) rfl
set_option maxRecDepth 20000 in
theorem q491 : Cond.code yM_areBits cM_areBits 1 (some .boolean) ∈ W0 := w0_in 491 rfl rfl
theorem q492 : Cond.methodLink "StatRowsModel" 72 yM_registerOf ∈ W0 := w0_in 492 (by decide +kernel) rfl
theorem q494 : Cond.instanceMethod yM_registerOf ∈ W0 := w0_in 494 (by decide +kernel) rfl
set_option maxRecDepth 20000 in
theorem q495 : Cond.code yM_registerOf cM_registerOf 7 (some .int) ∈ W0 := w0_in 495 rfl rfl
theorem q496 : Cond.methodLink "StatRowsLaw" 51 yM_distinct ∈ W0 := w0_in 496 (by decide +kernel) rfl
theorem q497 : Cond.instanceMethod yM_distinct ∈ W0 := w0_in 497 (by decide +kernel) rfl
theorem q498 : Cond.selects "StatRowsModel" yM_distinct yM_distinct ∈ W0 := w0_in 498 (by decide +kernel) rfl
set_option maxRecDepth 20000 in
theorem q499 : Cond.code yM_distinct cM_distinct 9 (some .long) ∈ W0 := w0_in 499 rfl rfl
theorem q500 : Cond.methodLink "StatRowsModel" 76 yM_aboutFew ∈ W0 := w0_in 500 (by decide +kernel) rfl
theorem q501 : Cond.static yM_aboutFew ∈ W0 := w0_in 501 (by decide +kernel) rfl
set_option maxRecDepth 20000 in
theorem q502 : Cond.code yM_aboutFew cM_aboutFew 1 (some .int) ∈ W0 := w0_in 502 rfl rfl
theorem q503 : Cond.constantLong "StatRowsModel" 79 184992831373312 ∈ W0 := w0_in 503 (by decide +kernel) rfl
theorem q504 : Cond.constantLong "StatRowsModel" 81 1000 ∈ W0 := w0_in 504 (by decide +kernel) rfl
theorem q505 : Cond.methodLink "StatRowsLaw" 56 yM_estimate ∈ W0 := w0_in 505 (by decide +kernel) rfl
theorem q506 : Cond.instanceMethod yM_estimate ∈ W0 := w0_in 506 (by decide +kernel) rfl
theorem q507 : Cond.selects "StatRowsModel" yM_estimate yM_estimate ∈ W0 := w0_in 507 (by decide +kernel) rfl
set_option maxRecDepth 20000 in
theorem q508 : Cond.code yM_estimate cM_estimate 10 (some .long) ∈ W0 := w0_in 508 rfl rfl
theorem q509 : Cond.constantLong "StatRowsModel" 83 16 ∈ W0 := w0_in 509 (by decide +kernel) rfl
theorem q510 : Cond.methodLink "StatRowsModel" 85 yM_greatest ∈ W0 := w0_in 510 (by decide +kernel) rfl
theorem q511 : Cond.static yM_greatest ∈ W0 := w0_in 511 (by decide +kernel) rfl
set_option maxRecDepth 20000 in
theorem q512 : Cond.code yM_greatest cM_greatest 3 (some .int) ∈ W0 := w0_in 512 rfl rfl
theorem q513 : Cond.methodLink "StatRowsLaw" 60 yM_range ∈ W0 := w0_in 513 (by decide +kernel) rfl
theorem q514 : Cond.instanceMethod yM_range ∈ W0 := w0_in 514 (by decide +kernel) rfl
theorem q515 : Cond.selects "StatRowsModel" yM_range yM_range ∈ W0 := w0_in 515 (by decide +kernel) rfl
set_option maxRecDepth 20000 in
theorem q516 : Cond.code yM_range cM_range 8 (some .int) ∈ W0 := w0_in 516 rfl rfl
theorem q517 : Cond.methodLink "StatRowsLaw" 64 yM_sample ∈ W0 := w0_in 517 (by decide +kernel) rfl
theorem q518 : Cond.instanceMethod yM_sample ∈ W0 := w0_in 518 (by decide +kernel) rfl
theorem q519 : Cond.selects "StatRowsModel" yM_sample yM_sample ∈ W0 := w0_in 519 (by decide +kernel) rfl
set_option maxRecDepth 20000 in
theorem q520 : Cond.code yM_sample cM_sample 8 (some .int) ∈ W0 := w0_in 520 rfl rfl
theorem q521 : Cond.constant "StatRowsModel" 88 65536 ∈ W0 := w0_in 521 (by decide +kernel) rfl
theorem q522 : Cond.methodLink "StatRowsLaw" 68 yM_pattern ∈ W0 := w0_in 522 (by decide +kernel) rfl
theorem q523 : Cond.instanceMethod yM_pattern ∈ W0 := w0_in 523 (by decide +kernel) rfl
theorem q524 : Cond.selects "StatRowsModel" yM_pattern yM_pattern ∈ W0 := w0_in 524 (by decide +kernel) rfl
set_option maxRecDepth 20000 in
theorem q525 : Cond.code yM_pattern cM_pattern 5 (some .int) ∈ W0 := w0_in 525 rfl rfl
theorem q526 : Cond.methodLink "StatRowsLaw" 73 yM_matches ∈ W0 := w0_in 526 (by decide +kernel) rfl
theorem q527 : Cond.instanceMethod yM_matches ∈ W0 := w0_in 527 (by decide +kernel) rfl
theorem q528 : Cond.selects "StatRowsModel" yM_matches yM_matches ∈ W0 := w0_in 528 (by decide +kernel) rfl
set_option maxRecDepth 20000 in
theorem q529 : Cond.code yM_matches cM_matches 4 (some .int) ∈ W0 := w0_in 529 rfl rfl
theorem q530 : Cond.methodLink "StatRowsModel" 92 yM_fits ∈ W0 := w0_in 530 (by decide +kernel) rfl
theorem q531 : Cond.static yM_fits ∈ W0 := w0_in 531 (by decide +kernel) rfl
set_option maxRecDepth 20000 in
theorem q532 : Cond.code yM_fits cM_fits 2 (some .boolean) ∈ W0 := w0_in 532 rfl rfl
theorem q533 : Cond.methodLink "StatRowsLaw" 78 yM_version ∈ W0 := w0_in 533 (by decide +kernel) rfl
theorem q534 : Cond.instanceMethod yM_version ∈ W0 := w0_in 534 (by decide +kernel) rfl
theorem q535 : Cond.selects "StatRowsModel" yM_version yM_version ∈ W0 := w0_in 535 (by decide +kernel) rfl
set_option maxRecDepth 20000 in
theorem q536 : Cond.code yM_version cM_version 2 (some .int) ∈ W0 := w0_in 536 rfl rfl
theorem q537 : Cond.methodLink "StatRowsLaw" 82 yM_countAt ∈ W0 := w0_in 537 (by decide +kernel) rfl
theorem q538 : Cond.instanceMethod yM_countAt ∈ W0 := w0_in 538 (by decide +kernel) rfl
theorem q539 : Cond.selects "StatRowsModel" yM_countAt yM_countAt ∈ W0 := w0_in 539 (by decide +kernel) rfl
set_option maxRecDepth 20000 in
theorem q540 : Cond.code yM_countAt cM_countAt 3 (some .int) ∈ W0 := w0_in 540 rfl rfl
theorem q541 : Cond.methodLink "StatRowsLaw" 86 yM_forget ∈ W0 := w0_in 541 (by decide +kernel) rfl
theorem q542 : Cond.instanceMethod yM_forget ∈ W0 := w0_in 542 (by decide +kernel) rfl
theorem q543 : Cond.selects "StatRowsModel" yM_forget yM_forget ∈ W0 := w0_in 543 (by decide +kernel) rfl
set_option maxRecDepth 20000 in
theorem q544 : Cond.code yM_forget cM_forget 3 (some .int) ∈ W0 := w0_in 544 rfl rfl
theorem q545 : Cond.methodLink "StatRowsLaw" 90 yM_told ∈ W0 := w0_in 545 (by decide +kernel) rfl
theorem q546 : Cond.instanceMethod yM_told ∈ W0 := w0_in 546 (by decide +kernel) rfl
theorem q547 : Cond.selects "StatRowsModel" yM_told yM_told ∈ W0 := w0_in 547 (by decide +kernel) rfl
set_option maxRecDepth 20000 in
theorem q548 : Cond.code yM_told cM_told 2 (some .int) ∈ W0 := w0_in 548 rfl rfl
theorem qs0 : Cond.selects "StatRows$TripleRow" yT_placeOf yT_placeOf ∈ W0 := w0_sel 0 (by decide +kernel) rfl
theorem qs1 : Cond.selects "StatRows$TripleRow" yT_isAt yT_isAt ∈ W0 := w0_sel 1 (by decide +kernel) rfl
theorem qs2 : Cond.selects "StatRows$TripleRow" yT_moveStartsAfter yT_moveStartsAfter ∈ W0 := w0_sel 2 (by decide +kernel) rfl
theorem qs3 : Cond.selects "StatRows" yX_subjectsOf yX_subjectsOf ∈ W0 := w0_sel 3 (by decide +kernel) rfl
theorem qs4 : Cond.selects "StatRows" yX_clearTally yX_clearTally ∈ W0 := w0_sel 4 (by decide +kernel) rfl
theorem qs5 : Cond.selects "StatRows" yX_tallySubjects yX_tallySubjects ∈ W0 := w0_sel 5 (by decide +kernel) rfl
theorem qs6 : Cond.selects "StatRows" yX_differentInTally yX_differentInTally ∈ W0 := w0_sel 6 (by decide +kernel) rfl
theorem qs7 : Cond.selects "StatRows" yX_objectsOf yX_objectsOf ∈ W0 := w0_sel 7 (by decide +kernel) rfl
theorem qs8 : Cond.selects "StatRows" yX_tallyObjects yX_tallyObjects ∈ W0 := w0_sel 8 (by decide +kernel) rfl
theorem qs9 : Cond.selects "StatRows" yX_sumAtSubjects yX_sumAtSubjects ∈ W0 := w0_sel 9 (by decide +kernel) rfl
theorem qs10 : Cond.selects "StatRows" yX_withObjectBetween yX_withObjectBetween ∈ W0 := w0_sel 10 (by decide +kernel) rfl
theorem qs11 : Cond.selects "StatRows" yX_tallySubjectsOfAll yX_tallySubjectsOfAll ∈ W0 := w0_sel 11 (by decide +kernel) rfl
theorem qs12 : Cond.selects "StatRows$RegisterRow" yG_tell yG_tell ∈ W0 := w0_sel 12 (by decide +kernel) rfl
theorem qs13 : Cond.selects "StatRows" yX_joinEstimate yX_joinEstimate ∈ W0 := w0_sel 13 (by decide +kernel) rfl
theorem qs14 : Cond.selects "StatRows" yX_sampledChainEstimate yX_sampledChainEstimate ∈ W0 := w0_sel 14 (by decide +kernel) rfl
theorem qs15 : Cond.selects "StatRows$VersionRow" yV_hasEnded yV_hasEnded ∈ W0 := w0_sel 15 (by decide +kernel) rfl
theorem qs16 : Cond.selects "StatRowsModel" yM_find yM_find ∈ W0 := w0_sel 16 (by decide +kernel) rfl
theorem qs17 : Cond.selects "StatRowsModel" yM_countOf yM_countOf ∈ W0 := w0_sel 17 (by decide +kernel) rfl
theorem qs18 : Cond.selects "StatRowsModel" yM_different yM_different ∈ W0 := w0_sel 18 (by decide +kernel) rfl
theorem qs19 : Cond.selects "StatRowsModel" yM_pairs yM_pairs ∈ W0 := w0_sel 19 (by decide +kernel) rfl
theorem qs20 : Cond.selects "StatRowsModel" yM_isSampled yM_isSampled ∈ W0 := w0_sel 20 (by decide +kernel) rfl
theorem qs21 : Cond.selects "StatRowsModel" yM_between yM_between ∈ W0 := w0_sel 21 (by decide +kernel) rfl
theorem qs22 : Cond.selects "StatRowsModel" yM_registerOf yM_registerOf ∈ W0 := w0_sel 22 (by decide +kernel) rfl
theorem inT : ∀ w ∈ u_ws "StatRows$TripleRow" TT 2, w ∈ W0 := List.forall_mem_cons.mpr ⟨q26, List.forall_mem_cons.mpr ⟨q28, fun _ h => absurd h List.not_mem_nil⟩⟩
theorem inP : ∀ w ∈ u_ws "StatRows$PatternRow" TP 4, w ∈ W0 := List.forall_mem_cons.mpr ⟨q42, List.forall_mem_cons.mpr ⟨q44, List.forall_mem_cons.mpr ⟨q46, List.forall_mem_cons.mpr ⟨q48, fun _ h => absurd h List.not_mem_nil⟩⟩⟩⟩
theorem inV : ∀ w ∈ u_ws "StatRows$VersionRow" TV 3, w ∈ W0 := List.forall_mem_cons.mpr ⟨q60, List.forall_mem_cons.mpr ⟨q62, List.forall_mem_cons.mpr ⟨q64, fun _ h => absurd h List.not_mem_nil⟩⟩⟩
theorem inG : ∀ w ∈ u_ws "StatRows$RegisterRow" TG 1, w ∈ W0 := List.forall_mem_cons.mpr ⟨q74, fun _ h => absurd h List.not_mem_nil⟩
theorem inX : ∀ w ∈ u_ws "StatRows" TX 5, w ∈ W0 := List.forall_mem_cons.mpr ⟨q82, List.forall_mem_cons.mpr ⟨q84, List.forall_mem_cons.mpr ⟨q86, List.forall_mem_cons.mpr ⟨q88, List.forall_mem_cons.mpr ⟨q90, fun _ h => absurd h List.not_mem_nil⟩⟩⟩⟩⟩
theorem inM : ∀ w ∈ u_ws "StatRowsModel" TM 10, w ∈ W0 := List.forall_mem_cons.mpr ⟨q399, List.forall_mem_cons.mpr ⟨q401, List.forall_mem_cons.mpr ⟨q403, List.forall_mem_cons.mpr ⟨q405, List.forall_mem_cons.mpr ⟨q407, List.forall_mem_cons.mpr ⟨q409, List.forall_mem_cons.mpr ⟨q411, List.forall_mem_cons.mpr ⟨q413, List.forall_mem_cons.mpr ⟨q415, List.forall_mem_cons.mpr ⟨q417, fun _ h => absurd h List.not_mem_nil⟩⟩⟩⟩⟩⟩⟩⟩⟩⟩
def wX_init : List Cond := .code yX_init cX_init 1 none :: W0
def wT_init : List Cond := .code yT_init cT_init 1 none :: W0
def wP_init : List Cond := .code yP_init cP_init 1 none :: W0
def wV_init : List Cond := .code yV_init cV_init 1 none :: W0
def wG_init : List Cond := .code yG_init cG_init 1 none :: W0
def wX_triple : List Cond := .code yX_triple cX_triple 4 (some .int) :: W0
def wX_isTriple : List Cond := .code yX_isTriple cX_isTriple 3 (some .boolean) :: W0
def wX_isNumber : List Cond := .code yX_isNumber cX_isNumber 1 (some .boolean) :: W0
def wX_isPredicate : List Cond := .code yX_isPredicate cX_isPredicate 1 (some .boolean) :: W0
def wX_pair : List Cond := .code yX_pair cX_pair 2 (some .int) :: W0
def wT_put : List Cond := .code yT_put cT_put 4 (some .int) :: W0
def wT_placeOf : List Cond := .code yT_placeOf cT_placeOf 5 (some .int) :: W0
def wT_end : List Cond := .code yT_end cT_end 2 (some .int) :: W0
def wT_start : List Cond := .code yT_start cT_start 2 (some .int) :: W0
def wT_isAt : List Cond := .code yT_isAt cT_isAt 4 (some .boolean) :: W0
def wT_size : List Cond := .code yT_size cT_size 1 (some .int) :: W0
def wT_moveStartsAfter : List Cond := .code yT_moveStartsAfter cT_moveStartsAfter 4 none :: W0
def wX_drop : List Cond := .code yX_drop cX_drop 4 (some .int) :: W0
def wT_remove : List Cond := .code yT_remove cT_remove 4 (some .int) :: W0
def wX_count : List Cond := .code yX_count cX_count 3 (some .int) :: W0
def wT_sizeOf : List Cond := .code yT_sizeOf cT_sizeOf 2 (some .int) :: W0
def wX_subjectsOf : List Cond := .code yX_subjectsOf cX_subjectsOf 2 (some .int) :: W0
def wX_clearTally : List Cond := .code yX_clearTally cX_clearTally 1 none :: W0
def wJA_fill : List Cond := .code yJA_fill cJA_fill 4 none :: W0
def wX_tallySubjects : List Cond := .code yX_tallySubjects cX_tallySubjects 4 none :: W0
def wT_subjectAt : List Cond := .code yT_subjectAt cT_subjectAt 2 (some .int) :: W0
def wX_differentInTally : List Cond := .code yX_differentInTally cX_differentInTally 3 (some .int) :: W0
def wX_objectsOf : List Cond := .code yX_objectsOf cX_objectsOf 2 (some .int) :: W0
def wX_tallyObjects : List Cond := .code yX_tallyObjects cX_tallyObjects 5 none :: W0
def wT_isSampled : List Cond := .code yT_isSampled cT_isSampled 2 (some .boolean) :: W0
def wX_hash : List Cond := .code yX_hash cX_hash 2 (some .int) :: W0
def wT_objectAt : List Cond := .code yT_objectAt cT_objectAt 2 (some .int) :: W0
def wX_chain : List Cond := .code yX_chain cX_chain 3 (some .long) :: W0
def wX_sumAtSubjects : List Cond := .code yX_sumAtSubjects cX_sumAtSubjects 7 (some .long) :: W0
def wX_star : List Cond := .code yX_star cX_star 3 (some .long) :: W0
def wX_bucket : List Cond := .code yX_bucket cX_bucket 4 (some .int) :: W0
def wX_withObjectBetween : List Cond := .code yX_withObjectBetween cX_withObjectBetween 8 (some .int) :: W0
def wX_quantile : List Cond := .code yX_quantile cX_quantile 6 (some .int) :: W0
def wX_register : List Cond := .code yX_register cX_register 3 (some .int) :: W0
def wX_isPredicateSet : List Cond := .code yX_isPredicateSet cX_isPredicateSet 1 (some .boolean) :: W0
def wX_tallySubjectsOfAll : List Cond := .code yX_tallySubjectsOfAll cX_tallySubjectsOfAll 3 none :: W0
def wG_tellAll : List Cond := .code yG_tellAll cG_tellAll 3 none :: W0
def wG_tell : List Cond := .code yG_tell cG_tell 3 none :: W0
def wG_rankOf : List Cond := .code yG_rankOf cG_rankOf 2 (some .int) :: W0
def wJM_max : List Cond := .code yJM_max cJM_max 2 (some .int) :: W0
def wG_rank : List Cond := .code yG_rank cG_rank 2 (some .int) :: W0
def wX_distinct : List Cond := .code yX_distinct cX_distinct 4 (some .long) :: W0
def wG_about : List Cond := .code yG_about cG_about 5 (some .long) :: W0
def wX_estimate : List Cond := .code yX_estimate cX_estimate 4 (some .long) :: W0
def wX_joinEstimate : List Cond := .code yX_joinEstimate cX_joinEstimate 5 (some .long) :: W0
def wX_sampledChainEstimate : List Cond := .code yX_sampledChainEstimate cX_sampledChainEstimate 3 (some .long) :: W0
def wX_range : List Cond := .code yX_range cX_range 9 (some .int) :: W0
def wX_shared : List Cond := .code yX_shared cX_shared 6 (some .int) :: W0
def wJM_min : List Cond := .code yJM_min cJM_min 2 (some .int) :: W0
def wX_sample : List Cond := .code yX_sample cX_sample 6 (some .int) :: W0
def wT_pairAt : List Cond := .code yT_pairAt cT_pairAt 2 (some .int) :: W0
def wX_pattern : List Cond := .code yX_pattern cX_pattern 4 (some .int) :: W0
def wX_isNumberOrAny : List Cond := .code yX_isNumberOrAny cX_isNumberOrAny 1 (some .boolean) :: W0
def wX_isPredicateOrAny : List Cond := .code yX_isPredicateOrAny cX_isPredicateOrAny 1 (some .boolean) :: W0
def wP_rowOf : List Cond := .code yP_rowOf cP_rowOf 5 (some .int) :: W0
def wX_matches : List Cond := .code yX_matches cX_matches 6 (some .int) :: W0
def wP_has : List Cond := .code yP_has cP_has 2 (some .boolean) :: W0
def wP_goesWith : List Cond := .code yP_goesWith cP_goesWith 5 (some .boolean) :: W0
def wP_allows : List Cond := .code yP_allows cP_allows 2 (some .boolean) :: W0
def wX_version : List Cond := .code yX_version cX_version 1 (some .int) :: W0
def wV_finish : List Cond := .code yV_finish cV_finish 3 (some .int) :: W0
def wV_kept : List Cond := .code yV_kept cV_kept 1 (some .int) :: W0
def wV_place : List Cond := .code yV_place cV_place 2 (some .int) :: W0
def wX_countAt : List Cond := .code yX_countAt cX_countAt 3 (some .int) :: W0
def wV_sizeAt : List Cond := .code yV_sizeAt cV_sizeAt 3 (some .int) :: W0
def wV_hasEnded : List Cond := .code yV_hasEnded cV_hasEnded 2 (some .boolean) :: W0
def wX_forget : List Cond := .code yX_forget cX_forget 2 (some .int) :: W0
def wV_forgetBelow : List Cond := .code yV_forgetBelow cV_forgetBelow 3 (some .int) :: W0
def wX_told : List Cond := .code yX_told cX_told 2 (some .int) :: W0
def wP_size : List Cond := .code yP_size cP_size 1 (some .int) :: W0
def wV_ended : List Cond := .code yV_ended cV_ended 1 (some .int) :: W0
def wM_init : List Cond := .code yM_init cM_init 1 none :: W0
def wM_triple : List Cond := .code yM_triple cM_triple 4 (some .int) :: W0
def wM_isTerm : List Cond := .code yM_isTerm cM_isTerm 1 (some .boolean) :: W0
def wM_isPredicate : List Cond := .code yM_isPredicate cM_isPredicate 1 (some .boolean) :: W0
def wM_find : List Cond := .code yM_find cM_find 6 (some .int) :: W0
def wM_drop : List Cond := .code yM_drop cM_drop 5 (some .int) :: W0
def wM_count : List Cond := .code yM_count cM_count 3 (some .int) :: W0
def wM_countOf : List Cond := .code yM_countOf cM_countOf 4 (some .int) :: W0
def wM_different : List Cond := .code yM_different cM_different 6 (some .int) :: W0
def wM_chain : List Cond := .code yM_chain cM_chain 3 (some .long) :: W0
def wM_pairs : List Cond := .code yM_pairs cM_pairs 11 (some .long) :: W0
def wM_isSampled : List Cond := .code yM_isSampled cM_isSampled 2 (some .boolean) :: W0
def wM_hash : List Cond := .code yM_hash cM_hash 2 (some .int) :: W0
def wM_star : List Cond := .code yM_star cM_star 3 (some .long) :: W0
def wM_bucket : List Cond := .code yM_bucket cM_bucket 4 (some .int) :: W0
def wM_between : List Cond := .code yM_between cM_between 6 (some .int) :: W0
def wM_quantile : List Cond := .code yM_quantile cM_quantile 5 (some .int) :: W0
def wM_register : List Cond := .code yM_register cM_register 3 (some .int) :: W0
def wM_areBits : List Cond := .code yM_areBits cM_areBits 1 (some .boolean) :: W0
def wM_registerOf : List Cond := .code yM_registerOf cM_registerOf 7 (some .int) :: W0
def wM_distinct : List Cond := .code yM_distinct cM_distinct 9 (some .long) :: W0
def wM_aboutFew : List Cond := .code yM_aboutFew cM_aboutFew 1 (some .int) :: W0
def wM_estimate : List Cond := .code yM_estimate cM_estimate 10 (some .long) :: W0
def wM_greatest : List Cond := .code yM_greatest cM_greatest 3 (some .int) :: W0
def wM_range : List Cond := .code yM_range cM_range 8 (some .int) :: W0
def wM_sample : List Cond := .code yM_sample cM_sample 8 (some .int) :: W0
def wM_pattern : List Cond := .code yM_pattern cM_pattern 5 (some .int) :: W0
def wM_matches : List Cond := .code yM_matches cM_matches 4 (some .int) :: W0
def wM_fits : List Cond := .code yM_fits cM_fits 2 (some .boolean) :: W0
def wM_version : List Cond := .code yM_version cM_version 2 (some .int) :: W0
def wM_countAt : List Cond := .code yM_countAt cM_countAt 3 (some .int) :: W0
def wM_forget : List Cond := .code yM_forget cM_forget 3 (some .int) :: W0
def wM_told : List Cond := .code yM_told cM_told 2 (some .int) :: W0
theorem gd_1 {c1 : Cond} (h : c1 ∈ W0) : GoodIn W0 (c1 :: W0) := fun w hw => (List.mem_cons.mp hw).elim (fun e => by rw [e]; exact ⟨h, w0_good h⟩) (fun h => ⟨h, w0_good h⟩)
theorem gd_V {c1 : Cond} {own C : String} {idx : Nat} {y : MethodName} (h1 : .methodLink own idx y ∈ W0) (h2 : .instanceMethod y ∈ W0) (h3 : .selects C y y ∈ W0) (h4 : .initialized C ∈ W0) (h : c1 ∈ W0) : GoodIn W0 (wsV own idx C y (c1 :: W0)) := fun w hw => by
  rcases List.mem_append.mp hw with hw | hw
  · simp only [List.mem_cons, List.not_mem_nil, or_false] at hw
    rcases hw with rfl | rfl | rfl | rfl
    · exact ⟨h1, w0_good h1⟩
    · exact ⟨h2, w0_good h2⟩
    · exact ⟨h3, w0_good h3⟩
    · exact ⟨h4, w0_good h4⟩
  · exact gd_1 h w hw
theorem gd_S {c1 : Cond} {own : String} {idx : Nat} {y : MethodName} (h1 : .methodLink own idx y ∈ W0) (h2 : .static y ∈ W0) (h4 : .initialized y.cls ∈ W0) (h : c1 ∈ W0) : GoodIn W0 (va_wsS own idx y (c1 :: W0)) := fun w hw => by
  rcases List.mem_append.mp hw with hw | hw
  · simp only [List.mem_cons, List.not_mem_nil, or_false] at hw
    rcases hw with rfl | rfl | rfl
    · exact ⟨h1, w0_good h1⟩
    · exact ⟨h2, w0_good h2⟩
    · exact ⟨h4, w0_good h4⟩
  · exact gd_1 h w hw
end
section
theorem dP_init_0 : decode cP_init 0 = .ok (.aload_n 0, 1) := by decide +kernel
theorem dP_init_1 : decode cP_init 1 = .ok (.invokespecial 3, 3) := by decide +kernel
theorem dP_init_4 : decode cP_init 4 = .ok (.aload_n 0, 1) := by decide +kernel
theorem dP_init_5 : decode cP_init 5 = .ok (.bipush 30, 2) := by decide +kernel
theorem dP_init_7 : decode cP_init 7 = .ok (.newarray .int, 2) := by decide +kernel
theorem dP_init_9 : decode cP_init 9 = .ok (.putfield 11, 3) := by decide +kernel
theorem dP_init_12 : decode cP_init 12 = .ok (.aload_n 0, 1) := by decide +kernel
theorem dP_init_13 : decode cP_init 13 = .ok (.bipush 30, 2) := by decide +kernel
theorem dP_init_15 : decode cP_init 15 = .ok (.newarray .int, 2) := by decide +kernel
theorem dP_init_17 : decode cP_init 17 = .ok (.putfield 15, 3) := by decide +kernel
theorem dP_init_20 : decode cP_init 20 = .ok (.aload_n 0, 1) := by decide +kernel
theorem dP_init_21 : decode cP_init 21 = .ok (.bipush 30, 2) := by decide +kernel
theorem dP_init_23 : decode cP_init 23 = .ok (.newarray .int, 2) := by decide +kernel
theorem dP_init_25 : decode cP_init 25 = .ok (.putfield 18, 3) := by decide +kernel
theorem dP_init_28 : decode cP_init 28 = .ok (.aload_n 0, 1) := by decide +kernel
theorem dP_init_29 : decode cP_init 29 = .ok (.iconst 0, 1) := by decide +kernel
theorem dP_init_30 : decode cP_init 30 = .ok (.putfield 21, 3) := by decide +kernel
theorem dP_init_33 : decode cP_init 33 = .ok (.return_, 1) := by decide +kernel
theorem dP_size_0 : decode cP_size 0 = .ok (.aload_n 0, 1) := by decide +kernel
theorem dP_size_1 : decode cP_size 1 = .ok (.getfield 21, 3) := by decide +kernel
theorem dP_size_4 : decode cP_size 4 = .ok (.ireturn, 1) := by decide +kernel
theorem dP_has_0 : decode cP_has 0 = .ok (.iload_n 1, 1) := by decide +kernel
theorem dP_has_1 : decode cP_has 1 = .ok (.ifCond .lt 15, 3) := by decide +kernel
theorem dP_has_4 : decode cP_has 4 = .ok (.iload_n 1, 1) := by decide +kernel
theorem dP_has_5 : decode cP_has 5 = .ok (.aload_n 0, 1) := by decide +kernel
theorem dP_has_6 : decode cP_has 6 = .ok (.getfield 21, 3) := by decide +kernel
theorem dP_has_9 : decode cP_has 9 = .ok (.if_icmp .ge 7, 3) := by decide +kernel
theorem dP_has_12 : decode cP_has 12 = .ok (.iconst 1, 1) := by decide +kernel
theorem dP_has_13 : decode cP_has 13 = .ok (.goto 4, 3) := by decide +kernel
theorem dP_has_16 : decode cP_has 16 = .ok (.iconst 0, 1) := by decide +kernel
theorem dP_has_17 : decode cP_has 17 = .ok (.ireturn, 1) := by decide +kernel
theorem dP_rowOf_0 : decode cP_rowOf 0 = .ok (.iconst 0, 1) := by decide +kernel
theorem dP_rowOf_1 : decode cP_rowOf 1 = .ok (.istore 4, 2) := by decide +kernel
theorem dP_rowOf_3 : decode cP_rowOf 3 = .ok (.iload 4, 2) := by decide +kernel
theorem dP_rowOf_5 : decode cP_rowOf 5 = .ok (.aload_n 0, 1) := by decide +kernel
theorem dP_rowOf_6 : decode cP_rowOf 6 = .ok (.getfield 21, 3) := by decide +kernel
theorem dP_rowOf_9 : decode cP_rowOf 9 = .ok (.if_icmp .ge 45, 3) := by decide +kernel
theorem dP_rowOf_12 : decode cP_rowOf 12 = .ok (.aload_n 0, 1) := by decide +kernel
theorem dP_rowOf_13 : decode cP_rowOf 13 = .ok (.getfield 11, 3) := by decide +kernel
theorem dP_rowOf_16 : decode cP_rowOf 16 = .ok (.iload 4, 2) := by decide +kernel
theorem dP_rowOf_18 : decode cP_rowOf 18 = .ok (.iaload, 1) := by decide +kernel
theorem dP_rowOf_19 : decode cP_rowOf 19 = .ok (.iload_n 1, 1) := by decide +kernel
theorem dP_rowOf_20 : decode cP_rowOf 20 = .ok (.if_icmp .ne 28, 3) := by decide +kernel
theorem dP_rowOf_23 : decode cP_rowOf 23 = .ok (.aload_n 0, 1) := by decide +kernel
theorem dP_rowOf_24 : decode cP_rowOf 24 = .ok (.getfield 15, 3) := by decide +kernel
theorem dP_rowOf_27 : decode cP_rowOf 27 = .ok (.iload 4, 2) := by decide +kernel
theorem dP_rowOf_29 : decode cP_rowOf 29 = .ok (.iaload, 1) := by decide +kernel
theorem dP_rowOf_30 : decode cP_rowOf 30 = .ok (.iload_n 2, 1) := by decide +kernel
theorem dP_rowOf_31 : decode cP_rowOf 31 = .ok (.if_icmp .ne 17, 3) := by decide +kernel
theorem dP_rowOf_34 : decode cP_rowOf 34 = .ok (.aload_n 0, 1) := by decide +kernel
theorem dP_rowOf_35 : decode cP_rowOf 35 = .ok (.getfield 18, 3) := by decide +kernel
theorem dP_rowOf_38 : decode cP_rowOf 38 = .ok (.iload 4, 2) := by decide +kernel
theorem dP_rowOf_40 : decode cP_rowOf 40 = .ok (.iaload, 1) := by decide +kernel
theorem dP_rowOf_41 : decode cP_rowOf 41 = .ok (.iload_n 3, 1) := by decide +kernel
theorem dP_rowOf_42 : decode cP_rowOf 42 = .ok (.if_icmp .ne 6, 3) := by decide +kernel
theorem dP_rowOf_45 : decode cP_rowOf 45 = .ok (.iload 4, 2) := by decide +kernel
theorem dP_rowOf_47 : decode cP_rowOf 47 = .ok (.ireturn, 1) := by decide +kernel
theorem dP_rowOf_48 : decode cP_rowOf 48 = .ok (.iinc 4 1, 3) := by decide +kernel
theorem dP_rowOf_51 : decode cP_rowOf 51 = .ok (.goto (-48), 3) := by decide +kernel
theorem dP_rowOf_54 : decode cP_rowOf 54 = .ok (.aload_n 0, 1) := by decide +kernel
theorem dP_rowOf_55 : decode cP_rowOf 55 = .ok (.getfield 21, 3) := by decide +kernel
theorem dP_rowOf_58 : decode cP_rowOf 58 = .ok (.bipush 30, 2) := by decide +kernel
theorem dP_rowOf_60 : decode cP_rowOf 60 = .ok (.if_icmp .lt 6, 3) := by decide +kernel
theorem dP_rowOf_63 : decode cP_rowOf 63 = .ok (.bipush (-3), 2) := by decide +kernel
theorem dP_rowOf_65 : decode cP_rowOf 65 = .ok (.ireturn, 1) := by decide +kernel
theorem dP_rowOf_66 : decode cP_rowOf 66 = .ok (.aload_n 0, 1) := by decide +kernel
theorem dP_rowOf_67 : decode cP_rowOf 67 = .ok (.getfield 11, 3) := by decide +kernel
theorem dP_rowOf_70 : decode cP_rowOf 70 = .ok (.aload_n 0, 1) := by decide +kernel
theorem dP_rowOf_71 : decode cP_rowOf 71 = .ok (.getfield 21, 3) := by decide +kernel
theorem dP_rowOf_74 : decode cP_rowOf 74 = .ok (.iload_n 1, 1) := by decide +kernel
theorem dP_rowOf_75 : decode cP_rowOf 75 = .ok (.iastore, 1) := by decide +kernel
theorem dP_rowOf_76 : decode cP_rowOf 76 = .ok (.aload_n 0, 1) := by decide +kernel
theorem dP_rowOf_77 : decode cP_rowOf 77 = .ok (.getfield 15, 3) := by decide +kernel
theorem dP_rowOf_80 : decode cP_rowOf 80 = .ok (.aload_n 0, 1) := by decide +kernel
theorem dP_rowOf_81 : decode cP_rowOf 81 = .ok (.getfield 21, 3) := by decide +kernel
theorem dP_rowOf_84 : decode cP_rowOf 84 = .ok (.iload_n 2, 1) := by decide +kernel
theorem dP_rowOf_85 : decode cP_rowOf 85 = .ok (.iastore, 1) := by decide +kernel
theorem dP_rowOf_86 : decode cP_rowOf 86 = .ok (.aload_n 0, 1) := by decide +kernel
theorem dP_rowOf_87 : decode cP_rowOf 87 = .ok (.getfield 18, 3) := by decide +kernel
theorem dP_rowOf_90 : decode cP_rowOf 90 = .ok (.aload_n 0, 1) := by decide +kernel
theorem dP_rowOf_91 : decode cP_rowOf 91 = .ok (.getfield 21, 3) := by decide +kernel
theorem dP_rowOf_94 : decode cP_rowOf 94 = .ok (.iload_n 3, 1) := by decide +kernel
theorem dP_rowOf_95 : decode cP_rowOf 95 = .ok (.iastore, 1) := by decide +kernel
theorem dP_rowOf_96 : decode cP_rowOf 96 = .ok (.aload_n 0, 1) := by decide +kernel
theorem dP_rowOf_97 : decode cP_rowOf 97 = .ok (.dup, 1) := by decide +kernel
theorem dP_rowOf_98 : decode cP_rowOf 98 = .ok (.getfield 21, 3) := by decide +kernel
theorem dP_rowOf_101 : decode cP_rowOf 101 = .ok (.iconst 1, 1) := by decide +kernel
theorem dP_rowOf_102 : decode cP_rowOf 102 = .ok (.iadd, 1) := by decide +kernel
theorem dP_rowOf_103 : decode cP_rowOf 103 = .ok (.putfield 21, 3) := by decide +kernel
theorem dP_rowOf_106 : decode cP_rowOf 106 = .ok (.aload_n 0, 1) := by decide +kernel
theorem dP_rowOf_107 : decode cP_rowOf 107 = .ok (.getfield 21, 3) := by decide +kernel
theorem dP_rowOf_110 : decode cP_rowOf 110 = .ok (.iconst 1, 1) := by decide +kernel
theorem dP_rowOf_111 : decode cP_rowOf 111 = .ok (.isub, 1) := by decide +kernel
theorem dP_rowOf_112 : decode cP_rowOf 112 = .ok (.ireturn, 1) := by decide +kernel
theorem dP_goesWith_0 : decode cP_goesWith 0 = .ok (.aload_n 0, 1) := by decide +kernel
theorem dP_goesWith_1 : decode cP_goesWith 1 = .ok (.getfield 11, 3) := by decide +kernel
theorem dP_goesWith_4 : decode cP_goesWith 4 = .ok (.iload_n 1, 1) := by decide +kernel
theorem dP_goesWith_5 : decode cP_goesWith 5 = .ok (.iaload, 1) := by decide +kernel
theorem dP_goesWith_6 : decode cP_goesWith 6 = .ok (.iload_n 2, 1) := by decide +kernel
theorem dP_goesWith_7 : decode cP_goesWith 7 = .ok (.invokestatic 25, 3) := by decide +kernel
theorem dP_goesWith_10 : decode cP_goesWith 10 = .ok (.ifCond .eq 34, 3) := by decide +kernel
theorem dP_goesWith_13 : decode cP_goesWith 13 = .ok (.aload_n 0, 1) := by decide +kernel
theorem dP_goesWith_14 : decode cP_goesWith 14 = .ok (.getfield 15, 3) := by decide +kernel
theorem dP_goesWith_17 : decode cP_goesWith 17 = .ok (.iload_n 1, 1) := by decide +kernel
theorem dP_goesWith_18 : decode cP_goesWith 18 = .ok (.iaload, 1) := by decide +kernel
theorem dP_goesWith_19 : decode cP_goesWith 19 = .ok (.iload_n 3, 1) := by decide +kernel
theorem dP_goesWith_20 : decode cP_goesWith 20 = .ok (.invokestatic 25, 3) := by decide +kernel
theorem dP_goesWith_23 : decode cP_goesWith 23 = .ok (.ifCond .eq 21, 3) := by decide +kernel
theorem dP_goesWith_26 : decode cP_goesWith 26 = .ok (.aload_n 0, 1) := by decide +kernel
theorem dP_goesWith_27 : decode cP_goesWith 27 = .ok (.getfield 18, 3) := by decide +kernel
theorem dP_goesWith_30 : decode cP_goesWith 30 = .ok (.iload_n 1, 1) := by decide +kernel
theorem dP_goesWith_31 : decode cP_goesWith 31 = .ok (.iaload, 1) := by decide +kernel
theorem dP_goesWith_32 : decode cP_goesWith 32 = .ok (.iload 4, 2) := by decide +kernel
theorem dP_goesWith_34 : decode cP_goesWith 34 = .ok (.invokestatic 25, 3) := by decide +kernel
theorem dP_goesWith_37 : decode cP_goesWith 37 = .ok (.ifCond .eq 7, 3) := by decide +kernel
theorem dP_goesWith_40 : decode cP_goesWith 40 = .ok (.iconst 1, 1) := by decide +kernel
theorem dP_goesWith_41 : decode cP_goesWith 41 = .ok (.goto 4, 3) := by decide +kernel
theorem dP_goesWith_44 : decode cP_goesWith 44 = .ok (.iconst 0, 1) := by decide +kernel
theorem dP_goesWith_45 : decode cP_goesWith 45 = .ok (.ireturn, 1) := by decide +kernel
theorem dP_allows_0 : decode cP_allows 0 = .ok (.iload_n 0, 1) := by decide +kernel
theorem dP_allows_1 : decode cP_allows 1 = .ok (.iconst (-1), 1) := by decide +kernel
theorem dP_allows_2 : decode cP_allows 2 = .ok (.if_icmp .eq 8, 3) := by decide +kernel
theorem dP_allows_5 : decode cP_allows 5 = .ok (.iload_n 0, 1) := by decide +kernel
theorem dP_allows_6 : decode cP_allows 6 = .ok (.iload_n 1, 1) := by decide +kernel
theorem dP_allows_7 : decode cP_allows 7 = .ok (.if_icmp .ne 7, 3) := by decide +kernel
theorem dP_allows_10 : decode cP_allows 10 = .ok (.iconst 1, 1) := by decide +kernel
theorem dP_allows_11 : decode cP_allows 11 = .ok (.goto 4, 3) := by decide +kernel
theorem dP_allows_14 : decode cP_allows 14 = .ok (.iconst 0, 1) := by decide +kernel
theorem dP_allows_15 : decode cP_allows 15 = .ok (.ireturn, 1) := by decide +kernel
theorem dG_init_0 : decode cG_init 0 = .ok (.aload_n 0, 1) := by decide +kernel
theorem dG_init_1 : decode cG_init 1 = .ok (.invokespecial 1, 3) := by decide +kernel
theorem dG_init_4 : decode cG_init 4 = .ok (.aload_n 0, 1) := by decide +kernel
theorem dG_init_5 : decode cG_init 5 = .ok (.bipush 16, 2) := by decide +kernel
theorem dG_init_7 : decode cG_init 7 = .ok (.newarray .int, 2) := by decide +kernel
theorem dG_init_9 : decode cG_init 9 = .ok (.putfield 9, 3) := by decide +kernel
theorem dG_init_12 : decode cG_init 12 = .ok (.return_, 1) := by decide +kernel
theorem dG_rank_0 : decode cG_rank 0 = .ok (.aload_n 0, 1) := by decide +kernel
theorem dG_rank_1 : decode cG_rank 1 = .ok (.getfield 9, 3) := by decide +kernel
theorem dG_rank_4 : decode cG_rank 4 = .ok (.iload_n 1, 1) := by decide +kernel
theorem dG_rank_5 : decode cG_rank 5 = .ok (.iaload, 1) := by decide +kernel
theorem dG_rank_6 : decode cG_rank 6 = .ok (.ireturn, 1) := by decide +kernel
theorem dG_tellAll_0 : decode cG_tellAll 0 = .ok (.aload_n 0, 1) := by decide +kernel
theorem dG_tellAll_1 : decode cG_tellAll 1 = .ok (.getfield 9, 3) := by decide +kernel
theorem dG_tellAll_4 : decode cG_tellAll 4 = .ok (.iconst 0, 1) := by decide +kernel
theorem dG_tellAll_5 : decode cG_tellAll 5 = .ok (.invokestatic 13, 3) := by decide +kernel
theorem dG_tellAll_8 : decode cG_tellAll 8 = .ok (.iconst 0, 1) := by decide +kernel
theorem dG_tellAll_9 : decode cG_tellAll 9 = .ok (.istore_n 2, 1) := by decide +kernel
theorem dG_tellAll_10 : decode cG_tellAll 10 = .ok (.iload_n 2, 1) := by decide +kernel
theorem dG_tellAll_11 : decode cG_tellAll 11 = .ok (.aload_n 1, 1) := by decide +kernel
theorem dG_tellAll_12 : decode cG_tellAll 12 = .ok (.arraylength, 1) := by decide +kernel
theorem dG_tellAll_13 : decode cG_tellAll 13 = .ok (.if_icmp .ge 23, 3) := by decide +kernel
theorem dG_tellAll_16 : decode cG_tellAll 16 = .ok (.aload_n 1, 1) := by decide +kernel
theorem dG_tellAll_17 : decode cG_tellAll 17 = .ok (.iload_n 2, 1) := by decide +kernel
theorem dG_tellAll_18 : decode cG_tellAll 18 = .ok (.iaload, 1) := by decide +kernel
theorem dG_tellAll_19 : decode cG_tellAll 19 = .ok (.ifCond .le 11, 3) := by decide +kernel
theorem dG_tellAll_22 : decode cG_tellAll 22 = .ok (.aload_n 0, 1) := by decide +kernel
theorem dG_tellAll_23 : decode cG_tellAll 23 = .ok (.iload_n 2, 1) := by decide +kernel
theorem dG_tellAll_24 : decode cG_tellAll 24 = .ok (.invokestatic 19, 3) := by decide +kernel
theorem dG_tellAll_27 : decode cG_tellAll 27 = .ok (.invokevirtual 25, 3) := by decide +kernel
theorem dG_tellAll_30 : decode cG_tellAll 30 = .ok (.iinc 2 1, 3) := by decide +kernel
theorem dG_tellAll_33 : decode cG_tellAll 33 = .ok (.goto (-23), 3) := by decide +kernel
theorem dG_tellAll_36 : decode cG_tellAll 36 = .ok (.return_, 1) := by decide +kernel
theorem dG_about_0 : decode cG_about 0 = .ok (.iconst 0, 1) := by decide +kernel
theorem dG_about_1 : decode cG_about 1 = .ok (.istore_n 1, 1) := by decide +kernel
theorem dG_about_2 : decode cG_about 2 = .ok (.lconst 0, 1) := by decide +kernel
theorem dG_about_3 : decode cG_about 3 = .ok (.lstore_n 2, 1) := by decide +kernel
theorem dG_about_4 : decode cG_about 4 = .ok (.iconst 0, 1) := by decide +kernel
theorem dG_about_5 : decode cG_about 5 = .ok (.istore 4, 2) := by decide +kernel
theorem dG_about_7 : decode cG_about 7 = .ok (.iload 4, 2) := by decide +kernel
theorem dG_about_9 : decode cG_about 9 = .ok (.bipush 16, 2) := by decide +kernel
theorem dG_about_11 : decode cG_about 11 = .ok (.if_icmp .ge 37, 3) := by decide +kernel
theorem dG_about_14 : decode cG_about 14 = .ok (.aload_n 0, 1) := by decide +kernel
theorem dG_about_15 : decode cG_about 15 = .ok (.getfield 9, 3) := by decide +kernel
theorem dG_about_18 : decode cG_about 18 = .ok (.iload 4, 2) := by decide +kernel
theorem dG_about_20 : decode cG_about 20 = .ok (.iaload, 1) := by decide +kernel
theorem dG_about_21 : decode cG_about 21 = .ok (.ifCond .ne 6, 3) := by decide +kernel
theorem dG_about_24 : decode cG_about 24 = .ok (.iinc 1 1, 3) := by decide +kernel
theorem dG_about_27 : decode cG_about 27 = .ok (.lload_n 2, 1) := by decide +kernel
theorem dG_about_28 : decode cG_about 28 = .ok (.lconst 1, 1) := by decide +kernel
theorem dG_about_29 : decode cG_about 29 = .ok (.bipush 30, 2) := by decide +kernel
theorem dG_about_31 : decode cG_about 31 = .ok (.aload_n 0, 1) := by decide +kernel
theorem dG_about_32 : decode cG_about 32 = .ok (.getfield 9, 3) := by decide +kernel
theorem dG_about_35 : decode cG_about 35 = .ok (.iload 4, 2) := by decide +kernel
theorem dG_about_37 : decode cG_about 37 = .ok (.iaload, 1) := by decide +kernel
theorem dG_about_38 : decode cG_about 38 = .ok (.isub, 1) := by decide +kernel
theorem dG_about_39 : decode cG_about 39 = .ok (.lshl, 1) := by decide +kernel
theorem dG_about_40 : decode cG_about 40 = .ok (.ladd, 1) := by decide +kernel
theorem dG_about_41 : decode cG_about 41 = .ok (.lstore_n 2, 1) := by decide +kernel
theorem dG_about_42 : decode cG_about 42 = .ok (.iinc 4 1, 3) := by decide +kernel
theorem dG_about_45 : decode cG_about 45 = .ok (.goto (-38), 3) := by decide +kernel
theorem dG_about_48 : decode cG_about 48 = .ok (.iload_n 1, 1) := by decide +kernel
theorem dG_about_49 : decode cG_about 49 = .ok (.ifCond .le 10, 3) := by decide +kernel
theorem dG_about_52 : decode cG_about 52 = .ok (.getstatic 29, 3) := by decide +kernel
theorem dG_about_55 : decode cG_about 55 = .ok (.iload_n 1, 1) := by decide +kernel
theorem dG_about_56 : decode cG_about 56 = .ok (.iaload, 1) := by decide +kernel
theorem dG_about_57 : decode cG_about 57 = .ok (.i2l, 1) := by decide +kernel
theorem dG_about_58 : decode cG_about 58 = .ok (.lreturn, 1) := by decide +kernel
theorem dG_about_59 : decode cG_about 59 = .ok (.ldc2_w 32, 3) := by decide +kernel
theorem dG_about_62 : decode cG_about 62 = .ok (.ldc2_w 34, 3) := by decide +kernel
theorem dG_about_65 : decode cG_about 65 = .ok (.lload_n 2, 1) := by decide +kernel
theorem dG_about_66 : decode cG_about 66 = .ok (.lmul, 1) := by decide +kernel
theorem dG_about_67 : decode cG_about 67 = .ok (.ldiv, 1) := by decide +kernel
theorem dG_about_68 : decode cG_about 68 = .ok (.lreturn, 1) := by decide +kernel
theorem dG_tell_0 : decode cG_tell 0 = .ok (.iload_n 1, 1) := by decide +kernel
theorem dG_tell_1 : decode cG_tell 1 = .ok (.bipush 15, 2) := by decide +kernel
theorem dG_tell_3 : decode cG_tell 3 = .ok (.iand, 1) := by decide +kernel
theorem dG_tell_4 : decode cG_tell 4 = .ok (.istore_n 2, 1) := by decide +kernel
theorem dG_tell_5 : decode cG_tell 5 = .ok (.aload_n 0, 1) := by decide +kernel
theorem dG_tell_6 : decode cG_tell 6 = .ok (.getfield 9, 3) := by decide +kernel
theorem dG_tell_9 : decode cG_tell 9 = .ok (.iload_n 2, 1) := by decide +kernel
theorem dG_tell_10 : decode cG_tell 10 = .ok (.aload_n 0, 1) := by decide +kernel
theorem dG_tell_11 : decode cG_tell 11 = .ok (.getfield 9, 3) := by decide +kernel
theorem dG_tell_14 : decode cG_tell 14 = .ok (.iload_n 2, 1) := by decide +kernel
theorem dG_tell_15 : decode cG_tell 15 = .ok (.iaload, 1) := by decide +kernel
theorem dG_tell_16 : decode cG_tell 16 = .ok (.iload_n 1, 1) := by decide +kernel
theorem dG_tell_17 : decode cG_tell 17 = .ok (.iconst 4, 1) := by decide +kernel
theorem dG_tell_18 : decode cG_tell 18 = .ok (.iushr, 1) := by decide +kernel
theorem dG_tell_19 : decode cG_tell 19 = .ok (.invokestatic 36, 3) := by decide +kernel
theorem dG_tell_22 : decode cG_tell 22 = .ok (.invokestatic 39, 3) := by decide +kernel
theorem dG_tell_25 : decode cG_tell 25 = .ok (.iastore, 1) := by decide +kernel
theorem dG_tell_26 : decode cG_tell 26 = .ok (.return_, 1) := by decide +kernel
theorem dG_rankOf_0 : decode cG_rankOf 0 = .ok (.iconst 0, 1) := by decide +kernel
theorem dG_rankOf_1 : decode cG_rankOf 1 = .ok (.istore_n 1, 1) := by decide +kernel
theorem dG_rankOf_2 : decode cG_rankOf 2 = .ok (.iload_n 1, 1) := by decide +kernel
theorem dG_rankOf_3 : decode cG_rankOf 3 = .ok (.bipush 28, 2) := by decide +kernel
theorem dG_rankOf_5 : decode cG_rankOf 5 = .ok (.if_icmp .ge 17, 3) := by decide +kernel
theorem dG_rankOf_8 : decode cG_rankOf 8 = .ok (.iload_n 0, 1) := by decide +kernel
theorem dG_rankOf_9 : decode cG_rankOf 9 = .ok (.iload_n 1, 1) := by decide +kernel
theorem dG_rankOf_10 : decode cG_rankOf 10 = .ok (.iushr, 1) := by decide +kernel
theorem dG_rankOf_11 : decode cG_rankOf 11 = .ok (.iconst 1, 1) := by decide +kernel
theorem dG_rankOf_12 : decode cG_rankOf 12 = .ok (.iand, 1) := by decide +kernel
theorem dG_rankOf_13 : decode cG_rankOf 13 = .ok (.ifCond .ne 9, 3) := by decide +kernel
theorem dG_rankOf_16 : decode cG_rankOf 16 = .ok (.iinc 1 1, 3) := by decide +kernel
theorem dG_rankOf_19 : decode cG_rankOf 19 = .ok (.goto (-17), 3) := by decide +kernel
theorem dG_rankOf_22 : decode cG_rankOf 22 = .ok (.iload_n 1, 1) := by decide +kernel
theorem dG_rankOf_23 : decode cG_rankOf 23 = .ok (.iconst 1, 1) := by decide +kernel
theorem dG_rankOf_24 : decode cG_rankOf 24 = .ok (.iadd, 1) := by decide +kernel
theorem dG_rankOf_25 : decode cG_rankOf 25 = .ok (.ireturn, 1) := by decide +kernel
theorem dT_init_0 : decode cT_init 0 = .ok (.aload_n 0, 1) := by decide +kernel
theorem dT_init_1 : decode cT_init 1 = .ok (.invokespecial 3, 3) := by decide +kernel
theorem dT_init_4 : decode cT_init 4 = .ok (.aload_n 0, 1) := by decide +kernel
theorem dT_init_5 : decode cT_init 5 = .ok (.sipush 400, 3) := by decide +kernel
theorem dT_init_8 : decode cT_init 8 = .ok (.newarray .int, 2) := by decide +kernel
theorem dT_init_10 : decode cT_init 10 = .ok (.putfield 11, 3) := by decide +kernel
theorem dT_init_13 : decode cT_init 13 = .ok (.aload_n 0, 1) := by decide +kernel
theorem dT_init_14 : decode cT_init 14 = .ok (.bipush 9, 2) := by decide +kernel
theorem dT_init_16 : decode cT_init 16 = .ok (.newarray .int, 2) := by decide +kernel
theorem dT_init_18 : decode cT_init 18 = .ok (.putfield 15, 3) := by decide +kernel
theorem dT_init_21 : decode cT_init 21 = .ok (.return_, 1) := by decide +kernel
theorem dT_start_0 : decode cT_start 0 = .ok (.aload_n 0, 1) := by decide +kernel
theorem dT_start_1 : decode cT_start 1 = .ok (.getfield 15, 3) := by decide +kernel
theorem dT_start_4 : decode cT_start 4 = .ok (.iload_n 1, 1) := by decide +kernel
theorem dT_start_5 : decode cT_start 5 = .ok (.iaload, 1) := by decide +kernel
theorem dT_start_6 : decode cT_start 6 = .ok (.ireturn, 1) := by decide +kernel
theorem dT_end_0 : decode cT_end 0 = .ok (.aload_n 0, 1) := by decide +kernel
theorem dT_end_1 : decode cT_end 1 = .ok (.getfield 15, 3) := by decide +kernel
theorem dT_end_4 : decode cT_end 4 = .ok (.iload_n 1, 1) := by decide +kernel
theorem dT_end_5 : decode cT_end 5 = .ok (.iconst 1, 1) := by decide +kernel
theorem dT_end_6 : decode cT_end 6 = .ok (.iadd, 1) := by decide +kernel
theorem dT_end_7 : decode cT_end 7 = .ok (.iaload, 1) := by decide +kernel
theorem dT_end_8 : decode cT_end 8 = .ok (.ireturn, 1) := by decide +kernel
theorem dT_sizeOf_0 : decode cT_sizeOf 0 = .ok (.aload_n 0, 1) := by decide +kernel
theorem dT_sizeOf_1 : decode cT_sizeOf 1 = .ok (.iload_n 1, 1) := by decide +kernel
theorem dT_sizeOf_2 : decode cT_sizeOf 2 = .ok (.invokevirtual 18, 3) := by decide +kernel
theorem dT_sizeOf_5 : decode cT_sizeOf 5 = .ok (.aload_n 0, 1) := by decide +kernel
theorem dT_sizeOf_6 : decode cT_sizeOf 6 = .ok (.iload_n 1, 1) := by decide +kernel
theorem dT_sizeOf_7 : decode cT_sizeOf 7 = .ok (.invokevirtual 22, 3) := by decide +kernel
theorem dT_sizeOf_10 : decode cT_sizeOf 10 = .ok (.isub, 1) := by decide +kernel
theorem dT_sizeOf_11 : decode cT_sizeOf 11 = .ok (.ireturn, 1) := by decide +kernel
theorem dT_size_0 : decode cT_size 0 = .ok (.aload_n 0, 1) := by decide +kernel
theorem dT_size_1 : decode cT_size 1 = .ok (.getfield 15, 3) := by decide +kernel
theorem dT_size_4 : decode cT_size 4 = .ok (.bipush 8, 2) := by decide +kernel
theorem dT_size_6 : decode cT_size 6 = .ok (.iaload, 1) := by decide +kernel
theorem dT_size_7 : decode cT_size 7 = .ok (.ireturn, 1) := by decide +kernel
theorem dT_pairAt_0 : decode cT_pairAt 0 = .ok (.aload_n 0, 1) := by decide +kernel
theorem dT_pairAt_1 : decode cT_pairAt 1 = .ok (.getfield 11, 3) := by decide +kernel
theorem dT_pairAt_4 : decode cT_pairAt 4 = .ok (.iload_n 1, 1) := by decide +kernel
theorem dT_pairAt_5 : decode cT_pairAt 5 = .ok (.iaload, 1) := by decide +kernel
theorem dT_pairAt_6 : decode cT_pairAt 6 = .ok (.ireturn, 1) := by decide +kernel
theorem dT_subjectAt_0 : decode cT_subjectAt 0 = .ok (.aload_n 0, 1) := by decide +kernel
theorem dT_subjectAt_1 : decode cT_subjectAt 1 = .ok (.getfield 11, 3) := by decide +kernel
theorem dT_subjectAt_4 : decode cT_subjectAt 4 = .ok (.iload_n 1, 1) := by decide +kernel
theorem dT_subjectAt_5 : decode cT_subjectAt 5 = .ok (.iaload, 1) := by decide +kernel
theorem dT_subjectAt_6 : decode cT_subjectAt 6 = .ok (.bipush 8, 2) := by decide +kernel
theorem dT_subjectAt_8 : decode cT_subjectAt 8 = .ok (.ishr, 1) := by decide +kernel
theorem dT_subjectAt_9 : decode cT_subjectAt 9 = .ok (.sipush 255, 3) := by decide +kernel
theorem dT_subjectAt_12 : decode cT_subjectAt 12 = .ok (.iand, 1) := by decide +kernel
theorem dT_subjectAt_13 : decode cT_subjectAt 13 = .ok (.ireturn, 1) := by decide +kernel
theorem dT_objectAt_0 : decode cT_objectAt 0 = .ok (.aload_n 0, 1) := by decide +kernel
theorem dT_objectAt_1 : decode cT_objectAt 1 = .ok (.getfield 11, 3) := by decide +kernel
theorem dT_objectAt_4 : decode cT_objectAt 4 = .ok (.iload_n 1, 1) := by decide +kernel
theorem dT_objectAt_5 : decode cT_objectAt 5 = .ok (.iaload, 1) := by decide +kernel
theorem dT_objectAt_6 : decode cT_objectAt 6 = .ok (.sipush 255, 3) := by decide +kernel
theorem dT_objectAt_9 : decode cT_objectAt 9 = .ok (.iand, 1) := by decide +kernel
theorem dT_objectAt_10 : decode cT_objectAt 10 = .ok (.ireturn, 1) := by decide +kernel
theorem dT_isSampled_0 : decode cT_isSampled 0 = .ok (.aload_n 0, 1) := by decide +kernel
theorem dT_isSampled_1 : decode cT_isSampled 1 = .ok (.getfield 11, 3) := by decide +kernel
theorem dT_isSampled_4 : decode cT_isSampled 4 = .ok (.iload_n 1, 1) := by decide +kernel
theorem dT_isSampled_5 : decode cT_isSampled 5 = .ok (.iaload, 1) := by decide +kernel
theorem dT_isSampled_6 : decode cT_isSampled 6 = .ok (.invokestatic 25, 3) := by decide +kernel
theorem dT_isSampled_9 : decode cT_isSampled 9 = .ok (.iconst 3, 1) := by decide +kernel
theorem dT_isSampled_10 : decode cT_isSampled 10 = .ok (.iand, 1) := by decide +kernel
theorem dT_isSampled_11 : decode cT_isSampled 11 = .ok (.ifCond .ne 7, 3) := by decide +kernel
theorem dT_isSampled_14 : decode cT_isSampled 14 = .ok (.iconst 1, 1) := by decide +kernel
theorem dT_isSampled_15 : decode cT_isSampled 15 = .ok (.goto 4, 3) := by decide +kernel
theorem dT_isSampled_18 : decode cT_isSampled 18 = .ok (.iconst 0, 1) := by decide +kernel
theorem dT_isSampled_19 : decode cT_isSampled 19 = .ok (.ireturn, 1) := by decide +kernel
theorem dT_put_0 : decode cT_put 0 = .ok (.aload_n 0, 1) := by decide +kernel
theorem dT_put_1 : decode cT_put 1 = .ok (.iload_n 1, 1) := by decide +kernel
theorem dT_put_2 : decode cT_put 2 = .ok (.iload_n 2, 1) := by decide +kernel
theorem dT_put_3 : decode cT_put 3 = .ok (.invokevirtual 28, 3) := by decide +kernel
theorem dT_put_6 : decode cT_put 6 = .ok (.istore_n 3, 1) := by decide +kernel
theorem dT_put_7 : decode cT_put 7 = .ok (.aload_n 0, 1) := by decide +kernel
theorem dT_put_8 : decode cT_put 8 = .ok (.iload_n 3, 1) := by decide +kernel
theorem dT_put_9 : decode cT_put 9 = .ok (.iload_n 1, 1) := by decide +kernel
theorem dT_put_10 : decode cT_put 10 = .ok (.iload_n 2, 1) := by decide +kernel
theorem dT_put_11 : decode cT_put 11 = .ok (.invokevirtual 32, 3) := by decide +kernel
theorem dT_put_14 : decode cT_put 14 = .ok (.ifCond .eq 5, 3) := by decide +kernel
theorem dT_put_17 : decode cT_put 17 = .ok (.iconst 0, 1) := by decide +kernel
theorem dT_put_18 : decode cT_put 18 = .ok (.ireturn, 1) := by decide +kernel
theorem dT_put_19 : decode cT_put 19 = .ok (.aload_n 0, 1) := by decide +kernel
theorem dT_put_20 : decode cT_put 20 = .ok (.invokevirtual 36, 3) := by decide +kernel
theorem dT_put_23 : decode cT_put 23 = .ok (.sipush 400, 3) := by decide +kernel
theorem dT_put_26 : decode cT_put 26 = .ok (.if_icmp .lt 6, 3) := by decide +kernel
theorem dT_put_29 : decode cT_put 29 = .ok (.bipush (-3), 2) := by decide +kernel
theorem dT_put_31 : decode cT_put 31 = .ok (.ireturn, 1) := by decide +kernel
theorem dT_put_32 : decode cT_put 32 = .ok (.aload_n 0, 1) := by decide +kernel
theorem dT_put_33 : decode cT_put 33 = .ok (.getfield 11, 3) := by decide +kernel
theorem dT_put_36 : decode cT_put 36 = .ok (.iload_n 3, 1) := by decide +kernel
theorem dT_put_37 : decode cT_put 37 = .ok (.aload_n 0, 1) := by decide +kernel
theorem dT_put_38 : decode cT_put 38 = .ok (.getfield 11, 3) := by decide +kernel
theorem dT_put_41 : decode cT_put 41 = .ok (.iload_n 3, 1) := by decide +kernel
theorem dT_put_42 : decode cT_put 42 = .ok (.iconst 1, 1) := by decide +kernel
theorem dT_put_43 : decode cT_put 43 = .ok (.iadd, 1) := by decide +kernel
theorem dT_put_44 : decode cT_put 44 = .ok (.aload_n 0, 1) := by decide +kernel
theorem dT_put_45 : decode cT_put 45 = .ok (.invokevirtual 36, 3) := by decide +kernel
theorem dT_put_48 : decode cT_put 48 = .ok (.iload_n 3, 1) := by decide +kernel
theorem dT_put_49 : decode cT_put 49 = .ok (.isub, 1) := by decide +kernel
theorem dT_put_50 : decode cT_put 50 = .ok (.invokestatic 40, 3) := by decide +kernel
theorem dT_put_53 : decode cT_put 53 = .ok (.aload_n 0, 1) := by decide +kernel
theorem dT_put_54 : decode cT_put 54 = .ok (.getfield 11, 3) := by decide +kernel
theorem dT_put_57 : decode cT_put 57 = .ok (.iload_n 3, 1) := by decide +kernel
theorem dT_put_58 : decode cT_put 58 = .ok (.iload_n 2, 1) := by decide +kernel
theorem dT_put_59 : decode cT_put 59 = .ok (.iastore, 1) := by decide +kernel
theorem dT_put_60 : decode cT_put 60 = .ok (.aload_n 0, 1) := by decide +kernel
theorem dT_put_61 : decode cT_put 61 = .ok (.iload_n 1, 1) := by decide +kernel
theorem dT_put_62 : decode cT_put 62 = .ok (.iconst 1, 1) := by decide +kernel
theorem dT_put_63 : decode cT_put 63 = .ok (.invokevirtual 46, 3) := by decide +kernel
theorem dT_put_66 : decode cT_put 66 = .ok (.iconst 1, 1) := by decide +kernel
theorem dT_put_67 : decode cT_put 67 = .ok (.ireturn, 1) := by decide +kernel
theorem dT_remove_0 : decode cT_remove 0 = .ok (.aload_n 0, 1) := by decide +kernel
theorem dT_remove_1 : decode cT_remove 1 = .ok (.iload_n 1, 1) := by decide +kernel
theorem dT_remove_2 : decode cT_remove 2 = .ok (.iload_n 2, 1) := by decide +kernel
theorem dT_remove_3 : decode cT_remove 3 = .ok (.invokevirtual 28, 3) := by decide +kernel
theorem dT_remove_6 : decode cT_remove 6 = .ok (.istore_n 3, 1) := by decide +kernel
theorem dT_remove_7 : decode cT_remove 7 = .ok (.aload_n 0, 1) := by decide +kernel
theorem dT_remove_8 : decode cT_remove 8 = .ok (.iload_n 3, 1) := by decide +kernel
theorem dT_remove_9 : decode cT_remove 9 = .ok (.iload_n 1, 1) := by decide +kernel
theorem dT_remove_10 : decode cT_remove 10 = .ok (.iload_n 2, 1) := by decide +kernel
theorem dT_remove_11 : decode cT_remove 11 = .ok (.invokevirtual 32, 3) := by decide +kernel
theorem dT_remove_14 : decode cT_remove 14 = .ok (.ifCond .ne 5, 3) := by decide +kernel
theorem dT_remove_17 : decode cT_remove 17 = .ok (.iconst 0, 1) := by decide +kernel
theorem dT_remove_18 : decode cT_remove 18 = .ok (.ireturn, 1) := by decide +kernel
theorem dT_remove_19 : decode cT_remove 19 = .ok (.aload_n 0, 1) := by decide +kernel
theorem dT_remove_20 : decode cT_remove 20 = .ok (.getfield 11, 3) := by decide +kernel
theorem dT_remove_23 : decode cT_remove 23 = .ok (.iload_n 3, 1) := by decide +kernel
theorem dT_remove_24 : decode cT_remove 24 = .ok (.iconst 1, 1) := by decide +kernel
theorem dT_remove_25 : decode cT_remove 25 = .ok (.iadd, 1) := by decide +kernel
theorem dT_remove_26 : decode cT_remove 26 = .ok (.aload_n 0, 1) := by decide +kernel
theorem dT_remove_27 : decode cT_remove 27 = .ok (.getfield 11, 3) := by decide +kernel
theorem dT_remove_30 : decode cT_remove 30 = .ok (.iload_n 3, 1) := by decide +kernel
theorem dT_remove_31 : decode cT_remove 31 = .ok (.aload_n 0, 1) := by decide +kernel
theorem dT_remove_32 : decode cT_remove 32 = .ok (.invokevirtual 36, 3) := by decide +kernel
theorem dT_remove_35 : decode cT_remove 35 = .ok (.iload_n 3, 1) := by decide +kernel
theorem dT_remove_36 : decode cT_remove 36 = .ok (.isub, 1) := by decide +kernel
theorem dT_remove_37 : decode cT_remove 37 = .ok (.iconst 1, 1) := by decide +kernel
theorem dT_remove_38 : decode cT_remove 38 = .ok (.isub, 1) := by decide +kernel
theorem dT_remove_39 : decode cT_remove 39 = .ok (.invokestatic 40, 3) := by decide +kernel
theorem dT_remove_42 : decode cT_remove 42 = .ok (.aload_n 0, 1) := by decide +kernel
theorem dT_remove_43 : decode cT_remove 43 = .ok (.iload_n 1, 1) := by decide +kernel
theorem dT_remove_44 : decode cT_remove 44 = .ok (.iconst (-1), 1) := by decide +kernel
theorem dT_remove_45 : decode cT_remove 45 = .ok (.invokevirtual 46, 3) := by decide +kernel
theorem dT_remove_48 : decode cT_remove 48 = .ok (.iconst 1, 1) := by decide +kernel
theorem dT_remove_49 : decode cT_remove 49 = .ok (.ireturn, 1) := by decide +kernel
theorem dT_placeOf_0 : decode cT_placeOf 0 = .ok (.aload_n 0, 1) := by decide +kernel
theorem dT_placeOf_1 : decode cT_placeOf 1 = .ok (.iload_n 1, 1) := by decide +kernel
theorem dT_placeOf_2 : decode cT_placeOf 2 = .ok (.invokevirtual 18, 3) := by decide +kernel
theorem dT_placeOf_5 : decode cT_placeOf 5 = .ok (.istore_n 3, 1) := by decide +kernel
theorem dT_placeOf_6 : decode cT_placeOf 6 = .ok (.aload_n 0, 1) := by decide +kernel
theorem dT_placeOf_7 : decode cT_placeOf 7 = .ok (.iload_n 1, 1) := by decide +kernel
theorem dT_placeOf_8 : decode cT_placeOf 8 = .ok (.invokevirtual 22, 3) := by decide +kernel
theorem dT_placeOf_11 : decode cT_placeOf 11 = .ok (.istore 4, 2) := by decide +kernel
theorem dT_placeOf_13 : decode cT_placeOf 13 = .ok (.iload 4, 2) := by decide +kernel
theorem dT_placeOf_15 : decode cT_placeOf 15 = .ok (.iload_n 3, 1) := by decide +kernel
theorem dT_placeOf_16 : decode cT_placeOf 16 = .ok (.if_icmp .ge 23, 3) := by decide +kernel
theorem dT_placeOf_19 : decode cT_placeOf 19 = .ok (.aload_n 0, 1) := by decide +kernel
theorem dT_placeOf_20 : decode cT_placeOf 20 = .ok (.getfield 11, 3) := by decide +kernel
theorem dT_placeOf_23 : decode cT_placeOf 23 = .ok (.iload 4, 2) := by decide +kernel
theorem dT_placeOf_25 : decode cT_placeOf 25 = .ok (.iaload, 1) := by decide +kernel
theorem dT_placeOf_26 : decode cT_placeOf 26 = .ok (.iload_n 2, 1) := by decide +kernel
theorem dT_placeOf_27 : decode cT_placeOf 27 = .ok (.if_icmp .lt 6, 3) := by decide +kernel
theorem dT_placeOf_30 : decode cT_placeOf 30 = .ok (.iload 4, 2) := by decide +kernel
theorem dT_placeOf_32 : decode cT_placeOf 32 = .ok (.ireturn, 1) := by decide +kernel
theorem dT_placeOf_33 : decode cT_placeOf 33 = .ok (.iinc 4 1, 3) := by decide +kernel
theorem dT_placeOf_36 : decode cT_placeOf 36 = .ok (.goto (-23), 3) := by decide +kernel
theorem dT_placeOf_39 : decode cT_placeOf 39 = .ok (.iload_n 3, 1) := by decide +kernel
theorem dT_placeOf_40 : decode cT_placeOf 40 = .ok (.ireturn, 1) := by decide +kernel
theorem dT_isAt_0 : decode cT_isAt 0 = .ok (.iload_n 1, 1) := by decide +kernel
theorem dT_isAt_1 : decode cT_isAt 1 = .ok (.aload_n 0, 1) := by decide +kernel
theorem dT_isAt_2 : decode cT_isAt 2 = .ok (.iload_n 2, 1) := by decide +kernel
theorem dT_isAt_3 : decode cT_isAt 3 = .ok (.invokevirtual 18, 3) := by decide +kernel
theorem dT_isAt_6 : decode cT_isAt 6 = .ok (.if_icmp .ge 17, 3) := by decide +kernel
theorem dT_isAt_9 : decode cT_isAt 9 = .ok (.aload_n 0, 1) := by decide +kernel
theorem dT_isAt_10 : decode cT_isAt 10 = .ok (.getfield 11, 3) := by decide +kernel
theorem dT_isAt_13 : decode cT_isAt 13 = .ok (.iload_n 1, 1) := by decide +kernel
theorem dT_isAt_14 : decode cT_isAt 14 = .ok (.iaload, 1) := by decide +kernel
theorem dT_isAt_15 : decode cT_isAt 15 = .ok (.iload_n 3, 1) := by decide +kernel
theorem dT_isAt_16 : decode cT_isAt 16 = .ok (.if_icmp .ne 7, 3) := by decide +kernel
theorem dT_isAt_19 : decode cT_isAt 19 = .ok (.iconst 1, 1) := by decide +kernel
theorem dT_isAt_20 : decode cT_isAt 20 = .ok (.goto 4, 3) := by decide +kernel
theorem dT_isAt_23 : decode cT_isAt 23 = .ok (.iconst 0, 1) := by decide +kernel
theorem dT_isAt_24 : decode cT_isAt 24 = .ok (.ireturn, 1) := by decide +kernel
theorem dT_moveStartsAfter_0 : decode cT_moveStartsAfter 0 = .ok (.iload_n 1, 1) := by decide +kernel
theorem dT_moveStartsAfter_1 : decode cT_moveStartsAfter 1 = .ok (.iconst 1, 1) := by decide +kernel
theorem dT_moveStartsAfter_2 : decode cT_moveStartsAfter 2 = .ok (.iadd, 1) := by decide +kernel
theorem dT_moveStartsAfter_3 : decode cT_moveStartsAfter 3 = .ok (.istore_n 3, 1) := by decide +kernel
theorem dT_moveStartsAfter_4 : decode cT_moveStartsAfter 4 = .ok (.iload_n 3, 1) := by decide +kernel
theorem dT_moveStartsAfter_5 : decode cT_moveStartsAfter 5 = .ok (.bipush 8, 2) := by decide +kernel
theorem dT_moveStartsAfter_7 : decode cT_moveStartsAfter 7 = .ok (.if_icmp .gt 19, 3) := by decide +kernel
theorem dT_moveStartsAfter_10 : decode cT_moveStartsAfter 10 = .ok (.aload_n 0, 1) := by decide +kernel
theorem dT_moveStartsAfter_11 : decode cT_moveStartsAfter 11 = .ok (.getfield 15, 3) := by decide +kernel
theorem dT_moveStartsAfter_14 : decode cT_moveStartsAfter 14 = .ok (.iload_n 3, 1) := by decide +kernel
theorem dT_moveStartsAfter_15 : decode cT_moveStartsAfter 15 = .ok (.dup2, 1) := by decide +kernel
theorem dT_moveStartsAfter_16 : decode cT_moveStartsAfter 16 = .ok (.iaload, 1) := by decide +kernel
theorem dT_moveStartsAfter_17 : decode cT_moveStartsAfter 17 = .ok (.iload_n 2, 1) := by decide +kernel
theorem dT_moveStartsAfter_18 : decode cT_moveStartsAfter 18 = .ok (.iadd, 1) := by decide +kernel
theorem dT_moveStartsAfter_19 : decode cT_moveStartsAfter 19 = .ok (.iastore, 1) := by decide +kernel
theorem dT_moveStartsAfter_20 : decode cT_moveStartsAfter 20 = .ok (.iinc 3 1, 3) := by decide +kernel
theorem dT_moveStartsAfter_23 : decode cT_moveStartsAfter 23 = .ok (.goto (-19), 3) := by decide +kernel
theorem dT_moveStartsAfter_26 : decode cT_moveStartsAfter 26 = .ok (.return_, 1) := by decide +kernel
theorem dV_init_0 : decode cV_init 0 = .ok (.aload_n 0, 1) := by decide +kernel
theorem dV_init_1 : decode cV_init 1 = .ok (.invokespecial 3, 3) := by decide +kernel
theorem dV_init_4 : decode cV_init 4 = .ok (.aload_n 0, 1) := by decide +kernel
theorem dV_init_5 : decode cV_init 5 = .ok (.sipush 320, 3) := by decide +kernel
theorem dV_init_8 : decode cV_init 8 = .ok (.newarray .int, 2) := by decide +kernel
theorem dV_init_10 : decode cV_init 10 = .ok (.putfield 11, 3) := by decide +kernel
theorem dV_init_13 : decode cV_init 13 = .ok (.aload_n 0, 1) := by decide +kernel
theorem dV_init_14 : decode cV_init 14 = .ok (.iconst 0, 1) := by decide +kernel
theorem dV_init_15 : decode cV_init 15 = .ok (.putfield 15, 3) := by decide +kernel
theorem dV_init_18 : decode cV_init 18 = .ok (.aload_n 0, 1) := by decide +kernel
theorem dV_init_19 : decode cV_init 19 = .ok (.iconst 0, 1) := by decide +kernel
theorem dV_init_20 : decode cV_init 20 = .ok (.putfield 19, 3) := by decide +kernel
theorem dV_init_23 : decode cV_init 23 = .ok (.return_, 1) := by decide +kernel
theorem dV_ended_0 : decode cV_ended 0 = .ok (.aload_n 0, 1) := by decide +kernel
theorem dV_ended_1 : decode cV_ended 1 = .ok (.getfield 19, 3) := by decide +kernel
theorem dV_ended_4 : decode cV_ended 4 = .ok (.ireturn, 1) := by decide +kernel
theorem dV_kept_0 : decode cV_kept 0 = .ok (.aload_n 0, 1) := by decide +kernel
theorem dV_kept_1 : decode cV_kept 1 = .ok (.getfield 19, 3) := by decide +kernel
theorem dV_kept_4 : decode cV_kept 4 = .ok (.aload_n 0, 1) := by decide +kernel
theorem dV_kept_5 : decode cV_kept 5 = .ok (.getfield 15, 3) := by decide +kernel
theorem dV_kept_8 : decode cV_kept 8 = .ok (.isub, 1) := by decide +kernel
theorem dV_kept_9 : decode cV_kept 9 = .ok (.ireturn, 1) := by decide +kernel
theorem dV_finish_0 : decode cV_finish 0 = .ok (.aload_n 0, 1) := by decide +kernel
theorem dV_finish_1 : decode cV_finish 1 = .ok (.invokevirtual 22, 3) := by decide +kernel
theorem dV_finish_4 : decode cV_finish 4 = .ok (.bipush 40, 2) := by decide +kernel
theorem dV_finish_6 : decode cV_finish 6 = .ok (.if_icmp .ge 12, 3) := by decide +kernel
theorem dV_finish_9 : decode cV_finish 9 = .ok (.aload_n 0, 1) := by decide +kernel
theorem dV_finish_10 : decode cV_finish 10 = .ok (.getfield 19, 3) := by decide +kernel
theorem dV_finish_13 : decode cV_finish 13 = .ok (.ldc 28, 2) := by decide +kernel
theorem dV_finish_15 : decode cV_finish 15 = .ok (.if_icmp .ne 6, 3) := by decide +kernel
theorem dV_finish_18 : decode cV_finish 18 = .ok (.bipush (-3), 2) := by decide +kernel
theorem dV_finish_20 : decode cV_finish 20 = .ok (.ireturn, 1) := by decide +kernel
theorem dV_finish_21 : decode cV_finish 21 = .ok (.iconst 0, 1) := by decide +kernel
theorem dV_finish_22 : decode cV_finish 22 = .ok (.istore_n 2, 1) := by decide +kernel
theorem dV_finish_23 : decode cV_finish 23 = .ok (.iload_n 2, 1) := by decide +kernel
theorem dV_finish_24 : decode cV_finish 24 = .ok (.bipush 8, 2) := by decide +kernel
theorem dV_finish_26 : decode cV_finish 26 = .ok (.if_icmp .ge 27, 3) := by decide +kernel
theorem dV_finish_29 : decode cV_finish 29 = .ok (.aload_n 0, 1) := by decide +kernel
theorem dV_finish_30 : decode cV_finish 30 = .ok (.getfield 11, 3) := by decide +kernel
theorem dV_finish_33 : decode cV_finish 33 = .ok (.iload_n 2, 1) := by decide +kernel
theorem dV_finish_34 : decode cV_finish 34 = .ok (.aload_n 0, 1) := by decide +kernel
theorem dV_finish_35 : decode cV_finish 35 = .ok (.getfield 19, 3) := by decide +kernel
theorem dV_finish_38 : decode cV_finish 38 = .ok (.invokestatic 29, 3) := by decide +kernel
theorem dV_finish_41 : decode cV_finish 41 = .ok (.aload_n 1, 1) := by decide +kernel
theorem dV_finish_42 : decode cV_finish 42 = .ok (.iload_n 2, 1) := by decide +kernel
theorem dV_finish_43 : decode cV_finish 43 = .ok (.invokevirtual 33, 3) := by decide +kernel
theorem dV_finish_46 : decode cV_finish 46 = .ok (.iastore, 1) := by decide +kernel
theorem dV_finish_47 : decode cV_finish 47 = .ok (.iinc 2 1, 3) := by decide +kernel
theorem dV_finish_50 : decode cV_finish 50 = .ok (.goto (-27), 3) := by decide +kernel
theorem dV_finish_53 : decode cV_finish 53 = .ok (.aload_n 0, 1) := by decide +kernel
theorem dV_finish_54 : decode cV_finish 54 = .ok (.dup, 1) := by decide +kernel
theorem dV_finish_55 : decode cV_finish 55 = .ok (.getfield 19, 3) := by decide +kernel
theorem dV_finish_58 : decode cV_finish 58 = .ok (.iconst 1, 1) := by decide +kernel
theorem dV_finish_59 : decode cV_finish 59 = .ok (.iadd, 1) := by decide +kernel
theorem dV_finish_60 : decode cV_finish 60 = .ok (.putfield 19, 3) := by decide +kernel
theorem dV_finish_63 : decode cV_finish 63 = .ok (.aload_n 0, 1) := by decide +kernel
theorem dV_finish_64 : decode cV_finish 64 = .ok (.getfield 19, 3) := by decide +kernel
theorem dV_finish_67 : decode cV_finish 67 = .ok (.iconst 1, 1) := by decide +kernel
theorem dV_finish_68 : decode cV_finish 68 = .ok (.isub, 1) := by decide +kernel
theorem dV_finish_69 : decode cV_finish 69 = .ok (.ireturn, 1) := by decide +kernel
theorem dV_sizeAt_0 : decode cV_sizeAt 0 = .ok (.aload_n 0, 1) := by decide +kernel
theorem dV_sizeAt_1 : decode cV_sizeAt 1 = .ok (.iload_n 2, 1) := by decide +kernel
theorem dV_sizeAt_2 : decode cV_sizeAt 2 = .ok (.invokevirtual 39, 3) := by decide +kernel
theorem dV_sizeAt_5 : decode cV_sizeAt 5 = .ok (.ifCond .ne 5, 3) := by decide +kernel
theorem dV_sizeAt_8 : decode cV_sizeAt 8 = .ok (.iconst (-1), 1) := by decide +kernel
theorem dV_sizeAt_9 : decode cV_sizeAt 9 = .ok (.ireturn, 1) := by decide +kernel
theorem dV_sizeAt_10 : decode cV_sizeAt 10 = .ok (.iload_n 2, 1) := by decide +kernel
theorem dV_sizeAt_11 : decode cV_sizeAt 11 = .ok (.aload_n 0, 1) := by decide +kernel
theorem dV_sizeAt_12 : decode cV_sizeAt 12 = .ok (.getfield 15, 3) := by decide +kernel
theorem dV_sizeAt_15 : decode cV_sizeAt 15 = .ok (.if_icmp .ge 8, 3) := by decide +kernel
theorem dV_sizeAt_18 : decode cV_sizeAt 18 = .ok (.bipush (-2), 2) := by decide +kernel
theorem dV_sizeAt_20 : decode cV_sizeAt 20 = .ok (.goto 13, 3) := by decide +kernel
theorem dV_sizeAt_23 : decode cV_sizeAt 23 = .ok (.aload_n 0, 1) := by decide +kernel
theorem dV_sizeAt_24 : decode cV_sizeAt 24 = .ok (.getfield 11, 3) := by decide +kernel
theorem dV_sizeAt_27 : decode cV_sizeAt 27 = .ok (.iload_n 1, 1) := by decide +kernel
theorem dV_sizeAt_28 : decode cV_sizeAt 28 = .ok (.iload_n 2, 1) := by decide +kernel
theorem dV_sizeAt_29 : decode cV_sizeAt 29 = .ok (.invokestatic 29, 3) := by decide +kernel
theorem dV_sizeAt_32 : decode cV_sizeAt 32 = .ok (.iaload, 1) := by decide +kernel
theorem dV_sizeAt_33 : decode cV_sizeAt 33 = .ok (.ireturn, 1) := by decide +kernel
theorem dV_forgetBelow_0 : decode cV_forgetBelow 0 = .ok (.aload_n 0, 1) := by decide +kernel
theorem dV_forgetBelow_1 : decode cV_forgetBelow 1 = .ok (.iload_n 1, 1) := by decide +kernel
theorem dV_forgetBelow_2 : decode cV_forgetBelow 2 = .ok (.invokevirtual 39, 3) := by decide +kernel
theorem dV_forgetBelow_5 : decode cV_forgetBelow 5 = .ok (.ifCond .ne 5, 3) := by decide +kernel
theorem dV_forgetBelow_8 : decode cV_forgetBelow 8 = .ok (.iconst (-1), 1) := by decide +kernel
theorem dV_forgetBelow_9 : decode cV_forgetBelow 9 = .ok (.ireturn, 1) := by decide +kernel
theorem dV_forgetBelow_10 : decode cV_forgetBelow 10 = .ok (.iconst 0, 1) := by decide +kernel
theorem dV_forgetBelow_11 : decode cV_forgetBelow 11 = .ok (.iload_n 1, 1) := by decide +kernel
theorem dV_forgetBelow_12 : decode cV_forgetBelow 12 = .ok (.aload_n 0, 1) := by decide +kernel
theorem dV_forgetBelow_13 : decode cV_forgetBelow 13 = .ok (.getfield 15, 3) := by decide +kernel
theorem dV_forgetBelow_16 : decode cV_forgetBelow 16 = .ok (.isub, 1) := by decide +kernel
theorem dV_forgetBelow_17 : decode cV_forgetBelow 17 = .ok (.invokestatic 43, 3) := by decide +kernel
theorem dV_forgetBelow_20 : decode cV_forgetBelow 20 = .ok (.istore_n 2, 1) := by decide +kernel
theorem dV_forgetBelow_21 : decode cV_forgetBelow 21 = .ok (.aload_n 0, 1) := by decide +kernel
theorem dV_forgetBelow_22 : decode cV_forgetBelow 22 = .ok (.dup, 1) := by decide +kernel
theorem dV_forgetBelow_23 : decode cV_forgetBelow 23 = .ok (.getfield 15, 3) := by decide +kernel
theorem dV_forgetBelow_26 : decode cV_forgetBelow 26 = .ok (.iload_n 2, 1) := by decide +kernel
theorem dV_forgetBelow_27 : decode cV_forgetBelow 27 = .ok (.iadd, 1) := by decide +kernel
theorem dV_forgetBelow_28 : decode cV_forgetBelow 28 = .ok (.putfield 15, 3) := by decide +kernel
theorem dV_forgetBelow_31 : decode cV_forgetBelow 31 = .ok (.iload_n 2, 1) := by decide +kernel
theorem dV_forgetBelow_32 : decode cV_forgetBelow 32 = .ok (.ireturn, 1) := by decide +kernel
theorem dV_hasEnded_0 : decode cV_hasEnded 0 = .ok (.iload_n 1, 1) := by decide +kernel
theorem dV_hasEnded_1 : decode cV_hasEnded 1 = .ok (.ifCond .lt 15, 3) := by decide +kernel
theorem dV_hasEnded_4 : decode cV_hasEnded 4 = .ok (.iload_n 1, 1) := by decide +kernel
theorem dV_hasEnded_5 : decode cV_hasEnded 5 = .ok (.aload_n 0, 1) := by decide +kernel
theorem dV_hasEnded_6 : decode cV_hasEnded 6 = .ok (.getfield 19, 3) := by decide +kernel
theorem dV_hasEnded_9 : decode cV_hasEnded 9 = .ok (.if_icmp .ge 7, 3) := by decide +kernel
theorem dV_hasEnded_12 : decode cV_hasEnded 12 = .ok (.iconst 1, 1) := by decide +kernel
theorem dV_hasEnded_13 : decode cV_hasEnded 13 = .ok (.goto 4, 3) := by decide +kernel
theorem dV_hasEnded_16 : decode cV_hasEnded 16 = .ok (.iconst 0, 1) := by decide +kernel
theorem dV_hasEnded_17 : decode cV_hasEnded 17 = .ok (.ireturn, 1) := by decide +kernel
theorem dV_place_0 : decode cV_place 0 = .ok (.iload_n 1, 1) := by decide +kernel
theorem dV_place_1 : decode cV_place 1 = .ok (.bipush 40, 2) := by decide +kernel
theorem dV_place_3 : decode cV_place 3 = .ok (.irem, 1) := by decide +kernel
theorem dV_place_4 : decode cV_place 4 = .ok (.bipush 8, 2) := by decide +kernel
theorem dV_place_6 : decode cV_place 6 = .ok (.imul, 1) := by decide +kernel
theorem dV_place_7 : decode cV_place 7 = .ok (.iload_n 0, 1) := by decide +kernel
theorem dV_place_8 : decode cV_place 8 = .ok (.iadd, 1) := by decide +kernel
theorem dV_place_9 : decode cV_place 9 = .ok (.ireturn, 1) := by decide +kernel
theorem dJM_max_0 : decode cJM_max 0 = .ok (.iload_n 0, 1) := by decide +kernel
theorem dJM_max_1 : decode cJM_max 1 = .ok (.iload_n 1, 1) := by decide +kernel
theorem dJM_max_2 : decode cJM_max 2 = .ok (.if_icmp .lt 7, 3) := by decide +kernel
theorem dJM_max_5 : decode cJM_max 5 = .ok (.iload_n 0, 1) := by decide +kernel
theorem dJM_max_6 : decode cJM_max 6 = .ok (.goto 4, 3) := by decide +kernel
theorem dJM_max_9 : decode cJM_max 9 = .ok (.iload_n 1, 1) := by decide +kernel
theorem dJM_max_10 : decode cJM_max 10 = .ok (.ireturn, 1) := by decide +kernel
theorem dJM_min_0 : decode cJM_min 0 = .ok (.iload_n 0, 1) := by decide +kernel
theorem dJM_min_1 : decode cJM_min 1 = .ok (.iload_n 1, 1) := by decide +kernel
theorem dJM_min_2 : decode cJM_min 2 = .ok (.if_icmp .gt 7, 3) := by decide +kernel
theorem dJM_min_5 : decode cJM_min 5 = .ok (.iload_n 0, 1) := by decide +kernel
theorem dJM_min_6 : decode cJM_min 6 = .ok (.goto 4, 3) := by decide +kernel
theorem dJM_min_9 : decode cJM_min 9 = .ok (.iload_n 1, 1) := by decide +kernel
theorem dJM_min_10 : decode cJM_min 10 = .ok (.ireturn, 1) := by decide +kernel
theorem dJA_fill_0 : decode cJA_fill 0 = .ok (.iconst 0, 1) := by decide +kernel
theorem dJA_fill_1 : decode cJA_fill 1 = .ok (.istore_n 2, 1) := by decide +kernel
theorem dJA_fill_2 : decode cJA_fill 2 = .ok (.aload_n 0, 1) := by decide +kernel
theorem dJA_fill_3 : decode cJA_fill 3 = .ok (.arraylength, 1) := by decide +kernel
theorem dJA_fill_4 : decode cJA_fill 4 = .ok (.istore_n 3, 1) := by decide +kernel
theorem dJA_fill_5 : decode cJA_fill 5 = .ok (.iload_n 2, 1) := by decide +kernel
theorem dJA_fill_6 : decode cJA_fill 6 = .ok (.iload_n 3, 1) := by decide +kernel
theorem dJA_fill_7 : decode cJA_fill 7 = .ok (.if_icmp .ge 13, 3) := by decide +kernel
theorem dJA_fill_10 : decode cJA_fill 10 = .ok (.aload_n 0, 1) := by decide +kernel
theorem dJA_fill_11 : decode cJA_fill 11 = .ok (.iload_n 2, 1) := by decide +kernel
theorem dJA_fill_12 : decode cJA_fill 12 = .ok (.iload_n 1, 1) := by decide +kernel
theorem dJA_fill_13 : decode cJA_fill 13 = .ok (.iastore, 1) := by decide +kernel
theorem dJA_fill_14 : decode cJA_fill 14 = .ok (.iinc 2 1, 3) := by decide +kernel
theorem dJA_fill_17 : decode cJA_fill 17 = .ok (.goto (-12), 3) := by decide +kernel
theorem dJA_fill_20 : decode cJA_fill 20 = .ok (.return_, 1) := by decide +kernel
end
section
/-! Rows of my own over the kit: starts and ends of contracts, calls, arrays by Nat places. -/
def zz_R (D : va_G) (cl : List vw_C) (tys : List (ClassId × FieldType)) (av : List Value) (w : va_W) : Array Value → State → Prop := va_Pc av (fun U => va_P D cl w U.heap ∧ va_K D cl tys U)
def zz_N (av : List Value) : Array Value → State → Prop := fun v _ => v = av.toArray
def zz_P (D : va_G) (cl : List vw_C) (tys : List (ClassId × FieldType)) (av : List Value) (w : va_W) (sz : Nat) : Array Value → State → Prop := va_Pc av (fun U => U.heap.size = sz ∧ va_P D cl w U.heap ∧ va_K D cl tys U ∧ va_D (fun _ => True) w)
def zz_B (D : va_G) (cl : List vw_C) (tys : List (ClassId × FieldType)) (A : Nat → Prop) (w : va_W) (t : State) : Prop := va_P D cl w t.heap ∧ va_K D cl tys t ∧ va_D A w
theorem zz_R_blind {D : va_G} {cl : List vw_C} {tys : List (ClassId × FieldType)} {av : List Value} {w : va_W} : FrameBlind (zz_R D cl tys av w) := fun a U g mk q => ⟨q.1, q.2.1, va_K.moved (u := U) (U := U.calling g mk a) (Vm.Alike.refl U.vm) q.2.2⟩
theorem zz_P_blind {D : va_G} {cl : List vw_C} {tys : List (ClassId × FieldType)} {av : List Value} {w : va_W} {sz : Nat} : FrameBlind (zz_P D cl tys av w sz) := fun a U g mk q => ⟨q.1, q.2.1, q.2.2.1, va_K.moved (u := U) (U := U.calling g mk a) (Vm.Alike.refl U.vm) q.2.2.2.1, q.2.2.2.2⟩
theorem zz_N_S {s : State} {H : Heap} {As : List Value} : PreS s H (zz_N As) As := ⟨fun _ _ _ _ q => q, fun _ _ _ => rfl⟩
theorem zz_R_S {s : State} {H : Heap} {D : va_G} {cl : List vw_C} {tys : List (ClassId × FieldType)} {As : List Value} {w : va_W} (hK : va_K D cl tys s) (hP : va_P D cl w H) : PreS s H (zz_R D cl tys As w) As :=
  ⟨zz_R_blind, fun U hU hW => ⟨rfl, by rw [hU]; exact hP, va_K.moved hW.alike hK⟩⟩
theorem zz_R_V {s : State} {H : Heap} {D : va_G} {cl : List vw_C} {tys : List (ClassId × FieldType)} {b : Addr} {As : List Value} {w : va_W} (hK : va_K D cl tys s) (hP : va_P D cl w H) (ci q0 : Nat) {C : String} {T : u_T} {N : Nat} {fs : List Value} (hc : cl[ci]? = some (C, T, N)) (he : w[q0]? = some (b, .inr (ci, fs))) : PreV s H C b (zz_R D cl tys (.ref b :: As) w) As :=
  ⟨zz_R_blind, va_recv hK hP hc he, fun U hU hW => ⟨rfl, by rw [hU]; exact hP, va_K.moved hW.alike hK⟩⟩
theorem zz_N_V {s : State} {H : Heap} {D : va_G} {cl : List vw_C} {tys : List (ClassId × FieldType)} {b : Addr} {As : List Value} {w : va_W} (hK : va_K D cl tys s) (hP : va_P D cl w H) (ci q0 : Nat) {C : String} {T : u_T} {N : Nat} {fs : List Value} (hc : cl[ci]? = some (C, T, N)) (he : w[q0]? = some (b, .inr (ci, fs))) : PreV s H C b (zz_N (.ref b :: As)) As :=
  ⟨fun _ _ _ _ q => q, va_recv hK hP hc he, fun _ _ _ => rfl⟩
theorem zz_P_S {s : State} {H : Heap} {D : va_G} {cl : List vw_C} {tys : List (ClassId × FieldType)} {A : Nat → Prop} {As : List Value} {w : va_W} (hK : va_K D cl tys s) (hP : va_P D cl w H) (hD : va_D A w) : PreS s H (zz_P D cl tys As w H.size) As :=
  ⟨zz_P_blind, fun U hU hW => ⟨rfl, by rw [hU], by rw [hU]; exact hP, va_K.moved hW.alike hK, hD.weaken (fun _ _ _ _ => trivial)⟩⟩
theorem zz_P_V {s : State} {H : Heap} {D : va_G} {cl : List vw_C} {tys : List (ClassId × FieldType)} {A : Nat → Prop} {b : Addr} {As : List Value} {w : va_W} (hK : va_K D cl tys s) (hP : va_P D cl w H) (hD : va_D A w) (ci q0 : Nat) {C : String} {T : u_T} {N : Nat} {fs : List Value} (hc : cl[ci]? = some (C, T, N)) (he : w[q0]? = some (b, .inr (ci, fs))) : PreV s H C b (zz_P D cl tys (.ref b :: As) w H.size) As :=
  ⟨zz_P_blind, va_recv hK hP hc he, fun U hU hW => ⟨rfl, by rw [hU], by rw [hU]; exact hP, va_K.moved hW.alike hK, hD.weaken (fun _ _ _ _ => trivial)⟩⟩
section ZZ
variable {p : Program} {l : Launch} {e : Env} {R : Room} {s : State} {m : MethodId} {args : Array Value} {below : List Frame} {meth : Method} {c : Code} {H : Heap} {locs : List Loc} {cells slots : Nat} {Q : State → Prop}
variable {cc : ByteArray} {pc : Nat} {ls : Array Slot} {rest st0 : List Value} {a : Array Value} {D : va_G} {cl : List vw_C} {A : Nat → Prop} {tys : List (ClassId × FieldType)} {ws : va_W} {H0 : Heap} {mc ms : Nat} {free : Addr → Prop}
theorem zz_run {g : JFrame} {Qa : State → Outcome → State → Prop} (h : va_Run p l e R s m args below meth c H locs cells slots mc ms g rest Qa free) : CallRun p l e R s m args below meth c H locs cells slots mc ms g rest Qa free := by
  intro T hT X
  obtain ⟨v, st₀, t, T', L, h0, X', hL, e1, -, hq, st⟩ := h T hT X
  exact ⟨v, st₀, t, T', L, h0, X', hL, e1, hq, st⟩
theorem zz_ci {v : Int32} (hr : CallRun p l e R s m args below meth c H locs cells slots 0 0 (F0 m pc ls st0) rest (vp_Si (fun r => r = v) a) (fun _ => False)) (kk : W p l e R s m args below meth c H locs cells slots Q (F0 m (pc + 3) ls (.int v :: rest))) : W p l e R s m args below meth c H locs cells slots Q (F0 m pc ls st0) :=
  vp_callSi hr (fun r h => by rw [h]; exact kk)
theorem zz_cl {v : Int64} (hr : CallRun p l e R s m args below meth c H locs cells slots 0 0 (F0 m pc ls st0) rest (vp_Sl (fun r => r = v) a) (fun _ => False)) (kk : W p l e R s m args below meth c H locs cells slots Q (F0 m (pc + 3) ls (.long v :: rest))) : W p l e R s m args below meth c H locs cells slots Q (F0 m pc ls st0) :=
  vp_callSl hr (fun r h => by rw [h]; exact kk)
theorem zz_top {x y : Int32} (h : x = y) (k : W p l e R s m args below meth c H locs cells slots Q (F0 m pc ls (.int y :: rest))) : W p l e R s m args below meth c H locs cells slots Q (F0 m pc ls (.int x :: rest)) := by rw [h]; exact k
theorem zz_topl {x y : Int64} (h : x = y) (k : W p l e R s m args below meth c H locs cells slots Q (F0 m pc ls (.long y :: rest))) : W p l e R s m args below meth c H locs cells slots Q (F0 m pc ls (.long x :: rest)) := by rw [h]; exact k
theorem zz_iald {aa : Nat} (hexec : p.tables.exec = Jvm.exec) (hb : c.code = cc) (hK : va_K D cl tys s) (hP : va_P D cl ws H) (q0 t0 : Nat) {cA : ClassId} {n : Nat} {f : Nat → Int32} (ha : ws[q0]? = some (aa, .inl (cA, n, .inl f))) (ht : tys[t0]? = some (cA, .int)) {k : Nat} (hk : k < n) (hn : n < 2 ^ 31) (hdg : decode cc pc = .ok (.iaload, 1))
    (kk : W p l e R s m args below meth c H locs cells slots Q (F0 m (pc + 1) ls (.int (f k) :: rest))) : W p l e R s m args below meth c H locs cells slots Q (F0 m pc ls (.int (nI k) :: .ref aa :: rest)) := by
  refine va_iald hexec hb hK hP q0 t0 ha ht (vp_in_nI hk hn) hdg ?_
  rw [nI_clamp (by omega)]
  exact kk
theorem zz_iast {aa : Nat} (hexec : p.tables.exec = Jvm.exec) (hb : c.code = cc) (hK : va_K D cl tys s) (hP : va_P D cl ws H) (hD : va_D A ws) (hS : va_S A H0 H locs) (q0 t0 : Nat) {cA : ClassId} {n : Nat} {f : Nat → Int32} (ha : ws[q0]? = some (aa, .inl (cA, n, .inl f))) (ht : tys[t0]? = some (cA, .int)) {k : Nat} {x : Int32} (hk : k < n) (hn : n < 2 ^ 31) (hdg : decode cc pc = .ok (.iastore, 1))
    (kk : ∀ (H1 : Heap) (locs1 : List Loc), va_P D cl (ws.set q0 (aa, .inl (cA, n, .inl (upd f k x)))) H1 → va_D A (ws.set q0 (aa, .inl (cA, n, .inl (upd f k x)))) → va_S A H0 H1 locs1 → W p l e R s m args below meth c H1 locs1 cells slots Q (F0 m (pc + 1) ls rest)) : W p l e R s m args below meth c H locs cells slots Q (F0 m pc ls (.int x :: .int (nI k) :: .ref aa :: rest)) := by
  refine va_iast hexec hb hK hP hD hS q0 t0 ha ht (vp_in_nI hk hn) hdg ?_
  rw [nI_clamp (by omega)]
  exact kk
theorem zz_iretR {v : Int32} {post : Int32 → Prop} (hexec : p.tables.exec = Jvm.exec) (hb : c.code = cc) (hr : meth.sig.returnType = some .int) (hlocks : meth.locks = false) (hp : post v) (hdg : decode cc pc = .ok (.ireturn, 1)) : W p l e R s m args below meth c s.heap [] 0 0 (MQ below (vp_Si post) args s 0 0 (fun _ => False)) (F0 m pc ls [.int v]) :=
  W.iret hexec hb hr (fun t ht _ => ⟨v, rfl, hp, ht⟩) (fun _ h => by cases h) hdg hlocks
theorem zz_zretR {v : Int32} {post : Int32 → Prop} (hexec : p.tables.exec = Jvm.exec) (hb : c.code = cc) (hr : meth.sig.returnType = some .boolean) (hlocks : meth.locks = false) (hn : narrow .boolean (.int v) = .int v) (hp : post v) (hdg : decode cc pc = .ok (.ireturn, 1)) : W p l e R s m args below meth c s.heap [] 0 0 (MQ below (vp_Si post) args s 0 0 (fun _ => False)) (F0 m pc ls [.int v]) :=
  W.zret hexec hb hr hn (fun t ht _ => ⟨v, rfl, hp, ht⟩) (fun _ h => by cases h) hdg hlocks
theorem zz_lretR {v : Int64} {post : Int64 → Prop} (hexec : p.tables.exec = Jvm.exec) (hb : c.code = cc) (hr : meth.sig.returnType = some .long) (hlocks : meth.locks = false) (hp : post v) (hdg : decode cc pc = .ok (.lreturn, 1)) : W p l e R s m args below meth c s.heap [] 0 0 (MQ below (vp_Sl post) args s 0 0 (fun _ => False)) (F0 m pc ls [.long v]) :=
  W.lret hexec hb hr (fun t ht _ => ⟨v, rfl, hp, ht⟩) (fun _ h => by cases h) hdg hlocks
theorem zz_iretW {S : Type} {post : Int32 → S → Prop} {w1 : S → va_W} {v : Int32} (u : S) (hexec : p.tables.exec = Jvm.exec) (hb : c.code = cc) (hr : meth.sig.returnType = some .int) (hlocks : meth.locks = false) (hp : post v u) (hP : va_P D cl (w1 u) H) (hK : va_K D cl tys s) (hD : va_D A (w1 u)) (hS : va_S A s.heap H locs) (hdg : decode cc pc = .ok (.ireturn, 1)) : W p l e R s m args below meth c H locs cells slots (MQ below (va_Qi post (fun u => zz_B D cl tys A (w1 u)) A) args s cells slots A) (F0 m pc ls [.int v]) :=
  W.iret hexec hb hr (fun t ht hW => ⟨⟨v, u, rfl, hp, by rw [ht]; exact hP, va_K.moved hW.alike hK, hD⟩, hS.F ht⟩) hS.2.2 hdg hlocks
theorem zz_lretW {S : Type} {post : Int64 → S → Prop} {w1 : S → va_W} {v : Int64} (u : S) (hexec : p.tables.exec = Jvm.exec) (hb : c.code = cc) (hr : meth.sig.returnType = some .long) (hlocks : meth.locks = false) (hp : post v u) (hP : va_P D cl (w1 u) H) (hK : va_K D cl tys s) (hD : va_D A (w1 u)) (hS : va_S A s.heap H locs) (hdg : decode cc pc = .ok (.lreturn, 1)) : W p l e R s m args below meth c H locs cells slots (MQ below (va_Ql post (fun u => zz_B D cl tys A (w1 u)) A) args s cells slots A) (F0 m pc ls [.long v]) :=
  W.lret hexec hb hr (fun t ht hW => ⟨⟨v, u, rfl, hp, by rw [ht]; exact hP, va_K.moved hW.alike hK, hD⟩, hS.F ht⟩) hS.2.2 hdg hlocks
theorem zz_vretW {S : Type} {post : S → Prop} {w1 : S → va_W} (u : S) (hexec : p.tables.exec = Jvm.exec) (hb : c.code = cc) (hr : meth.sig.returnType = none) (hlocks : meth.locks = false) (hp : post u) (hP : va_P D cl (w1 u) H) (hK : va_K D cl tys s) (hD : va_D A (w1 u)) (hS : va_S A s.heap H locs) (hdg : decode cc pc = .ok (.return_, 1)) : W p l e R s m args below meth c H locs cells slots (MQ below (va_Qv post (fun u => zz_B D cl tys A (w1 u)) A) args s cells slots A) (F0 m pc ls []) :=
  W.vret hexec hb hr (fun t ht hW => ⟨⟨u, rfl, hp, by rw [ht]; exact hP, va_K.moved hW.alike hK, hD⟩, hS.F ht⟩) hS.2.2 hdg hlocks
theorem zz_wi {S : Type} {post : Int32 → S → Prop} {w1 : S → va_W} {wc wr : va_W} (hr : va_Run p l e R s m args below meth c H locs cells slots mc ms (F0 m pc ls st0) rest (va_Qi post (fun u => zz_B D cl tys (va_A wc H.size) (w1 u)) (va_A wc H.size) a) (va_A wc H.size)) (hP : va_P D cl ws H) (hD : va_D A ws) (hS : va_S A s.heap H locs) (hA : ∀ q, s.heap.size ≤ q → A q) (isC isR : List Nat) (hC : isC.map (fun i => ws[i]?) = wc.map some) (hR : isR.map (fun i => ws[i]?) = wr.map some) (hn : va_nd isR = true) (hdis : ∀ i ∈ isR, i ∉ isC)
    (kk : ∀ (r : Int32) (u : S) (H1 : Heap) (locs1 : List Loc), post r u → va_P D cl (wr ++ w1 u) H1 → va_D A (wr ++ w1 u) → va_S A s.heap H1 locs1 → W p l e R s m args below meth c H1 locs1 (cells + mc) (slots + ms) Q (F0 m (pc + 3) ls (.int r :: rest))) : W p l e R s m args below meth c H locs cells slots Q (F0 m pc ls st0) := by
  have hF := va_free hD hS hA isC hC
  refine va_calli hr hS (fun q _ h => hF q h) hF (fun r u t H1 locs1 ht _ hp hB _ hk hS1 => ?_)
  obtain ⟨hP1, -, hD1⟩ := hB
  rw [ht] at hP1
  obtain ⟨g1, g2⟩ := va_join hP hD isC isR hC hR hn hdis hk hF hP1 hD1
  exact kk r u H1 locs1 hp g1 g2 hS1
theorem zz_wl {S : Type} {post : Int64 → S → Prop} {w1 : S → va_W} {wc wr : va_W} (hr : va_Run p l e R s m args below meth c H locs cells slots mc ms (F0 m pc ls st0) rest (va_Ql post (fun u => zz_B D cl tys (va_A wc H.size) (w1 u)) (va_A wc H.size) a) (va_A wc H.size)) (hP : va_P D cl ws H) (hD : va_D A ws) (hS : va_S A s.heap H locs) (hA : ∀ q, s.heap.size ≤ q → A q) (isC isR : List Nat) (hC : isC.map (fun i => ws[i]?) = wc.map some) (hR : isR.map (fun i => ws[i]?) = wr.map some) (hn : va_nd isR = true) (hdis : ∀ i ∈ isR, i ∉ isC)
    (kk : ∀ (r : Int64) (u : S) (H1 : Heap) (locs1 : List Loc), post r u → va_P D cl (wr ++ w1 u) H1 → va_D A (wr ++ w1 u) → va_S A s.heap H1 locs1 → W p l e R s m args below meth c H1 locs1 (cells + mc) (slots + ms) Q (F0 m (pc + 3) ls (.long r :: rest))) : W p l e R s m args below meth c H locs cells slots Q (F0 m pc ls st0) := by
  have hF := va_free hD hS hA isC hC
  refine va_calll hr hS (fun q _ h => hF q h) hF (fun r u t H1 locs1 ht _ hp hB _ hk hS1 => ?_)
  obtain ⟨hP1, -, hD1⟩ := hB
  rw [ht] at hP1
  obtain ⟨g1, g2⟩ := va_join hP hD isC isR hC hR hn hdis hk hF hP1 hD1
  exact kk r u H1 locs1 hp g1 g2 hS1
theorem zz_wv {S : Type} {post : S → Prop} {w1 : S → va_W} {wc wr : va_W} (hr : va_Run p l e R s m args below meth c H locs cells slots mc ms (F0 m pc ls st0) rest (va_Qv post (fun u => zz_B D cl tys (va_A wc H.size) (w1 u)) (va_A wc H.size) a) (va_A wc H.size)) (hP : va_P D cl ws H) (hD : va_D A ws) (hS : va_S A s.heap H locs) (hA : ∀ q, s.heap.size ≤ q → A q) (isC isR : List Nat) (hC : isC.map (fun i => ws[i]?) = wc.map some) (hR : isR.map (fun i => ws[i]?) = wr.map some) (hn : va_nd isR = true) (hdis : ∀ i ∈ isR, i ∉ isC)
    (kk : ∀ (u : S) (H1 : Heap) (locs1 : List Loc), post u → va_P D cl (wr ++ w1 u) H1 → va_D A (wr ++ w1 u) → va_S A s.heap H1 locs1 → W p l e R s m args below meth c H1 locs1 (cells + mc) (slots + ms) Q (F0 m (pc + 3) ls rest)) : W p l e R s m args below meth c H locs cells slots Q (F0 m pc ls st0) := by
  have hF := va_free hD hS hA isC hC
  refine va_callv hr hS (fun q _ h => hF q h) hF (fun u t H1 locs1 ht _ hp hB _ hk hS1 => ?_)
  obtain ⟨hP1, -, hD1⟩ := hB
  rw [ht] at hP1
  obtain ⟨g1, g2⟩ := va_join hP hD isC isR hC hR hn hdis hk hF hP1 hD1
  exact kk u H1 locs1 hp g1 g2 hS1
end ZZ
end
